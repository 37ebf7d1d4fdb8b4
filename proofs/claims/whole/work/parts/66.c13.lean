set_option maxHeartbeats 4000000 in
set_option maxRecDepth 100000 in
theorem c_X5_join (l : Launch) (G : mx_G) (aD : Nat → Nat) (SD : Nat → Option Nat) (WI : Nat → Int32) (aK : Nat → Nat) (FK : Nat → Int32) (RK : Nat → Nat → Int32) (aJ : Nat → Nat) (FJ : Nat → Int32) (RJ : Nat → Nat → Int32) (aT : Nat → Nat) (FT : Nat → Int32) (RT : Nat → Nat → Int32) (aN : Nat → Nat) (FN : Nat → Int32) (RN : Nat → Nat → Int32) (SR : Nat → Option Nat) (ra rl m12 : Nat) (so : So) (aS : Nat → Nat → Nat) (FS : Nat → Nat → Int32) (RS : Nat → Nat → Nat → Int32) (x y n u w ph : Int32) (hm12 : m12 = 12) (hd : dOk so aS FS RS SD) (sz : Nat) : mx_EF l yX5_join wsX5_join 3 76 0 0 G [.ref (aD 0), .int x, .int y, .int n, .int u, .int w, .int ph] sz (([(aD 0, .inr (5, [.ref (aD 1), .ref (aD 2), .ref (aK 0), .ref (aJ 0), .ref (aT 0), .ref (aN 0)]))]) ++ (([(aD 1, .inl (G.2.2.2, 12, .inr (.inr (.inr (.inr (SD))))))]) ++ (([(aD 2, .inl (G.2.1, 144, .inl (WI)))]) ++ ((KW G aK FK RK) ++ ((JW G aJ FJ RJ) ++ ((TW G aT FT RT) ++ ((NW G aN FN RN SR ra rl) ++ (pool G so aS FS RS m12)))))))) (fun _ : (Nat → Int32) × (Nat → Nat → Int32) => some (.int (aJoin (FJ 0) (FJ 1) (FJ 2) (jArg so x y n u w) ph))) (fun u9 : (Nat → Int32) × (Nat → Nat → Int32) => cMeet (FJ 0) (jArg so x y n u w) ph FT u9.1 RT u9.2) (fun u9 : (Nat → Int32) × (Nat → Nat → Int32) => ([(aD 0, .inr (5, [.ref (aD 1), .ref (aD 2), .ref (aK 0), .ref (aJ 0), .ref (aT 0), .ref (aN 0)]))]) ++ (([(aD 1, .inl (G.2.2.2, 12, .inr (.inr (.inr (.inr (SD))))))]) ++ (([(aD 2, .inl (G.2.1, 144, .inl (WI)))]) ++ ((KW G aK FK RK) ++ ((JW G aJ FJ RJ) ++ ((TW G aT u9.1 u9.2) ++ ((NW G aN FN RN SR ra rl) ++ (pool G so aS FS RS m12)))))))) := by
  refine Met.ofW (cc := cX5_join) (maxL := 10) (ret := (some .int)) (by decide) rfl ?_
  intro p e s m args below meth c s₁ BB hml hv
  obtain ⟨rfl, ⟨hsz, hP, hD0⟩, hK⟩ := hv
  have hx := BB.exec
  have hb := BB.bytes
  have hr := BB.returns
  have hts := atoms_spec (ws := wsX5_join) BB.pre
  have hown : s.vm.findClass RX5 = some m.cls := findClass_of_methodNamed BB.named
  have hlocks := BB.notSynchronized
  subst hsz
  have hD := hD0.self (sz := s.heap.size)
  have hA : ∀ q : Nat, s.heap.size ≤ q → va_A (([(aD 0, .inr (5, [.ref (aD 1), .ref (aD 2), .ref (aK 0), .ref (aJ 0), .ref (aT 0), .ref (aN 0)]))]) ++ (([(aD 1, .inl (G.2.2.2, 12, .inr (.inr (.inr (.inr (SD))))))]) ++ (([(aD 2, .inl (G.2.1, 144, .inl (WI)))]) ++ ((KW G aK FK RK) ++ ((JW G aJ FJ RJ) ++ ((TW G aT FT RT) ++ ((NW G aN FN RN SR ra rl) ++ (pool G so aS FS RS m12)))))))) s.heap.size q := fun q h => Or.inr h
  have hS : va_S (va_A (([(aD 0, .inr (5, [.ref (aD 1), .ref (aD 2), .ref (aK 0), .ref (aJ 0), .ref (aT 0), .ref (aN 0)]))]) ++ (([(aD 1, .inl (G.2.2.2, 12, .inr (.inr (.inr (.inr (SD))))))]) ++ (([(aD 2, .inl (G.2.1, 144, .inl (WI)))]) ++ ((KW G aK FK RK) ++ ((JW G aJ FJ RJ) ++ ((TW G aT FT RT) ++ ((NW G aN FN RN SR ra rl) ++ (pool G so aS FS RS m12)))))))) s.heap.size) s.heap s.heap [] := va_S.rf
  have fl102 := hts (.fieldLink RX5 102 "MixDesk$Song" "playedBars" "I") (by decide +kernel)
  have fl141 := hts (.fieldLink RX5 141 "MixDesk$Song" "wholeFrom" "[I") (by decide +kernel)
  have fl29 := hts (.fieldLink RX5 29 "MixDesk" "joins" "LMixDesk$Joins;") (by decide +kernel)
  have fl36 := hts (.fieldLink RX5 36 "MixDesk" "meeting" "LMixDesk$Meeting;") (by decide +kernel)
  have inX3 : ∀ w ∈ wsX30, w ∈ wsX5_join := by decide +kernel
  have inX5 : ∀ w ∈ wsX50, w ∈ wsX5_join := by decide +kernel
  have ck148 := hts (.constant RX5 148 (1073741824)) (by decide +kernel)
  have hl := lv_entry ([.ref (aD 0), .int x, .int y, .int n, .int u, .int w, .int ph]) (n := 10) (Nat.le_of_ble_eq_true rfl)
  rw [lg_entry_eq]
  generalize (lg_sl ([.ref (aD 0), .int x, .int y, .int n, .int u, .int w, .int ph]) ++ List.replicate (10 - (lg_sl ([.ref (aD 0), .int x, .int y, .int n, .int u, .int w, .int ph])).length) Slot.unset).toArray = ls at hl ⊢
  have hl : lv_has ls 10 [(0, .ref (aD 0)), (1, .int x), (2, .int y), (3, .int n), (4, .int u), (5, .int w), (6, .int ph)] := hl
  refine lv_aload_n hx hb dX5_join_0 rfl (lv_at hl 0 rfl) ?_
  refine lv_iload_n hx hb dX5_join_1 rfl (lv_at hl 1 rfl) ?_
  refine mx_callRO (v := va_rf (sRf so aS x)) (va_runV (As := [.int x]) (rest := []) ⟨hx, hb, hml, hown, hts⟩ (c_X5_songAt l G aD SD WI aK FK RK aJ FJ RJ aT FT RT aN FN RN SR ra rl m12 so aS FS RS x hm12 hd) (cwV 1 hts gX5_join_X5_songAt rfl rfl rfl (by decide +kernel) ⟨Nat.le_of_ble_eq_true rfl, Nat.le_of_ble_eq_true rfl⟩) (mx_preV hK hP (va_recv hK.1 hP (ci := 5) (q0 := 0) rfl rfl)) rfl rfl hl.1 rfl (lv_room (Nat.le_of_ble_eq_true rfl)) dX5_join_2 ⟨Nat.zero_le _, Nat.zero_le _⟩) ?_
  rcases sat_cases so x with ho | ⟨j, σ, rfl, hj, hsoj, hσ⟩
  · rw [sRf_n ho]
    refine lv_astoreN (lv' := [(7, .null), (0, .ref (aD 0)), (1, .int x), (2, .int y), (3, .int n), (4, .int u), (5, .int w), (6, .int ph)]) hx hb dX5_join_5 hl (by decide) rfl (fun ls hl => ?_)
    refine lv_aload_n hx hb dX5_join_7 rfl (lv_at hl 1 rfl) ?_
    refine lv_iload_n hx hb dX5_join_8 rfl (lv_at hl 3 rfl) ?_
    refine mx_callRO (v := va_rf (sRf so aS y)) (va_runV (As := [.int y]) (rest := []) ⟨hx, hb, hml, hown, hts⟩ (c_X5_songAt l G aD SD WI aK FK RK aJ FJ RJ aT FT RT aN FN RN SR ra rl m12 so aS FS RS y hm12 hd) (cwV 1 hts gX5_join_X5_songAt rfl rfl rfl (by decide +kernel) ⟨Nat.le_of_ble_eq_true rfl, Nat.le_of_ble_eq_true rfl⟩) (mx_preV hK hP (va_recv hK.1 hP (ci := 5) (q0 := 0) rfl rfl)) rfl rfl hl.1 rfl (lv_room (Nat.le_of_ble_eq_true rfl)) dX5_join_9 ⟨Nat.zero_le _, Nat.zero_le _⟩) ?_
    rcases sat_cases so y with ho2 | ⟨k, τ, rfl, hk, hsok, hτ⟩
    · rw [sRf_n ho2]
      refine lv_astoreN (lv' := [(8, .null), (7, .null), (0, .ref (aD 0)), (1, .int x), (2, .int y), (3, .int n), (4, .int u), (5, .int w), (6, .int ph)]) hx hb dX5_join_12 hl (by decide) rfl (fun ls hl => ?_)
      refine lv_aloadN hx hb dX5_join_14 (lv_at hl 1 rfl) ?_
      refine lv_ifnullN (tgt := 71) hx hb dX5_join_16 (by decide) ?_
      have hJ : jArg so x y n u w = none := jArg_1 ho
      refine lv_iconst (v := (-1)) hx hb dX5_join_71 (by decide) ?_
      refine x_top (y := aJoin (FJ 0) (FJ 1) (FJ 2) (jArg so x y n u w) ph) (by rw [hJ]; rfl) ?_
      exact W.iret (v := aJoin (FJ 0) (FJ 1) (FJ 2) (jArg so x y n u w) ph) hx hb hr (fun t9 ht9 hW9 => ⟨⟨(FT, RT), rfl, (by rw [hJ]; exact ⟨rfl, rfl⟩), by rw [ht9]; exact hP, hD⟩, hS.F ht9⟩) hS.2.2 dX5_join_72
    · rw [sRf_s hk hτ]
      obtain ⟨hsd2, hnum2, ok2, hN2, hCC2, hTB2, hQ2⟩ := (hd k hk).2 τ hsok
      obtain ⟨g1, g2, g3, g4, g5, g6, g7, g8, g9, g10⟩ := id hN2
      have hpb := gPB_le ok2
      refine lv_astore (lv' := [(8, .ref ((aS k) 0)), (7, .null), (0, .ref (aD 0)), (1, .int x), (2, .int (nI k)), (3, .int n), (4, .int u), (5, .int w), (6, .int ph)]) hx hb dX5_join_12 hl (by decide) rfl (fun ls hl => ?_)
      refine lv_aloadN hx hb dX5_join_14 (lv_at hl 1 rfl) ?_
      refine lv_ifnullN (tgt := 71) hx hb dX5_join_16 (by decide) ?_
      have hJ : jArg so x (nI k) n u w = none := jArg_1 ho
      refine lv_iconst (v := (-1)) hx hb dX5_join_71 (by decide) ?_
      refine x_top (y := aJoin (FJ 0) (FJ 1) (FJ 2) (jArg so x (nI k) n u w) ph) (by rw [hJ]; rfl) ?_
      exact W.iret (v := aJoin (FJ 0) (FJ 1) (FJ 2) (jArg so x (nI k) n u w) ph) hx hb hr (fun t9 ht9 hW9 => ⟨⟨(FT, RT), rfl, (by rw [hJ]; exact ⟨rfl, rfl⟩), by rw [ht9]; exact hP, hD⟩, hS.F ht9⟩) hS.2.2 dX5_join_72
  · rw [sRf_s hj hσ]
    obtain ⟨hsd, hnum, ok, hN1, hCC1, hTB1, hQ1⟩ := (hd j hj).2 σ hsoj
    obtain ⟨f1, f2, f3, f4, f5, f6, f7, f8, f9, f10⟩ := id hN1
    have hpa := gPB_le ok
    refine lv_astore (lv' := [(7, .ref ((aS j) 0)), (0, .ref (aD 0)), (1, .int (nI j)), (2, .int y), (3, .int n), (4, .int u), (5, .int w), (6, .int ph)]) hx hb dX5_join_5 hl (by decide) rfl (fun ls hl => ?_)
    refine lv_aload_n hx hb dX5_join_7 rfl (lv_at hl 1 rfl) ?_
    refine lv_iload_n hx hb dX5_join_8 rfl (lv_at hl 3 rfl) ?_
    refine mx_callRO (v := va_rf (sRf so aS y)) (va_runV (As := [.int y]) (rest := []) ⟨hx, hb, hml, hown, hts⟩ (c_X5_songAt l G aD SD WI aK FK RK aJ FJ RJ aT FT RT aN FN RN SR ra rl m12 so aS FS RS y hm12 hd) (cwV 1 hts gX5_join_X5_songAt rfl rfl rfl (by decide +kernel) ⟨Nat.le_of_ble_eq_true rfl, Nat.le_of_ble_eq_true rfl⟩) (mx_preV hK hP (va_recv hK.1 hP (ci := 5) (q0 := 0) rfl rfl)) rfl rfl hl.1 rfl (lv_room (Nat.le_of_ble_eq_true rfl)) dX5_join_9 ⟨Nat.zero_le _, Nat.zero_le _⟩) ?_
    rcases sat_cases so y with ho2 | ⟨k, τ, rfl, hk, hsok, hτ⟩
    · rw [sRf_n ho2]
      refine lv_astoreN (lv' := [(8, .null), (7, .ref ((aS j) 0)), (0, .ref (aD 0)), (1, .int (nI j)), (2, .int y), (3, .int n), (4, .int u), (5, .int w), (6, .int ph)]) hx hb dX5_join_12 hl (by decide) rfl (fun ls hl => ?_)
      refine lv_aload hx hb dX5_join_14 (lv_at hl 1 rfl) ?_
      refine lv_ifnull hx hb dX5_join_16 ?_
      refine lv_aloadN hx hb dX5_join_19 (lv_at hl 0 rfl) ?_
      refine lv_ifnullN (tgt := 71) hx hb dX5_join_21 (by decide) ?_
      have hJ : jArg so (nI j) y n u w = none := jArg_2 hσ ho2
      refine lv_iconst (v := (-1)) hx hb dX5_join_71 (by decide) ?_
      refine x_top (y := aJoin (FJ 0) (FJ 1) (FJ 2) (jArg so (nI j) y n u w) ph) (by rw [hJ]; rfl) ?_
      exact W.iret (v := aJoin (FJ 0) (FJ 1) (FJ 2) (jArg so (nI j) y n u w) ph) hx hb hr (fun t9 ht9 hW9 => ⟨⟨(FT, RT), rfl, (by rw [hJ]; exact ⟨rfl, rfl⟩), by rw [ht9]; exact hP, hD⟩, hS.F ht9⟩) hS.2.2 dX5_join_72
    · rw [sRf_s hk hτ]
      obtain ⟨hsd2, hnum2, ok2, hN2, hCC2, hTB2, hQ2⟩ := (hd k hk).2 τ hsok
      obtain ⟨g1, g2, g3, g4, g5, g6, g7, g8, g9, g10⟩ := id hN2
      have hpb := gPB_le ok2
      refine lv_astore (lv' := [(8, .ref ((aS k) 0)), (7, .ref ((aS j) 0)), (0, .ref (aD 0)), (1, .int (nI j)), (2, .int (nI k)), (3, .int n), (4, .int u), (5, .int w), (6, .int ph)]) hx hb dX5_join_12 hl (by decide) rfl (fun ls hl => ?_)
      refine lv_aload hx hb dX5_join_14 (lv_at hl 1 rfl) ?_
      refine lv_ifnull hx hb dX5_join_16 ?_
      refine lv_aload hx hb dX5_join_19 (lv_at hl 0 rfl) ?_
      refine lv_ifnull hx hb dX5_join_21 ?_
      refine lv_iload_n hx hb dX5_join_24 rfl (lv_at hl 3 rfl) ?_
      refine lv_iload_n hx hb dX5_join_25 rfl (lv_at hl 4 rfl) ?_
      refine x_icmp_eq (tgt := 71) hx hb (by omega) (by omega) dX5_join_26 (by decide) (fun c_26 => ?_) (fun c_26 => ?_)
      · have hJ : jArg so (nI j) (nI k) n u w = none := jArg_3 hσ hτ (fun q => q.1 (congrArg nI c_26))
        refine lv_iconst (v := (-1)) hx hb dX5_join_71 (by decide) ?_
        refine x_top (y := aJoin (FJ 0) (FJ 1) (FJ 2) (jArg so (nI j) (nI k) n u w) ph) (by rw [hJ]; rfl) ?_
        exact W.iret (v := aJoin (FJ 0) (FJ 1) (FJ 2) (jArg so (nI j) (nI k) n u w) ph) hx hb hr (fun t9 ht9 hW9 => ⟨⟨(FT, RT), rfl, (by rw [hJ]; exact ⟨rfl, rfl⟩), by rw [ht9]; exact hP, hD⟩, hS.F ht9⟩) hS.2.2 dX5_join_72
      · have hjk : ¬ j = k := c_26
        have hP : va_P G.1 vwCl (([(aD 0, .inr (5, [.ref (aD 1), .ref (aD 2), .ref (aK 0), .ref (aJ 0), .ref (aT 0), .ref (aN 0)]))]) ++ (([(aD 1, .inl (G.2.2.2, 12, .inr (.inr (.inr (.inr (SD))))))]) ++ (([(aD 2, .inl (G.2.1, 144, .inl (WI)))]) ++ ((KW G aK FK RK) ++ ((JW G aJ FJ RJ) ++ ((TW G aT FT RT) ++ ((NW G aN FN RN SR ra rl) ++ ((SW G (aS j) (FS j) (RS j)) ++ ((SW G (aS k) (FS k) (RS k)) ++ (pool G (va_up (va_up so j none) k none) aS FS RS m12)))))))))) _ := mx_Pperm hP (mx_apP (mx_apP (mx_apP (mx_apP (mx_apP (mx_apP (mx_apP (((pool_out hsoj (by omega)).trans (mx_apP (pool_out ((va_up_ne _ _ (fun e9 => hjk e9.symm)).trans hsok) (by omega))))))))))))
        have hD : va_D _ (([(aD 0, .inr (5, [.ref (aD 1), .ref (aD 2), .ref (aK 0), .ref (aJ 0), .ref (aT 0), .ref (aN 0)]))]) ++ (([(aD 1, .inl (G.2.2.2, 12, .inr (.inr (.inr (.inr (SD))))))]) ++ (([(aD 2, .inl (G.2.1, 144, .inl (WI)))]) ++ ((KW G aK FK RK) ++ ((JW G aJ FJ RJ) ++ ((TW G aT FT RT) ++ ((NW G aN FN RN SR ra rl) ++ ((SW G (aS j) (FS j) (RS j)) ++ ((SW G (aS k) (FS k) (RS k)) ++ (pool G (va_up (va_up so j none) k none) aS FS RS m12)))))))))) := mx_Dperm hD (mx_apP (mx_apP (mx_apP (mx_apP (mx_apP (mx_apP (mx_apP (((pool_out hsoj (by omega)).trans (mx_apP (pool_out ((va_up_ne _ _ (fun e9 => hjk e9.symm)).trans hsok) (by omega))))))))))))
        refine lv_iload_n hx hb dX5_join_29 rfl (lv_at hl 5 rfl) ?_
        refine lv_iconst (v := nI 1) hx hb dX5_join_30 (by decide) ?_
        refine lv_bipush (v := nI 8) hx hb dX5_join_31 (by decide) ?_
        refine mx_callRO (v := .int (wi n (nI 1) (nI 8))) (va_runS (As := [.int n, .int (nI 1), .int (nI 8)]) (rest := []) ⟨hx, hb, hml, hown, hts⟩ (c_X5_within l G n (nI 1) (nI 8)) (va_cwS 3 hts gX5_join_X5_within rfl rfl rfl (by decide +kernel) ⟨Nat.le_of_ble_eq_true rfl, Nat.le_of_ble_eq_true rfl⟩) (mx_preS hK trivial) rfl rfl hl.1 rfl (lv_room (Nat.le_of_ble_eq_true rfl)) dX5_join_33 ⟨Nat.zero_le _, Nat.zero_le _⟩) ?_
        refine lv_if_eq (tgt := 71) hx hb dX5_join_36 (by decide) (fun c_36 => ?_) (fun c_36 => ?_)
        · have hP : va_P G.1 vwCl (([(aD 0, .inr (5, [.ref (aD 1), .ref (aD 2), .ref (aK 0), .ref (aJ 0), .ref (aT 0), .ref (aN 0)]))]) ++ (([(aD 1, .inl (G.2.2.2, 12, .inr (.inr (.inr (.inr (SD))))))]) ++ (([(aD 2, .inl (G.2.1, 144, .inl (WI)))]) ++ ((KW G aK FK RK) ++ ((JW G aJ FJ RJ) ++ ((TW G aT FT RT) ++ ((NW G aN FN RN SR ra rl) ++ (pool G so aS FS RS m12)))))))) _ := mx_Pperm hP (mx_apP (mx_apP (mx_apP (mx_apP (mx_apP (mx_apP (mx_apP ((List.Perm.symm ((pool_out hsoj (by omega)).trans (mx_apP (pool_out ((va_up_ne _ _ (fun e9 => hjk e9.symm)).trans hsok) (by omega)))))))))))))
          have hD : va_D _ (([(aD 0, .inr (5, [.ref (aD 1), .ref (aD 2), .ref (aK 0), .ref (aJ 0), .ref (aT 0), .ref (aN 0)]))]) ++ (([(aD 1, .inl (G.2.2.2, 12, .inr (.inr (.inr (.inr (SD))))))]) ++ (([(aD 2, .inl (G.2.1, 144, .inl (WI)))]) ++ ((KW G aK FK RK) ++ ((JW G aJ FJ RJ) ++ ((TW G aT FT RT) ++ ((NW G aN FN RN SR ra rl) ++ (pool G so aS FS RS m12)))))))) := mx_Dperm hD (mx_apP (mx_apP (mx_apP (mx_apP (mx_apP (mx_apP (mx_apP ((List.Perm.symm ((pool_out hsoj (by omega)).trans (mx_apP (pool_out ((va_up_ne _ _ (fun e9 => hjk e9.symm)).trans hsok) (by omega)))))))))))))
          have hJ : jArg so (nI j) (nI k) n u w = none := jArg_3 hσ hτ (fun q => (wi_0 c_36).elim q.2.1.1 q.2.1.2)
          refine lv_iconst (v := (-1)) hx hb dX5_join_71 (by decide) ?_
          refine x_top (y := aJoin (FJ 0) (FJ 1) (FJ 2) (jArg so (nI j) (nI k) n u w) ph) (by rw [hJ]; rfl) ?_
          exact W.iret (v := aJoin (FJ 0) (FJ 1) (FJ 2) (jArg so (nI j) (nI k) n u w) ph) hx hb hr (fun t9 ht9 hW9 => ⟨⟨(FT, RT), rfl, (by rw [hJ]; exact ⟨rfl, rfl⟩), by rw [ht9]; exact hP, hD⟩, hS.F ht9⟩) hS.2.2 dX5_join_72
        · obtain ⟨n0, hn1, hn8, rfl⟩ := nat_1 (by omega) c_36
          refine lv_iload hx hb dX5_join_39 (lv_at hl 6 rfl) ?_
          refine lv_iconst (v := nI 0) hx hb dX5_join_41 (by decide) ?_
          refine lv_aload hx hb dX5_join_42 (lv_at hl 1 rfl) ?_
          refine va_get (D := G.1) (ci := 3) (v := .int ((FS j) 11)) (C := RX3) (T := TX3) (N := 19) hx hb hts inX3 hown hK.1 hP 24 rfl rfl 11 (by decide) fl102 (fun _ h9 => h9) rfl dX5_join_44 ?_
          refine x_top (y := nI (gPB σ)) (hQ1.1) ?_
          refine lv_iconst (v := nI 1) hx hb dX5_join_47 (by decide) ?_
          refine lv_isub hx hb dX5_join_48 ?_
          refine mx_callRO (v := .int (wi u (nI 0) ((nI (gPB σ)) - (nI 1)))) (va_runS (As := [.int u, .int (nI 0), .int ((nI (gPB σ)) - (nI 1))]) (rest := []) ⟨hx, hb, hml, hown, hts⟩ (c_X5_within l G u (nI 0) ((nI (gPB σ)) - (nI 1))) (va_cwS 3 hts gX5_join_X5_within rfl rfl rfl (by decide +kernel) ⟨Nat.le_of_ble_eq_true rfl, Nat.le_of_ble_eq_true rfl⟩) (mx_preS hK trivial) rfl rfl hl.1 rfl (lv_room (Nat.le_of_ble_eq_true rfl)) dX5_join_49 ⟨Nat.zero_le _, Nat.zero_le _⟩) ?_
          refine lv_if_eq (tgt := 71) hx hb dX5_join_52 (by decide) (fun c_52 => ?_) (fun c_52 => ?_)
          · have hP : va_P G.1 vwCl (([(aD 0, .inr (5, [.ref (aD 1), .ref (aD 2), .ref (aK 0), .ref (aJ 0), .ref (aT 0), .ref (aN 0)]))]) ++ (([(aD 1, .inl (G.2.2.2, 12, .inr (.inr (.inr (.inr (SD))))))]) ++ (([(aD 2, .inl (G.2.1, 144, .inl (WI)))]) ++ ((KW G aK FK RK) ++ ((JW G aJ FJ RJ) ++ ((TW G aT FT RT) ++ ((NW G aN FN RN SR ra rl) ++ (pool G so aS FS RS m12)))))))) _ := mx_Pperm hP (mx_apP (mx_apP (mx_apP (mx_apP (mx_apP (mx_apP (mx_apP ((List.Perm.symm ((pool_out hsoj (by omega)).trans (mx_apP (pool_out ((va_up_ne _ _ (fun e9 => hjk e9.symm)).trans hsok) (by omega)))))))))))))
            have hD : va_D _ (([(aD 0, .inr (5, [.ref (aD 1), .ref (aD 2), .ref (aK 0), .ref (aJ 0), .ref (aT 0), .ref (aN 0)]))]) ++ (([(aD 1, .inl (G.2.2.2, 12, .inr (.inr (.inr (.inr (SD))))))]) ++ (([(aD 2, .inl (G.2.1, 144, .inl (WI)))]) ++ ((KW G aK FK RK) ++ ((JW G aJ FJ RJ) ++ ((TW G aT FT RT) ++ ((NW G aN FN RN SR ra rl) ++ (pool G so aS FS RS m12)))))))) := mx_Dperm hD (mx_apP (mx_apP (mx_apP (mx_apP (mx_apP (mx_apP (mx_apP ((List.Perm.symm ((pool_out hsoj (by omega)).trans (mx_apP (pool_out ((va_up_ne _ _ (fun e9 => hjk e9.symm)).trans hsok) (by omega)))))))))))))
            have hJ : jArg so (nI j) (nI k) (nI n0) u w = none := jArg_3 hσ hτ (fun q => wi_no (by omega) c_52 q.2.2.1)
            refine lv_iconst (v := (-1)) hx hb dX5_join_71 (by decide) ?_
            refine x_top (y := aJoin (FJ 0) (FJ 1) (FJ 2) (jArg so (nI j) (nI k) (nI n0) u w) ph) (by rw [hJ]; rfl) ?_
            exact W.iret (v := aJoin (FJ 0) (FJ 1) (FJ 2) (jArg so (nI j) (nI k) (nI n0) u w) ph) hx hb hr (fun t9 ht9 hW9 => ⟨⟨(FT, RT), rfl, (by rw [hJ]; exact ⟨rfl, rfl⟩), by rw [ht9]; exact hP, hD⟩, hS.F ht9⟩) hS.2.2 dX5_join_72
          · obtain ⟨u0, hu, rfl⟩ := wi_idx (by omega) (wi_1 c_52)
            refine lv_iload hx hb dX5_join_55 (lv_at hl 7 rfl) ?_
            refine lv_iconst (v := nI 0) hx hb dX5_join_57 (by decide) ?_
            refine lv_aload hx hb dX5_join_58 (lv_at hl 0 rfl) ?_
            refine va_get (D := G.1) (ci := 3) (v := .int ((FS k) 11)) (C := RX3) (T := TX3) (N := 19) hx hb hts inX3 hown hK.1 hP 32 rfl rfl 11 (by decide) fl102 (fun _ h9 => h9) rfl dX5_join_60 ?_
            refine x_top (y := nI (gPB τ)) (hQ2.1) ?_
            refine lv_iconst (v := nI 1) hx hb dX5_join_63 (by decide) ?_
            refine lv_isub hx hb dX5_join_64 ?_
            refine mx_callRO (v := .int (wi w (nI 0) ((nI (gPB τ)) - (nI 1)))) (va_runS (As := [.int w, .int (nI 0), .int ((nI (gPB τ)) - (nI 1))]) (rest := []) ⟨hx, hb, hml, hown, hts⟩ (c_X5_within l G w (nI 0) ((nI (gPB τ)) - (nI 1))) (va_cwS 3 hts gX5_join_X5_within rfl rfl rfl (by decide +kernel) ⟨Nat.le_of_ble_eq_true rfl, Nat.le_of_ble_eq_true rfl⟩) (mx_preS hK trivial) rfl rfl hl.1 rfl (lv_room (Nat.le_of_ble_eq_true rfl)) dX5_join_65 ⟨Nat.zero_le _, Nat.zero_le _⟩) ?_
            refine lv_if_ne (tgt := 73) hx hb dX5_join_68 (by decide) (fun c_68 => ?_) (fun c_68 => ?_)
            · obtain ⟨w0, hw, rfl⟩ := wi_idx (by omega) (wi_1 c_68)
              have hgw1 := gW_le σ (gPB σ - u0)
              have hgw2 := gW_le τ (gPB τ - w0)
              have hJ : jArg so (nI j) (nI k) (nI n0) (nI u0) (nI w0) = some (σ, τ, n0, u0, w0) := by rw [jArg_4 hσ hτ ⟨fun e => hjk ((nI_eq (by omega) (by omega)).mp e), ⟨fun q => absurd ((nI_ltI (by omega) (by omega)).mp q) (by omega), fun q => absurd ((nI_ltI (by omega) (by omega)).mp q) (by omega)⟩, ⟨nI_pos (by omega), fun q => absurd ((nI_leI (by omega) (by omega)).mp q) (by omega)⟩, nI_pos (by omega), fun q => absurd ((nI_leI (by omega) (by omega)).mp q) (by omega)⟩, nI_clamp (by omega), nI_clamp (by omega), nI_clamp (by omega)]
              refine lv_aload hx hb dX5_join_73 (lv_at hl 1 rfl) ?_
              refine va_get (D := G.1) (ci := 3) (v := .ref ((aS j) 18)) (C := RX3) (T := TX3) (N := 19) hx hb hts inX3 hown hK.1 hP 24 rfl rfl 17 (by decide) fl141 (fun _ h9 => h9) rfl dX5_join_75 ?_
              refine lv_iload hx hb dX5_join_78 (lv_at hl 6 rfl) ?_
              refine x_iald hx hb hK.1 hP 30 0 (n := 65) (f := (RS j) 17) rfl rfl (k := u0) (by omega) (by omega) dX5_join_80 ?_
              refine x_top (y := nI (gW σ (gPB σ - u0))) (hQ1.2.2.2.1 _ (by omega)) ?_
              refine lv_iload_n hx hb dX5_join_81 rfl (lv_at hl 5 rfl) ?_
              refine x_icmp_lt (tgt := 97) hx hb (by omega) (by omega) dX5_join_82 (by decide) (fun c_82 => ?_) (fun c_82 => ?_)
              · have hway : jWay (FJ 0) (σ, τ, n0, u0, w0) ph = 2 := way_2a (whole_0 (σ := σ) (u := u0) (n := n0) ok hn1 c_82)
                have hP : va_P G.1 vwCl (([(aD 0, .inr (5, [.ref (aD 1), .ref (aD 2), .ref (aK 0), .ref (aJ 0), .ref (aT 0), .ref (aN 0)]))]) ++ (([(aD 1, .inl (G.2.2.2, 12, .inr (.inr (.inr (.inr (SD))))))]) ++ (([(aD 2, .inl (G.2.1, 144, .inl (WI)))]) ++ ((KW G aK FK RK) ++ ((JW G aJ FJ RJ) ++ ((TW G aT FT RT) ++ ((NW G aN FN RN SR ra rl) ++ (pool G so aS FS RS m12)))))))) _ := mx_Pperm hP (mx_apP (mx_apP (mx_apP (mx_apP (mx_apP (mx_apP (mx_apP ((List.Perm.symm ((pool_out hsoj (by omega)).trans (mx_apP (pool_out ((va_up_ne _ _ (fun e9 => hjk e9.symm)).trans hsok) (by omega)))))))))))))
                have hD : va_D _ (([(aD 0, .inr (5, [.ref (aD 1), .ref (aD 2), .ref (aK 0), .ref (aJ 0), .ref (aT 0), .ref (aN 0)]))]) ++ (([(aD 1, .inl (G.2.2.2, 12, .inr (.inr (.inr (.inr (SD))))))]) ++ (([(aD 2, .inl (G.2.1, 144, .inl (WI)))]) ++ ((KW G aK FK RK) ++ ((JW G aJ FJ RJ) ++ ((TW G aT FT RT) ++ ((NW G aN FN RN SR ra rl) ++ (pool G so aS FS RS m12)))))))) := mx_Dperm hD (mx_apP (mx_apP (mx_apP (mx_apP (mx_apP (mx_apP (mx_apP ((List.Perm.symm ((pool_out hsoj (by omega)).trans (mx_apP (pool_out ((va_up_ne _ _ (fun e9 => hjk e9.symm)).trans hsok) (by omega)))))))))))))
                refine lv_bipush (v := (-2)) hx hb dX5_join_97 (by decide) ?_
                refine x_top (y := aJoin (FJ 0) (FJ 1) (FJ 2) (jArg so (nI j) (nI k) (nI n0) (nI u0) (nI w0)) ph) (by rw [hJ]; exact (if_pos hway).symm) ?_
                exact W.iret (v := aJoin (FJ 0) (FJ 1) (FJ 2) (jArg so (nI j) (nI k) (nI n0) (nI u0) (nI w0)) ph) hx hb hr (fun t9 ht9 hW9 => ⟨⟨(FT, RT), rfl, (by rw [hJ]; exact cMeet_s (by rw [hway]; decide)), by rw [ht9]; exact hP, hD⟩, hS.F ht9⟩) hS.2.2 dX5_join_99
              · refine lv_aload hx hb dX5_join_85 (lv_at hl 0 rfl) ?_
                refine va_get (D := G.1) (ci := 3) (v := .ref ((aS k) 18)) (C := RX3) (T := TX3) (N := 19) hx hb hts inX3 hown hK.1 hP 32 rfl rfl 17 (by decide) fl141 (fun _ h9 => h9) rfl dX5_join_87 ?_
                refine lv_iload hx hb dX5_join_90 (lv_at hl 7 rfl) ?_
                refine x_iald hx hb hK.1 hP 38 0 (n := 65) (f := (RS k) 17) rfl rfl (k := w0) (by omega) (by omega) dX5_join_92 ?_
                refine x_top (y := nI (gW τ (gPB τ - w0))) (hQ2.2.2.2.1 _ (by omega)) ?_
                refine lv_iload_n hx hb dX5_join_93 rfl (lv_at hl 5 rfl) ?_
                refine x_icmp_ge (tgt := 100) hx hb (by omega) (by omega) dX5_join_94 (by decide) (fun c_94 => ?_) (fun c_94 => ?_)
                · have hw1 := whole_1 (u := u0) ok hn1 (by omega)
                  have hw2 := whole_1 (u := w0) ok2 hn1 (by omega)
                  have hL1 := la_row (u := u0) ok hQ1 hn1 (by omega)
                  have hL2 := la_row (u := w0) ok2 hQ2 hn1 (by omega)
                  refine lv_iload hx hb dX5_join_100 (lv_at hl 8 rfl) ?_
                  refine lv_if_eq (tgt := 128) hx hb dX5_join_102 (by decide) (fun c_102 => ?_) (fun c_102 => ?_)
                  · refine lv_aload_n hx hb dX5_join_128 rfl (lv_at hl 2 rfl) ?_
                    refine va_get (D := G.1) (ci := 5) (v := .ref (aJ 0)) (C := RX5) (T := TX5) (N := 6) hx hb hts inX5 hown hK.1 hP 0 rfl rfl 3 (by decide) fl29 (fun _ h9 => h9) rfl dX5_join_129 ?_
                    refine lv_aload hx hb dX5_join_132 (lv_at hl 1 rfl) ?_
                    refine lv_aload hx hb dX5_join_134 (lv_at hl 0 rfl) ?_
                    refine lv_iload_n hx hb dX5_join_136 rfl (lv_at hl 5 rfl) ?_
                    refine lv_iload hx hb dX5_join_137 (lv_at hl 6 rfl) ?_
                    refine lv_iload hx hb dX5_join_139 (lv_at hl 7 rfl) ?_
                    refine lv_ldc hx hb hown ck148 dX5_join_141 ?_
                    refine x_top (y := nI 1073741824) (by decide) ?_
                    refine mx_callRO (v := .int (bentL (jCost (FJ 0) σ τ n0 u0 w0) (nI 1073741824))) (va_runV (As := [.ref ((aS j) 0), .ref ((aS k) 0), .int (nI n0), .int (nI u0), .int (nI w0), .int (nI 1073741824)]) (rest := []) ⟨hx, hb, hml, hown, hts⟩ (c_X0_bentBy l G aJ FJ RJ (aS j) (FS j) (RS j) (aS k) (FS k) (RS k) σ τ n0 u0 w0 (nI 1073741824) ok ok2 hn1 hn8 (by omega) (by omega) hL1.2 hL2.2) (cwV 6 hts gX5_join_X0_bentBy rfl rfl rfl (by decide +kernel) ⟨Nat.le_of_ble_eq_true rfl, Nat.le_of_ble_eq_true rfl⟩) (mx_preV hK (mx_Psub hP (fun q9 => fun h => (List.mem_append.mp h).elim (fun h => List.mem_append_right _ (List.mem_append_right _ (List.mem_append_right _ (List.mem_append_right _ (List.mem_append_left _ h))))) (fun h => (List.mem_append.mp h).elim (fun h => List.mem_append_right _ (List.mem_append_right _ (List.mem_append_right _ (List.mem_append_right _ (List.mem_append_right _ (List.mem_append_right _ (List.mem_append_right _ (List.mem_append_left _ h)))))))) (fun h => List.mem_append_right _ (List.mem_append_right _ (List.mem_append_right _ (List.mem_append_right _ (List.mem_append_right _ (List.mem_append_right _ (List.mem_append_right _ (List.mem_append_right _ (List.mem_append_left _ h)))))))))))) (va_recv hK.1 hP (ci := 0) (q0 := 8) rfl rfl)) rfl rfl hl.1 rfl (lv_room (Nat.le_of_ble_eq_true rfl)) dX5_join_143 ⟨Nat.zero_le _, Nat.zero_le _⟩) ?_
                    refine lv_istore (lv' := [(9, .int (bentL (jCost (FJ 0) σ τ n0 u0 w0) (nI 1073741824))), (8, .ref ((aS k) 0)), (7, .ref ((aS j) 0)), (0, .ref (aD 0)), (1, .int (nI j)), (2, .int (nI k)), (3, .int (nI n0)), (4, .int (nI u0)), (5, .int (nI w0)), (6, .int ph)]) hx hb dX5_join_146 hl (by decide) rfl (fun ls hl => ?_)
                    refine lv_iload hx hb dX5_join_148 (lv_at hl 0 rfl) ?_
                    refine lv_ldc hx hb hown ck148 dX5_join_150 ?_
                    refine x_top (y := nI 1073741824) (by decide) ?_
                    refine lv_icmp_ne (tgt := 158) hx hb dX5_join_152 (by decide) (fun c_152 => ?_) (fun c_152 => ?_)
                    · obtain ⟨hbf, hco⟩ := bent_fin (jCost_n ok ok2 hn1 hn8) c_152
                      have hway : jWay (FJ 0) (σ, τ, n0, u0, w0) ph = 0 := way_0 hw1 hw2 (fun q => q.1 c_102) hco
                      have hl : lv_has ls 10 [(9, .int (jCost (FJ 0) σ τ n0 u0 w0)), (8, .ref ((aS k) 0)), (7, .ref ((aS j) 0)), (0, .ref (aD 0)), (1, .int (nI j)), (2, .int (nI k)), (3, .int (nI n0)), (4, .int (nI u0)), (5, .int (nI w0)), (6, .int ph)] := Eq.mp (congrArg (fun z9 : Int32 => lv_has ls 10 [(9, .int z9), (8, .ref ((aS k) 0)), (7, .ref ((aS j) 0)), (0, .ref (aD 0)), (1, .int (nI j)), (2, .int (nI k)), (3, .int (nI n0)), (4, .int (nI u0)), (5, .int (nI w0)), (6, .int ph)]) (show bentL (jCost (FJ 0) σ τ n0 u0 w0) (nI 1073741824) = jCost (FJ 0) σ τ n0 u0 w0 from hbf)) hl
                      refine lv_aload_n hx hb dX5_join_158 rfl (lv_at hl 3 rfl) ?_
                      refine va_get (D := G.1) (ci := 5) (v := .ref (aT 0)) (C := RX5) (T := TX5) (N := 6) hx hb hts inX5 hown hK.1 hP 0 rfl rfl 4 (by decide) fl36 (fun _ h9 => h9) rfl dX5_join_159 ?_
                      refine lv_aload hx hb dX5_join_162 (lv_at hl 2 rfl) ?_
                      refine lv_aload hx hb dX5_join_164 (lv_at hl 1 rfl) ?_
                      refine lv_iload_n hx hb dX5_join_166 rfl (lv_at hl 6 rfl) ?_
                      refine lv_iload hx hb dX5_join_167 (lv_at hl 7 rfl) ?_
                      refine lv_iload hx hb dX5_join_169 (lv_at hl 8 rfl) ?_
                      refine mx_callEv (va_runV (As := [.ref ((aS j) 0), .ref ((aS k) 0), .int (nI n0), .int (nI u0), .int (nI w0)]) (rest := []) ⟨hx, hb, hml, hown, hts⟩ (c_X1_keep l G aT FT RT (aS j) (FS j) (RS j) (aS k) (FS k) (RS k) σ τ n0 u0 w0 ok ok2 hn1 hn8 (by omega) (by omega) hL1.2 hL2.2 _) (cwV 5 hts gX5_join_X1_keep rfl rfl rfl (by decide +kernel) ⟨Nat.le_of_ble_eq_true rfl, Nat.le_of_ble_eq_true rfl⟩) (mx_preV hK ⟨rfl, mx_cut hP hD (a := (TW G aT FT RT) ++ ((SW G (aS j) (FS j) (RS j)) ++ (SW G (aS k) (FS k) (RS k)))) (b := ([(aD 0, .inr (5, [.ref (aD 1), .ref (aD 2), .ref (aK 0), .ref (aJ 0), .ref (aT 0), .ref (aN 0)]))]) ++ (([(aD 1, .inl (G.2.2.2, 12, .inr (.inr (.inr (.inr (SD))))))]) ++ (([(aD 2, .inl (G.2.1, 144, .inl (WI)))]) ++ ((KW G aK FK RK) ++ ((JW G aJ FJ RJ) ++ ((NW G aN FN RN SR ra rl) ++ (pool G (va_up (va_up so j none) k none) aS FS RS m12))))))) (mx_perm (fun n9 hn9 => by simp only [hn9, List.append_nil] <;> omega))⟩ (va_recv hK.1 hP (ci := 1) (q0 := 14) rfl rfl)) rfl rfl hl.1 rfl (lv_room (Nat.le_of_ble_eq_true rfl)) dX5_join_171 ⟨Nat.zero_le _, Nat.zero_le _⟩) hP hD hS hA (((mx_perm (fun n9 hn9 => by simp only [hn9, List.append_nil] <;> omega)) : List.Perm _ (((TW G aT FT RT) ++ ((SW G (aS j) (FS j) (RS j)) ++ (SW G (aS k) (FS k) (RS k)))) ++ (([(aD 0, .inr (5, [.ref (aD 1), .ref (aD 2), .ref (aK 0), .ref (aJ 0), .ref (aT 0), .ref (aN 0)]))]) ++ (([(aD 1, .inl (G.2.2.2, 12, .inr (.inr (.inr (.inr (SD))))))]) ++ (([(aD 2, .inl (G.2.1, 144, .inl (WI)))]) ++ ((KW G aK FK RK) ++ ((JW G aJ FJ RJ) ++ ((NW G aN FN RN SR ra rl) ++ (pool G (va_up (va_up so j none) k none) aS FS RS m12)))))))))) (fun uk H locs huk hP hD hS => ?_)
                      have hP : va_P G.1 vwCl (((TW G aT (va_up FT 0 (nI (4 * n0))) (va_up (va_up (va_up RT 1 uk.1) 2 uk.2.1) 3 uk.2.2)) ++ ((SW G (aS j) (FS j) (RS j)) ++ (SW G (aS k) (FS k) (RS k)))) ++ (([(aD 0, .inr (5, [.ref (aD 1), .ref (aD 2), .ref (aK 0), .ref (aJ 0), .ref (aT 0), .ref (aN 0)]))]) ++ (([(aD 1, .inl (G.2.2.2, 12, .inr (.inr (.inr (.inr (SD))))))]) ++ (([(aD 2, .inl (G.2.1, 144, .inl (WI)))]) ++ ((KW G aK FK RK) ++ ((JW G aJ FJ RJ) ++ ((NW G aN FN RN SR ra rl) ++ (pool G (va_up (va_up so j none) k none) aS FS RS m12)))))))) H := hP
                      have hD : va_D _ (((TW G aT (va_up FT 0 (nI (4 * n0))) (va_up (va_up (va_up RT 1 uk.1) 2 uk.2.1) 3 uk.2.2)) ++ ((SW G (aS j) (FS j) (RS j)) ++ (SW G (aS k) (FS k) (RS k)))) ++ (([(aD 0, .inr (5, [.ref (aD 1), .ref (aD 2), .ref (aK 0), .ref (aJ 0), .ref (aT 0), .ref (aN 0)]))]) ++ (([(aD 1, .inl (G.2.2.2, 12, .inr (.inr (.inr (.inr (SD))))))]) ++ (([(aD 2, .inl (G.2.1, 144, .inl (WI)))]) ++ ((KW G aK FK RK) ++ ((JW G aJ FJ RJ) ++ ((NW G aN FN RN SR ra rl) ++ (pool G (va_up (va_up so j none) k none) aS FS RS m12)))))))) := hD
                      have hP : va_P G.1 vwCl (([(aD 0, .inr (5, [.ref (aD 1), .ref (aD 2), .ref (aK 0), .ref (aJ 0), .ref (aT 0), .ref (aN 0)]))]) ++ (([(aD 1, .inl (G.2.2.2, 12, .inr (.inr (.inr (.inr (SD))))))]) ++ (([(aD 2, .inl (G.2.1, 144, .inl (WI)))]) ++ ((KW G aK FK RK) ++ ((JW G aJ FJ RJ) ++ ((TW G aT (va_up FT 0 (nI (4 * n0))) (va_up (va_up (va_up RT 1 uk.1) 2 uk.2.1) 3 uk.2.2)) ++ ((NW G aN FN RN SR ra rl) ++ ((SW G (aS j) (FS j) (RS j)) ++ ((SW G (aS k) (FS k) (RS k)) ++ (pool G (va_up (va_up so j none) k none) aS FS RS m12)))))))))) H := mx_Pperm hP (mx_perm (fun n9 hn9 => by simp only [hn9, List.append_nil] <;> omega))
                      have hD : va_D _ (([(aD 0, .inr (5, [.ref (aD 1), .ref (aD 2), .ref (aK 0), .ref (aJ 0), .ref (aT 0), .ref (aN 0)]))]) ++ (([(aD 1, .inl (G.2.2.2, 12, .inr (.inr (.inr (.inr (SD))))))]) ++ (([(aD 2, .inl (G.2.1, 144, .inl (WI)))]) ++ ((KW G aK FK RK) ++ ((JW G aJ FJ RJ) ++ ((TW G aT (va_up FT 0 (nI (4 * n0))) (va_up (va_up (va_up RT 1 uk.1) 2 uk.2.1) 3 uk.2.2)) ++ ((NW G aN FN RN SR ra rl) ++ ((SW G (aS j) (FS j) (RS j)) ++ ((SW G (aS k) (FS k) (RS k)) ++ (pool G (va_up (va_up so j none) k none) aS FS RS m12)))))))))) := mx_Dperm hD (mx_perm (fun n9 hn9 => by simp only [hn9, List.append_nil] <;> omega))
                      refine lv_iload hx hb dX5_join_174 (lv_at hl 0 rfl) ?_
                      refine lv_aload_n hx hb dX5_join_176 rfl (lv_at hl 3 rfl) ?_
                      refine va_get (D := G.1) (ci := 5) (v := .ref (aJ 0)) (C := RX5) (T := TX5) (N := 6) hx hb hts inX5 hown hK.1 hP 0 rfl rfl 3 (by decide) fl29 (fun _ h9 => h9) rfl dX5_join_177 ?_
                      refine lv_aload hx hb dX5_join_180 (lv_at hl 2 rfl) ?_
                      refine lv_aload hx hb dX5_join_182 (lv_at hl 1 rfl) ?_
                      refine mx_callRO (v := .int (malways (FJ 1) (FJ 2) σ τ)) (va_runV (As := [.ref ((aS j) 0), .ref ((aS k) 0)]) (rest := [.int (jCost (FJ 0) σ τ n0 u0 w0)]) ⟨hx, hb, hml, hown, hts⟩ (c_X0_apart l G aJ FJ RJ (aS j) (FS j) (RS j) (aS k) (FS k) (RS k) σ τ f5 f6 g5 g6) (cwV 2 hts gX5_join_X0_apart rfl rfl rfl (by decide +kernel) ⟨Nat.le_of_ble_eq_true rfl, Nat.le_of_ble_eq_true rfl⟩) (mx_preV hK (mx_Psub hP (fun q9 => fun h => (List.mem_append.mp h).elim (fun h => List.mem_append_right _ (List.mem_append_right _ (List.mem_append_right _ (List.mem_append_right _ (List.mem_append_left _ h))))) (fun h => (List.mem_append.mp h).elim (fun h => List.mem_append_right _ (List.mem_append_right _ (List.mem_append_right _ (List.mem_append_right _ (List.mem_append_right _ (List.mem_append_right _ (List.mem_append_right _ (List.mem_append_left _ h)))))))) (fun h => List.mem_append_right _ (List.mem_append_right _ (List.mem_append_right _ (List.mem_append_right _ (List.mem_append_right _ (List.mem_append_right _ (List.mem_append_right _ (List.mem_append_right _ (List.mem_append_left _ h)))))))))))) (va_recv hK.1 hP (ci := 0) (q0 := 8) rfl rfl)) rfl rfl hl.1 rfl (lv_room (Nat.le_of_ble_eq_true rfl)) dX5_join_184 ⟨Nat.zero_le _, Nat.zero_le _⟩) ?_
                      refine lv_iadd hx hb dX5_join_187 ?_
                      have hP : va_P G.1 vwCl (([(aD 0, .inr (5, [.ref (aD 1), .ref (aD 2), .ref (aK 0), .ref (aJ 0), .ref (aT 0), .ref (aN 0)]))]) ++ (([(aD 1, .inl (G.2.2.2, 12, .inr (.inr (.inr (.inr (SD))))))]) ++ (([(aD 2, .inl (G.2.1, 144, .inl (WI)))]) ++ ((KW G aK FK RK) ++ ((JW G aJ FJ RJ) ++ ((TW G aT (va_up FT 0 (nI (4 * n0))) (va_up (va_up (va_up RT 1 uk.1) 2 uk.2.1) 3 uk.2.2)) ++ ((NW G aN FN RN SR ra rl) ++ (pool G so aS FS RS m12)))))))) _ := mx_Pperm hP (mx_apP (mx_apP (mx_apP (mx_apP (mx_apP (mx_apP (mx_apP ((List.Perm.symm ((pool_out hsoj (by omega)).trans (mx_apP (pool_out ((va_up_ne _ _ (fun e9 => hjk e9.symm)).trans hsok) (by omega)))))))))))))
                      have hD : va_D _ (([(aD 0, .inr (5, [.ref (aD 1), .ref (aD 2), .ref (aK 0), .ref (aJ 0), .ref (aT 0), .ref (aN 0)]))]) ++ (([(aD 1, .inl (G.2.2.2, 12, .inr (.inr (.inr (.inr (SD))))))]) ++ (([(aD 2, .inl (G.2.1, 144, .inl (WI)))]) ++ ((KW G aK FK RK) ++ ((JW G aJ FJ RJ) ++ ((TW G aT (va_up FT 0 (nI (4 * n0))) (va_up (va_up (va_up RT 1 uk.1) 2 uk.2.1) 3 uk.2.2)) ++ ((NW G aN FN RN SR ra rl) ++ (pool G so aS FS RS m12)))))))) := mx_Dperm hD (mx_apP (mx_apP (mx_apP (mx_apP (mx_apP (mx_apP (mx_apP ((List.Perm.symm ((pool_out hsoj (by omega)).trans (mx_apP (pool_out ((va_up_ne _ _ (fun e9 => hjk e9.symm)).trans hsok) (by omega)))))))))))))
                      refine x_top (y := aJoin (FJ 0) (FJ 1) (FJ 2) (jArg so (nI j) (nI k) (nI n0) (nI u0) (nI w0)) ph) (by rw [hJ]; exact ((if_neg (by rw [hway]; decide)).trans ((if_neg (by rw [hway]; decide)).trans (if_neg (by rw [hway]; decide)))).symm) ?_
                      exact W.iret (v := aJoin (FJ 0) (FJ 1) (FJ 2) (jArg so (nI j) (nI k) (nI n0) (nI u0) (nI w0)) ph) hx hb hr (fun t9 ht9 hW9 => ⟨⟨(va_up FT 0 (nI (4 * n0)), va_up (va_up (va_up RT 1 uk.1) 2 uk.2.1) 3 uk.2.2), rfl, (by rw [hJ]; exact cMeet_y hway ⟨rfl, huk.1, huk.2⟩), by rw [ht9]; exact hP, hD⟩, hS.F ht9⟩) hS.2.2 dX5_join_188
                    · have hway : jWay (FJ 0) (σ, τ, n0, u0, w0) ph = 4 := way_4 hw1 hw2 (fun q => q.1 c_102) (bent_far (jCost_n ok ok2 hn1 hn8) c_152)
                      have hP : va_P G.1 vwCl (([(aD 0, .inr (5, [.ref (aD 1), .ref (aD 2), .ref (aK 0), .ref (aJ 0), .ref (aT 0), .ref (aN 0)]))]) ++ (([(aD 1, .inl (G.2.2.2, 12, .inr (.inr (.inr (.inr (SD))))))]) ++ (([(aD 2, .inl (G.2.1, 144, .inl (WI)))]) ++ ((KW G aK FK RK) ++ ((JW G aJ FJ RJ) ++ ((TW G aT FT RT) ++ ((NW G aN FN RN SR ra rl) ++ (pool G so aS FS RS m12)))))))) _ := mx_Pperm hP (mx_apP (mx_apP (mx_apP (mx_apP (mx_apP (mx_apP (mx_apP ((List.Perm.symm ((pool_out hsoj (by omega)).trans (mx_apP (pool_out ((va_up_ne _ _ (fun e9 => hjk e9.symm)).trans hsok) (by omega)))))))))))))
                      have hD : va_D _ (([(aD 0, .inr (5, [.ref (aD 1), .ref (aD 2), .ref (aK 0), .ref (aJ 0), .ref (aT 0), .ref (aN 0)]))]) ++ (([(aD 1, .inl (G.2.2.2, 12, .inr (.inr (.inr (.inr (SD))))))]) ++ (([(aD 2, .inl (G.2.1, 144, .inl (WI)))]) ++ ((KW G aK FK RK) ++ ((JW G aJ FJ RJ) ++ ((TW G aT FT RT) ++ ((NW G aN FN RN SR ra rl) ++ (pool G so aS FS RS m12)))))))) := mx_Dperm hD (mx_apP (mx_apP (mx_apP (mx_apP (mx_apP (mx_apP (mx_apP ((List.Perm.symm ((pool_out hsoj (by omega)).trans (mx_apP (pool_out ((va_up_ne _ _ (fun e9 => hjk e9.symm)).trans hsok) (by omega)))))))))))))
                      refine lv_bipush (v := (-4)) hx hb dX5_join_155 (by decide) ?_
                      refine x_top (y := aJoin (FJ 0) (FJ 1) (FJ 2) (jArg so (nI j) (nI k) (nI n0) (nI u0) (nI w0)) ph) (by rw [hJ]; exact ((if_neg (by rw [hway]; decide)).trans ((if_neg (by rw [hway]; decide)).trans (if_pos hway))).symm) ?_
                      exact W.iret (v := aJoin (FJ 0) (FJ 1) (FJ 2) (jArg so (nI j) (nI k) (nI n0) (nI u0) (nI w0)) ph) hx hb hr (fun t9 ht9 hW9 => ⟨⟨(FT, RT), rfl, (by rw [hJ]; exact cMeet_s (by rw [hway]; decide)), by rw [ht9]; exact hP, hD⟩, hS.F ht9⟩) hS.2.2 dX5_join_157
                  · refine lv_aload hx hb dX5_join_105 (lv_at hl 1 rfl) ?_
                    refine lv_iload hx hb dX5_join_107 (lv_at hl 6 rfl) ?_
                    refine mx_callRO (v := .int (gPhr σ u0)) (va_runV (As := [.int (nI u0)]) (rest := []) ⟨hx, hb, hml, hown, hts⟩ (c_X3_beginsPhrase l G (aS j) (FS j) (RS j) σ u0 hN1 ok hQ1 (by omega)) (cwV 1 hts gX5_join_X3_beginsPhrase rfl rfl rfl (by decide +kernel) ⟨Nat.le_of_ble_eq_true rfl, Nat.le_of_ble_eq_true rfl⟩) (mx_preV hK (mx_Psub hP (fun q9 => fun h => List.mem_append_right _ (List.mem_append_right _ (List.mem_append_right _ (List.mem_append_right _ (List.mem_append_right _ (List.mem_append_right _ (List.mem_append_right _ (List.mem_append_left _ h))))))))) (va_recv hK.1 hP (ci := 3) (q0 := 24) rfl rfl)) rfl rfl hl.1 rfl (lv_room (Nat.le_of_ble_eq_true rfl)) dX5_join_109 ⟨Nat.zero_le _, Nat.zero_le _⟩) ?_
                    refine lv_if_eq (tgt := 125) hx hb dX5_join_112 (by decide) (fun c_112 => ?_) (fun c_112 => ?_)
                    · have hway : jWay (FJ 0) (σ, τ, n0, u0, w0) ph = 3 := way_3 hw1 hw2 ⟨c_102, Or.inl c_112⟩
                      have hP : va_P G.1 vwCl (([(aD 0, .inr (5, [.ref (aD 1), .ref (aD 2), .ref (aK 0), .ref (aJ 0), .ref (aT 0), .ref (aN 0)]))]) ++ (([(aD 1, .inl (G.2.2.2, 12, .inr (.inr (.inr (.inr (SD))))))]) ++ (([(aD 2, .inl (G.2.1, 144, .inl (WI)))]) ++ ((KW G aK FK RK) ++ ((JW G aJ FJ RJ) ++ ((TW G aT FT RT) ++ ((NW G aN FN RN SR ra rl) ++ (pool G so aS FS RS m12)))))))) _ := mx_Pperm hP (mx_apP (mx_apP (mx_apP (mx_apP (mx_apP (mx_apP (mx_apP ((List.Perm.symm ((pool_out hsoj (by omega)).trans (mx_apP (pool_out ((va_up_ne _ _ (fun e9 => hjk e9.symm)).trans hsok) (by omega)))))))))))))
                      have hD : va_D _ (([(aD 0, .inr (5, [.ref (aD 1), .ref (aD 2), .ref (aK 0), .ref (aJ 0), .ref (aT 0), .ref (aN 0)]))]) ++ (([(aD 1, .inl (G.2.2.2, 12, .inr (.inr (.inr (.inr (SD))))))]) ++ (([(aD 2, .inl (G.2.1, 144, .inl (WI)))]) ++ ((KW G aK FK RK) ++ ((JW G aJ FJ RJ) ++ ((TW G aT FT RT) ++ ((NW G aN FN RN SR ra rl) ++ (pool G so aS FS RS m12)))))))) := mx_Dperm hD (mx_apP (mx_apP (mx_apP (mx_apP (mx_apP (mx_apP (mx_apP ((List.Perm.symm ((pool_out hsoj (by omega)).trans (mx_apP (pool_out ((va_up_ne _ _ (fun e9 => hjk e9.symm)).trans hsok) (by omega)))))))))))))
                      refine lv_bipush (v := (-3)) hx hb dX5_join_125 (by decide) ?_
                      refine x_top (y := aJoin (FJ 0) (FJ 1) (FJ 2) (jArg so (nI j) (nI k) (nI n0) (nI u0) (nI w0)) ph) (by rw [hJ]; exact ((if_neg (by rw [hway]; decide)).trans (if_pos hway)).symm) ?_
                      exact W.iret (v := aJoin (FJ 0) (FJ 1) (FJ 2) (jArg so (nI j) (nI k) (nI n0) (nI u0) (nI w0)) ph) hx hb hr (fun t9 ht9 hW9 => ⟨⟨(FT, RT), rfl, (by rw [hJ]; exact cMeet_s (by rw [hway]; decide)), by rw [ht9]; exact hP, hD⟩, hS.F ht9⟩) hS.2.2 dX5_join_127
                    · refine lv_aload hx hb dX5_join_115 (lv_at hl 0 rfl) ?_
                      refine lv_iload hx hb dX5_join_117 (lv_at hl 7 rfl) ?_
                      refine mx_callRO (v := .int (gPhr τ w0)) (va_runV (As := [.int (nI w0)]) (rest := []) ⟨hx, hb, hml, hown, hts⟩ (c_X3_beginsPhrase l G (aS k) (FS k) (RS k) τ w0 hN2 ok2 hQ2 (by omega)) (cwV 1 hts gX5_join_X3_beginsPhrase rfl rfl rfl (by decide +kernel) ⟨Nat.le_of_ble_eq_true rfl, Nat.le_of_ble_eq_true rfl⟩) (mx_preV hK (mx_Psub hP (fun q9 => fun h => List.mem_append_right _ (List.mem_append_right _ (List.mem_append_right _ (List.mem_append_right _ (List.mem_append_right _ (List.mem_append_right _ (List.mem_append_right _ (List.mem_append_right _ (List.mem_append_left _ h)))))))))) (va_recv hK.1 hP (ci := 3) (q0 := 32) rfl rfl)) rfl rfl hl.1 rfl (lv_room (Nat.le_of_ble_eq_true rfl)) dX5_join_119 ⟨Nat.zero_le _, Nat.zero_le _⟩) ?_
                      refine lv_if_ne (tgt := 128) hx hb dX5_join_122 (by decide) (fun c_122 => ?_) (fun c_122 => ?_)
                      · refine lv_aload_n hx hb dX5_join_128 rfl (lv_at hl 2 rfl) ?_
                        refine va_get (D := G.1) (ci := 5) (v := .ref (aJ 0)) (C := RX5) (T := TX5) (N := 6) hx hb hts inX5 hown hK.1 hP 0 rfl rfl 3 (by decide) fl29 (fun _ h9 => h9) rfl dX5_join_129 ?_
                        refine lv_aload hx hb dX5_join_132 (lv_at hl 1 rfl) ?_
                        refine lv_aload hx hb dX5_join_134 (lv_at hl 0 rfl) ?_
                        refine lv_iload_n hx hb dX5_join_136 rfl (lv_at hl 5 rfl) ?_
                        refine lv_iload hx hb dX5_join_137 (lv_at hl 6 rfl) ?_
                        refine lv_iload hx hb dX5_join_139 (lv_at hl 7 rfl) ?_
                        refine lv_ldc hx hb hown ck148 dX5_join_141 ?_
                        refine x_top (y := nI 1073741824) (by decide) ?_
                        refine mx_callRO (v := .int (bentL (jCost (FJ 0) σ τ n0 u0 w0) (nI 1073741824))) (va_runV (As := [.ref ((aS j) 0), .ref ((aS k) 0), .int (nI n0), .int (nI u0), .int (nI w0), .int (nI 1073741824)]) (rest := []) ⟨hx, hb, hml, hown, hts⟩ (c_X0_bentBy l G aJ FJ RJ (aS j) (FS j) (RS j) (aS k) (FS k) (RS k) σ τ n0 u0 w0 (nI 1073741824) ok ok2 hn1 hn8 (by omega) (by omega) hL1.2 hL2.2) (cwV 6 hts gX5_join_X0_bentBy rfl rfl rfl (by decide +kernel) ⟨Nat.le_of_ble_eq_true rfl, Nat.le_of_ble_eq_true rfl⟩) (mx_preV hK (mx_Psub hP (fun q9 => fun h => (List.mem_append.mp h).elim (fun h => List.mem_append_right _ (List.mem_append_right _ (List.mem_append_right _ (List.mem_append_right _ (List.mem_append_left _ h))))) (fun h => (List.mem_append.mp h).elim (fun h => List.mem_append_right _ (List.mem_append_right _ (List.mem_append_right _ (List.mem_append_right _ (List.mem_append_right _ (List.mem_append_right _ (List.mem_append_right _ (List.mem_append_left _ h)))))))) (fun h => List.mem_append_right _ (List.mem_append_right _ (List.mem_append_right _ (List.mem_append_right _ (List.mem_append_right _ (List.mem_append_right _ (List.mem_append_right _ (List.mem_append_right _ (List.mem_append_left _ h)))))))))))) (va_recv hK.1 hP (ci := 0) (q0 := 8) rfl rfl)) rfl rfl hl.1 rfl (lv_room (Nat.le_of_ble_eq_true rfl)) dX5_join_143 ⟨Nat.zero_le _, Nat.zero_le _⟩) ?_
                        refine lv_istore (lv' := [(9, .int (bentL (jCost (FJ 0) σ τ n0 u0 w0) (nI 1073741824))), (8, .ref ((aS k) 0)), (7, .ref ((aS j) 0)), (0, .ref (aD 0)), (1, .int (nI j)), (2, .int (nI k)), (3, .int (nI n0)), (4, .int (nI u0)), (5, .int (nI w0)), (6, .int ph)]) hx hb dX5_join_146 hl (by decide) rfl (fun ls hl => ?_)
                        refine lv_iload hx hb dX5_join_148 (lv_at hl 0 rfl) ?_
                        refine lv_ldc hx hb hown ck148 dX5_join_150 ?_
                        refine x_top (y := nI 1073741824) (by decide) ?_
                        refine lv_icmp_ne (tgt := 158) hx hb dX5_join_152 (by decide) (fun c_152 => ?_) (fun c_152 => ?_)
                        · obtain ⟨hbf, hco⟩ := bent_fin (jCost_n ok ok2 hn1 hn8) c_152
                          have hway : jWay (FJ 0) (σ, τ, n0, u0, w0) ph = 0 := way_0 hw1 hw2 (fun q => q.2.elim c_112 c_122) hco
                          have hl : lv_has ls 10 [(9, .int (jCost (FJ 0) σ τ n0 u0 w0)), (8, .ref ((aS k) 0)), (7, .ref ((aS j) 0)), (0, .ref (aD 0)), (1, .int (nI j)), (2, .int (nI k)), (3, .int (nI n0)), (4, .int (nI u0)), (5, .int (nI w0)), (6, .int ph)] := Eq.mp (congrArg (fun z9 : Int32 => lv_has ls 10 [(9, .int z9), (8, .ref ((aS k) 0)), (7, .ref ((aS j) 0)), (0, .ref (aD 0)), (1, .int (nI j)), (2, .int (nI k)), (3, .int (nI n0)), (4, .int (nI u0)), (5, .int (nI w0)), (6, .int ph)]) (show bentL (jCost (FJ 0) σ τ n0 u0 w0) (nI 1073741824) = jCost (FJ 0) σ τ n0 u0 w0 from hbf)) hl
                          refine lv_aload_n hx hb dX5_join_158 rfl (lv_at hl 3 rfl) ?_
                          refine va_get (D := G.1) (ci := 5) (v := .ref (aT 0)) (C := RX5) (T := TX5) (N := 6) hx hb hts inX5 hown hK.1 hP 0 rfl rfl 4 (by decide) fl36 (fun _ h9 => h9) rfl dX5_join_159 ?_
                          refine lv_aload hx hb dX5_join_162 (lv_at hl 2 rfl) ?_
                          refine lv_aload hx hb dX5_join_164 (lv_at hl 1 rfl) ?_
                          refine lv_iload_n hx hb dX5_join_166 rfl (lv_at hl 6 rfl) ?_
                          refine lv_iload hx hb dX5_join_167 (lv_at hl 7 rfl) ?_
                          refine lv_iload hx hb dX5_join_169 (lv_at hl 8 rfl) ?_
                          refine mx_callEv (va_runV (As := [.ref ((aS j) 0), .ref ((aS k) 0), .int (nI n0), .int (nI u0), .int (nI w0)]) (rest := []) ⟨hx, hb, hml, hown, hts⟩ (c_X1_keep l G aT FT RT (aS j) (FS j) (RS j) (aS k) (FS k) (RS k) σ τ n0 u0 w0 ok ok2 hn1 hn8 (by omega) (by omega) hL1.2 hL2.2 _) (cwV 5 hts gX5_join_X1_keep rfl rfl rfl (by decide +kernel) ⟨Nat.le_of_ble_eq_true rfl, Nat.le_of_ble_eq_true rfl⟩) (mx_preV hK ⟨rfl, mx_cut hP hD (a := (TW G aT FT RT) ++ ((SW G (aS j) (FS j) (RS j)) ++ (SW G (aS k) (FS k) (RS k)))) (b := ([(aD 0, .inr (5, [.ref (aD 1), .ref (aD 2), .ref (aK 0), .ref (aJ 0), .ref (aT 0), .ref (aN 0)]))]) ++ (([(aD 1, .inl (G.2.2.2, 12, .inr (.inr (.inr (.inr (SD))))))]) ++ (([(aD 2, .inl (G.2.1, 144, .inl (WI)))]) ++ ((KW G aK FK RK) ++ ((JW G aJ FJ RJ) ++ ((NW G aN FN RN SR ra rl) ++ (pool G (va_up (va_up so j none) k none) aS FS RS m12))))))) (mx_perm (fun n9 hn9 => by simp only [hn9, List.append_nil] <;> omega))⟩ (va_recv hK.1 hP (ci := 1) (q0 := 14) rfl rfl)) rfl rfl hl.1 rfl (lv_room (Nat.le_of_ble_eq_true rfl)) dX5_join_171 ⟨Nat.zero_le _, Nat.zero_le _⟩) hP hD hS hA (((mx_perm (fun n9 hn9 => by simp only [hn9, List.append_nil] <;> omega)) : List.Perm _ (((TW G aT FT RT) ++ ((SW G (aS j) (FS j) (RS j)) ++ (SW G (aS k) (FS k) (RS k)))) ++ (([(aD 0, .inr (5, [.ref (aD 1), .ref (aD 2), .ref (aK 0), .ref (aJ 0), .ref (aT 0), .ref (aN 0)]))]) ++ (([(aD 1, .inl (G.2.2.2, 12, .inr (.inr (.inr (.inr (SD))))))]) ++ (([(aD 2, .inl (G.2.1, 144, .inl (WI)))]) ++ ((KW G aK FK RK) ++ ((JW G aJ FJ RJ) ++ ((NW G aN FN RN SR ra rl) ++ (pool G (va_up (va_up so j none) k none) aS FS RS m12)))))))))) (fun uk H locs huk hP hD hS => ?_)
                          have hP : va_P G.1 vwCl (((TW G aT (va_up FT 0 (nI (4 * n0))) (va_up (va_up (va_up RT 1 uk.1) 2 uk.2.1) 3 uk.2.2)) ++ ((SW G (aS j) (FS j) (RS j)) ++ (SW G (aS k) (FS k) (RS k)))) ++ (([(aD 0, .inr (5, [.ref (aD 1), .ref (aD 2), .ref (aK 0), .ref (aJ 0), .ref (aT 0), .ref (aN 0)]))]) ++ (([(aD 1, .inl (G.2.2.2, 12, .inr (.inr (.inr (.inr (SD))))))]) ++ (([(aD 2, .inl (G.2.1, 144, .inl (WI)))]) ++ ((KW G aK FK RK) ++ ((JW G aJ FJ RJ) ++ ((NW G aN FN RN SR ra rl) ++ (pool G (va_up (va_up so j none) k none) aS FS RS m12)))))))) H := hP
                          have hD : va_D _ (((TW G aT (va_up FT 0 (nI (4 * n0))) (va_up (va_up (va_up RT 1 uk.1) 2 uk.2.1) 3 uk.2.2)) ++ ((SW G (aS j) (FS j) (RS j)) ++ (SW G (aS k) (FS k) (RS k)))) ++ (([(aD 0, .inr (5, [.ref (aD 1), .ref (aD 2), .ref (aK 0), .ref (aJ 0), .ref (aT 0), .ref (aN 0)]))]) ++ (([(aD 1, .inl (G.2.2.2, 12, .inr (.inr (.inr (.inr (SD))))))]) ++ (([(aD 2, .inl (G.2.1, 144, .inl (WI)))]) ++ ((KW G aK FK RK) ++ ((JW G aJ FJ RJ) ++ ((NW G aN FN RN SR ra rl) ++ (pool G (va_up (va_up so j none) k none) aS FS RS m12)))))))) := hD
                          have hP : va_P G.1 vwCl (([(aD 0, .inr (5, [.ref (aD 1), .ref (aD 2), .ref (aK 0), .ref (aJ 0), .ref (aT 0), .ref (aN 0)]))]) ++ (([(aD 1, .inl (G.2.2.2, 12, .inr (.inr (.inr (.inr (SD))))))]) ++ (([(aD 2, .inl (G.2.1, 144, .inl (WI)))]) ++ ((KW G aK FK RK) ++ ((JW G aJ FJ RJ) ++ ((TW G aT (va_up FT 0 (nI (4 * n0))) (va_up (va_up (va_up RT 1 uk.1) 2 uk.2.1) 3 uk.2.2)) ++ ((NW G aN FN RN SR ra rl) ++ ((SW G (aS j) (FS j) (RS j)) ++ ((SW G (aS k) (FS k) (RS k)) ++ (pool G (va_up (va_up so j none) k none) aS FS RS m12)))))))))) H := mx_Pperm hP (mx_perm (fun n9 hn9 => by simp only [hn9, List.append_nil] <;> omega))
                          have hD : va_D _ (([(aD 0, .inr (5, [.ref (aD 1), .ref (aD 2), .ref (aK 0), .ref (aJ 0), .ref (aT 0), .ref (aN 0)]))]) ++ (([(aD 1, .inl (G.2.2.2, 12, .inr (.inr (.inr (.inr (SD))))))]) ++ (([(aD 2, .inl (G.2.1, 144, .inl (WI)))]) ++ ((KW G aK FK RK) ++ ((JW G aJ FJ RJ) ++ ((TW G aT (va_up FT 0 (nI (4 * n0))) (va_up (va_up (va_up RT 1 uk.1) 2 uk.2.1) 3 uk.2.2)) ++ ((NW G aN FN RN SR ra rl) ++ ((SW G (aS j) (FS j) (RS j)) ++ ((SW G (aS k) (FS k) (RS k)) ++ (pool G (va_up (va_up so j none) k none) aS FS RS m12)))))))))) := mx_Dperm hD (mx_perm (fun n9 hn9 => by simp only [hn9, List.append_nil] <;> omega))
                          refine lv_iload hx hb dX5_join_174 (lv_at hl 0 rfl) ?_
                          refine lv_aload_n hx hb dX5_join_176 rfl (lv_at hl 3 rfl) ?_
                          refine va_get (D := G.1) (ci := 5) (v := .ref (aJ 0)) (C := RX5) (T := TX5) (N := 6) hx hb hts inX5 hown hK.1 hP 0 rfl rfl 3 (by decide) fl29 (fun _ h9 => h9) rfl dX5_join_177 ?_
                          refine lv_aload hx hb dX5_join_180 (lv_at hl 2 rfl) ?_
                          refine lv_aload hx hb dX5_join_182 (lv_at hl 1 rfl) ?_
                          refine mx_callRO (v := .int (malways (FJ 1) (FJ 2) σ τ)) (va_runV (As := [.ref ((aS j) 0), .ref ((aS k) 0)]) (rest := [.int (jCost (FJ 0) σ τ n0 u0 w0)]) ⟨hx, hb, hml, hown, hts⟩ (c_X0_apart l G aJ FJ RJ (aS j) (FS j) (RS j) (aS k) (FS k) (RS k) σ τ f5 f6 g5 g6) (cwV 2 hts gX5_join_X0_apart rfl rfl rfl (by decide +kernel) ⟨Nat.le_of_ble_eq_true rfl, Nat.le_of_ble_eq_true rfl⟩) (mx_preV hK (mx_Psub hP (fun q9 => fun h => (List.mem_append.mp h).elim (fun h => List.mem_append_right _ (List.mem_append_right _ (List.mem_append_right _ (List.mem_append_right _ (List.mem_append_left _ h))))) (fun h => (List.mem_append.mp h).elim (fun h => List.mem_append_right _ (List.mem_append_right _ (List.mem_append_right _ (List.mem_append_right _ (List.mem_append_right _ (List.mem_append_right _ (List.mem_append_right _ (List.mem_append_left _ h)))))))) (fun h => List.mem_append_right _ (List.mem_append_right _ (List.mem_append_right _ (List.mem_append_right _ (List.mem_append_right _ (List.mem_append_right _ (List.mem_append_right _ (List.mem_append_right _ (List.mem_append_left _ h)))))))))))) (va_recv hK.1 hP (ci := 0) (q0 := 8) rfl rfl)) rfl rfl hl.1 rfl (lv_room (Nat.le_of_ble_eq_true rfl)) dX5_join_184 ⟨Nat.zero_le _, Nat.zero_le _⟩) ?_
                          refine lv_iadd hx hb dX5_join_187 ?_
                          have hP : va_P G.1 vwCl (([(aD 0, .inr (5, [.ref (aD 1), .ref (aD 2), .ref (aK 0), .ref (aJ 0), .ref (aT 0), .ref (aN 0)]))]) ++ (([(aD 1, .inl (G.2.2.2, 12, .inr (.inr (.inr (.inr (SD))))))]) ++ (([(aD 2, .inl (G.2.1, 144, .inl (WI)))]) ++ ((KW G aK FK RK) ++ ((JW G aJ FJ RJ) ++ ((TW G aT (va_up FT 0 (nI (4 * n0))) (va_up (va_up (va_up RT 1 uk.1) 2 uk.2.1) 3 uk.2.2)) ++ ((NW G aN FN RN SR ra rl) ++ (pool G so aS FS RS m12)))))))) _ := mx_Pperm hP (mx_apP (mx_apP (mx_apP (mx_apP (mx_apP (mx_apP (mx_apP ((List.Perm.symm ((pool_out hsoj (by omega)).trans (mx_apP (pool_out ((va_up_ne _ _ (fun e9 => hjk e9.symm)).trans hsok) (by omega)))))))))))))
                          have hD : va_D _ (([(aD 0, .inr (5, [.ref (aD 1), .ref (aD 2), .ref (aK 0), .ref (aJ 0), .ref (aT 0), .ref (aN 0)]))]) ++ (([(aD 1, .inl (G.2.2.2, 12, .inr (.inr (.inr (.inr (SD))))))]) ++ (([(aD 2, .inl (G.2.1, 144, .inl (WI)))]) ++ ((KW G aK FK RK) ++ ((JW G aJ FJ RJ) ++ ((TW G aT (va_up FT 0 (nI (4 * n0))) (va_up (va_up (va_up RT 1 uk.1) 2 uk.2.1) 3 uk.2.2)) ++ ((NW G aN FN RN SR ra rl) ++ (pool G so aS FS RS m12)))))))) := mx_Dperm hD (mx_apP (mx_apP (mx_apP (mx_apP (mx_apP (mx_apP (mx_apP ((List.Perm.symm ((pool_out hsoj (by omega)).trans (mx_apP (pool_out ((va_up_ne _ _ (fun e9 => hjk e9.symm)).trans hsok) (by omega)))))))))))))
                          refine x_top (y := aJoin (FJ 0) (FJ 1) (FJ 2) (jArg so (nI j) (nI k) (nI n0) (nI u0) (nI w0)) ph) (by rw [hJ]; exact ((if_neg (by rw [hway]; decide)).trans ((if_neg (by rw [hway]; decide)).trans (if_neg (by rw [hway]; decide)))).symm) ?_
                          exact W.iret (v := aJoin (FJ 0) (FJ 1) (FJ 2) (jArg so (nI j) (nI k) (nI n0) (nI u0) (nI w0)) ph) hx hb hr (fun t9 ht9 hW9 => ⟨⟨(va_up FT 0 (nI (4 * n0)), va_up (va_up (va_up RT 1 uk.1) 2 uk.2.1) 3 uk.2.2), rfl, (by rw [hJ]; exact cMeet_y hway ⟨rfl, huk.1, huk.2⟩), by rw [ht9]; exact hP, hD⟩, hS.F ht9⟩) hS.2.2 dX5_join_188
                        · have hway : jWay (FJ 0) (σ, τ, n0, u0, w0) ph = 4 := way_4 hw1 hw2 (fun q => q.2.elim c_112 c_122) (bent_far (jCost_n ok ok2 hn1 hn8) c_152)
                          have hP : va_P G.1 vwCl (([(aD 0, .inr (5, [.ref (aD 1), .ref (aD 2), .ref (aK 0), .ref (aJ 0), .ref (aT 0), .ref (aN 0)]))]) ++ (([(aD 1, .inl (G.2.2.2, 12, .inr (.inr (.inr (.inr (SD))))))]) ++ (([(aD 2, .inl (G.2.1, 144, .inl (WI)))]) ++ ((KW G aK FK RK) ++ ((JW G aJ FJ RJ) ++ ((TW G aT FT RT) ++ ((NW G aN FN RN SR ra rl) ++ (pool G so aS FS RS m12)))))))) _ := mx_Pperm hP (mx_apP (mx_apP (mx_apP (mx_apP (mx_apP (mx_apP (mx_apP ((List.Perm.symm ((pool_out hsoj (by omega)).trans (mx_apP (pool_out ((va_up_ne _ _ (fun e9 => hjk e9.symm)).trans hsok) (by omega)))))))))))))
                          have hD : va_D _ (([(aD 0, .inr (5, [.ref (aD 1), .ref (aD 2), .ref (aK 0), .ref (aJ 0), .ref (aT 0), .ref (aN 0)]))]) ++ (([(aD 1, .inl (G.2.2.2, 12, .inr (.inr (.inr (.inr (SD))))))]) ++ (([(aD 2, .inl (G.2.1, 144, .inl (WI)))]) ++ ((KW G aK FK RK) ++ ((JW G aJ FJ RJ) ++ ((TW G aT FT RT) ++ ((NW G aN FN RN SR ra rl) ++ (pool G so aS FS RS m12)))))))) := mx_Dperm hD (mx_apP (mx_apP (mx_apP (mx_apP (mx_apP (mx_apP (mx_apP ((List.Perm.symm ((pool_out hsoj (by omega)).trans (mx_apP (pool_out ((va_up_ne _ _ (fun e9 => hjk e9.symm)).trans hsok) (by omega)))))))))))))
                          refine lv_bipush (v := (-4)) hx hb dX5_join_155 (by decide) ?_
                          refine x_top (y := aJoin (FJ 0) (FJ 1) (FJ 2) (jArg so (nI j) (nI k) (nI n0) (nI u0) (nI w0)) ph) (by rw [hJ]; exact ((if_neg (by rw [hway]; decide)).trans ((if_neg (by rw [hway]; decide)).trans (if_pos hway))).symm) ?_
                          exact W.iret (v := aJoin (FJ 0) (FJ 1) (FJ 2) (jArg so (nI j) (nI k) (nI n0) (nI u0) (nI w0)) ph) hx hb hr (fun t9 ht9 hW9 => ⟨⟨(FT, RT), rfl, (by rw [hJ]; exact cMeet_s (by rw [hway]; decide)), by rw [ht9]; exact hP, hD⟩, hS.F ht9⟩) hS.2.2 dX5_join_157
                      · have hway : jWay (FJ 0) (σ, τ, n0, u0, w0) ph = 3 := way_3 hw1 hw2 ⟨c_102, Or.inr c_122⟩
                        have hP : va_P G.1 vwCl (([(aD 0, .inr (5, [.ref (aD 1), .ref (aD 2), .ref (aK 0), .ref (aJ 0), .ref (aT 0), .ref (aN 0)]))]) ++ (([(aD 1, .inl (G.2.2.2, 12, .inr (.inr (.inr (.inr (SD))))))]) ++ (([(aD 2, .inl (G.2.1, 144, .inl (WI)))]) ++ ((KW G aK FK RK) ++ ((JW G aJ FJ RJ) ++ ((TW G aT FT RT) ++ ((NW G aN FN RN SR ra rl) ++ (pool G so aS FS RS m12)))))))) _ := mx_Pperm hP (mx_apP (mx_apP (mx_apP (mx_apP (mx_apP (mx_apP (mx_apP ((List.Perm.symm ((pool_out hsoj (by omega)).trans (mx_apP (pool_out ((va_up_ne _ _ (fun e9 => hjk e9.symm)).trans hsok) (by omega)))))))))))))
                        have hD : va_D _ (([(aD 0, .inr (5, [.ref (aD 1), .ref (aD 2), .ref (aK 0), .ref (aJ 0), .ref (aT 0), .ref (aN 0)]))]) ++ (([(aD 1, .inl (G.2.2.2, 12, .inr (.inr (.inr (.inr (SD))))))]) ++ (([(aD 2, .inl (G.2.1, 144, .inl (WI)))]) ++ ((KW G aK FK RK) ++ ((JW G aJ FJ RJ) ++ ((TW G aT FT RT) ++ ((NW G aN FN RN SR ra rl) ++ (pool G so aS FS RS m12)))))))) := mx_Dperm hD (mx_apP (mx_apP (mx_apP (mx_apP (mx_apP (mx_apP (mx_apP ((List.Perm.symm ((pool_out hsoj (by omega)).trans (mx_apP (pool_out ((va_up_ne _ _ (fun e9 => hjk e9.symm)).trans hsok) (by omega)))))))))))))
                        refine lv_bipush (v := (-3)) hx hb dX5_join_125 (by decide) ?_
                        refine x_top (y := aJoin (FJ 0) (FJ 1) (FJ 2) (jArg so (nI j) (nI k) (nI n0) (nI u0) (nI w0)) ph) (by rw [hJ]; exact ((if_neg (by rw [hway]; decide)).trans (if_pos hway)).symm) ?_
                        exact W.iret (v := aJoin (FJ 0) (FJ 1) (FJ 2) (jArg so (nI j) (nI k) (nI n0) (nI u0) (nI w0)) ph) hx hb hr (fun t9 ht9 hW9 => ⟨⟨(FT, RT), rfl, (by rw [hJ]; exact cMeet_s (by rw [hway]; decide)), by rw [ht9]; exact hP, hD⟩, hS.F ht9⟩) hS.2.2 dX5_join_127
                · have hway : jWay (FJ 0) (σ, τ, n0, u0, w0) ph = 2 := way_2b (whole_1 (σ := σ) (u := u0) (n := n0) ok hn1 (by omega)) (whole_0 (σ := τ) (u := w0) (n := n0) ok2 hn1 (by omega))
                  have hP : va_P G.1 vwCl (([(aD 0, .inr (5, [.ref (aD 1), .ref (aD 2), .ref (aK 0), .ref (aJ 0), .ref (aT 0), .ref (aN 0)]))]) ++ (([(aD 1, .inl (G.2.2.2, 12, .inr (.inr (.inr (.inr (SD))))))]) ++ (([(aD 2, .inl (G.2.1, 144, .inl (WI)))]) ++ ((KW G aK FK RK) ++ ((JW G aJ FJ RJ) ++ ((TW G aT FT RT) ++ ((NW G aN FN RN SR ra rl) ++ (pool G so aS FS RS m12)))))))) _ := mx_Pperm hP (mx_apP (mx_apP (mx_apP (mx_apP (mx_apP (mx_apP (mx_apP ((List.Perm.symm ((pool_out hsoj (by omega)).trans (mx_apP (pool_out ((va_up_ne _ _ (fun e9 => hjk e9.symm)).trans hsok) (by omega)))))))))))))
                  have hD : va_D _ (([(aD 0, .inr (5, [.ref (aD 1), .ref (aD 2), .ref (aK 0), .ref (aJ 0), .ref (aT 0), .ref (aN 0)]))]) ++ (([(aD 1, .inl (G.2.2.2, 12, .inr (.inr (.inr (.inr (SD))))))]) ++ (([(aD 2, .inl (G.2.1, 144, .inl (WI)))]) ++ ((KW G aK FK RK) ++ ((JW G aJ FJ RJ) ++ ((TW G aT FT RT) ++ ((NW G aN FN RN SR ra rl) ++ (pool G so aS FS RS m12)))))))) := mx_Dperm hD (mx_apP (mx_apP (mx_apP (mx_apP (mx_apP (mx_apP (mx_apP ((List.Perm.symm ((pool_out hsoj (by omega)).trans (mx_apP (pool_out ((va_up_ne _ _ (fun e9 => hjk e9.symm)).trans hsok) (by omega)))))))))))))
                  refine lv_bipush (v := (-2)) hx hb dX5_join_97 (by decide) ?_
                  refine x_top (y := aJoin (FJ 0) (FJ 1) (FJ 2) (jArg so (nI j) (nI k) (nI n0) (nI u0) (nI w0)) ph) (by rw [hJ]; exact (if_pos hway).symm) ?_
                  exact W.iret (v := aJoin (FJ 0) (FJ 1) (FJ 2) (jArg so (nI j) (nI k) (nI n0) (nI u0) (nI w0)) ph) hx hb hr (fun t9 ht9 hW9 => ⟨⟨(FT, RT), rfl, (by rw [hJ]; exact cMeet_s (by rw [hway]; decide)), by rw [ht9]; exact hP, hD⟩, hS.F ht9⟩) hS.2.2 dX5_join_99
            · have hP : va_P G.1 vwCl (([(aD 0, .inr (5, [.ref (aD 1), .ref (aD 2), .ref (aK 0), .ref (aJ 0), .ref (aT 0), .ref (aN 0)]))]) ++ (([(aD 1, .inl (G.2.2.2, 12, .inr (.inr (.inr (.inr (SD))))))]) ++ (([(aD 2, .inl (G.2.1, 144, .inl (WI)))]) ++ ((KW G aK FK RK) ++ ((JW G aJ FJ RJ) ++ ((TW G aT FT RT) ++ ((NW G aN FN RN SR ra rl) ++ (pool G so aS FS RS m12)))))))) _ := mx_Pperm hP (mx_apP (mx_apP (mx_apP (mx_apP (mx_apP (mx_apP (mx_apP ((List.Perm.symm ((pool_out hsoj (by omega)).trans (mx_apP (pool_out ((va_up_ne _ _ (fun e9 => hjk e9.symm)).trans hsok) (by omega)))))))))))))
              have hD : va_D _ (([(aD 0, .inr (5, [.ref (aD 1), .ref (aD 2), .ref (aK 0), .ref (aJ 0), .ref (aT 0), .ref (aN 0)]))]) ++ (([(aD 1, .inl (G.2.2.2, 12, .inr (.inr (.inr (.inr (SD))))))]) ++ (([(aD 2, .inl (G.2.1, 144, .inl (WI)))]) ++ ((KW G aK FK RK) ++ ((JW G aJ FJ RJ) ++ ((TW G aT FT RT) ++ ((NW G aN FN RN SR ra rl) ++ (pool G so aS FS RS m12)))))))) := mx_Dperm hD (mx_apP (mx_apP (mx_apP (mx_apP (mx_apP (mx_apP (mx_apP ((List.Perm.symm ((pool_out hsoj (by omega)).trans (mx_apP (pool_out ((va_up_ne _ _ (fun e9 => hjk e9.symm)).trans hsok) (by omega)))))))))))))
              have hJ : jArg so (nI j) (nI k) (nI n0) (nI u0) w = none := jArg_3 hσ hτ (fun q => wi_no (by omega) c_68 q.2.2.2)
              refine lv_iconst (v := (-1)) hx hb dX5_join_71 (by decide) ?_
              refine x_top (y := aJoin (FJ 0) (FJ 1) (FJ 2) (jArg so (nI j) (nI k) (nI n0) (nI u0) w) ph) (by rw [hJ]; rfl) ?_
              exact W.iret (v := aJoin (FJ 0) (FJ 1) (FJ 2) (jArg so (nI j) (nI k) (nI n0) (nI u0) w) ph) hx hb hr (fun t9 ht9 hW9 => ⟨⟨(FT, RT), rfl, (by rw [hJ]; exact ⟨rfl, rfl⟩), by rw [ht9]; exact hP, hD⟩, hS.F ht9⟩) hS.2.2 dX5_join_72

set_option maxHeartbeats 4000000 in
set_option maxRecDepth 100000 in
theorem c_X5_best (l : Launch) (G : mx_G) (aD : Nat → Nat) (SD : Nat → Option Nat) (WI : Nat → Int32) (aK : Nat → Nat) (FK : Nat → Int32) (RK : Nat → Nat → Int32) (aJ : Nat → Nat) (FJ : Nat → Int32) (RJ : Nat → Nat → Int32) (aT : Nat → Nat) (FT : Nat → Int32) (RT : Nat → Nat → Int32) (aN : Nat → Nat) (FN : Nat → Int32) (RN : Nat → Nat → Int32) (SR : Nat → Option Nat) (ra rl m12 : Nat) (so : So) (aS : Nat → Nat → Nat) (FS : Nat → Nat → Int32) (RS : Nat → Nat → Nat → Int32) (x y n w : Int32) (hm12 : m12 = 12) (hd : dOk so aS FS RS SD) (hc9 : cstOk FJ) (hky : ∀ j, j < 12 → ∀ σ, so j = some σ → keyOk σ) (hJk : jOk so (FJ 0) (FJ 1) (FJ 2) (RJ 3) (RJ 4) (RJ 5)) (sz : Nat) : mx_EF l yX5_best wsX5_best 5 130 0 0 G [.ref (aD 0), .int x, .int y, .int n, .int w] sz (([(aD 0, .inr (5, [.ref (aD 1), .ref (aD 2), .ref (aK 0), .ref (aJ 0), .ref (aT 0), .ref (aN 0)]))]) ++ (([(aD 1, .inl (G.2.2.2, 12, .inr (.inr (.inr (.inr (SD))))))]) ++ (([(aD 2, .inl (G.2.1, 144, .inl (WI)))]) ++ ((KW G aK FK RK) ++ ((JW G aJ FJ RJ) ++ ((TW G aT FT RT) ++ ((NW G aN FN RN SR ra rl) ++ (pool G so aS FS RS m12)))))))) (fun _ : (Nat → Int32) × (Nat → Int32) × (Nat → Int32) × (Nat → Int32) × (Nat → Int32) => some (.int (aBest (FJ 0) (FJ 1) (FJ 2) (bArg so x y n w) w))) (fun u9 : (Nat → Int32) × (Nat → Int32) × (Nat → Int32) × (Nat → Int32) × (Nat → Int32) => jOk so (FJ 0) (FJ 1) (FJ 2) u9.1 u9.2.1 u9.2.2.1) (fun u9 : (Nat → Int32) × (Nat → Int32) × (Nat → Int32) × (Nat → Int32) × (Nat → Int32) => ([(aD 0, .inr (5, [.ref (aD 1), .ref (aD 2), .ref (aK 0), .ref (aJ 0), .ref (aT 0), .ref (aN 0)]))]) ++ (([(aD 1, .inl (G.2.2.2, 12, .inr (.inr (.inr (.inr (SD))))))]) ++ (([(aD 2, .inl (G.2.1, 144, .inl (WI)))]) ++ ((KW G aK FK RK) ++ ((JW G aJ FJ (va_up (va_up (va_up (va_up (va_up RJ 3 u9.1) 4 u9.2.1) 5 u9.2.2.1) 6 u9.2.2.2.1) 7 u9.2.2.2.2)) ++ ((TW G aT FT RT) ++ ((NW G aN FN RN SR ra rl) ++ (pool G so aS FS RS m12)))))))) := by
  refine Met.ofW (cc := cX5_best) (maxL := 8) (ret := (some .int)) (by decide) rfl ?_
  intro p e s m args below meth c s₁ BB hml hv
  obtain ⟨rfl, ⟨hsz, hP, hD0⟩, hK⟩ := hv
  have hx := BB.exec
  have hb := BB.bytes
  have hr := BB.returns
  have hts := atoms_spec (ws := wsX5_best) BB.pre
  have hown : s.vm.findClass RX5 = some m.cls := findClass_of_methodNamed BB.named
  have hlocks := BB.notSynchronized
  subst hsz
  have hD := hD0.self (sz := s.heap.size)
  have hA : ∀ q : Nat, s.heap.size ≤ q → va_A (([(aD 0, .inr (5, [.ref (aD 1), .ref (aD 2), .ref (aK 0), .ref (aJ 0), .ref (aT 0), .ref (aN 0)]))]) ++ (([(aD 1, .inl (G.2.2.2, 12, .inr (.inr (.inr (.inr (SD))))))]) ++ (([(aD 2, .inl (G.2.1, 144, .inl (WI)))]) ++ ((KW G aK FK RK) ++ ((JW G aJ FJ RJ) ++ ((TW G aT FT RT) ++ ((NW G aN FN RN SR ra rl) ++ (pool G so aS FS RS m12)))))))) s.heap.size q := fun q h => Or.inr h
  have hS : va_S (va_A (([(aD 0, .inr (5, [.ref (aD 1), .ref (aD 2), .ref (aK 0), .ref (aJ 0), .ref (aT 0), .ref (aN 0)]))]) ++ (([(aD 1, .inl (G.2.2.2, 12, .inr (.inr (.inr (.inr (SD))))))]) ++ (([(aD 2, .inl (G.2.1, 144, .inl (WI)))]) ++ ((KW G aK FK RK) ++ ((JW G aJ FJ RJ) ++ ((TW G aT FT RT) ++ ((NW G aN FN RN SR ra rl) ++ (pool G so aS FS RS m12)))))))) s.heap.size) s.heap s.heap [] := va_S.rf
  have fl169 := hts (.fieldLink RX5 169 "MixDesk$Joins" "leastCost" "[I") (by decide +kernel)
  have fl172 := hts (.fieldLink RX5 172 "MixDesk$Joins" "leastP" "[I") (by decide +kernel)
  have fl175 := hts (.fieldLink RX5 175 "MixDesk$Joins" "leastQ" "[I") (by decide +kernel)
  have fl29 := hts (.fieldLink RX5 29 "MixDesk" "joins" "LMixDesk$Joins;") (by decide +kernel)
  have inX0 : ∀ w ∈ wsX00, w ∈ wsX5_best := by decide +kernel
  have inX5 : ∀ w ∈ wsX50, w ∈ wsX5_best := by decide +kernel
  have ck148 := hts (.constant RX5 148 (1073741824)) (by decide +kernel)
  have hl := lv_entry ([.ref (aD 0), .int x, .int y, .int n, .int w]) (n := 8) (Nat.le_of_ble_eq_true rfl)
  rw [lg_entry_eq]
  generalize (lg_sl ([.ref (aD 0), .int x, .int y, .int n, .int w]) ++ List.replicate (8 - (lg_sl ([.ref (aD 0), .int x, .int y, .int n, .int w])).length) Slot.unset).toArray = ls at hl ⊢
  have hl : lv_has ls 8 [(0, .ref (aD 0)), (1, .int x), (2, .int y), (3, .int n), (4, .int w)] := hl
  refine lv_aload_n hx hb dX5_best_0 rfl (lv_at hl 0 rfl) ?_
  refine lv_iload_n hx hb dX5_best_1 rfl (lv_at hl 1 rfl) ?_
  refine mx_callRO (v := va_rf (sRf so aS x)) (va_runV (As := [.int x]) (rest := []) ⟨hx, hb, hml, hown, hts⟩ (c_X5_songAt l G aD SD WI aK FK RK aJ FJ RJ aT FT RT aN FN RN SR ra rl m12 so aS FS RS x hm12 hd) (cwV 1 hts gX5_best_X5_songAt rfl rfl rfl (by decide +kernel) ⟨Nat.le_of_ble_eq_true rfl, Nat.le_of_ble_eq_true rfl⟩) (mx_preV hK hP (va_recv hK.1 hP (ci := 5) (q0 := 0) rfl rfl)) rfl rfl hl.1 rfl (lv_room (Nat.le_of_ble_eq_true rfl)) dX5_best_2 ⟨Nat.zero_le _, Nat.zero_le _⟩) ?_
  rcases sat_cases so x with ho | ⟨j, σ, rfl, hj, hsoj, hσ⟩
  · rw [sRf_n ho]
    refine lv_astoreN (lv' := [(5, .null), (0, .ref (aD 0)), (1, .int x), (2, .int y), (3, .int n), (4, .int w)]) hx hb dX5_best_5 hl (by decide) rfl (fun ls hl => ?_)
    refine lv_aload_n hx hb dX5_best_7 rfl (lv_at hl 1 rfl) ?_
    refine lv_iload_n hx hb dX5_best_8 rfl (lv_at hl 3 rfl) ?_
    refine mx_callRO (v := va_rf (sRf so aS y)) (va_runV (As := [.int y]) (rest := []) ⟨hx, hb, hml, hown, hts⟩ (c_X5_songAt l G aD SD WI aK FK RK aJ FJ RJ aT FT RT aN FN RN SR ra rl m12 so aS FS RS y hm12 hd) (cwV 1 hts gX5_best_X5_songAt rfl rfl rfl (by decide +kernel) ⟨Nat.le_of_ble_eq_true rfl, Nat.le_of_ble_eq_true rfl⟩) (mx_preV hK hP (va_recv hK.1 hP (ci := 5) (q0 := 0) rfl rfl)) rfl rfl hl.1 rfl (lv_room (Nat.le_of_ble_eq_true rfl)) dX5_best_9 ⟨Nat.zero_le _, Nat.zero_le _⟩) ?_
    rcases sat_cases so y with ho2 | ⟨k, τ, rfl, hk, hsok, hτ⟩
    · rw [sRf_n ho2]
      refine lv_astoreN (lv' := [(6, .null), (5, .null), (0, .ref (aD 0)), (1, .int x), (2, .int y), (3, .int n), (4, .int w)]) hx hb dX5_best_12 hl (by decide) rfl (fun ls hl => ?_)
      refine lv_aloadN hx hb dX5_best_14 (lv_at hl 1 rfl) ?_
      refine lv_ifnullN (tgt := 39) hx hb dX5_best_16 (by decide) ?_
      have hJ : bArg so x y n w = none := bArg_1 ho
      refine lv_iconst (v := (-1)) hx hb dX5_best_39 (by decide) ?_
      refine x_top (y := aBest (FJ 0) (FJ 1) (FJ 2) (bArg so x y n w) w) (by rw [hJ]; rfl) ?_
      exact W.iret (v := aBest (FJ 0) (FJ 1) (FJ 2) (bArg so x y n w) w) hx hb hr (fun t9 ht9 hW9 => ⟨⟨(RJ 3, RJ 4, RJ 5, RJ 6, RJ 7), rfl, hJk, by rw [ht9]; exact hP, hD⟩, hS.F ht9⟩) hS.2.2 dX5_best_40
    · rw [sRf_s hk hτ]
      obtain ⟨hsd2, hnum2, ok2, hN2, hCC2, hTB2, hQ2⟩ := (hd k hk).2 τ hsok
      obtain ⟨g1, g2, g3, g4, g5, g6, g7, g8, g9, g10⟩ := id hN2
      have hpb := gPB_le ok2
      refine lv_astore (lv' := [(6, .ref ((aS k) 0)), (5, .null), (0, .ref (aD 0)), (1, .int x), (2, .int (nI k)), (3, .int n), (4, .int w)]) hx hb dX5_best_12 hl (by decide) rfl (fun ls hl => ?_)
      refine lv_aloadN hx hb dX5_best_14 (lv_at hl 1 rfl) ?_
      refine lv_ifnullN (tgt := 39) hx hb dX5_best_16 (by decide) ?_
      have hJ : bArg so x (nI k) n w = none := bArg_1 ho
      refine lv_iconst (v := (-1)) hx hb dX5_best_39 (by decide) ?_
      refine x_top (y := aBest (FJ 0) (FJ 1) (FJ 2) (bArg so x (nI k) n w) w) (by rw [hJ]; rfl) ?_
      exact W.iret (v := aBest (FJ 0) (FJ 1) (FJ 2) (bArg so x (nI k) n w) w) hx hb hr (fun t9 ht9 hW9 => ⟨⟨(RJ 3, RJ 4, RJ 5, RJ 6, RJ 7), rfl, hJk, by rw [ht9]; exact hP, hD⟩, hS.F ht9⟩) hS.2.2 dX5_best_40
  · rw [sRf_s hj hσ]
    obtain ⟨hsd, hnum, ok, hN1, hCC1, hTB1, hQ1⟩ := (hd j hj).2 σ hsoj
    obtain ⟨f1, f2, f3, f4, f5, f6, f7, f8, f9, f10⟩ := id hN1
    have hpa := gPB_le ok
    refine lv_astore (lv' := [(5, .ref ((aS j) 0)), (0, .ref (aD 0)), (1, .int (nI j)), (2, .int y), (3, .int n), (4, .int w)]) hx hb dX5_best_5 hl (by decide) rfl (fun ls hl => ?_)
    refine lv_aload_n hx hb dX5_best_7 rfl (lv_at hl 1 rfl) ?_
    refine lv_iload_n hx hb dX5_best_8 rfl (lv_at hl 3 rfl) ?_
    refine mx_callRO (v := va_rf (sRf so aS y)) (va_runV (As := [.int y]) (rest := []) ⟨hx, hb, hml, hown, hts⟩ (c_X5_songAt l G aD SD WI aK FK RK aJ FJ RJ aT FT RT aN FN RN SR ra rl m12 so aS FS RS y hm12 hd) (cwV 1 hts gX5_best_X5_songAt rfl rfl rfl (by decide +kernel) ⟨Nat.le_of_ble_eq_true rfl, Nat.le_of_ble_eq_true rfl⟩) (mx_preV hK hP (va_recv hK.1 hP (ci := 5) (q0 := 0) rfl rfl)) rfl rfl hl.1 rfl (lv_room (Nat.le_of_ble_eq_true rfl)) dX5_best_9 ⟨Nat.zero_le _, Nat.zero_le _⟩) ?_
    rcases sat_cases so y with ho2 | ⟨k, τ, rfl, hk, hsok, hτ⟩
    · rw [sRf_n ho2]
      refine lv_astoreN (lv' := [(6, .null), (5, .ref ((aS j) 0)), (0, .ref (aD 0)), (1, .int (nI j)), (2, .int y), (3, .int n), (4, .int w)]) hx hb dX5_best_12 hl (by decide) rfl (fun ls hl => ?_)
      refine lv_aload hx hb dX5_best_14 (lv_at hl 1 rfl) ?_
      refine lv_ifnull hx hb dX5_best_16 ?_
      refine lv_aloadN hx hb dX5_best_19 (lv_at hl 0 rfl) ?_
      refine lv_ifnullN (tgt := 39) hx hb dX5_best_21 (by decide) ?_
      have hJ : bArg so (nI j) y n w = none := bArg_2 hσ ho2
      refine lv_iconst (v := (-1)) hx hb dX5_best_39 (by decide) ?_
      refine x_top (y := aBest (FJ 0) (FJ 1) (FJ 2) (bArg so (nI j) y n w) w) (by rw [hJ]; rfl) ?_
      exact W.iret (v := aBest (FJ 0) (FJ 1) (FJ 2) (bArg so (nI j) y n w) w) hx hb hr (fun t9 ht9 hW9 => ⟨⟨(RJ 3, RJ 4, RJ 5, RJ 6, RJ 7), rfl, hJk, by rw [ht9]; exact hP, hD⟩, hS.F ht9⟩) hS.2.2 dX5_best_40
    · rw [sRf_s hk hτ]
      obtain ⟨hsd2, hnum2, ok2, hN2, hCC2, hTB2, hQ2⟩ := (hd k hk).2 τ hsok
      obtain ⟨g1, g2, g3, g4, g5, g6, g7, g8, g9, g10⟩ := id hN2
      have hpb := gPB_le ok2
      refine lv_astore (lv' := [(6, .ref ((aS k) 0)), (5, .ref ((aS j) 0)), (0, .ref (aD 0)), (1, .int (nI j)), (2, .int (nI k)), (3, .int n), (4, .int w)]) hx hb dX5_best_12 hl (by decide) rfl (fun ls hl => ?_)
      refine lv_aload hx hb dX5_best_14 (lv_at hl 1 rfl) ?_
      refine lv_ifnull hx hb dX5_best_16 ?_
      refine lv_aload hx hb dX5_best_19 (lv_at hl 0 rfl) ?_
      refine lv_ifnull hx hb dX5_best_21 ?_
      refine lv_iload_n hx hb dX5_best_24 rfl (lv_at hl 3 rfl) ?_
      refine lv_iload_n hx hb dX5_best_25 rfl (lv_at hl 4 rfl) ?_
      refine x_icmp_eq (tgt := 39) hx hb (by omega) (by omega) dX5_best_26 (by decide) (fun c_26 => ?_) (fun c_26 => ?_)
      · have hJ : bArg so (nI j) (nI k) n w = none := bArg_3 hσ hτ (fun q => q.1 (congrArg nI c_26))
        refine lv_iconst (v := (-1)) hx hb dX5_best_39 (by decide) ?_
        refine x_top (y := aBest (FJ 0) (FJ 1) (FJ 2) (bArg so (nI j) (nI k) n w) w) (by rw [hJ]; rfl) ?_
        exact W.iret (v := aBest (FJ 0) (FJ 1) (FJ 2) (bArg so (nI j) (nI k) n w) w) hx hb hr (fun t9 ht9 hW9 => ⟨⟨(RJ 3, RJ 4, RJ 5, RJ 6, RJ 7), rfl, hJk, by rw [ht9]; exact hP, hD⟩, hS.F ht9⟩) hS.2.2 dX5_best_40
      · have hjk : ¬ j = k := c_26
        refine lv_iload_n hx hb dX5_best_29 rfl (lv_at hl 5 rfl) ?_
        refine lv_iconst (v := nI 1) hx hb dX5_best_30 (by decide) ?_
        refine lv_bipush (v := nI 8) hx hb dX5_best_31 (by decide) ?_
        refine mx_callRO (v := .int (wi n (nI 1) (nI 8))) (va_runS (As := [.int n, .int (nI 1), .int (nI 8)]) (rest := []) ⟨hx, hb, hml, hown, hts⟩ (c_X5_within l G n (nI 1) (nI 8)) (va_cwS 3 hts gX5_best_X5_within rfl rfl rfl (by decide +kernel) ⟨Nat.le_of_ble_eq_true rfl, Nat.le_of_ble_eq_true rfl⟩) (mx_preS hK trivial) rfl rfl hl.1 rfl (lv_room (Nat.le_of_ble_eq_true rfl)) dX5_best_33 ⟨Nat.zero_le _, Nat.zero_le _⟩) ?_
        refine lv_if_ne (tgt := 41) hx hb dX5_best_36 (by decide) (fun c_36 => ?_) (fun c_36 => ?_)
        · obtain ⟨n0, hn1, hn8, rfl⟩ := nat_1 (by omega) c_36
          have hP : va_P G.1 vwCl (([(aD 0, .inr (5, [.ref (aD 1), .ref (aD 2), .ref (aK 0), .ref (aJ 0), .ref (aT 0), .ref (aN 0)]))]) ++ (([(aD 1, .inl (G.2.2.2, 12, .inr (.inr (.inr (.inr (SD))))))]) ++ (([(aD 2, .inl (G.2.1, 144, .inl (WI)))]) ++ ((KW G aK FK RK) ++ ((JW G aJ FJ RJ) ++ ((TW G aT FT RT) ++ ((NW G aN FN RN SR ra rl) ++ ((SW G (aS j) (FS j) (RS j)) ++ ((SW G (aS k) (FS k) (RS k)) ++ (pool G (va_up (va_up so j none) k none) aS FS RS m12)))))))))) _ := mx_Pperm hP (mx_apP (mx_apP (mx_apP (mx_apP (mx_apP (mx_apP (mx_apP (((pool_out hsoj (by omega)).trans (mx_apP (pool_out ((va_up_ne _ _ (fun e9 => hjk e9.symm)).trans hsok) (by omega))))))))))))
          have hD : va_D _ (([(aD 0, .inr (5, [.ref (aD 1), .ref (aD 2), .ref (aK 0), .ref (aJ 0), .ref (aT 0), .ref (aN 0)]))]) ++ (([(aD 1, .inl (G.2.2.2, 12, .inr (.inr (.inr (.inr (SD))))))]) ++ (([(aD 2, .inl (G.2.1, 144, .inl (WI)))]) ++ ((KW G aK FK RK) ++ ((JW G aJ FJ RJ) ++ ((TW G aT FT RT) ++ ((NW G aN FN RN SR ra rl) ++ ((SW G (aS j) (FS j) (RS j)) ++ ((SW G (aS k) (FS k) (RS k)) ++ (pool G (va_up (va_up so j none) k none) aS FS RS m12)))))))))) := mx_Dperm hD (mx_apP (mx_apP (mx_apP (mx_apP (mx_apP (mx_apP (mx_apP (((pool_out hsoj (by omega)).trans (mx_apP (pool_out ((va_up_ne _ _ (fun e9 => hjk e9.symm)).trans hsok) (by omega))))))))))))
          refine lv_aload_n hx hb dX5_best_41 rfl (lv_at hl 2 rfl) ?_
          refine va_get (D := G.1) (ci := 5) (v := .ref (aJ 0)) (C := RX5) (T := TX5) (N := 6) hx hb hts inX5 hown hK.1 hP 0 rfl rfl 3 (by decide) fl29 (fun _ h9 => h9) rfl dX5_best_42 ?_
          refine lv_aload hx hb dX5_best_45 (lv_at hl 1 rfl) ?_
          refine lv_aload hx hb dX5_best_47 (lv_at hl 0 rfl) ?_
          refine lv_iload_n hx hb dX5_best_49 rfl (lv_at hl 5 rfl) ?_
          refine mx_callEi (va_runV (As := [.ref ((aS j) 0), .ref ((aS k) 0), .int (nI n0)]) (rest := []) ⟨hx, hb, hml, hown, hts⟩ (c_X0_slotOf l G aJ FJ RJ (aS j) (FS j) (RS j) (aS k) (FS k) (RS k) σ τ n0 j k hN1 ok hQ1 hN2 ok2 hQ2 hn1 hn8 hj hk hnum hnum2 (jOk_at hJk hj hk hn1 hn8 hsoj hsok) _) (cwV 3 hts gX5_best_X0_slotOf rfl rfl rfl (by decide +kernel) ⟨Nat.le_of_ble_eq_true rfl, Nat.le_of_ble_eq_true rfl⟩) (mx_preV hK ⟨rfl, mx_cut hP hD (a := (JW G aJ FJ RJ) ++ ((SW G (aS j) (FS j) (RS j)) ++ (SW G (aS k) (FS k) (RS k)))) (b := ([(aD 0, .inr (5, [.ref (aD 1), .ref (aD 2), .ref (aK 0), .ref (aJ 0), .ref (aT 0), .ref (aN 0)]))]) ++ (([(aD 1, .inl (G.2.2.2, 12, .inr (.inr (.inr (.inr (SD))))))]) ++ (([(aD 2, .inl (G.2.1, 144, .inl (WI)))]) ++ ((KW G aK FK RK) ++ ((TW G aT FT RT) ++ ((NW G aN FN RN SR ra rl) ++ (pool G (va_up (va_up so j none) k none) aS FS RS m12))))))) (mx_perm (fun n9 hn9 => by simp only [hn9, List.append_nil] <;> omega))⟩ (va_recv hK.1 hP (ci := 0) (q0 := 8) rfl rfl)) rfl rfl hl.1 rfl (lv_room (Nat.le_of_ble_eq_true rfl)) dX5_best_50 ⟨Nat.zero_le _, Nat.zero_le _⟩) hP hD hS hA (((mx_perm (fun n9 hn9 => by simp only [hn9, List.append_nil] <;> omega)) : List.Perm _ (((JW G aJ FJ RJ) ++ ((SW G (aS j) (FS j) (RS j)) ++ (SW G (aS k) (FS k) (RS k)))) ++ (([(aD 0, .inr (5, [.ref (aD 1), .ref (aD 2), .ref (aK 0), .ref (aJ 0), .ref (aT 0), .ref (aN 0)]))]) ++ (([(aD 1, .inl (G.2.2.2, 12, .inr (.inr (.inr (.inr (SD))))))]) ++ (([(aD 2, .inl (G.2.1, 144, .inl (WI)))]) ++ ((KW G aK FK RK) ++ ((TW G aT FT RT) ++ ((NW G aN FN RN SR ra rl) ++ (pool G (va_up (va_up so j none) k none) aS FS RS m12)))))))))) (fun us H locs hus hP hD hS => ?_)
          have hP : va_P G.1 vwCl (((JW G aJ FJ (va_up (va_up (va_up (va_up (va_up RJ 3 us.1) 4 us.2.1) 5 us.2.2.1) 6 us.2.2.2.1) 7 us.2.2.2.2)) ++ ((SW G (aS j) (FS j) (RS j)) ++ (SW G (aS k) (FS k) (RS k)))) ++ (([(aD 0, .inr (5, [.ref (aD 1), .ref (aD 2), .ref (aK 0), .ref (aJ 0), .ref (aT 0), .ref (aN 0)]))]) ++ (([(aD 1, .inl (G.2.2.2, 12, .inr (.inr (.inr (.inr (SD))))))]) ++ (([(aD 2, .inl (G.2.1, 144, .inl (WI)))]) ++ ((KW G aK FK RK) ++ ((TW G aT FT RT) ++ ((NW G aN FN RN SR ra rl) ++ (pool G (va_up (va_up so j none) k none) aS FS RS m12)))))))) H := hP
          have hD : va_D _ (((JW G aJ FJ (va_up (va_up (va_up (va_up (va_up RJ 3 us.1) 4 us.2.1) 5 us.2.2.1) 6 us.2.2.2.1) 7 us.2.2.2.2)) ++ ((SW G (aS j) (FS j) (RS j)) ++ (SW G (aS k) (FS k) (RS k)))) ++ (([(aD 0, .inr (5, [.ref (aD 1), .ref (aD 2), .ref (aK 0), .ref (aJ 0), .ref (aT 0), .ref (aN 0)]))]) ++ (([(aD 1, .inl (G.2.2.2, 12, .inr (.inr (.inr (.inr (SD))))))]) ++ (([(aD 2, .inl (G.2.1, 144, .inl (WI)))]) ++ ((KW G aK FK RK) ++ ((TW G aT FT RT) ++ ((NW G aN FN RN SR ra rl) ++ (pool G (va_up (va_up so j none) k none) aS FS RS m12)))))))) := hD
          have hP : va_P G.1 vwCl (([(aD 0, .inr (5, [.ref (aD 1), .ref (aD 2), .ref (aK 0), .ref (aJ 0), .ref (aT 0), .ref (aN 0)]))]) ++ (([(aD 1, .inl (G.2.2.2, 12, .inr (.inr (.inr (.inr (SD))))))]) ++ (([(aD 2, .inl (G.2.1, 144, .inl (WI)))]) ++ ((KW G aK FK RK) ++ ((JW G aJ FJ (va_up (va_up (va_up (va_up (va_up RJ 3 us.1) 4 us.2.1) 5 us.2.2.1) 6 us.2.2.2.1) 7 us.2.2.2.2)) ++ ((TW G aT FT RT) ++ ((NW G aN FN RN SR ra rl) ++ ((SW G (aS j) (FS j) (RS j)) ++ ((SW G (aS k) (FS k) (RS k)) ++ (pool G (va_up (va_up so j none) k none) aS FS RS m12)))))))))) H := mx_Pperm hP (mx_perm (fun n9 hn9 => by simp only [hn9, List.append_nil] <;> omega))
          have hD : va_D _ (([(aD 0, .inr (5, [.ref (aD 1), .ref (aD 2), .ref (aK 0), .ref (aJ 0), .ref (aT 0), .ref (aN 0)]))]) ++ (([(aD 1, .inl (G.2.2.2, 12, .inr (.inr (.inr (.inr (SD))))))]) ++ (([(aD 2, .inl (G.2.1, 144, .inl (WI)))]) ++ ((KW G aK FK RK) ++ ((JW G aJ FJ (va_up (va_up (va_up (va_up (va_up RJ 3 us.1) 4 us.2.1) 5 us.2.2.1) 6 us.2.2.2.1) 7 us.2.2.2.2)) ++ ((TW G aT FT RT) ++ ((NW G aN FN RN SR ra rl) ++ ((SW G (aS j) (FS j) (RS j)) ++ ((SW G (aS k) (FS k) (RS k)) ++ (pool G (va_up (va_up so j none) k none) aS FS RS m12)))))))))) := mx_Dperm hD (mx_perm (fun n9 hn9 => by simp only [hn9, List.append_nil] <;> omega))
          refine lv_istore (lv' := [(7, .int (nI (slotN j k n0))), (6, .ref ((aS k) 0)), (5, .ref ((aS j) 0)), (0, .ref (aD 0)), (1, .int (nI j)), (2, .int (nI k)), (3, .int (nI n0)), (4, .int w)]) hx hb dX5_best_53 hl (by decide) rfl (fun ls hl => ?_)
          have hcl := cLeast_n ok ok2 hn1 hn8 hc9 (hky j hj σ hsoj) (hky k hk τ hsok)
          have hP : va_P G.1 vwCl (([(aD 0, .inr (5, [.ref (aD 1), .ref (aD 2), .ref (aK 0), .ref (aJ 0), .ref (aT 0), .ref (aN 0)]))]) ++ (([(aD 1, .inl (G.2.2.2, 12, .inr (.inr (.inr (.inr (SD))))))]) ++ (([(aD 2, .inl (G.2.1, 144, .inl (WI)))]) ++ ((KW G aK FK RK) ++ ((JW G aJ FJ (va_up (va_up (va_up (va_up (va_up RJ 3 us.1) 4 us.2.1) 5 us.2.2.1) 6 us.2.2.2.1) 7 us.2.2.2.2)) ++ ((TW G aT FT RT) ++ ((NW G aN FN RN SR ra rl) ++ (pool G so aS FS RS m12)))))))) _ := mx_Pperm hP (mx_apP (mx_apP (mx_apP (mx_apP (mx_apP (mx_apP (mx_apP ((List.Perm.symm ((pool_out hsoj (by omega)).trans (mx_apP (pool_out ((va_up_ne _ _ (fun e9 => hjk e9.symm)).trans hsok) (by omega)))))))))))))
          have hD : va_D _ (([(aD 0, .inr (5, [.ref (aD 1), .ref (aD 2), .ref (aK 0), .ref (aJ 0), .ref (aT 0), .ref (aN 0)]))]) ++ (([(aD 1, .inl (G.2.2.2, 12, .inr (.inr (.inr (.inr (SD))))))]) ++ (([(aD 2, .inl (G.2.1, 144, .inl (WI)))]) ++ ((KW G aK FK RK) ++ ((JW G aJ FJ (va_up (va_up (va_up (va_up (va_up RJ 3 us.1) 4 us.2.1) 5 us.2.2.1) 6 us.2.2.2.1) 7 us.2.2.2.2)) ++ ((TW G aT FT RT) ++ ((NW G aN FN RN SR ra rl) ++ (pool G so aS FS RS m12)))))))) := mx_Dperm hD (mx_apP (mx_apP (mx_apP (mx_apP (mx_apP (mx_apP (mx_apP ((List.Perm.symm ((pool_out hsoj (by omega)).trans (mx_apP (pool_out ((va_up_ne _ _ (fun e9 => hjk e9.symm)).trans hsok) (by omega)))))))))))))
          refine lv_aload_n hx hb dX5_best_55 rfl (lv_at hl 3 rfl) ?_
          refine va_get (D := G.1) (ci := 5) (v := .ref (aJ 0)) (C := RX5) (T := TX5) (N := 6) hx hb hts inX5 hown hK.1 hP 0 rfl rfl 3 (by decide) fl29 (fun _ h9 => h9) rfl dX5_best_56 ?_
          refine va_get (D := G.1) (ci := 0) (v := .ref (aJ 4)) (C := RX0) (T := TX0) (N := 8) hx hb hts inX0 hown hK.1 hP 8 rfl rfl 3 (by decide) fl169 (fun _ h9 => h9) rfl dX5_best_59 ?_
          refine lv_iload hx hb dX5_best_62 (lv_at hl 0 rfl) ?_
          refine x_iald hx hb hK.1 hP 9 0 (n := 1152) (f := us.1) rfl rfl (k := slotN j k n0) (slotN_lt hj hk hn8) (by omega) dX5_best_64 ?_
          refine x_top (y := cLeast (FJ 0) (FJ 1) (FJ 2) σ τ n0) (hus.1.1) ?_
          refine lv_ldc hx hb hown ck148 dX5_best_65 ?_
          refine x_top (y := nI 1073741824) (by decide) ?_
          refine lv_icmp_ne (tgt := 72) hx hb dX5_best_67 (by decide) (fun c_67 => ?_) (fun c_67 => ?_)
          · refine lv_iload hx hb dX5_best_72 (lv_at hl 7 rfl) ?_
            rcases sw_of 3 (by omega) w with ⟨kk, hkk, e_74⟩ | h_74
            · rcases (show kk = 0 ∨ kk = 1 ∨ kk = 2 by omega) with rfl | rfl | rfl
              · subst e_74
                refine lv_tableIn (x := nI 0) hx hb dX5_best_74 (by decide) (by decide) (off := 26) (by decide) (tgt := 100) (by decide) ?_
                refine lv_aload_n hx hb dX5_best_100 rfl (lv_at hl 3 rfl) ?_
                refine va_get (D := G.1) (ci := 5) (v := .ref (aJ 0)) (C := RX5) (T := TX5) (N := 6) hx hb hts inX5 hown hK.1 hP 0 rfl rfl 3 (by decide) fl29 (fun _ h9 => h9) rfl dX5_best_101 ?_
                refine va_get (D := G.1) (ci := 0) (v := .ref (aJ 4)) (C := RX0) (T := TX0) (N := 8) hx hb hts inX0 hown hK.1 hP 8 rfl rfl 3 (by decide) fl169 (fun _ h9 => h9) rfl dX5_best_104 ?_
                refine lv_iload hx hb dX5_best_107 (lv_at hl 0 rfl) ?_
                refine x_iald hx hb hK.1 hP 9 0 (n := 1152) (f := us.1) rfl rfl (k := slotN j k n0) (slotN_lt hj hk hn8) (by omega) dX5_best_109 ?_
                refine x_top (y := cLeast (FJ 0) (FJ 1) (FJ 2) σ τ n0) (hus.1.1) ?_
                refine x_top (y := aBest (FJ 0) (FJ 1) (FJ 2) (bArg so (nI j) (nI k) (nI n0) (nI 0)) (nI 0)) (by obtain ⟨hnf, DD, dd1, dd2, dd3⟩ := (hcl.resolve_left (fun q => c_67 q.2.1)); rw [bArg_4 hσ hτ ⟨fun e => hjk ((nI_eq (by omega) (by omega)).mp e), ⟨fun q => absurd ((nI_ltI (by omega) (by omega)).mp q) (by omega), fun q => absurd ((nI_ltI (by omega) (by omega)).mp q) (by omega)⟩, by decide, by decide⟩, nI_clamp (by omega)]; exact dd2.trans (dd3.symm.trans ((if_neg (by rw [dd3]; exact fun q => absurd ((nI_eq (by omega) (by omega)).mp q) (by omega))).trans (if_pos rfl)).symm)) ?_
                exact W.iret (v := aBest (FJ 0) (FJ 1) (FJ 2) (bArg so (nI j) (nI k) (nI n0) (nI 0)) (nI 0)) hx hb hr (fun t9 ht9 hW9 => ⟨⟨us, rfl, jOk_put hJk hj hk hn1 hsoj hsok hus.1 hus.2, by rw [ht9]; exact hP, hD⟩, hS.F ht9⟩) hS.2.2 dX5_best_110
              · subst e_74
                refine lv_tableIn (x := nI 1) hx hb dX5_best_74 (by decide) (by decide) (off := 37) (by decide) (tgt := 111) (by decide) ?_
                refine lv_aload_n hx hb dX5_best_111 rfl (lv_at hl 3 rfl) ?_
                refine va_get (D := G.1) (ci := 5) (v := .ref (aJ 0)) (C := RX5) (T := TX5) (N := 6) hx hb hts inX5 hown hK.1 hP 0 rfl rfl 3 (by decide) fl29 (fun _ h9 => h9) rfl dX5_best_112 ?_
                refine va_get (D := G.1) (ci := 0) (v := .ref (aJ 5)) (C := RX0) (T := TX0) (N := 8) hx hb hts inX0 hown hK.1 hP 8 rfl rfl 4 (by decide) fl172 (fun _ h9 => h9) rfl dX5_best_115 ?_
                refine lv_iload hx hb dX5_best_118 (lv_at hl 0 rfl) ?_
                refine x_iald hx hb hK.1 hP 10 0 (n := 1152) (f := us.2.1) rfl rfl (k := slotN j k n0) (slotN_lt hj hk hn8) (by omega) dX5_best_120 ?_
                refine x_top (y := aBest (FJ 0) (FJ 1) (FJ 2) (bArg so (nI j) (nI k) (nI n0) (nI 1)) (nI 1)) (by obtain ⟨hnf, DD, dd1, dd2, dd3⟩ := (hcl.resolve_left (fun q => c_67 q.2.1)); rw [bArg_4 hσ hτ ⟨fun e => hjk ((nI_eq (by omega) (by omega)).mp e), ⟨fun q => absurd ((nI_ltI (by omega) (by omega)).mp q) (by omega), fun q => absurd ((nI_ltI (by omega) (by omega)).mp q) (by omega)⟩, by decide, by decide⟩, nI_clamp (by omega)]; exact (hus.1.2 hnf).1.trans ((if_neg (by rw [dd3]; exact fun q => absurd ((nI_eq (by omega) (by omega)).mp q) (by omega))).trans ((if_neg (by decide)).trans (if_pos rfl))).symm) ?_
                exact W.iret (v := aBest (FJ 0) (FJ 1) (FJ 2) (bArg so (nI j) (nI k) (nI n0) (nI 1)) (nI 1)) hx hb hr (fun t9 ht9 hW9 => ⟨⟨us, rfl, jOk_put hJk hj hk hn1 hsoj hsok hus.1 hus.2, by rw [ht9]; exact hP, hD⟩, hS.F ht9⟩) hS.2.2 dX5_best_121
              · subst e_74
                refine lv_tableIn (x := nI 2) hx hb dX5_best_74 (by decide) (by decide) (off := 48) (by decide) (tgt := 122) (by decide) ?_
                refine lv_aload_n hx hb dX5_best_122 rfl (lv_at hl 3 rfl) ?_
                refine va_get (D := G.1) (ci := 5) (v := .ref (aJ 0)) (C := RX5) (T := TX5) (N := 6) hx hb hts inX5 hown hK.1 hP 0 rfl rfl 3 (by decide) fl29 (fun _ h9 => h9) rfl dX5_best_123 ?_
                refine va_get (D := G.1) (ci := 0) (v := .ref (aJ 6)) (C := RX0) (T := TX0) (N := 8) hx hb hts inX0 hown hK.1 hP 8 rfl rfl 5 (by decide) fl175 (fun _ h9 => h9) rfl dX5_best_126 ?_
                refine lv_iload hx hb dX5_best_129 (lv_at hl 0 rfl) ?_
                refine x_iald hx hb hK.1 hP 11 0 (n := 1152) (f := us.2.2.1) rfl rfl (k := slotN j k n0) (slotN_lt hj hk hn8) (by omega) dX5_best_131 ?_
                refine x_top (y := aBest (FJ 0) (FJ 1) (FJ 2) (bArg so (nI j) (nI k) (nI n0) (nI 2)) (nI 2)) (by obtain ⟨hnf, DD, dd1, dd2, dd3⟩ := (hcl.resolve_left (fun q => c_67 q.2.1)); rw [bArg_4 hσ hτ ⟨fun e => hjk ((nI_eq (by omega) (by omega)).mp e), ⟨fun q => absurd ((nI_ltI (by omega) (by omega)).mp q) (by omega), fun q => absurd ((nI_ltI (by omega) (by omega)).mp q) (by omega)⟩, by decide, by decide⟩, nI_clamp (by omega)]; exact (hus.1.2 hnf).2.trans ((if_neg (by rw [dd3]; exact fun q => absurd ((nI_eq (by omega) (by omega)).mp q) (by omega))).trans ((if_neg (by decide)).trans (if_neg (by decide)))).symm) ?_
                exact W.iret (v := aBest (FJ 0) (FJ 1) (FJ 2) (bArg so (nI j) (nI k) (nI n0) (nI 2)) (nI 2)) hx hb hr (fun t9 ht9 hW9 => ⟨⟨us, rfl, jOk_put hJk hj hk hn1 hsoj hsok hus.1 hus.2, by rw [ht9]; exact hP, hD⟩, hS.F ht9⟩) hS.2.2 dX5_best_132
            · refine lv_tableOut (tgt := 133) hx hb dX5_best_74 h_74 (by decide) ?_
              refine lv_iconst (v := (-1)) hx hb dX5_best_133 (by decide) ?_
              refine x_top (y := aBest (FJ 0) (FJ 1) (FJ 2) (bArg so (nI j) (nI k) (nI n0) w) w) (by rw [bArg_3 hσ hτ (fun q => sw_ok h_74 ⟨q.2.2.1, q.2.2.2⟩)]; rfl) ?_
              exact W.iret (v := aBest (FJ 0) (FJ 1) (FJ 2) (bArg so (nI j) (nI k) (nI n0) w) w) hx hb hr (fun t9 ht9 hW9 => ⟨⟨us, rfl, jOk_put hJk hj hk hn1 hsoj hsok hus.1 hus.2, by rw [ht9]; exact hP, hD⟩, hS.F ht9⟩) hS.2.2 dX5_best_134
          · refine lv_iconst (v := (-1)) hx hb dX5_best_70 (by decide) ?_
            refine x_top (y := aBest (FJ 0) (FJ 1) (FJ 2) (bArg so (nI j) (nI k) (nI n0) w) w) (best_far hσ hτ hn8 (hcl.resolve_right (fun q => cl_never q.2 c_67)).2.2) ?_
            exact W.iret (v := aBest (FJ 0) (FJ 1) (FJ 2) (bArg so (nI j) (nI k) (nI n0) w) w) hx hb hr (fun t9 ht9 hW9 => ⟨⟨us, rfl, jOk_put hJk hj hk hn1 hsoj hsok hus.1 hus.2, by rw [ht9]; exact hP, hD⟩, hS.F ht9⟩) hS.2.2 dX5_best_71
        · have hJ : bArg so (nI j) (nI k) n w = none := bArg_3 hσ hτ (fun q => (wi_0 c_36).elim q.2.1.1 q.2.1.2)
          refine lv_iconst (v := (-1)) hx hb dX5_best_39 (by decide) ?_
          refine x_top (y := aBest (FJ 0) (FJ 1) (FJ 2) (bArg so (nI j) (nI k) n w) w) (by rw [hJ]; rfl) ?_
          exact W.iret (v := aBest (FJ 0) (FJ 1) (FJ 2) (bArg so (nI j) (nI k) n w) w) hx hb hr (fun t9 ht9 hW9 => ⟨⟨(RJ 3, RJ 4, RJ 5, RJ 6, RJ 7), rfl, hJk, by rw [ht9]; exact hP, hD⟩, hS.F ht9⟩) hS.2.2 dX5_best_40
