set_option maxHeartbeats 4000000 in
set_option maxRecDepth 100000 in
theorem c_X6_playsX (l : Launch) (G : mx_G) (ad : Nat → Nat) (F : Nat → Int32) (R : Nat → Nat → Int32) (j : Nat) (σ : Sg) (hs : j < 12) (hm : moSg R j σ) (ok : sgOk σ) (sz : Nat) : mx_EF l yX6_plays wsX6_plays 2 44 0 0 G [.ref (ad 0), .int (nI j), .ref (ad 22), .ref (ad 24), .ref (ad 26)] sz (MW G ad F R) (fun _ : (Nat → Int32) × (Nat → Int32) × (Nat → Int32) => none) (fun u : (Nat → Int32) × (Nat → Int32) × (Nat → Int32) => playOk σ (gPB σ) u.1 u.2.1 u.2.2) (fun u : (Nat → Int32) × (Nat → Int32) × (Nat → Int32) => MW G ad F (va_up (va_up (va_up R 21 u.1) 23 u.2.1) 25 u.2.2)) := by
  refine Met.ofW (cc := cX6_plays) (maxL := 9) (ret := none) (by decide) rfl ?_
  intro p e s m args below meth c s₁ BB hml hv
  obtain ⟨rfl, ⟨hsz, hP, hD0⟩, hK⟩ := hv
  have hx := BB.exec
  have hb := BB.bytes
  have hr := BB.returns
  have hts := atoms_spec (ws := wsX6_plays) BB.pre
  have hown : s.vm.findClass RX6 = some m.cls := findClass_of_methodNamed BB.named
  have hlocks := BB.notSynchronized
  subst hsz
  have hD := hD0.self (sz := s.heap.size)
  have hA : ∀ q : Nat, s.heap.size ≤ q → va_A (MW G ad F R) s.heap.size q := fun q h => Or.inr h
  have hS : va_S (va_A (MW G ad F R) s.heap.size) s.heap s.heap [] := va_S.rf
  obtain ⟨m1, m2, m3, m4, m5, m6, m7, m8, m9, m10, m11⟩ := id hm
  obtain ⟨hB2, hB64, hAE, hEB, hT1, hT4, hPB, hP1, hP16, hC, hst, hmo⟩ := id ok
  have hpb := gPB_le ok
  have fl32 := hts (.fieldLink RX6 32 "MixDeskModel" "phrase" "[I") (by decide +kernel)
  have fl35 := hts (.fieldLink RX6 35 "MixDeskModel" "beats" "[I") (by decide +kernel)
  have inX6 : ∀ w ∈ wsX60, w ∈ wsX6_plays := by decide +kernel
  have hl := lv_entry ([.ref (ad 0), .int (nI j), .ref (ad 22), .ref (ad 24), .ref (ad 26)]) (n := 9) (Nat.le_of_ble_eq_true rfl)
  rw [lg_entry_eq]
  generalize (lg_sl ([.ref (ad 0), .int (nI j), .ref (ad 22), .ref (ad 24), .ref (ad 26)]) ++ List.replicate (9 - (lg_sl ([.ref (ad 0), .int (nI j), .ref (ad 22), .ref (ad 24), .ref (ad 26)])).length) Slot.unset).toArray = ls at hl ⊢
  have hl : lv_has ls 9 [(0, .ref (ad 0)), (1, .int (nI j)), (2, .ref (ad 22)), (3, .ref (ad 24)), (4, .ref (ad 26))] := hl
  refine lv_iconst (v := nI 0) hx hb dX6_plays_0 (by decide) ?_
  refine lv_istore (lv' := [(5, .int (nI 0)), (0, .ref (ad 0)), (1, .int (nI j)), (2, .ref (ad 22)), (3, .ref (ad 24)), (4, .ref (ad 26))]) hx hb dX6_plays_1 hl (by decide) rfl (fun ls hl => ?_)
  have lp3 : ∀ (nn : Nat) (q : Nat) (RW : Nat → Int32) (BK : Nat → Int32) (PH : Nat → Int32), gPB σ - q < nn → (q ≤ gPB σ) → (playOk σ q RW BK PH) → ∀ (H : Heap) (locs : List Loc), va_P G.1 vwCl (MW G ad F (va_up (va_up (va_up R 21 RW) 23 BK) 25 PH)) H → va_D (va_A (MW G ad F R) s.heap.size) (MW G ad F (va_up (va_up (va_up R 21 RW) 23 BK) 25 PH)) → va_S (va_A (MW G ad F R) s.heap.size) s.heap H locs → ∀ ls : Array Slot, lv_has ls 9 [(0, .ref (ad 0)), (1, .int (nI j)), (2, .ref (ad 22)), (3, .ref (ad 24)), (4, .ref (ad 26)), (5, .int (nI q))] → mx_WE l wsX6_plays 2 44 0 0 G p e s m (([.ref (ad 0), .int (nI j), .ref (ad 22), .ref (ad 24), .ref (ad 26)] : List Value).toArray) below meth c (MW G ad F R) (fun _ : (Nat → Int32) × (Nat → Int32) × (Nat → Int32) => none) (fun u : (Nat → Int32) × (Nat → Int32) × (Nat → Int32) => playOk σ (gPB σ) u.1 u.2.1 u.2.2) (fun u : (Nat → Int32) × (Nat → Int32) × (Nat → Int32) => MW G ad F (va_up (va_up (va_up R 21 u.1) 23 u.2.1) 25 u.2.2)) H locs 0 0 (F0 m 3 ls []) := by
    intro nn
    induction nn with
    | zero => intro q RW BK PH hmu; exact absurd hmu (Nat.not_lt_zero _)
    | succ nn ih3 =>
      intro q RW BK PH hmu hq hpl H locs hP hD hS ls hl
      refine lv_iload hx hb dX6_plays_3 (lv_at hl 5 rfl) ?_
      refine lv_aload_n hx hb dX6_plays_5 rfl (lv_at hl 0 rfl) ?_
      refine lv_iload_n hx hb dX6_plays_6 rfl (lv_at hl 1 rfl) ?_
      refine mx_callRO (v := .int (nI (gPB σ))) (va_runV (As := [.int (nI j)]) (rest := [.int (nI q)]) ⟨hx, hb, hml, hown, hts⟩ (c_X6_playedBars l G ad F (va_up (va_up (va_up R 21 RW) 23 BK) 25 PH) j σ  hs hm ok ) (cwV 1 hts gX6_plays_X6_playedBars rfl rfl rfl (by decide +kernel) ⟨Nat.le_of_ble_eq_true rfl, Nat.le_of_ble_eq_true rfl⟩) (mx_preV hK hP (va_recv hK.1 hP (ci := 6) (q0 := 0) rfl rfl)) rfl rfl hl.1 rfl (lv_room (Nat.le_of_ble_eq_true rfl)) dX6_plays_7 ⟨Nat.zero_le _, Nat.zero_le _⟩) ?_
      refine x_icmp_ge (tgt := 118) hx hb (by omega) (by omega) dX6_plays_10 (by decide) (fun c_10 => ?_) (fun c_10 => ?_)
      · exact W.vret hx hb hr (fun t9 ht9 hW9 => ⟨⟨(RW, BK, PH), rfl, (show q = gPB σ by omega) ▸ hpl, by rw [ht9]; exact hP, hD⟩, hS.F ht9⟩) hS.2.2 dX6_plays_118
      · refine lv_aload_n hx hb dX6_plays_13 rfl (lv_at hl 0 rfl) ?_
        refine lv_iload_n hx hb dX6_plays_14 rfl (lv_at hl 1 rfl) ?_
        refine lv_iload hx hb dX6_plays_15 (lv_at hl 5 rfl) ?_
        refine mx_callRO (v := .int (nI (gBar σ q))) (va_runV (As := [.int (nI j), .int (nI q)]) (rest := []) ⟨hx, hb, hml, hown, hts⟩ (c_X6_barOf l G ad F (va_up (va_up (va_up R 21 RW) 23 BK) 25 PH) j σ q hs hm ok (by omega)) (cwV 2 hts gX6_plays_X6_barOf rfl rfl rfl (by decide +kernel) ⟨Nat.le_of_ble_eq_true rfl, Nat.le_of_ble_eq_true rfl⟩) (mx_preV hK hP (va_recv hK.1 hP (ci := 6) (q0 := 0) rfl rfl)) rfl rfl hl.1 rfl (lv_room (Nat.le_of_ble_eq_true rfl)) dX6_plays_17 ⟨Nat.zero_le _, Nat.zero_le _⟩) ?_
        refine lv_istore (lv' := [(6, .int (nI (gBar σ q))), (0, .ref (ad 0)), (1, .int (nI j)), (2, .ref (ad 22)), (3, .ref (ad 24)), (4, .ref (ad 26)), (5, .int (nI q))]) hx hb dX6_plays_20 hl (by decide) rfl (fun ls hl => ?_)
        have hbl := gBar_lt ok (show q < gPB σ by omega)
        have hfl := gFst_le ok (gBar σ q)
        refine lv_aload_n hx hb dX6_plays_22 rfl (lv_at hl 1 rfl) ?_
        refine lv_iload_n hx hb dX6_plays_23 rfl (lv_at hl 2 rfl) ?_
        refine lv_iload hx hb dX6_plays_24 (lv_at hl 0 rfl) ?_
        refine mx_callRO (v := .int (nI (gFst σ (gBar σ q)))) (va_runV (As := [.int (nI j), .int (nI (gBar σ q))]) (rest := []) ⟨hx, hb, hml, hown, hts⟩ (c_X6_firstBeat l G ad F (va_up (va_up (va_up R 21 RW) 23 BK) 25 PH) j σ (gBar σ q) hs hm ok (by omega)) (cwV 2 hts gX6_plays_X6_firstBeat rfl rfl rfl (by decide +kernel) ⟨Nat.le_of_ble_eq_true rfl, Nat.le_of_ble_eq_true rfl⟩) (mx_preV hK hP (va_recv hK.1 hP (ci := 6) (q0 := 0) rfl rfl)) rfl rfl hl.1 rfl (lv_room (Nat.le_of_ble_eq_true rfl)) dX6_plays_26 ⟨Nat.zero_le _, Nat.zero_le _⟩) ?_
        refine lv_istore (lv' := [(7, .int (nI (gFst σ (gBar σ q)))), (6, .int (nI (gBar σ q))), (0, .ref (ad 0)), (1, .int (nI j)), (2, .ref (ad 22)), (3, .ref (ad 24)), (4, .ref (ad 26)), (5, .int (nI q))]) hx hb dX6_plays_29 hl (by decide) rfl (fun ls hl => ?_)
        refine lv_iconst (v := nI 0) hx hb dX6_plays_31 (by decide) ?_
        refine lv_istore (lv' := [(8, .int (nI 0)), (7, .int (nI (gFst σ (gBar σ q)))), (6, .int (nI (gBar σ q))), (0, .ref (ad 0)), (1, .int (nI j)), (2, .ref (ad 22)), (3, .ref (ad 24)), (4, .ref (ad 26)), (5, .int (nI q))]) hx hb dX6_plays_32 hl (by decide) rfl (fun ls hl => ?_)
        have lp34 : ∀ (nn : Nat) (k : Nat) (RW2 : Nat → Int32), 4 - k < nn → (k ≤ 4) → (∀ i, i < 4 * q + k → RW2 i = gRow σ i) → ∀ (H : Heap) (locs : List Loc), va_P G.1 vwCl (MW G ad F (va_up (va_up (va_up R 21 RW2) 23 BK) 25 PH)) H → va_D (va_A (MW G ad F R) s.heap.size) (MW G ad F (va_up (va_up (va_up R 21 RW2) 23 BK) 25 PH)) → va_S (va_A (MW G ad F R) s.heap.size) s.heap H locs → ∀ ls : Array Slot, lv_has ls 9 [(0, .ref (ad 0)), (1, .int (nI j)), (2, .ref (ad 22)), (3, .ref (ad 24)), (4, .ref (ad 26)), (5, .int (nI q)), (6, .int (nI (gBar σ q))), (7, .int (nI (gFst σ (gBar σ q)))), (8, .int (nI k))] → mx_WE l wsX6_plays 2 44 0 0 G p e s m (([.ref (ad 0), .int (nI j), .ref (ad 22), .ref (ad 24), .ref (ad 26)] : List Value).toArray) below meth c (MW G ad F R) (fun _ : (Nat → Int32) × (Nat → Int32) × (Nat → Int32) => none) (fun u : (Nat → Int32) × (Nat → Int32) × (Nat → Int32) => playOk σ (gPB σ) u.1 u.2.1 u.2.2) (fun u : (Nat → Int32) × (Nat → Int32) × (Nat → Int32) => MW G ad F (va_up (va_up (va_up R 21 u.1) 23 u.2.1) 25 u.2.2)) H locs 0 0 (F0 m 34 ls []) := by
          intro nn
          induction nn with
          | zero => intro k RW2 hmu; exact absurd hmu (Nat.not_lt_zero _)
          | succ nn ih34 =>
            intro k RW2 hmu hk hrow H locs hP hD hS ls hl
            refine lv_iload hx hb dX6_plays_34 (lv_at hl 8 rfl) ?_
            refine lv_iconst (v := nI 4) hx hb dX6_plays_36 (by decide) ?_
            refine x_icmp_ge (tgt := 65) hx hb (by omega) (by omega) dX6_plays_37 (by decide) (fun c_37 => ?_) (fun c_37 => ?_)
            · have hCb := hC (gBar σ q)
              have hmd := Nat.mod_lt (gBar σ q) (show 0 < gPh σ by omega)
              refine lv_aload_n hx hb dX6_plays_65 rfl (lv_at hl 3 rfl) ?_
              refine lv_iload hx hb dX6_plays_66 (lv_at hl 5 rfl) ?_
              refine lv_aload_n hx hb dX6_plays_68 rfl (lv_at hl 0 rfl) ?_
              refine va_get (D := G.1) (ci := 6) (v := .ref (ad 9)) (C := RX6) (T := TX6) (N := 36) hx hb hts inX6 hown hK.1 hP 0 rfl rfl 8 (by decide) fl35 (fun _ h9 => h9) rfl dX6_plays_69 ?_
              refine lv_bipush (v := nI 64) hx hb dX6_plays_72 (by decide) ?_
              refine lv_iload_n hx hb dX6_plays_74 rfl (lv_at hl 1 rfl) ?_
              refine x_imul (r := 64 * j) hx hb dX6_plays_75 (rfl) ?_
              refine lv_iload hx hb dX6_plays_76 (lv_at hl 6 rfl) ?_
              refine x_iadd (r := 64 * j + gBar σ q) hx hb dX6_plays_78 (rfl) ?_
              refine x_iald hx hb hK.1 hP 9 0 (n := 768) (f := R 8) rfl rfl (k := 64 * j + gBar σ q) (by omega) (by omega) dX6_plays_79 ?_
              refine x_top (y := nI (gC σ (gBar σ q))) (m8 (gBar σ q) (by omega)) ?_
              refine lv_iconst (v := nI 4) hx hb dX6_plays_80 (by decide) ?_
              refine x_icmp_ge (tgt := 88) hx hb (by omega) (by omega) dX6_plays_81 (by decide) (fun c_81 => ?_) (fun c_81 => ?_)
              · refine lv_iconst (v := nI 0) hx hb dX6_plays_88 (by decide) ?_
                refine x_zast hx hb hK.1 hP hD hS 19 1 (n := 64) (f := BK) rfl rfl (k := q) (by omega) (by omega) dX6_plays_89 (MW G ad F (va_up (va_up (va_up R 21 RW2) 25 PH) 23 (upd BK q (nI 0)))) rfl (fun H locs hP hD hS => ?_)
                refine lv_aload hx hb dX6_plays_90 (lv_at hl 4 rfl) ?_
                refine lv_iload hx hb dX6_plays_92 (lv_at hl 5 rfl) ?_
                refine lv_iload hx hb dX6_plays_94 (lv_at hl 6 rfl) ?_
                refine lv_aload_n hx hb dX6_plays_96 rfl (lv_at hl 0 rfl) ?_
                refine va_get (D := G.1) (ci := 6) (v := .ref (ad 8)) (C := RX6) (T := TX6) (N := 36) hx hb hts inX6 hown hK.1 hP 0 rfl rfl 7 (by decide) fl32 (fun _ h9 => h9) rfl dX6_plays_97 ?_
                refine lv_iload_n hx hb dX6_plays_100 rfl (lv_at hl 1 rfl) ?_
                refine x_iald hx hb hK.1 hP 8 0 (n := 12) (f := R 7) rfl rfl (k := j) (by omega) (by omega) dX6_plays_101 ?_
                refine x_top (y := nI (gPh σ)) (m7) ?_
                refine x_irem (r := gBar σ q % gPh σ) hx hb dX6_plays_102 (by omega) (by omega) (by omega) (rfl) ?_
                refine x_if_ne (tgt := 110) hx hb (by omega) dX6_plays_103 (by decide) (fun c_103 => ?_) (fun c_103 => ?_)
                · refine lv_iconst (v := nI 0) hx hb dX6_plays_110 (by decide) ?_
                  refine x_zast hx hb hK.1 hP hD hS 21 1 (n := 64) (f := PH) rfl rfl (k := q) (by omega) (by omega) dX6_plays_111 (MW G ad F (va_up (va_up (va_up R 21 RW2) 23 (upd BK q (nI 0))) 25 (upd PH q (nI 0)))) rfl (fun H locs hP hD hS => ?_)
                  refine x_iinc (lv' := [(5, .int (nI (q + 1))), (0, .ref (ad 0)), (1, .int (nI j)), (2, .ref (ad 22)), (3, .ref (ad 24)), (4, .ref (ad 26)), (6, .int (nI (gBar σ q))), (7, .int (nI (gFst σ (gBar σ q)))), (8, .int (nI k))]) hx hb dX6_plays_112 hl (k := 5) rfl (x_inc1 _) (by decide) rfl (fun ls hl => ?_)
                  refine lv_goto (tgt := 3) hx hb dX6_plays_115 (by decide) ?_
                  exact ih3 (q + 1) RW2 (upd BK q (nI 0)) (upd PH q (nI 0)) (by omega) (by omega) (play_s hpl (fun i hi => hrow i (by omega)) (by unfold gBrk; rw [if_neg (by omega)]) (by unfold gPhr; rw [if_neg c_103])) _ _ hP hD hS _ (lv_sub hl [1, 2, 3, 4, 5, 0] rfl)
                · refine lv_iconst (v := nI 1) hx hb dX6_plays_106 (by decide) ?_
                  refine lv_goto (tgt := 111) hx hb dX6_plays_107 (by decide) ?_
                  refine x_zast hx hb hK.1 hP hD hS 21 1 (n := 64) (f := PH) rfl rfl (k := q) (by omega) (by omega) dX6_plays_111 (MW G ad F (va_up (va_up (va_up R 21 RW2) 23 (upd BK q (nI 0))) 25 (upd PH q (nI 1)))) rfl (fun H locs hP hD hS => ?_)
                  refine x_iinc (lv' := [(5, .int (nI (q + 1))), (0, .ref (ad 0)), (1, .int (nI j)), (2, .ref (ad 22)), (3, .ref (ad 24)), (4, .ref (ad 26)), (6, .int (nI (gBar σ q))), (7, .int (nI (gFst σ (gBar σ q)))), (8, .int (nI k))]) hx hb dX6_plays_112 hl (k := 5) rfl (x_inc1 _) (by decide) rfl (fun ls hl => ?_)
                  refine lv_goto (tgt := 3) hx hb dX6_plays_115 (by decide) ?_
                  exact ih3 (q + 1) RW2 (upd BK q (nI 0)) (upd PH q (nI 1)) (by omega) (by omega) (play_s hpl (fun i hi => hrow i (by omega)) (by unfold gBrk; rw [if_neg (by omega)]) (by unfold gPhr; rw [if_pos c_103])) _ _ hP hD hS _ (lv_sub hl [1, 2, 3, 4, 5, 0] rfl)
              · refine lv_iconst (v := nI 1) hx hb dX6_plays_84 (by decide) ?_
                refine lv_goto (tgt := 89) hx hb dX6_plays_85 (by decide) ?_
                refine x_zast hx hb hK.1 hP hD hS 19 1 (n := 64) (f := BK) rfl rfl (k := q) (by omega) (by omega) dX6_plays_89 (MW G ad F (va_up (va_up (va_up R 21 RW2) 25 PH) 23 (upd BK q (nI 1)))) rfl (fun H locs hP hD hS => ?_)
                refine lv_aload hx hb dX6_plays_90 (lv_at hl 4 rfl) ?_
                refine lv_iload hx hb dX6_plays_92 (lv_at hl 5 rfl) ?_
                refine lv_iload hx hb dX6_plays_94 (lv_at hl 6 rfl) ?_
                refine lv_aload_n hx hb dX6_plays_96 rfl (lv_at hl 0 rfl) ?_
                refine va_get (D := G.1) (ci := 6) (v := .ref (ad 8)) (C := RX6) (T := TX6) (N := 36) hx hb hts inX6 hown hK.1 hP 0 rfl rfl 7 (by decide) fl32 (fun _ h9 => h9) rfl dX6_plays_97 ?_
                refine lv_iload_n hx hb dX6_plays_100 rfl (lv_at hl 1 rfl) ?_
                refine x_iald hx hb hK.1 hP 8 0 (n := 12) (f := R 7) rfl rfl (k := j) (by omega) (by omega) dX6_plays_101 ?_
                refine x_top (y := nI (gPh σ)) (m7) ?_
                refine x_irem (r := gBar σ q % gPh σ) hx hb dX6_plays_102 (by omega) (by omega) (by omega) (rfl) ?_
                refine x_if_ne (tgt := 110) hx hb (by omega) dX6_plays_103 (by decide) (fun c_103 => ?_) (fun c_103 => ?_)
                · refine lv_iconst (v := nI 0) hx hb dX6_plays_110 (by decide) ?_
                  refine x_zast hx hb hK.1 hP hD hS 21 1 (n := 64) (f := PH) rfl rfl (k := q) (by omega) (by omega) dX6_plays_111 (MW G ad F (va_up (va_up (va_up R 21 RW2) 23 (upd BK q (nI 1))) 25 (upd PH q (nI 0)))) rfl (fun H locs hP hD hS => ?_)
                  refine x_iinc (lv' := [(5, .int (nI (q + 1))), (0, .ref (ad 0)), (1, .int (nI j)), (2, .ref (ad 22)), (3, .ref (ad 24)), (4, .ref (ad 26)), (6, .int (nI (gBar σ q))), (7, .int (nI (gFst σ (gBar σ q)))), (8, .int (nI k))]) hx hb dX6_plays_112 hl (k := 5) rfl (x_inc1 _) (by decide) rfl (fun ls hl => ?_)
                  refine lv_goto (tgt := 3) hx hb dX6_plays_115 (by decide) ?_
                  exact ih3 (q + 1) RW2 (upd BK q (nI 1)) (upd PH q (nI 0)) (by omega) (by omega) (play_s hpl (fun i hi => hrow i (by omega)) (by unfold gBrk; rw [if_pos (by omega)]) (by unfold gPhr; rw [if_neg c_103])) _ _ hP hD hS _ (lv_sub hl [1, 2, 3, 4, 5, 0] rfl)
                · refine lv_iconst (v := nI 1) hx hb dX6_plays_106 (by decide) ?_
                  refine lv_goto (tgt := 111) hx hb dX6_plays_107 (by decide) ?_
                  refine x_zast hx hb hK.1 hP hD hS 21 1 (n := 64) (f := PH) rfl rfl (k := q) (by omega) (by omega) dX6_plays_111 (MW G ad F (va_up (va_up (va_up R 21 RW2) 23 (upd BK q (nI 1))) 25 (upd PH q (nI 1)))) rfl (fun H locs hP hD hS => ?_)
                  refine x_iinc (lv' := [(5, .int (nI (q + 1))), (0, .ref (ad 0)), (1, .int (nI j)), (2, .ref (ad 22)), (3, .ref (ad 24)), (4, .ref (ad 26)), (6, .int (nI (gBar σ q))), (7, .int (nI (gFst σ (gBar σ q)))), (8, .int (nI k))]) hx hb dX6_plays_112 hl (k := 5) rfl (x_inc1 _) (by decide) rfl (fun ls hl => ?_)
                  refine lv_goto (tgt := 3) hx hb dX6_plays_115 (by decide) ?_
                  exact ih3 (q + 1) RW2 (upd BK q (nI 1)) (upd PH q (nI 1)) (by omega) (by omega) (play_s hpl (fun i hi => hrow i (by omega)) (by unfold gBrk; rw [if_pos (by omega)]) (by unfold gPhr; rw [if_pos c_103])) _ _ hP hD hS _ (lv_sub hl [1, 2, 3, 4, 5, 0] rfl)
            · refine lv_aload_n hx hb dX6_plays_40 rfl (lv_at hl 2 rfl) ?_
              refine lv_iconst (v := nI 4) hx hb dX6_plays_41 (by decide) ?_
              refine lv_iload hx hb dX6_plays_42 (lv_at hl 5 rfl) ?_
              refine x_imul (r := 4 * q) hx hb dX6_plays_44 (rfl) ?_
              refine lv_iload hx hb dX6_plays_45 (lv_at hl 8 rfl) ?_
              refine x_iadd (r := 4 * q + k) hx hb dX6_plays_47 (rfl) ?_
              refine lv_aload_n hx hb dX6_plays_48 rfl (lv_at hl 0 rfl) ?_
              refine lv_iload_n hx hb dX6_plays_49 rfl (lv_at hl 1 rfl) ?_
              refine lv_iload hx hb dX6_plays_50 (lv_at hl 7 rfl) ?_
              refine lv_iload hx hb dX6_plays_52 (lv_at hl 8 rfl) ?_
              refine x_iadd (r := gFst σ (gBar σ q) + k) hx hb dX6_plays_54 (rfl) ?_
              refine mx_callRO (v := .int (gLast σ (gFst σ (gBar σ q) + k))) (va_runV (As := [.int (nI j), .int (nI (gFst σ (gBar σ q) + k))]) (rest := [.int (nI (4 * q + k)), .ref (ad 22)]) ⟨hx, hb, hml, hown, hts⟩ (c_X6_lasts l G ad F (va_up (va_up (va_up R 21 RW2) 23 BK) 25 PH) j σ (gFst σ (gBar σ q) + k) hs hm ok (by omega)) (cwV 2 hts gX6_plays_X6_lasts rfl rfl rfl (by decide +kernel) ⟨Nat.le_of_ble_eq_true rfl, Nat.le_of_ble_eq_true rfl⟩) (mx_preV hK hP (va_recv hK.1 hP (ci := 6) (q0 := 0) rfl rfl)) rfl rfl hl.1 rfl (lv_room (Nat.le_of_ble_eq_true rfl)) dX6_plays_55 ⟨Nat.zero_le _, Nat.zero_le _⟩) ?_
              refine x_iast hx hb hK.1 hP hD hS 17 0 (n := 256) (f := RW2) rfl rfl (k := 4 * q + k) (by omega) (by omega) dX6_plays_58 (MW G ad F (va_up (va_up (va_up R 23 BK) 25 PH) 21 (upd RW2 (4 * q + k) (gLast σ (gFst σ (gBar σ q) + k))))) rfl (fun H locs hP hD hS => ?_)
              refine x_iinc (lv' := [(8, .int (nI (k + 1))), (0, .ref (ad 0)), (1, .int (nI j)), (2, .ref (ad 22)), (3, .ref (ad 24)), (4, .ref (ad 26)), (5, .int (nI q)), (6, .int (nI (gBar σ q))), (7, .int (nI (gFst σ (gBar σ q))))]) hx hb dX6_plays_59 hl (k := 8) rfl (x_inc1 _) (by decide) rfl (fun ls hl => ?_)
              refine lv_goto (tgt := 34) hx hb dX6_plays_62 (by decide) ?_
              exact ih34 (k + 1) (upd RW2 (4 * q + k) (gLast σ (gFst σ (gBar σ q) + k))) (by omega) (by omega) (row_s (by omega) hrow rfl) _ _ hP hD hS _ (lv_sub hl [1, 2, 3, 4, 5, 6, 7, 8, 0] rfl)
        exact lp34 (4 - 0 + 1) 0 RW (Nat.lt_succ_self _) (by omega) (hpl.1) _ _ hP hD hS _ (lv_sub hl [3, 4, 5, 6, 7, 8, 2, 1, 0] rfl)
  exact lp3 (gPB σ - 0 + 1) 0 (R 21) (R 23) (R 25) (Nat.lt_succ_self _) (by omega) (play_0) _ _ hP hD hS _ (lv_sub hl [1, 2, 3, 4, 5, 0] rfl)

set_option maxHeartbeats 4000000 in
set_option maxRecDepth 100000 in
theorem c_X6_playsY (l : Launch) (G : mx_G) (ad : Nat → Nat) (F : Nat → Int32) (R : Nat → Nat → Int32) (j : Nat) (σ : Sg) (hs : j < 12) (hm : moSg R j σ) (ok : sgOk σ) (sz : Nat) : mx_EF l yX6_plays wsX6_plays 2 44 0 0 G [.ref (ad 0), .int (nI j), .ref (ad 23), .ref (ad 25), .ref (ad 27)] sz (MW G ad F R) (fun _ : (Nat → Int32) × (Nat → Int32) × (Nat → Int32) => none) (fun u : (Nat → Int32) × (Nat → Int32) × (Nat → Int32) => playOk σ (gPB σ) u.1 u.2.1 u.2.2) (fun u : (Nat → Int32) × (Nat → Int32) × (Nat → Int32) => MW G ad F (va_up (va_up (va_up R 22 u.1) 24 u.2.1) 26 u.2.2)) := by
  refine Met.ofW (cc := cX6_plays) (maxL := 9) (ret := none) (by decide) rfl ?_
  intro p e s m args below meth c s₁ BB hml hv
  obtain ⟨rfl, ⟨hsz, hP, hD0⟩, hK⟩ := hv
  have hx := BB.exec
  have hb := BB.bytes
  have hr := BB.returns
  have hts := atoms_spec (ws := wsX6_plays) BB.pre
  have hown : s.vm.findClass RX6 = some m.cls := findClass_of_methodNamed BB.named
  have hlocks := BB.notSynchronized
  subst hsz
  have hD := hD0.self (sz := s.heap.size)
  have hA : ∀ q : Nat, s.heap.size ≤ q → va_A (MW G ad F R) s.heap.size q := fun q h => Or.inr h
  have hS : va_S (va_A (MW G ad F R) s.heap.size) s.heap s.heap [] := va_S.rf
  obtain ⟨m1, m2, m3, m4, m5, m6, m7, m8, m9, m10, m11⟩ := id hm
  obtain ⟨hB2, hB64, hAE, hEB, hT1, hT4, hPB, hP1, hP16, hC, hst, hmo⟩ := id ok
  have hpb := gPB_le ok
  have fl32 := hts (.fieldLink RX6 32 "MixDeskModel" "phrase" "[I") (by decide +kernel)
  have fl35 := hts (.fieldLink RX6 35 "MixDeskModel" "beats" "[I") (by decide +kernel)
  have inX6 : ∀ w ∈ wsX60, w ∈ wsX6_plays := by decide +kernel
  have hl := lv_entry ([.ref (ad 0), .int (nI j), .ref (ad 23), .ref (ad 25), .ref (ad 27)]) (n := 9) (Nat.le_of_ble_eq_true rfl)
  rw [lg_entry_eq]
  generalize (lg_sl ([.ref (ad 0), .int (nI j), .ref (ad 23), .ref (ad 25), .ref (ad 27)]) ++ List.replicate (9 - (lg_sl ([.ref (ad 0), .int (nI j), .ref (ad 23), .ref (ad 25), .ref (ad 27)])).length) Slot.unset).toArray = ls at hl ⊢
  have hl : lv_has ls 9 [(0, .ref (ad 0)), (1, .int (nI j)), (2, .ref (ad 23)), (3, .ref (ad 25)), (4, .ref (ad 27))] := hl
  refine lv_iconst (v := nI 0) hx hb dX6_plays_0 (by decide) ?_
  refine lv_istore (lv' := [(5, .int (nI 0)), (0, .ref (ad 0)), (1, .int (nI j)), (2, .ref (ad 23)), (3, .ref (ad 25)), (4, .ref (ad 27))]) hx hb dX6_plays_1 hl (by decide) rfl (fun ls hl => ?_)
  have lp3 : ∀ (nn : Nat) (q : Nat) (RW : Nat → Int32) (BK : Nat → Int32) (PH : Nat → Int32), gPB σ - q < nn → (q ≤ gPB σ) → (playOk σ q RW BK PH) → ∀ (H : Heap) (locs : List Loc), va_P G.1 vwCl (MW G ad F (va_up (va_up (va_up R 22 RW) 24 BK) 26 PH)) H → va_D (va_A (MW G ad F R) s.heap.size) (MW G ad F (va_up (va_up (va_up R 22 RW) 24 BK) 26 PH)) → va_S (va_A (MW G ad F R) s.heap.size) s.heap H locs → ∀ ls : Array Slot, lv_has ls 9 [(0, .ref (ad 0)), (1, .int (nI j)), (2, .ref (ad 23)), (3, .ref (ad 25)), (4, .ref (ad 27)), (5, .int (nI q))] → mx_WE l wsX6_plays 2 44 0 0 G p e s m (([.ref (ad 0), .int (nI j), .ref (ad 23), .ref (ad 25), .ref (ad 27)] : List Value).toArray) below meth c (MW G ad F R) (fun _ : (Nat → Int32) × (Nat → Int32) × (Nat → Int32) => none) (fun u : (Nat → Int32) × (Nat → Int32) × (Nat → Int32) => playOk σ (gPB σ) u.1 u.2.1 u.2.2) (fun u : (Nat → Int32) × (Nat → Int32) × (Nat → Int32) => MW G ad F (va_up (va_up (va_up R 22 u.1) 24 u.2.1) 26 u.2.2)) H locs 0 0 (F0 m 3 ls []) := by
    intro nn
    induction nn with
    | zero => intro q RW BK PH hmu; exact absurd hmu (Nat.not_lt_zero _)
    | succ nn ih3 =>
      intro q RW BK PH hmu hq hpl H locs hP hD hS ls hl
      refine lv_iload hx hb dX6_plays_3 (lv_at hl 5 rfl) ?_
      refine lv_aload_n hx hb dX6_plays_5 rfl (lv_at hl 0 rfl) ?_
      refine lv_iload_n hx hb dX6_plays_6 rfl (lv_at hl 1 rfl) ?_
      refine mx_callRO (v := .int (nI (gPB σ))) (va_runV (As := [.int (nI j)]) (rest := [.int (nI q)]) ⟨hx, hb, hml, hown, hts⟩ (c_X6_playedBars l G ad F (va_up (va_up (va_up R 22 RW) 24 BK) 26 PH) j σ  hs hm ok ) (cwV 1 hts gX6_plays_X6_playedBars rfl rfl rfl (by decide +kernel) ⟨Nat.le_of_ble_eq_true rfl, Nat.le_of_ble_eq_true rfl⟩) (mx_preV hK hP (va_recv hK.1 hP (ci := 6) (q0 := 0) rfl rfl)) rfl rfl hl.1 rfl (lv_room (Nat.le_of_ble_eq_true rfl)) dX6_plays_7 ⟨Nat.zero_le _, Nat.zero_le _⟩) ?_
      refine x_icmp_ge (tgt := 118) hx hb (by omega) (by omega) dX6_plays_10 (by decide) (fun c_10 => ?_) (fun c_10 => ?_)
      · exact W.vret hx hb hr (fun t9 ht9 hW9 => ⟨⟨(RW, BK, PH), rfl, (show q = gPB σ by omega) ▸ hpl, by rw [ht9]; exact hP, hD⟩, hS.F ht9⟩) hS.2.2 dX6_plays_118
      · refine lv_aload_n hx hb dX6_plays_13 rfl (lv_at hl 0 rfl) ?_
        refine lv_iload_n hx hb dX6_plays_14 rfl (lv_at hl 1 rfl) ?_
        refine lv_iload hx hb dX6_plays_15 (lv_at hl 5 rfl) ?_
        refine mx_callRO (v := .int (nI (gBar σ q))) (va_runV (As := [.int (nI j), .int (nI q)]) (rest := []) ⟨hx, hb, hml, hown, hts⟩ (c_X6_barOf l G ad F (va_up (va_up (va_up R 22 RW) 24 BK) 26 PH) j σ q hs hm ok (by omega)) (cwV 2 hts gX6_plays_X6_barOf rfl rfl rfl (by decide +kernel) ⟨Nat.le_of_ble_eq_true rfl, Nat.le_of_ble_eq_true rfl⟩) (mx_preV hK hP (va_recv hK.1 hP (ci := 6) (q0 := 0) rfl rfl)) rfl rfl hl.1 rfl (lv_room (Nat.le_of_ble_eq_true rfl)) dX6_plays_17 ⟨Nat.zero_le _, Nat.zero_le _⟩) ?_
        refine lv_istore (lv' := [(6, .int (nI (gBar σ q))), (0, .ref (ad 0)), (1, .int (nI j)), (2, .ref (ad 23)), (3, .ref (ad 25)), (4, .ref (ad 27)), (5, .int (nI q))]) hx hb dX6_plays_20 hl (by decide) rfl (fun ls hl => ?_)
        have hbl := gBar_lt ok (show q < gPB σ by omega)
        have hfl := gFst_le ok (gBar σ q)
        refine lv_aload_n hx hb dX6_plays_22 rfl (lv_at hl 1 rfl) ?_
        refine lv_iload_n hx hb dX6_plays_23 rfl (lv_at hl 2 rfl) ?_
        refine lv_iload hx hb dX6_plays_24 (lv_at hl 0 rfl) ?_
        refine mx_callRO (v := .int (nI (gFst σ (gBar σ q)))) (va_runV (As := [.int (nI j), .int (nI (gBar σ q))]) (rest := []) ⟨hx, hb, hml, hown, hts⟩ (c_X6_firstBeat l G ad F (va_up (va_up (va_up R 22 RW) 24 BK) 26 PH) j σ (gBar σ q) hs hm ok (by omega)) (cwV 2 hts gX6_plays_X6_firstBeat rfl rfl rfl (by decide +kernel) ⟨Nat.le_of_ble_eq_true rfl, Nat.le_of_ble_eq_true rfl⟩) (mx_preV hK hP (va_recv hK.1 hP (ci := 6) (q0 := 0) rfl rfl)) rfl rfl hl.1 rfl (lv_room (Nat.le_of_ble_eq_true rfl)) dX6_plays_26 ⟨Nat.zero_le _, Nat.zero_le _⟩) ?_
        refine lv_istore (lv' := [(7, .int (nI (gFst σ (gBar σ q)))), (6, .int (nI (gBar σ q))), (0, .ref (ad 0)), (1, .int (nI j)), (2, .ref (ad 23)), (3, .ref (ad 25)), (4, .ref (ad 27)), (5, .int (nI q))]) hx hb dX6_plays_29 hl (by decide) rfl (fun ls hl => ?_)
        refine lv_iconst (v := nI 0) hx hb dX6_plays_31 (by decide) ?_
        refine lv_istore (lv' := [(8, .int (nI 0)), (7, .int (nI (gFst σ (gBar σ q)))), (6, .int (nI (gBar σ q))), (0, .ref (ad 0)), (1, .int (nI j)), (2, .ref (ad 23)), (3, .ref (ad 25)), (4, .ref (ad 27)), (5, .int (nI q))]) hx hb dX6_plays_32 hl (by decide) rfl (fun ls hl => ?_)
        have lp34 : ∀ (nn : Nat) (k : Nat) (RW2 : Nat → Int32), 4 - k < nn → (k ≤ 4) → (∀ i, i < 4 * q + k → RW2 i = gRow σ i) → ∀ (H : Heap) (locs : List Loc), va_P G.1 vwCl (MW G ad F (va_up (va_up (va_up R 22 RW2) 24 BK) 26 PH)) H → va_D (va_A (MW G ad F R) s.heap.size) (MW G ad F (va_up (va_up (va_up R 22 RW2) 24 BK) 26 PH)) → va_S (va_A (MW G ad F R) s.heap.size) s.heap H locs → ∀ ls : Array Slot, lv_has ls 9 [(0, .ref (ad 0)), (1, .int (nI j)), (2, .ref (ad 23)), (3, .ref (ad 25)), (4, .ref (ad 27)), (5, .int (nI q)), (6, .int (nI (gBar σ q))), (7, .int (nI (gFst σ (gBar σ q)))), (8, .int (nI k))] → mx_WE l wsX6_plays 2 44 0 0 G p e s m (([.ref (ad 0), .int (nI j), .ref (ad 23), .ref (ad 25), .ref (ad 27)] : List Value).toArray) below meth c (MW G ad F R) (fun _ : (Nat → Int32) × (Nat → Int32) × (Nat → Int32) => none) (fun u : (Nat → Int32) × (Nat → Int32) × (Nat → Int32) => playOk σ (gPB σ) u.1 u.2.1 u.2.2) (fun u : (Nat → Int32) × (Nat → Int32) × (Nat → Int32) => MW G ad F (va_up (va_up (va_up R 22 u.1) 24 u.2.1) 26 u.2.2)) H locs 0 0 (F0 m 34 ls []) := by
          intro nn
          induction nn with
          | zero => intro k RW2 hmu; exact absurd hmu (Nat.not_lt_zero _)
          | succ nn ih34 =>
            intro k RW2 hmu hk hrow H locs hP hD hS ls hl
            refine lv_iload hx hb dX6_plays_34 (lv_at hl 8 rfl) ?_
            refine lv_iconst (v := nI 4) hx hb dX6_plays_36 (by decide) ?_
            refine x_icmp_ge (tgt := 65) hx hb (by omega) (by omega) dX6_plays_37 (by decide) (fun c_37 => ?_) (fun c_37 => ?_)
            · have hCb := hC (gBar σ q)
              have hmd := Nat.mod_lt (gBar σ q) (show 0 < gPh σ by omega)
              refine lv_aload_n hx hb dX6_plays_65 rfl (lv_at hl 3 rfl) ?_
              refine lv_iload hx hb dX6_plays_66 (lv_at hl 5 rfl) ?_
              refine lv_aload_n hx hb dX6_plays_68 rfl (lv_at hl 0 rfl) ?_
              refine va_get (D := G.1) (ci := 6) (v := .ref (ad 9)) (C := RX6) (T := TX6) (N := 36) hx hb hts inX6 hown hK.1 hP 0 rfl rfl 8 (by decide) fl35 (fun _ h9 => h9) rfl dX6_plays_69 ?_
              refine lv_bipush (v := nI 64) hx hb dX6_plays_72 (by decide) ?_
              refine lv_iload_n hx hb dX6_plays_74 rfl (lv_at hl 1 rfl) ?_
              refine x_imul (r := 64 * j) hx hb dX6_plays_75 (rfl) ?_
              refine lv_iload hx hb dX6_plays_76 (lv_at hl 6 rfl) ?_
              refine x_iadd (r := 64 * j + gBar σ q) hx hb dX6_plays_78 (rfl) ?_
              refine x_iald hx hb hK.1 hP 9 0 (n := 768) (f := R 8) rfl rfl (k := 64 * j + gBar σ q) (by omega) (by omega) dX6_plays_79 ?_
              refine x_top (y := nI (gC σ (gBar σ q))) (m8 (gBar σ q) (by omega)) ?_
              refine lv_iconst (v := nI 4) hx hb dX6_plays_80 (by decide) ?_
              refine x_icmp_ge (tgt := 88) hx hb (by omega) (by omega) dX6_plays_81 (by decide) (fun c_81 => ?_) (fun c_81 => ?_)
              · refine lv_iconst (v := nI 0) hx hb dX6_plays_88 (by decide) ?_
                refine x_zast hx hb hK.1 hP hD hS 20 1 (n := 64) (f := BK) rfl rfl (k := q) (by omega) (by omega) dX6_plays_89 (MW G ad F (va_up (va_up (va_up R 22 RW2) 26 PH) 24 (upd BK q (nI 0)))) rfl (fun H locs hP hD hS => ?_)
                refine lv_aload hx hb dX6_plays_90 (lv_at hl 4 rfl) ?_
                refine lv_iload hx hb dX6_plays_92 (lv_at hl 5 rfl) ?_
                refine lv_iload hx hb dX6_plays_94 (lv_at hl 6 rfl) ?_
                refine lv_aload_n hx hb dX6_plays_96 rfl (lv_at hl 0 rfl) ?_
                refine va_get (D := G.1) (ci := 6) (v := .ref (ad 8)) (C := RX6) (T := TX6) (N := 36) hx hb hts inX6 hown hK.1 hP 0 rfl rfl 7 (by decide) fl32 (fun _ h9 => h9) rfl dX6_plays_97 ?_
                refine lv_iload_n hx hb dX6_plays_100 rfl (lv_at hl 1 rfl) ?_
                refine x_iald hx hb hK.1 hP 8 0 (n := 12) (f := R 7) rfl rfl (k := j) (by omega) (by omega) dX6_plays_101 ?_
                refine x_top (y := nI (gPh σ)) (m7) ?_
                refine x_irem (r := gBar σ q % gPh σ) hx hb dX6_plays_102 (by omega) (by omega) (by omega) (rfl) ?_
                refine x_if_ne (tgt := 110) hx hb (by omega) dX6_plays_103 (by decide) (fun c_103 => ?_) (fun c_103 => ?_)
                · refine lv_iconst (v := nI 0) hx hb dX6_plays_110 (by decide) ?_
                  refine x_zast hx hb hK.1 hP hD hS 22 1 (n := 64) (f := PH) rfl rfl (k := q) (by omega) (by omega) dX6_plays_111 (MW G ad F (va_up (va_up (va_up R 22 RW2) 24 (upd BK q (nI 0))) 26 (upd PH q (nI 0)))) rfl (fun H locs hP hD hS => ?_)
                  refine x_iinc (lv' := [(5, .int (nI (q + 1))), (0, .ref (ad 0)), (1, .int (nI j)), (2, .ref (ad 23)), (3, .ref (ad 25)), (4, .ref (ad 27)), (6, .int (nI (gBar σ q))), (7, .int (nI (gFst σ (gBar σ q)))), (8, .int (nI k))]) hx hb dX6_plays_112 hl (k := 5) rfl (x_inc1 _) (by decide) rfl (fun ls hl => ?_)
                  refine lv_goto (tgt := 3) hx hb dX6_plays_115 (by decide) ?_
                  exact ih3 (q + 1) RW2 (upd BK q (nI 0)) (upd PH q (nI 0)) (by omega) (by omega) (play_s hpl (fun i hi => hrow i (by omega)) (by unfold gBrk; rw [if_neg (by omega)]) (by unfold gPhr; rw [if_neg c_103])) _ _ hP hD hS _ (lv_sub hl [1, 2, 3, 4, 5, 0] rfl)
                · refine lv_iconst (v := nI 1) hx hb dX6_plays_106 (by decide) ?_
                  refine lv_goto (tgt := 111) hx hb dX6_plays_107 (by decide) ?_
                  refine x_zast hx hb hK.1 hP hD hS 22 1 (n := 64) (f := PH) rfl rfl (k := q) (by omega) (by omega) dX6_plays_111 (MW G ad F (va_up (va_up (va_up R 22 RW2) 24 (upd BK q (nI 0))) 26 (upd PH q (nI 1)))) rfl (fun H locs hP hD hS => ?_)
                  refine x_iinc (lv' := [(5, .int (nI (q + 1))), (0, .ref (ad 0)), (1, .int (nI j)), (2, .ref (ad 23)), (3, .ref (ad 25)), (4, .ref (ad 27)), (6, .int (nI (gBar σ q))), (7, .int (nI (gFst σ (gBar σ q)))), (8, .int (nI k))]) hx hb dX6_plays_112 hl (k := 5) rfl (x_inc1 _) (by decide) rfl (fun ls hl => ?_)
                  refine lv_goto (tgt := 3) hx hb dX6_plays_115 (by decide) ?_
                  exact ih3 (q + 1) RW2 (upd BK q (nI 0)) (upd PH q (nI 1)) (by omega) (by omega) (play_s hpl (fun i hi => hrow i (by omega)) (by unfold gBrk; rw [if_neg (by omega)]) (by unfold gPhr; rw [if_pos c_103])) _ _ hP hD hS _ (lv_sub hl [1, 2, 3, 4, 5, 0] rfl)
              · refine lv_iconst (v := nI 1) hx hb dX6_plays_84 (by decide) ?_
                refine lv_goto (tgt := 89) hx hb dX6_plays_85 (by decide) ?_
                refine x_zast hx hb hK.1 hP hD hS 20 1 (n := 64) (f := BK) rfl rfl (k := q) (by omega) (by omega) dX6_plays_89 (MW G ad F (va_up (va_up (va_up R 22 RW2) 26 PH) 24 (upd BK q (nI 1)))) rfl (fun H locs hP hD hS => ?_)
                refine lv_aload hx hb dX6_plays_90 (lv_at hl 4 rfl) ?_
                refine lv_iload hx hb dX6_plays_92 (lv_at hl 5 rfl) ?_
                refine lv_iload hx hb dX6_plays_94 (lv_at hl 6 rfl) ?_
                refine lv_aload_n hx hb dX6_plays_96 rfl (lv_at hl 0 rfl) ?_
                refine va_get (D := G.1) (ci := 6) (v := .ref (ad 8)) (C := RX6) (T := TX6) (N := 36) hx hb hts inX6 hown hK.1 hP 0 rfl rfl 7 (by decide) fl32 (fun _ h9 => h9) rfl dX6_plays_97 ?_
                refine lv_iload_n hx hb dX6_plays_100 rfl (lv_at hl 1 rfl) ?_
                refine x_iald hx hb hK.1 hP 8 0 (n := 12) (f := R 7) rfl rfl (k := j) (by omega) (by omega) dX6_plays_101 ?_
                refine x_top (y := nI (gPh σ)) (m7) ?_
                refine x_irem (r := gBar σ q % gPh σ) hx hb dX6_plays_102 (by omega) (by omega) (by omega) (rfl) ?_
                refine x_if_ne (tgt := 110) hx hb (by omega) dX6_plays_103 (by decide) (fun c_103 => ?_) (fun c_103 => ?_)
                · refine lv_iconst (v := nI 0) hx hb dX6_plays_110 (by decide) ?_
                  refine x_zast hx hb hK.1 hP hD hS 22 1 (n := 64) (f := PH) rfl rfl (k := q) (by omega) (by omega) dX6_plays_111 (MW G ad F (va_up (va_up (va_up R 22 RW2) 24 (upd BK q (nI 1))) 26 (upd PH q (nI 0)))) rfl (fun H locs hP hD hS => ?_)
                  refine x_iinc (lv' := [(5, .int (nI (q + 1))), (0, .ref (ad 0)), (1, .int (nI j)), (2, .ref (ad 23)), (3, .ref (ad 25)), (4, .ref (ad 27)), (6, .int (nI (gBar σ q))), (7, .int (nI (gFst σ (gBar σ q)))), (8, .int (nI k))]) hx hb dX6_plays_112 hl (k := 5) rfl (x_inc1 _) (by decide) rfl (fun ls hl => ?_)
                  refine lv_goto (tgt := 3) hx hb dX6_plays_115 (by decide) ?_
                  exact ih3 (q + 1) RW2 (upd BK q (nI 1)) (upd PH q (nI 0)) (by omega) (by omega) (play_s hpl (fun i hi => hrow i (by omega)) (by unfold gBrk; rw [if_pos (by omega)]) (by unfold gPhr; rw [if_neg c_103])) _ _ hP hD hS _ (lv_sub hl [1, 2, 3, 4, 5, 0] rfl)
                · refine lv_iconst (v := nI 1) hx hb dX6_plays_106 (by decide) ?_
                  refine lv_goto (tgt := 111) hx hb dX6_plays_107 (by decide) ?_
                  refine x_zast hx hb hK.1 hP hD hS 22 1 (n := 64) (f := PH) rfl rfl (k := q) (by omega) (by omega) dX6_plays_111 (MW G ad F (va_up (va_up (va_up R 22 RW2) 24 (upd BK q (nI 1))) 26 (upd PH q (nI 1)))) rfl (fun H locs hP hD hS => ?_)
                  refine x_iinc (lv' := [(5, .int (nI (q + 1))), (0, .ref (ad 0)), (1, .int (nI j)), (2, .ref (ad 23)), (3, .ref (ad 25)), (4, .ref (ad 27)), (6, .int (nI (gBar σ q))), (7, .int (nI (gFst σ (gBar σ q)))), (8, .int (nI k))]) hx hb dX6_plays_112 hl (k := 5) rfl (x_inc1 _) (by decide) rfl (fun ls hl => ?_)
                  refine lv_goto (tgt := 3) hx hb dX6_plays_115 (by decide) ?_
                  exact ih3 (q + 1) RW2 (upd BK q (nI 1)) (upd PH q (nI 1)) (by omega) (by omega) (play_s hpl (fun i hi => hrow i (by omega)) (by unfold gBrk; rw [if_pos (by omega)]) (by unfold gPhr; rw [if_pos c_103])) _ _ hP hD hS _ (lv_sub hl [1, 2, 3, 4, 5, 0] rfl)
            · refine lv_aload_n hx hb dX6_plays_40 rfl (lv_at hl 2 rfl) ?_
              refine lv_iconst (v := nI 4) hx hb dX6_plays_41 (by decide) ?_
              refine lv_iload hx hb dX6_plays_42 (lv_at hl 5 rfl) ?_
              refine x_imul (r := 4 * q) hx hb dX6_plays_44 (rfl) ?_
              refine lv_iload hx hb dX6_plays_45 (lv_at hl 8 rfl) ?_
              refine x_iadd (r := 4 * q + k) hx hb dX6_plays_47 (rfl) ?_
              refine lv_aload_n hx hb dX6_plays_48 rfl (lv_at hl 0 rfl) ?_
              refine lv_iload_n hx hb dX6_plays_49 rfl (lv_at hl 1 rfl) ?_
              refine lv_iload hx hb dX6_plays_50 (lv_at hl 7 rfl) ?_
              refine lv_iload hx hb dX6_plays_52 (lv_at hl 8 rfl) ?_
              refine x_iadd (r := gFst σ (gBar σ q) + k) hx hb dX6_plays_54 (rfl) ?_
              refine mx_callRO (v := .int (gLast σ (gFst σ (gBar σ q) + k))) (va_runV (As := [.int (nI j), .int (nI (gFst σ (gBar σ q) + k))]) (rest := [.int (nI (4 * q + k)), .ref (ad 23)]) ⟨hx, hb, hml, hown, hts⟩ (c_X6_lasts l G ad F (va_up (va_up (va_up R 22 RW2) 24 BK) 26 PH) j σ (gFst σ (gBar σ q) + k) hs hm ok (by omega)) (cwV 2 hts gX6_plays_X6_lasts rfl rfl rfl (by decide +kernel) ⟨Nat.le_of_ble_eq_true rfl, Nat.le_of_ble_eq_true rfl⟩) (mx_preV hK hP (va_recv hK.1 hP (ci := 6) (q0 := 0) rfl rfl)) rfl rfl hl.1 rfl (lv_room (Nat.le_of_ble_eq_true rfl)) dX6_plays_55 ⟨Nat.zero_le _, Nat.zero_le _⟩) ?_
              refine x_iast hx hb hK.1 hP hD hS 18 0 (n := 256) (f := RW2) rfl rfl (k := 4 * q + k) (by omega) (by omega) dX6_plays_58 (MW G ad F (va_up (va_up (va_up R 24 BK) 26 PH) 22 (upd RW2 (4 * q + k) (gLast σ (gFst σ (gBar σ q) + k))))) rfl (fun H locs hP hD hS => ?_)
              refine x_iinc (lv' := [(8, .int (nI (k + 1))), (0, .ref (ad 0)), (1, .int (nI j)), (2, .ref (ad 23)), (3, .ref (ad 25)), (4, .ref (ad 27)), (5, .int (nI q)), (6, .int (nI (gBar σ q))), (7, .int (nI (gFst σ (gBar σ q))))]) hx hb dX6_plays_59 hl (k := 8) rfl (x_inc1 _) (by decide) rfl (fun ls hl => ?_)
              refine lv_goto (tgt := 34) hx hb dX6_plays_62 (by decide) ?_
              exact ih34 (k + 1) (upd RW2 (4 * q + k) (gLast σ (gFst σ (gBar σ q) + k))) (by omega) (by omega) (row_s (by omega) hrow rfl) _ _ hP hD hS _ (lv_sub hl [1, 2, 3, 4, 5, 6, 7, 8, 0] rfl)
        exact lp34 (4 - 0 + 1) 0 RW (Nat.lt_succ_self _) (by omega) (hpl.1) _ _ hP hD hS _ (lv_sub hl [3, 4, 5, 6, 7, 8, 2, 1, 0] rfl)
  exact lp3 (gPB σ - 0 + 1) 0 (R 22) (R 24) (R 26) (Nat.lt_succ_self _) (by omega) (play_0) _ _ hP hD hS _ (lv_sub hl [1, 2, 3, 4, 5, 0] rfl)
