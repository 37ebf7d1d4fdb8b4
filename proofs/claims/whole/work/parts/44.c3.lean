set_option maxHeartbeats 4000000 in
set_option maxRecDepth 100000 in
theorem c_X3_layOutPlayedBars (l : Launch) (G : mx_G) (ad : Nat → Nat) (F : Nat → Int32) (R : Nat → Nat → Int32) (σ : Sg) (hN : soN F σ) (ok : sgOk σ) (hCC : soC R σ) (hTB : soB R σ) (sz : Nat) : mx_EF l yX3_layOutPlayedBars wsX3_layOutPlayedBars 1 22 0 0 G [.ref (ad 0)] sz (SW G ad F R) (fun _ : (Nat → Int32) × (Nat → Int32) × (Nat → Int32) × (Nat → Int32) => none) (fun u : (Nat → Int32) × (Nat → Int32) × (Nat → Int32) × (Nat → Int32) => soQ (va_up F 11 (nI (gPB σ))) (va_up (va_up (va_up (va_up R 15 u.1) 16 u.2.1) 18 u.2.2.1) 17 u.2.2.2) σ) (fun u : (Nat → Int32) × (Nat → Int32) × (Nat → Int32) × (Nat → Int32) => SW G ad (va_up F 11 (nI (gPB σ))) (va_up (va_up (va_up (va_up R 15 u.1) 16 u.2.1) 18 u.2.2.1) 17 u.2.2.2)) := by
  refine Met.ofW (cc := cX3_layOutPlayedBars) (maxL := 6) (ret := none) (by decide) rfl ?_
  intro p e s m args below meth c s₁ BB hml hv
  obtain ⟨rfl, ⟨hsz, hP, hD0⟩, hK⟩ := hv
  have hx := BB.exec
  have hb := BB.bytes
  have hr := BB.returns
  have hts := atoms_spec (ws := wsX3_layOutPlayedBars) BB.pre
  have hown : s.vm.findClass RX3 = some m.cls := findClass_of_methodNamed BB.named
  have hlocks := BB.notSynchronized
  subst hsz
  have hD := hD0.self (sz := s.heap.size)
  have hA : ∀ q : Nat, s.heap.size ≤ q → va_A (SW G ad F R) s.heap.size q := fun q h => Or.inr h
  have hS : va_S (va_A (SW G ad F R) s.heap.size) s.heap s.heap [] := va_S.rf
  obtain ⟨f1, f2, f3, f4, f5, f6, f7, f8, f9, f10⟩ := id hN
  obtain ⟨hB2, hB64, hAE, hEB, hT1, hT4, hPB, hP1, hP16, hC, hst, hmo⟩ := id ok
  have hpb := gPB_le ok
  have hpp := gPB_pos ok
  have fl21 := hts (.fieldLink RX3 21 "MixDesk$Song" "loopFrom" "I") (by decide +kernel)
  have fl24 := hts (.fieldLink RX3 24 "MixDesk$Song" "loopTo" "I") (by decide +kernel)
  have fl27 := hts (.fieldLink RX3 27 "MixDesk$Song" "loopTimes" "I") (by decide +kernel)
  have fl30 := hts (.fieldLink RX3 30 "MixDesk$Song" "beatsOf" "[I") (by decide +kernel)
  have fl34 := hts (.fieldLink RX3 34 "MixDesk$Song" "firstOf" "[I") (by decide +kernel)
  have fl37 := hts (.fieldLink RX3 37 "MixDesk$Song" "tickOf" "[I") (by decide +kernel)
  have fl40 := hts (.fieldLink RX3 40 "MixDesk$Song" "barAt" "[I") (by decide +kernel)
  have fl43 := hts (.fieldLink RX3 43 "MixDesk$Song" "tickAt" "[I") (by decide +kernel)
  have fl46 := hts (.fieldLink RX3 46 "MixDesk$Song" "wholeFrom" "[I") (by decide +kernel)
  have fl49 := hts (.fieldLink RX3 49 "MixDesk$Song" "lastsAt" "[I") (by decide +kernel)
  have fl58 := hts (.fieldLink RX3 58 "MixDesk$Song" "bars" "I") (by decide +kernel)
  have fl87 := hts (.fieldLink RX3 87 "MixDesk$Song" "playedBars" "I") (by decide +kernel)
  have inX3 : ∀ w ∈ wsX30, w ∈ wsX3_layOutPlayedBars := by decide +kernel
  have hl := lv_entry ([.ref (ad 0)]) (n := 6) (Nat.le_of_ble_eq_true rfl)
  rw [lg_entry_eq]
  generalize (lg_sl ([.ref (ad 0)]) ++ List.replicate (6 - (lg_sl ([.ref (ad 0)])).length) Slot.unset).toArray = ls at hl ⊢
  have hl : lv_has ls 6 [(0, .ref (ad 0))] := hl
  refine lv_aload_n hx hb dX3_layOutPlayedBars_0 rfl (lv_at hl 0 rfl) ?_
  refine lv_aload_n hx hb dX3_layOutPlayedBars_1 rfl (lv_at hl 0 rfl) ?_
  refine va_get (D := G.1) (ci := 3) (v := .int (F 2)) (C := RX3) (T := TX3) (N := 19) hx hb hts inX3 hown hK.1 hP 0 rfl rfl 2 (by decide) fl58 (fun _ h9 => h9) rfl dX3_layOutPlayedBars_2 ?_
  refine x_top (y := nI (gB σ)) (f2) ?_
  refine lv_aload_n hx hb dX3_layOutPlayedBars_5 rfl (lv_at hl 0 rfl) ?_
  refine va_get (D := G.1) (ci := 3) (v := .int (F 10)) (C := RX3) (T := TX3) (N := 19) hx hb hts inX3 hown hK.1 hP 0 rfl rfl 10 (by decide) fl27 (fun _ h9 => h9) rfl dX3_layOutPlayedBars_6 ?_
  refine x_top (y := nI (gT σ)) (f10) ?_
  refine lv_iconst (v := nI 1) hx hb dX3_layOutPlayedBars_9 (by decide) ?_
  refine x_isub (r := gT σ - 1) hx hb dX3_layOutPlayedBars_10 (by omega) ?_
  refine lv_aload_n hx hb dX3_layOutPlayedBars_11 rfl (lv_at hl 0 rfl) ?_
  refine va_get (D := G.1) (ci := 3) (v := .int (F 9)) (C := RX3) (T := TX3) (N := 19) hx hb hts inX3 hown hK.1 hP 0 rfl rfl 9 (by decide) fl24 (fun _ h9 => h9) rfl dX3_layOutPlayedBars_12 ?_
  refine x_top (y := nI (gE σ)) (f9) ?_
  refine lv_aload_n hx hb dX3_layOutPlayedBars_15 rfl (lv_at hl 0 rfl) ?_
  refine va_get (D := G.1) (ci := 3) (v := .int (F 8)) (C := RX3) (T := TX3) (N := 19) hx hb hts inX3 hown hK.1 hP 0 rfl rfl 8 (by decide) fl21 (fun _ h9 => h9) rfl dX3_layOutPlayedBars_16 ?_
  refine x_top (y := nI (gA σ)) (f8) ?_
  refine x_isub (r := gE σ - gA σ) hx hb dX3_layOutPlayedBars_19 (by omega) ?_
  refine lv_iconst (v := nI 1) hx hb dX3_layOutPlayedBars_20 (by decide) ?_
  refine x_iadd (r := gE σ - gA σ + 1) hx hb dX3_layOutPlayedBars_21 (rfl) ?_
  refine x_imul (r := (gT σ - 1) * (gE σ - gA σ + 1)) hx hb dX3_layOutPlayedBars_22 (rfl) ?_
  refine x_iadd (r := gB σ + ((gT σ - 1) * (gE σ - gA σ + 1))) hx hb dX3_layOutPlayedBars_23 (rfl) ?_
  refine x_top (y := nI (gPB σ)) (rfl) ?_
  refine va_put (D := G.1) (ci := 3) (v := .int (nI (gPB σ))) (ty := .int) (C := RX3) (T := TX3) (N := 19) hx hb hts inX3 tyX3 tyX3_ok nmX3 hown hK.1 hP hD hS 0 rfl rfl 11 (by decide) fl87 (fun _ h9 => h9) rfl (by decide +kernel) rfl rfl (Nat.le_of_ble_eq_true rfl) dX3_layOutPlayedBars_24 (fun H locs hP hD hS => ?_)
  have hP : va_P G.1 vwCl (SW G ad (va_up F 11 (nI (gPB σ))) R) H := hP
  have hD : va_D _ (SW G ad (va_up F 11 (nI (gPB σ))) R) := hD
  refine lv_iconst (v := nI 0) hx hb dX3_layOutPlayedBars_27 (by decide) ?_
  refine lv_istore_n (lv' := [(1, .int (nI 0)), (0, .ref (ad 0))]) hx hb dX3_layOutPlayedBars_28 rfl hl (by decide) rfl (fun ls hl => ?_)
  refine lv_iconst (v := nI 0) hx hb dX3_layOutPlayedBars_29 (by decide) ?_
  refine lv_istore_n (lv' := [(2, .int (nI 0)), (1, .int (nI 0)), (0, .ref (ad 0))]) hx hb dX3_layOutPlayedBars_30 rfl hl (by decide) rfl (fun ls hl => ?_)
  have lp31 : ∀ (nn : Nat) (q : Nat) (BA : Nat → Int32) (TA : Nat → Int32) (LA : Nat → Int32), gPB σ - q < nn → (q ≤ gPB σ) → (∀ z, z < q → BA z = nI (gBar σ z)) → (∀ z, z < q → TA z = gBeg σ z) → (∀ z, z < q → ∀ i, i < gC σ (gBar σ z) → LA (4 * z + i) = gLast σ (gFst σ (gBar σ z) + i)) → ∀ (H : Heap) (locs : List Loc), va_P G.1 vwCl (SW G ad (va_up F 11 (nI (gPB σ))) (va_up (va_up (va_up R 15 BA) 16 TA) 18 LA)) H → va_D (va_A (SW G ad F R) s.heap.size) (SW G ad (va_up F 11 (nI (gPB σ))) (va_up (va_up (va_up R 15 BA) 16 TA) 18 LA)) → va_S (va_A (SW G ad F R) s.heap.size) s.heap H locs → ∀ ls : Array Slot, lv_has ls 6 [(0, .ref (ad 0)), (1, .int (gBeg σ q)), (2, .int (nI q))] → mx_WE l wsX3_layOutPlayedBars 1 22 0 0 G p e s m (([.ref (ad 0)] : List Value).toArray) below meth c (SW G ad F R) (fun _ : (Nat → Int32) × (Nat → Int32) × (Nat → Int32) × (Nat → Int32) => none) (fun u : (Nat → Int32) × (Nat → Int32) × (Nat → Int32) × (Nat → Int32) => soQ (va_up F 11 (nI (gPB σ))) (va_up (va_up (va_up (va_up R 15 u.1) 16 u.2.1) 18 u.2.2.1) 17 u.2.2.2) σ) (fun u : (Nat → Int32) × (Nat → Int32) × (Nat → Int32) × (Nat → Int32) => SW G ad (va_up F 11 (nI (gPB σ))) (va_up (va_up (va_up (va_up R 15 u.1) 16 u.2.1) 18 u.2.2.1) 17 u.2.2.2)) H locs 0 0 (F0 m 31 ls []) := by
    intro nn
    induction nn with
    | zero => intro q BA TA LA hmu; exact absurd hmu (Nat.not_lt_zero _)
    | succ nn ih31 =>
      intro q BA TA LA hmu hq hBA hTA hLA H locs hP hD hS ls hl
      refine lv_iload_n hx hb dX3_layOutPlayedBars_31 rfl (lv_at hl 2 rfl) ?_
      refine lv_aload_n hx hb dX3_layOutPlayedBars_32 rfl (lv_at hl 0 rfl) ?_
      refine va_get (D := G.1) (ci := 3) (v := .int (nI (gPB σ))) (C := RX3) (T := TX3) (N := 19) hx hb hts inX3 hown hK.1 hP 0 rfl rfl 11 (by decide) fl87 (fun _ h9 => h9) rfl dX3_layOutPlayedBars_33 ?_
      refine x_icmp_ge (tgt := 138) hx hb (by omega) (by omega) dX3_layOutPlayedBars_36 (by decide) (fun c_36 => ?_) (fun c_36 => ?_)
      · have eq9 : q = gPB σ := by omega
        have hBA2 : ∀ z, z < gPB σ → BA z = nI (gBar σ z) := fun z hz => hBA z (by omega)
        have hTA2 : ∀ z, z ≤ gPB σ → upd TA (gPB σ) (gBeg σ (gPB σ)) z = gBeg σ z := fun z hz => tab_s (fun z hz => hTA z (by omega)) rfl z (by omega)
        have hLA2 : ∀ z, z < gPB σ → ∀ i, i < gC σ (gBar σ z) → LA (4 * z + i) = gLast σ (gFst σ (gBar σ z) + i) := fun z hz => hLA z (by omega)
        have hl : lv_has ls 6 [(0, .ref (ad 0)), (1, .int (gBeg σ (gPB σ))), (2, .int (nI q))] := Eq.mp (congrArg (fun z9 : Int32 => lv_has ls 6 [(0, .ref (ad 0)), (1, .int z9), (2, .int (nI q))]) (show gBeg σ q = gBeg σ (gPB σ) from by rw [eq9])) hl
        refine lv_aload_n hx hb dX3_layOutPlayedBars_138 rfl (lv_at hl 0 rfl) ?_
        refine va_get (D := G.1) (ci := 3) (v := .ref (ad 17)) (C := RX3) (T := TX3) (N := 19) hx hb hts inX3 hown hK.1 hP 0 rfl rfl 16 (by decide) fl43 (fun _ h9 => h9) rfl dX3_layOutPlayedBars_139 ?_
        refine lv_aload_n hx hb dX3_layOutPlayedBars_142 rfl (lv_at hl 0 rfl) ?_
        refine va_get (D := G.1) (ci := 3) (v := .int (nI (gPB σ))) (C := RX3) (T := TX3) (N := 19) hx hb hts inX3 hown hK.1 hP 0 rfl rfl 11 (by decide) fl87 (fun _ h9 => h9) rfl dX3_layOutPlayedBars_143 ?_
        refine lv_iload_n hx hb dX3_layOutPlayedBars_146 rfl (lv_at hl 1 rfl) ?_
        refine x_iast hx hb hK.1 hP hD hS 5 0 (n := 65) (f := TA) rfl rfl (k := gPB σ) (by omega) (by omega) dX3_layOutPlayedBars_147 (SW G ad (va_up F 11 (nI (gPB σ))) (va_up (va_up (va_up R 15 BA) 18 LA) 16 (upd TA (gPB σ) (gBeg σ (gPB σ))))) rfl (fun H locs hP hD hS => ?_)
        refine lv_aload_n hx hb dX3_layOutPlayedBars_148 rfl (lv_at hl 0 rfl) ?_
        refine va_get (D := G.1) (ci := 3) (v := .ref (ad 18)) (C := RX3) (T := TX3) (N := 19) hx hb hts inX3 hown hK.1 hP 0 rfl rfl 17 (by decide) fl46 (fun _ h9 => h9) rfl dX3_layOutPlayedBars_149 ?_
        refine lv_aload_n hx hb dX3_layOutPlayedBars_152 rfl (lv_at hl 0 rfl) ?_
        refine va_get (D := G.1) (ci := 3) (v := .int (nI (gPB σ))) (C := RX3) (T := TX3) (N := 19) hx hb hts inX3 hown hK.1 hP 0 rfl rfl 11 (by decide) fl87 (fun _ h9 => h9) rfl dX3_layOutPlayedBars_153 ?_
        refine lv_iconst (v := nI 0) hx hb dX3_layOutPlayedBars_156 (by decide) ?_
        refine x_iast hx hb hK.1 hP hD hS 6 0 (n := 65) (f := R 17) rfl rfl (k := gPB σ) (by omega) (by omega) dX3_layOutPlayedBars_157 (SW G ad (va_up F 11 (nI (gPB σ))) (va_up (va_up (va_up (va_up R 15 BA) 18 LA) 16 (upd TA (gPB σ) (gBeg σ (gPB σ)))) 17 (upd (R 17) (gPB σ) (nI 0)))) rfl (fun H locs hP hD hS => ?_)
        refine lv_aload_n hx hb dX3_layOutPlayedBars_158 rfl (lv_at hl 0 rfl) ?_
        refine va_get (D := G.1) (ci := 3) (v := .int (nI (gPB σ))) (C := RX3) (T := TX3) (N := 19) hx hb hts inX3 hown hK.1 hP 0 rfl rfl 11 (by decide) fl87 (fun _ h9 => h9) rfl dX3_layOutPlayedBars_159 ?_
        refine lv_iconst (v := nI 1) hx hb dX3_layOutPlayedBars_162 (by decide) ?_
        refine lv_isub hx hb dX3_layOutPlayedBars_163 ?_
        refine x_top (y := pr (gPB σ)) (pr_sub _) ?_
        refine lv_istore_n (lv' := [(2, .int (pr (gPB σ))), (0, .ref (ad 0)), (1, .int (gBeg σ (gPB σ)))]) hx hb dX3_layOutPlayedBars_164 rfl hl (by decide) rfl (fun ls hl => ?_)
        have lp165 : ∀ (nn : Nat) (r : Nat) (WF : Nat → Int32), r < nn → (r ≤ gPB σ) → (∀ z, r ≤ z → z ≤ gPB σ → WF z = nI (gW σ (gPB σ - z))) → ∀ (H : Heap) (locs : List Loc), va_P G.1 vwCl (SW G ad (va_up F 11 (nI (gPB σ))) (va_up (va_up (va_up (va_up R 15 BA) 16 (upd TA (gPB σ) (gBeg σ (gPB σ)))) 18 LA) 17 WF)) H → va_D (va_A (SW G ad F R) s.heap.size) (SW G ad (va_up F 11 (nI (gPB σ))) (va_up (va_up (va_up (va_up R 15 BA) 16 (upd TA (gPB σ) (gBeg σ (gPB σ)))) 18 LA) 17 WF)) → va_S (va_A (SW G ad F R) s.heap.size) s.heap H locs → ∀ ls : Array Slot, lv_has ls 6 [(0, .ref (ad 0)), (2, .int (pr r))] → mx_WE l wsX3_layOutPlayedBars 1 22 0 0 G p e s m (([.ref (ad 0)] : List Value).toArray) below meth c (SW G ad F R) (fun _ : (Nat → Int32) × (Nat → Int32) × (Nat → Int32) × (Nat → Int32) => none) (fun u : (Nat → Int32) × (Nat → Int32) × (Nat → Int32) × (Nat → Int32) => soQ (va_up F 11 (nI (gPB σ))) (va_up (va_up (va_up (va_up R 15 u.1) 16 u.2.1) 18 u.2.2.1) 17 u.2.2.2) σ) (fun u : (Nat → Int32) × (Nat → Int32) × (Nat → Int32) × (Nat → Int32) => SW G ad (va_up F 11 (nI (gPB σ))) (va_up (va_up (va_up (va_up R 15 u.1) 16 u.2.1) 18 u.2.2.1) 17 u.2.2.2)) H locs 0 0 (F0 m 165 ls []) := by
          intro nn
          induction nn with
          | zero => intro r WF hmu; exact absurd hmu (Nat.not_lt_zero _)
          | succ nn ih165 =>
            intro r WF hmu hr9 hWF H locs hP hD hS ls hl
            refine lv_iload_n hx hb dX3_layOutPlayedBars_165 rfl (lv_at hl 1 rfl) ?_
            refine lv_if_lt (tgt := 210) hx hb dX3_layOutPlayedBars_166 (by decide) (fun c_166 => ?_) (fun c_166 => ?_)
            · obtain rfl : r = 0 := (pr_neg (by omega)).mp c_166
              exact W.vret hx hb hr (fun t9 ht9 hW9 => ⟨⟨(BA, upd TA (gPB σ) (gBeg σ (gPB σ)), LA, WF), rfl, ⟨rfl, hBA2, hTA2, fun q hq => hWF q (by omega) hq, hLA2⟩, by rw [ht9]; exact hP, hD⟩, hS.F ht9⟩) hS.2.2 dX3_layOutPlayedBars_210
            · obtain ⟨q2, rfl⟩ : ∃ k, r = k + 1 := ⟨r - 1, by have := mt (pr_neg (r := r) (by omega)).mpr c_166; omega⟩
              have hl : lv_has ls 6 [(0, .ref (ad 0)), (2, .int (nI q2))] := Eq.mp (congrArg (fun z9 : Int32 => lv_has ls 6 [(0, .ref (ad 0)), (2, .int z9)]) (show pr (q2 + 1) = nI q2 from pr_succ q2)) hl
              refine lv_aload_n hx hb dX3_layOutPlayedBars_169 rfl (lv_at hl 0 rfl) ?_
              refine va_get (D := G.1) (ci := 3) (v := .ref (ad 18)) (C := RX3) (T := TX3) (N := 19) hx hb hts inX3 hown hK.1 hP 0 rfl rfl 17 (by decide) fl46 (fun _ h9 => h9) rfl dX3_layOutPlayedBars_170 ?_
              refine lv_iload_n hx hb dX3_layOutPlayedBars_173 rfl (lv_at hl 1 rfl) ?_
              refine lv_aload_n hx hb dX3_layOutPlayedBars_174 rfl (lv_at hl 0 rfl) ?_
              refine va_get (D := G.1) (ci := 3) (v := .ref (ad 13)) (C := RX3) (T := TX3) (N := 19) hx hb hts inX3 hown hK.1 hP 0 rfl rfl 12 (by decide) fl30 (fun _ h9 => h9) rfl dX3_layOutPlayedBars_175 ?_
              refine lv_aload_n hx hb dX3_layOutPlayedBars_178 rfl (lv_at hl 0 rfl) ?_
              refine va_get (D := G.1) (ci := 3) (v := .ref (ad 16)) (C := RX3) (T := TX3) (N := 19) hx hb hts inX3 hown hK.1 hP 0 rfl rfl 15 (by decide) fl40 (fun _ h9 => h9) rfl dX3_layOutPlayedBars_179 ?_
              refine lv_iload_n hx hb dX3_layOutPlayedBars_182 rfl (lv_at hl 1 rfl) ?_
              refine x_iald hx hb hK.1 hP 4 0 (n := 64) (f := BA) rfl rfl (k := q2) (by omega) (by omega) dX3_layOutPlayedBars_183 ?_
              refine x_top (y := nI (gBar σ q2)) (hBA2 _ (by omega)) ?_
              have hbl2 := gBar_lt ok (show q2 < gPB σ by omega)
              have hCb2 := hC (gBar σ q2)
              refine x_iald hx hb hK.1 hP 1 0 (n := 64) (f := R 12) rfl rfl (k := gBar σ q2) (by omega) (by omega) dX3_layOutPlayedBars_184 ?_
              refine x_top (y := nI (gC σ (gBar σ q2))) (hCC (gBar σ q2) (by omega)) ?_
              refine lv_iconst (v := nI 4) hx hb dX3_layOutPlayedBars_185 (by decide) ?_
              refine x_icmp_ne (tgt := 202) hx hb (by omega) (by omega) dX3_layOutPlayedBars_186 (by decide) (fun c_186 => ?_) (fun c_186 => ?_)
              · refine lv_iconst (v := nI 0) hx hb dX3_layOutPlayedBars_202 (by decide) ?_
                refine x_iast hx hb hK.1 hP hD hS 6 0 (n := 65) (f := WF) rfl rfl (k := q2) (by omega) (by omega) dX3_layOutPlayedBars_203 (SW G ad (va_up F 11 (nI (gPB σ))) (va_up (va_up (va_up (va_up R 15 BA) 16 (upd TA (gPB σ) (gBeg σ (gPB σ)))) 18 LA) 17 (upd WF q2 (nI 0)))) rfl (fun H locs hP hD hS => ?_)
                refine lv_iinc (v := pr q2) (lv' := [(2, .int (pr q2)), (0, .ref (ad 0))]) hx hb dX3_layOutPlayedBars_204 hl (k := 1) rfl (rfl) (by decide) rfl (fun ls hl => ?_)
                refine lv_goto (tgt := 165) hx hb dX3_layOutPlayedBars_207 (by decide) ?_
                exact ih165 q2 (upd WF q2 (nI 0)) (by omega) (by omega) (fun z h1 h2 => wf_s (fun y y1 y2 => hWF y y1 y2) (by omega) (by rw [if_neg c_186]) z h1 h2) _ _ hP hD hS _ (lv_sub hl [1, 0] rfl)
              · refine lv_aload_n hx hb dX3_layOutPlayedBars_189 rfl (lv_at hl 0 rfl) ?_
                refine va_get (D := G.1) (ci := 3) (v := .ref (ad 18)) (C := RX3) (T := TX3) (N := 19) hx hb hts inX3 hown hK.1 hP 0 rfl rfl 17 (by decide) fl46 (fun _ h9 => h9) rfl dX3_layOutPlayedBars_190 ?_
                refine lv_iload_n hx hb dX3_layOutPlayedBars_193 rfl (lv_at hl 1 rfl) ?_
                refine lv_iconst (v := nI 1) hx hb dX3_layOutPlayedBars_194 (by decide) ?_
                refine x_iadd (r := q2 + 1) hx hb dX3_layOutPlayedBars_195 (rfl) ?_
                refine x_iald hx hb hK.1 hP 6 0 (n := 65) (f := WF) rfl rfl (k := q2 + 1) (by omega) (by omega) dX3_layOutPlayedBars_196 ?_
                refine x_top (y := nI (gW σ (gPB σ - (q2 + 1)))) (hWF _ (by omega) (by omega)) ?_
                refine lv_iconst (v := nI 1) hx hb dX3_layOutPlayedBars_197 (by decide) ?_
                refine x_iadd (r := gW σ (gPB σ - (q2 + 1)) + 1) hx hb dX3_layOutPlayedBars_198 (rfl) ?_
                refine lv_goto (tgt := 203) hx hb dX3_layOutPlayedBars_199 (by decide) ?_
                refine x_iast hx hb hK.1 hP hD hS 6 0 (n := 65) (f := WF) rfl rfl (k := q2) (by omega) (by omega) dX3_layOutPlayedBars_203 (SW G ad (va_up F 11 (nI (gPB σ))) (va_up (va_up (va_up (va_up R 15 BA) 16 (upd TA (gPB σ) (gBeg σ (gPB σ)))) 18 LA) 17 (upd WF q2 (nI (gW σ (gPB σ - (q2 + 1)) + 1))))) rfl (fun H locs hP hD hS => ?_)
                refine lv_iinc (v := pr q2) (lv' := [(2, .int (pr q2)), (0, .ref (ad 0))]) hx hb dX3_layOutPlayedBars_204 hl (k := 1) rfl (rfl) (by decide) rfl (fun ls hl => ?_)
                refine lv_goto (tgt := 165) hx hb dX3_layOutPlayedBars_207 (by decide) ?_
                exact ih165 q2 (upd WF q2 (nI (gW σ (gPB σ - (q2 + 1)) + 1))) (by omega) (by omega) (fun z h1 h2 => wf_s (fun y y1 y2 => hWF y y1 y2) (by omega) (by rw [if_pos c_186]) z h1 h2) _ _ hP hD hS _ (lv_sub hl [1, 0] rfl)
        exact lp165 ((gPB σ) + 1) (gPB σ) (upd (R 17) (gPB σ) (nI 0)) (Nat.lt_succ_self _) (by omega) (fun z h1 h2 => by unfold upd; rw [if_pos (by omega), show gPB σ - z = 0 by omega]; rfl) _ _ hP hD hS _ (lv_sub hl [1, 0] rfl)
      · refine lv_aload_n hx hb dX3_layOutPlayedBars_39 rfl (lv_at hl 0 rfl) ?_
        refine lv_iload_n hx hb dX3_layOutPlayedBars_40 rfl (lv_at hl 2 rfl) ?_
        refine mx_callRO (v := .int (nI (gBar σ q))) (va_runV (As := [.int (nI q)]) (rest := []) ⟨hx, hb, hml, hown, hts⟩ (c_X3_barPlayed l G ad (va_up F 11 (nI (gPB σ))) (va_up (va_up (va_up R 15 BA) 16 TA) 18 LA) σ q hN ok (by omega)) (cwV 1 hts gX3_layOutPlayedBars_X3_barPlayed rfl rfl rfl (by decide +kernel) ⟨Nat.le_of_ble_eq_true rfl, Nat.le_of_ble_eq_true rfl⟩) (mx_preV hK hP (va_recv hK.1 hP (ci := 3) (q0 := 0) rfl rfl)) rfl rfl hl.1 rfl (lv_room (Nat.le_of_ble_eq_true rfl)) dX3_layOutPlayedBars_41 ⟨Nat.zero_le _, Nat.zero_le _⟩) ?_
        refine lv_istore_n (lv' := [(3, .int (nI (gBar σ q))), (0, .ref (ad 0)), (1, .int (gBeg σ q)), (2, .int (nI q))]) hx hb dX3_layOutPlayedBars_44 rfl hl (by decide) rfl (fun ls hl => ?_)
        have hbl := gBar_lt ok (show q < gPB σ by omega)
        have hCb := hC (gBar σ q)
        have hF := gFst_le ok (gB σ)
        have hmo2 := gFst_mono (σ := σ) hbl
        refine lv_aload_n hx hb dX3_layOutPlayedBars_45 rfl (lv_at hl 1 rfl) ?_
        refine va_get (D := G.1) (ci := 3) (v := .ref (ad 16)) (C := RX3) (T := TX3) (N := 19) hx hb hts inX3 hown hK.1 hP 0 rfl rfl 15 (by decide) fl40 (fun _ h9 => h9) rfl dX3_layOutPlayedBars_46 ?_
        refine lv_iload_n hx hb dX3_layOutPlayedBars_49 rfl (lv_at hl 3 rfl) ?_
        refine lv_iload_n hx hb dX3_layOutPlayedBars_50 rfl (lv_at hl 0 rfl) ?_
        refine x_iast hx hb hK.1 hP hD hS 4 0 (n := 64) (f := BA) rfl rfl (k := q) (by omega) (by omega) dX3_layOutPlayedBars_51 (SW G ad (va_up F 11 (nI (gPB σ))) (va_up (va_up (va_up R 16 TA) 18 LA) 15 (upd BA q (nI (gBar σ q))))) rfl (fun H locs hP hD hS => ?_)
        refine lv_aload_n hx hb dX3_layOutPlayedBars_52 rfl (lv_at hl 1 rfl) ?_
        refine va_get (D := G.1) (ci := 3) (v := .ref (ad 17)) (C := RX3) (T := TX3) (N := 19) hx hb hts inX3 hown hK.1 hP 0 rfl rfl 16 (by decide) fl43 (fun _ h9 => h9) rfl dX3_layOutPlayedBars_53 ?_
        refine lv_iload_n hx hb dX3_layOutPlayedBars_56 rfl (lv_at hl 3 rfl) ?_
        refine lv_iload_n hx hb dX3_layOutPlayedBars_57 rfl (lv_at hl 2 rfl) ?_
        refine x_iast hx hb hK.1 hP hD hS 5 0 (n := 65) (f := TA) rfl rfl (k := q) (by omega) (by omega) dX3_layOutPlayedBars_58 (SW G ad (va_up F 11 (nI (gPB σ))) (va_up (va_up (va_up R 18 LA) 15 (upd BA q (nI (gBar σ q)))) 16 (upd TA q (gBeg σ q)))) rfl (fun H locs hP hD hS => ?_)
        have hl : lv_has ls 6 [(3, .int (nI (gBar σ q))), (0, .ref (ad 0)), (1, .int (gBeg σ q + isum (fun k => gLast σ (gFst σ (gBar σ q) + k)) 0)), (2, .int (nI q))] := Eq.mp (congrArg (fun z9 : Int32 => lv_has ls 6 [(3, .int (nI (gBar σ q))), (0, .ref (ad 0)), (1, .int z9), (2, .int (nI q))]) (show gBeg σ q = gBeg σ q + isum (fun k => gLast σ (gFst σ (gBar σ q) + k)) 0 from by show _ = gBeg σ q + nI 0; rw [nI_0, Int32.add_zero])) hl
        refine lv_iconst (v := nI 0) hx hb dX3_layOutPlayedBars_59 (by decide) ?_
        refine lv_istore (lv' := [(4, .int (nI 0)), (3, .int (nI (gBar σ q))), (0, .ref (ad 0)), (1, .int (gBeg σ q + isum (fun k => gLast σ (gFst σ (gBar σ q) + k)) 0)), (2, .int (nI q))]) hx hb dX3_layOutPlayedBars_60 hl (by decide) rfl (fun ls hl => ?_)
        have lp62 : ∀ (nn : Nat) (i : Nat) (LA9 : Nat → Int32), gC σ (gBar σ q) - i < nn → (i ≤ gC σ (gBar σ q)) → (∀ z, z < q → ∀ i, i < gC σ (gBar σ z) → LA9 (4 * z + i) = gLast σ (gFst σ (gBar σ z) + i)) → (∀ k, k < i → LA9 (4 * q + k) = gLast σ (gFst σ (gBar σ q) + k)) → ∀ (H : Heap) (locs : List Loc), va_P G.1 vwCl (SW G ad (va_up F 11 (nI (gPB σ))) (va_up (va_up (va_up R 15 (upd BA q (nI (gBar σ q)))) 16 (upd TA q (gBeg σ q))) 18 LA9)) H → va_D (va_A (SW G ad F R) s.heap.size) (SW G ad (va_up F 11 (nI (gPB σ))) (va_up (va_up (va_up R 15 (upd BA q (nI (gBar σ q)))) 16 (upd TA q (gBeg σ q))) 18 LA9)) → va_S (va_A (SW G ad F R) s.heap.size) s.heap H locs → ∀ ls : Array Slot, lv_has ls 6 [(0, .ref (ad 0)), (1, .int (gBeg σ q + isum (fun k => gLast σ (gFst σ (gBar σ q) + k)) i)), (2, .int (nI q)), (3, .int (nI (gBar σ q))), (4, .int (nI i))] → mx_WE l wsX3_layOutPlayedBars 1 22 0 0 G p e s m (([.ref (ad 0)] : List Value).toArray) below meth c (SW G ad F R) (fun _ : (Nat → Int32) × (Nat → Int32) × (Nat → Int32) × (Nat → Int32) => none) (fun u : (Nat → Int32) × (Nat → Int32) × (Nat → Int32) × (Nat → Int32) => soQ (va_up F 11 (nI (gPB σ))) (va_up (va_up (va_up (va_up R 15 u.1) 16 u.2.1) 18 u.2.2.1) 17 u.2.2.2) σ) (fun u : (Nat → Int32) × (Nat → Int32) × (Nat → Int32) × (Nat → Int32) => SW G ad (va_up F 11 (nI (gPB σ))) (va_up (va_up (va_up (va_up R 15 u.1) 16 u.2.1) 18 u.2.2.1) 17 u.2.2.2)) H locs 0 0 (F0 m 62 ls []) := by
          intro nn
          induction nn with
          | zero => intro i LA9 hmu; exact absurd hmu (Nat.not_lt_zero _)
          | succ nn ih62 =>
            intro i LA9 hmu hi hLo hLn H locs hP hD hS ls hl
            refine lv_iload hx hb dX3_layOutPlayedBars_62 (lv_at hl 4 rfl) ?_
            refine lv_aload_n hx hb dX3_layOutPlayedBars_64 rfl (lv_at hl 0 rfl) ?_
            refine va_get (D := G.1) (ci := 3) (v := .ref (ad 13)) (C := RX3) (T := TX3) (N := 19) hx hb hts inX3 hown hK.1 hP 0 rfl rfl 12 (by decide) fl30 (fun _ h9 => h9) rfl dX3_layOutPlayedBars_65 ?_
            refine lv_iload_n hx hb dX3_layOutPlayedBars_68 rfl (lv_at hl 3 rfl) ?_
            refine x_iald hx hb hK.1 hP 1 0 (n := 64) (f := R 12) rfl rfl (k := gBar σ q) (by omega) (by omega) dX3_layOutPlayedBars_69 ?_
            refine x_top (y := nI (gC σ (gBar σ q))) (hCC (gBar σ q) (by omega)) ?_
            refine x_icmp_ge (tgt := 132) hx hb (by omega) (by omega) dX3_layOutPlayedBars_70 (by decide) (fun c_70 => ?_) (fun c_70 => ?_)
            · have hl : lv_has ls 6 [(0, .ref (ad 0)), (1, .int (gBeg σ (q + 1))), (2, .int (nI q)), (3, .int (nI (gBar σ q))), (4, .int (nI i))] := Eq.mp (congrArg (fun z9 : Int32 => lv_has ls 6 [(0, .ref (ad 0)), (1, .int z9), (2, .int (nI q)), (3, .int (nI (gBar σ q))), (4, .int (nI i))]) (show gBeg σ q + isum (fun k => gLast σ (gFst σ (gBar σ q) + k)) i = gBeg σ (q + 1) from by rw [show i = gC σ (gBar σ q) by omega]; rfl)) hl
              refine x_iinc (lv' := [(2, .int (nI (q + 1))), (0, .ref (ad 0)), (1, .int (gBeg σ (q + 1))), (3, .int (nI (gBar σ q))), (4, .int (nI i))]) hx hb dX3_layOutPlayedBars_132 hl (k := 2) rfl (x_inc1 _) (by decide) rfl (fun ls hl => ?_)
              refine lv_goto (tgt := 31) hx hb dX3_layOutPlayedBars_135 (by decide) ?_
              exact ih31 (q + 1) (upd BA q (nI (gBar σ q))) (upd TA q (gBeg σ q)) LA9 (by omega) (by omega) (tab_s hBA rfl) (tab_s hTA rfl) (la_s hLo (fun k hk => hLn k (by omega))) _ _ hP hD hS _ (lv_sub hl [1, 2, 0] rfl)
            · have hKb : gFst σ (gBar σ q) + gC σ (gBar σ q) ≤ gFst σ (gB σ) := hmo2
              refine lv_aload_n hx hb dX3_layOutPlayedBars_73 rfl (lv_at hl 0 rfl) ?_
              refine va_get (D := G.1) (ci := 3) (v := .ref (ad 14)) (C := RX3) (T := TX3) (N := 19) hx hb hts inX3 hown hK.1 hP 0 rfl rfl 13 (by decide) fl34 (fun _ h9 => h9) rfl dX3_layOutPlayedBars_74 ?_
              refine lv_iload_n hx hb dX3_layOutPlayedBars_77 rfl (lv_at hl 3 rfl) ?_
              refine x_iald hx hb hK.1 hP 2 0 (n := 65) (f := R 13) rfl rfl (k := gBar σ q) (by omega) (by omega) dX3_layOutPlayedBars_78 ?_
              refine x_top (y := nI (gFst σ (gBar σ q))) (hTB.1 _ (by omega)) ?_
              refine lv_iload hx hb dX3_layOutPlayedBars_79 (lv_at hl 4 rfl) ?_
              refine x_iadd (r := gFst σ (gBar σ q) + i) hx hb dX3_layOutPlayedBars_81 (rfl) ?_
              refine lv_istore (lv' := [(5, .int (nI (gFst σ (gBar σ q) + i))), (0, .ref (ad 0)), (1, .int (gBeg σ q + isum (fun k => gLast σ (gFst σ (gBar σ q) + k)) i)), (2, .int (nI q)), (3, .int (nI (gBar σ q))), (4, .int (nI i))]) hx hb dX3_layOutPlayedBars_82 hl (by decide) rfl (fun ls hl => ?_)
              refine lv_aload_n hx hb dX3_layOutPlayedBars_84 rfl (lv_at hl 1 rfl) ?_
              refine va_get (D := G.1) (ci := 3) (v := .ref (ad 19)) (C := RX3) (T := TX3) (N := 19) hx hb hts inX3 hown hK.1 hP 0 rfl rfl 18 (by decide) fl49 (fun _ h9 => h9) rfl dX3_layOutPlayedBars_85 ?_
              refine lv_iconst (v := nI 4) hx hb dX3_layOutPlayedBars_88 (by decide) ?_
              refine lv_iload_n hx hb dX3_layOutPlayedBars_89 rfl (lv_at hl 3 rfl) ?_
              refine x_imul (r := 4 * q) hx hb dX3_layOutPlayedBars_90 (rfl) ?_
              refine lv_iload hx hb dX3_layOutPlayedBars_91 (lv_at hl 5 rfl) ?_
              refine x_iadd (r := 4 * q + i) hx hb dX3_layOutPlayedBars_93 (rfl) ?_
              refine lv_aload_n hx hb dX3_layOutPlayedBars_94 rfl (lv_at hl 1 rfl) ?_
              refine va_get (D := G.1) (ci := 3) (v := .ref (ad 15)) (C := RX3) (T := TX3) (N := 19) hx hb hts inX3 hown hK.1 hP 0 rfl rfl 14 (by decide) fl37 (fun _ h9 => h9) rfl dX3_layOutPlayedBars_95 ?_
              refine lv_iload hx hb dX3_layOutPlayedBars_98 (lv_at hl 0 rfl) ?_
              refine lv_iconst (v := nI 1) hx hb dX3_layOutPlayedBars_100 (by decide) ?_
              refine x_iadd (r := gFst σ (gBar σ q) + i + 1) hx hb dX3_layOutPlayedBars_101 (rfl) ?_
              refine x_iald hx hb hK.1 hP 3 0 (n := 257) (f := R 14) rfl rfl (k := gFst σ (gBar σ q) + i + 1) (by omega) (by omega) dX3_layOutPlayedBars_102 ?_
              refine x_top (y := gTick σ (gFst σ (gBar σ q) + i + 1)) (hTB.2 _ (by omega)) ?_
              refine lv_aload_n hx hb dX3_layOutPlayedBars_103 rfl (lv_at hl 1 rfl) ?_
              refine va_get (D := G.1) (ci := 3) (v := .ref (ad 15)) (C := RX3) (T := TX3) (N := 19) hx hb hts inX3 hown hK.1 hP 0 rfl rfl 14 (by decide) fl37 (fun _ h9 => h9) rfl dX3_layOutPlayedBars_104 ?_
              refine lv_iload hx hb dX3_layOutPlayedBars_107 (lv_at hl 0 rfl) ?_
              refine x_iald hx hb hK.1 hP 3 0 (n := 257) (f := R 14) rfl rfl (k := gFst σ (gBar σ q) + i) (by omega) (by omega) dX3_layOutPlayedBars_109 ?_
              refine x_top (y := gTick σ (gFst σ (gBar σ q) + i)) (hTB.2 _ (by omega)) ?_
              refine lv_isub hx hb dX3_layOutPlayedBars_110 ?_
              refine x_top (y := gLast σ (gFst σ (gBar σ q) + i)) (tick_sub) ?_
              refine x_iast hx hb hK.1 hP hD hS 7 0 (n := 256) (f := LA9) rfl rfl (k := 4 * q + i) (by omega) (by omega) dX3_layOutPlayedBars_111 (SW G ad (va_up F 11 (nI (gPB σ))) (va_up (va_up (va_up R 15 (upd BA q (nI (gBar σ q)))) 16 (upd TA q (gBeg σ q))) 18 (upd LA9 (4 * q + i) (gLast σ (gFst σ (gBar σ q) + i))))) rfl (fun H locs hP hD hS => ?_)
              refine lv_iload_n hx hb dX3_layOutPlayedBars_112 rfl (lv_at hl 2 rfl) ?_
              refine lv_aload_n hx hb dX3_layOutPlayedBars_113 rfl (lv_at hl 1 rfl) ?_
              refine va_get (D := G.1) (ci := 3) (v := .ref (ad 19)) (C := RX3) (T := TX3) (N := 19) hx hb hts inX3 hown hK.1 hP 0 rfl rfl 18 (by decide) fl49 (fun _ h9 => h9) rfl dX3_layOutPlayedBars_114 ?_
              refine lv_iconst (v := nI 4) hx hb dX3_layOutPlayedBars_117 (by decide) ?_
              refine lv_iload_n hx hb dX3_layOutPlayedBars_118 rfl (lv_at hl 3 rfl) ?_
              refine x_imul (r := 4 * q) hx hb dX3_layOutPlayedBars_119 (rfl) ?_
              refine lv_iload hx hb dX3_layOutPlayedBars_120 (lv_at hl 5 rfl) ?_
              refine x_iadd (r := 4 * q + i) hx hb dX3_layOutPlayedBars_122 (rfl) ?_
              refine x_iald hx hb hK.1 hP 7 0 (n := 256) (f := upd LA9 (4 * q + i) (gLast σ (gFst σ (gBar σ q) + i))) rfl rfl (k := 4 * q + i) (by omega) (by omega) dX3_layOutPlayedBars_123 ?_
              refine x_top (y := gLast σ (gFst σ (gBar σ q) + i)) (if_pos rfl) ?_
              refine lv_iadd hx hb dX3_layOutPlayedBars_124 ?_
              refine x_top (y := gBeg σ q + isum (fun k => gLast σ (gFst σ (gBar σ q) + k)) (i + 1)) (by show _ = gBeg σ q + (isum (fun k => gLast σ (gFst σ (gBar σ q) + k)) i + gLast σ (gFst σ (gBar σ q) + i)); grind) ?_
              refine lv_istore_n (lv' := [(1, .int (gBeg σ q + isum (fun k => gLast σ (gFst σ (gBar σ q) + k)) (i + 1))), (5, .int (nI (gFst σ (gBar σ q) + i))), (0, .ref (ad 0)), (2, .int (nI q)), (3, .int (nI (gBar σ q))), (4, .int (nI i))]) hx hb dX3_layOutPlayedBars_125 rfl hl (by decide) rfl (fun ls hl => ?_)
              refine x_iinc (lv' := [(4, .int (nI (i + 1))), (1, .int (gBeg σ q + isum (fun k => gLast σ (gFst σ (gBar σ q) + k)) (i + 1))), (5, .int (nI (gFst σ (gBar σ q) + i))), (0, .ref (ad 0)), (2, .int (nI q)), (3, .int (nI (gBar σ q)))]) hx hb dX3_layOutPlayedBars_126 hl (k := 5) rfl (x_inc1 _) (by decide) rfl (fun ls hl => ?_)
              refine lv_goto (tgt := 62) hx hb dX3_layOutPlayedBars_129 (by decide) ?_
              exact ih62 (i + 1) (upd LA9 (4 * q + i) (gLast σ (gFst σ (gBar σ q) + i))) (by omega) (by omega) (fun z hz k hk => by unfold upd; rw [if_neg (by have := (hC (gBar σ z)).2; omega)]; exact hLo z hz k hk) (seg_g hLn rfl) _ _ hP hD hS _ (lv_sub hl [3, 1, 4, 5, 0] rfl)
        exact lp62 (gC σ (gBar σ q) - 0 + 1) 0 LA (Nat.lt_succ_self _) (by omega) (hLA) (lt_0) _ _ hP hD hS _ (lv_sub hl [2, 3, 4, 1, 0] rfl)
  exact lp31 (gPB σ - 0 + 1) 0 (R 15) (R 16) (R 18) (Nat.lt_succ_self _) (by omega) (lt_0) (lt_0) (fun z hz => absurd hz (by omega)) _ _ hP hD hS _ (lv_sub hl [2, 1, 0] rfl)

set_option maxHeartbeats 4000000 in
set_option maxRecDepth 100000 in
theorem c_X3_setBeats (l : Launch) (G : mx_G) (ad : Nat → Nat) (F : Nat → Int32) (R : Nat → Nat → Int32) (σ : Sg) (b c9 : Nat) (hN : soN F σ) (ok : sgOk σ) (hb9 : b < 64) (hCC : soC (va_up R 12 (upd (R 12) b (nI c9))) σ) (sz : Nat) : mx_EF l yX3_setBeats wsX3_setBeats 3 67 0 0 G [.ref (ad 0), .int (nI b), .int (nI c9)] sz (SW G ad F R) (fun _ : (Nat → Int32) × (Nat → Nat → Int32) => none) (fun u : (Nat → Int32) × (Nat → Nat → Int32) => soAll u.1 u.2 σ ∧ u.1 0 = F 0) (fun u : (Nat → Int32) × (Nat → Nat → Int32) => SW G ad u.1 u.2) := by
  refine Met.ofW (cc := cX3_setBeats) (maxL := 3) (ret := none) (by decide) rfl ?_
  intro p e s m args below meth c s₁ BB hml hv
  obtain ⟨rfl, ⟨hsz, hP, hD0⟩, hK⟩ := hv
  have hx := BB.exec
  have hb := BB.bytes
  have hr := BB.returns
  have hts := atoms_spec (ws := wsX3_setBeats) BB.pre
  have hown : s.vm.findClass RX3 = some m.cls := findClass_of_methodNamed BB.named
  have hlocks := BB.notSynchronized
  subst hsz
  have hD := hD0.self (sz := s.heap.size)
  have hA : ∀ q : Nat, s.heap.size ≤ q → va_A (SW G ad F R) s.heap.size q := fun q h => Or.inr h
  have hS : va_S (va_A (SW G ad F R) s.heap.size) s.heap s.heap [] := va_S.rf
  have fl30 := hts (.fieldLink RX3 30 "MixDesk$Song" "beatsOf" "[I") (by decide +kernel)
  have inX3 : ∀ w ∈ wsX30, w ∈ wsX3_setBeats := by decide +kernel
  have hl := lv_entry ([.ref (ad 0), .int (nI b), .int (nI c9)]) (n := 3) (Nat.le_of_ble_eq_true rfl)
  rw [lg_entry_eq]
  generalize (lg_sl ([.ref (ad 0), .int (nI b), .int (nI c9)]) ++ List.replicate (3 - (lg_sl ([.ref (ad 0), .int (nI b), .int (nI c9)])).length) Slot.unset).toArray = ls at hl ⊢
  have hl : lv_has ls 3 [(0, .ref (ad 0)), (1, .int (nI b)), (2, .int (nI c9))] := hl
  refine lv_aload_n hx hb dX3_setBeats_0 rfl (lv_at hl 0 rfl) ?_
  refine va_get (D := G.1) (ci := 3) (v := .ref (ad 13)) (C := RX3) (T := TX3) (N := 19) hx hb hts inX3 hown hK.1 hP 0 rfl rfl 12 (by decide) fl30 (fun _ h9 => h9) rfl dX3_setBeats_1 ?_
  refine lv_iload_n hx hb dX3_setBeats_4 rfl (lv_at hl 1 rfl) ?_
  refine lv_iload_n hx hb dX3_setBeats_5 rfl (lv_at hl 2 rfl) ?_
  refine x_iast hx hb hK.1 hP hD hS 1 0 (n := 64) (f := R 12) rfl rfl (k := b) (by omega) (by omega) dX3_setBeats_6 (SW G ad F (va_up R 12 (upd (R 12) b (nI c9)))) rfl (fun H locs hP hD hS => ?_)
  refine lv_aload_n hx hb dX3_setBeats_7 rfl (lv_at hl 0 rfl) ?_
  refine mx_callEv (va_runV (As := []) (rest := []) ⟨hx, hb, hml, hown, hts⟩ (c_X3_layOutBeats l G ad F (va_up R 12 (upd (R 12) b (nI c9))) σ hN ok hCC _) (cwV 0 hts gX3_setBeats_X3_layOutBeats rfl rfl rfl (by decide +kernel) ⟨Nat.le_of_ble_eq_true rfl, Nat.le_of_ble_eq_true rfl⟩) (mx_preV hK ⟨rfl, hP, mx_any hD (fun _ _ => trivial)⟩ (va_recv hK.1 hP (ci := 3) (q0 := 0) rfl rfl)) rfl rfl hl.1 rfl (lv_room (Nat.le_of_ble_eq_true rfl)) dX3_setBeats_8 ⟨Nat.zero_le _, Nat.zero_le _⟩) hP hD hS hA (mx_perm0) (fun ub H locs hub hP hD hS => ?_)
  rw [List.append_nil] at hP hD
  have hP : va_P G.1 vwCl (SW G ad F (va_up (va_up (va_up R 12 (upd (R 12) b (nI c9))) 13 ub.1) 14 ub.2)) H := hP
  have hD : va_D _ (SW G ad F (va_up (va_up (va_up R 12 (upd (R 12) b (nI c9))) 13 ub.1) 14 ub.2)) := hD
  refine lv_aload_n hx hb dX3_setBeats_11 rfl (lv_at hl 0 rfl) ?_
  refine mx_callEv (va_runV (As := []) (rest := []) ⟨hx, hb, hml, hown, hts⟩ (c_X3_layOutPlayedBars l G ad F (va_up (va_up (va_up R 12 (upd (R 12) b (nI c9))) 13 ub.1) 14 ub.2) σ hN ok hCC hub _) (cwV 0 hts gX3_setBeats_X3_layOutPlayedBars rfl rfl rfl (by decide +kernel) ⟨Nat.le_of_ble_eq_true rfl, Nat.le_of_ble_eq_true rfl⟩) (mx_preV hK ⟨rfl, hP, mx_any hD (fun _ _ => trivial)⟩ (va_recv hK.1 hP (ci := 3) (q0 := 0) rfl rfl)) rfl rfl hl.1 rfl (lv_room (Nat.le_of_ble_eq_true rfl)) dX3_setBeats_12 ⟨Nat.zero_le _, Nat.zero_le _⟩) hP hD hS hA (mx_perm0) (fun uq H locs huq hP hD hS => ?_)
  rw [List.append_nil] at hP hD
  have hP : va_P G.1 vwCl (SW G ad (va_up F 11 (nI (gPB σ))) (va_up (va_up (va_up (va_up (va_up (va_up (va_up R 12 (upd (R 12) b (nI c9))) 13 ub.1) 14 ub.2) 15 uq.1) 16 uq.2.1) 18 uq.2.2.1) 17 uq.2.2.2)) H := hP
  have hD : va_D _ (SW G ad (va_up F 11 (nI (gPB σ))) (va_up (va_up (va_up (va_up (va_up (va_up (va_up R 12 (upd (R 12) b (nI c9))) 13 ub.1) 14 ub.2) 15 uq.1) 16 uq.2.1) 18 uq.2.2.1) 17 uq.2.2.2)) := hD
  exact W.vret hx hb hr (fun t9 ht9 hW9 => ⟨⟨(va_up F 11 (nI (gPB σ)), va_up (va_up (va_up (va_up (va_up (va_up (va_up R 12 (upd (R 12) b (nI c9))) 13 ub.1) 14 ub.2) 15 uq.1) 16 uq.2.1) 18 uq.2.2.1) 17 uq.2.2.2), rfl, ⟨⟨hN, hCC, hub, huq⟩, rfl⟩, by rw [ht9]; exact hP, hD⟩, hS.F ht9⟩) hS.2.2 dX3_setBeats_15

set_option maxHeartbeats 4000000 in
set_option maxRecDepth 100000 in
theorem c_X3_setLoop (l : Launch) (G : mx_G) (ad : Nat → Nat) (F : Nat → Int32) (R : Nat → Nat → Int32) (σ : Sg) (a b t : Nat) (hN : soN (va_up (va_up (va_up F 8 (nI a)) 9 (nI b)) 10 (nI t)) σ) (ok : sgOk σ) (hCC : soC R σ) (hTB : soB R σ) (sz : Nat) : mx_EF l yX3_setLoop wsX3_setLoop 2 47 0 0 G [.ref (ad 0), .int (nI a), .int (nI b), .int (nI t)] sz (SW G ad F R) (fun _ : (Nat → Int32) × (Nat → Nat → Int32) => none) (fun u : (Nat → Int32) × (Nat → Nat → Int32) => soAll u.1 u.2 σ ∧ u.1 0 = F 0) (fun u : (Nat → Int32) × (Nat → Nat → Int32) => SW G ad u.1 u.2) := by
  refine Met.ofW (cc := cX3_setLoop) (maxL := 4) (ret := none) (by decide) rfl ?_
  intro p e s m args below meth c s₁ BB hml hv
  obtain ⟨rfl, ⟨hsz, hP, hD0⟩, hK⟩ := hv
  have hx := BB.exec
  have hb := BB.bytes
  have hr := BB.returns
  have hts := atoms_spec (ws := wsX3_setLoop) BB.pre
  have hown : s.vm.findClass RX3 = some m.cls := findClass_of_methodNamed BB.named
  have hlocks := BB.notSynchronized
  subst hsz
  have hD := hD0.self (sz := s.heap.size)
  have hA : ∀ q : Nat, s.heap.size ≤ q → va_A (SW G ad F R) s.heap.size q := fun q h => Or.inr h
  have hS : va_S (va_A (SW G ad F R) s.heap.size) s.heap s.heap [] := va_S.rf
  have fl21 := hts (.fieldLink RX3 21 "MixDesk$Song" "loopFrom" "I") (by decide +kernel)
  have fl24 := hts (.fieldLink RX3 24 "MixDesk$Song" "loopTo" "I") (by decide +kernel)
  have fl27 := hts (.fieldLink RX3 27 "MixDesk$Song" "loopTimes" "I") (by decide +kernel)
  have inX3 : ∀ w ∈ wsX30, w ∈ wsX3_setLoop := by decide +kernel
  have hl := lv_entry ([.ref (ad 0), .int (nI a), .int (nI b), .int (nI t)]) (n := 4) (Nat.le_of_ble_eq_true rfl)
  rw [lg_entry_eq]
  generalize (lg_sl ([.ref (ad 0), .int (nI a), .int (nI b), .int (nI t)]) ++ List.replicate (4 - (lg_sl ([.ref (ad 0), .int (nI a), .int (nI b), .int (nI t)])).length) Slot.unset).toArray = ls at hl ⊢
  have hl : lv_has ls 4 [(0, .ref (ad 0)), (1, .int (nI a)), (2, .int (nI b)), (3, .int (nI t))] := hl
  refine lv_aload_n hx hb dX3_setLoop_0 rfl (lv_at hl 0 rfl) ?_
  refine lv_iload_n hx hb dX3_setLoop_1 rfl (lv_at hl 1 rfl) ?_
  refine va_put (D := G.1) (ci := 3) (v := .int (nI a)) (ty := .int) (C := RX3) (T := TX3) (N := 19) hx hb hts inX3 tyX3 tyX3_ok nmX3 hown hK.1 hP hD hS 0 rfl rfl 8 (by decide) fl21 (fun _ h9 => h9) rfl (by decide +kernel) rfl rfl (Nat.le_of_ble_eq_true rfl) dX3_setLoop_2 (fun H locs hP hD hS => ?_)
  have hP : va_P G.1 vwCl (SW G ad (va_up F 8 (nI a)) R) H := hP
  have hD : va_D _ (SW G ad (va_up F 8 (nI a)) R) := hD
  refine lv_aload_n hx hb dX3_setLoop_5 rfl (lv_at hl 0 rfl) ?_
  refine lv_iload_n hx hb dX3_setLoop_6 rfl (lv_at hl 2 rfl) ?_
  refine va_put (D := G.1) (ci := 3) (v := .int (nI b)) (ty := .int) (C := RX3) (T := TX3) (N := 19) hx hb hts inX3 tyX3 tyX3_ok nmX3 hown hK.1 hP hD hS 0 rfl rfl 9 (by decide) fl24 (fun _ h9 => h9) rfl (by decide +kernel) rfl rfl (Nat.le_of_ble_eq_true rfl) dX3_setLoop_7 (fun H locs hP hD hS => ?_)
  have hP : va_P G.1 vwCl (SW G ad (va_up (va_up F 8 (nI a)) 9 (nI b)) R) H := hP
  have hD : va_D _ (SW G ad (va_up (va_up F 8 (nI a)) 9 (nI b)) R) := hD
  refine lv_aload_n hx hb dX3_setLoop_10 rfl (lv_at hl 0 rfl) ?_
  refine lv_iload_n hx hb dX3_setLoop_11 rfl (lv_at hl 3 rfl) ?_
  refine va_put (D := G.1) (ci := 3) (v := .int (nI t)) (ty := .int) (C := RX3) (T := TX3) (N := 19) hx hb hts inX3 tyX3 tyX3_ok nmX3 hown hK.1 hP hD hS 0 rfl rfl 10 (by decide) fl27 (fun _ h9 => h9) rfl (by decide +kernel) rfl rfl (Nat.le_of_ble_eq_true rfl) dX3_setLoop_12 (fun H locs hP hD hS => ?_)
  have hP : va_P G.1 vwCl (SW G ad (va_up (va_up (va_up F 8 (nI a)) 9 (nI b)) 10 (nI t)) R) H := hP
  have hD : va_D _ (SW G ad (va_up (va_up (va_up F 8 (nI a)) 9 (nI b)) 10 (nI t)) R) := hD
  refine lv_aload_n hx hb dX3_setLoop_15 rfl (lv_at hl 0 rfl) ?_
  refine mx_callEv (va_runV (As := []) (rest := []) ⟨hx, hb, hml, hown, hts⟩ (c_X3_layOutPlayedBars l G ad (va_up (va_up (va_up F 8 (nI a)) 9 (nI b)) 10 (nI t)) R σ hN ok hCC hTB _) (cwV 0 hts gX3_setLoop_X3_layOutPlayedBars rfl rfl rfl (by decide +kernel) ⟨Nat.le_of_ble_eq_true rfl, Nat.le_of_ble_eq_true rfl⟩) (mx_preV hK ⟨rfl, hP, mx_any hD (fun _ _ => trivial)⟩ (va_recv hK.1 hP (ci := 3) (q0 := 0) rfl rfl)) rfl rfl hl.1 rfl (lv_room (Nat.le_of_ble_eq_true rfl)) dX3_setLoop_16 ⟨Nat.zero_le _, Nat.zero_le _⟩) hP hD hS hA (mx_perm0) (fun uq H locs huq hP hD hS => ?_)
  rw [List.append_nil] at hP hD
  have hP : va_P G.1 vwCl (SW G ad (va_up (va_up (va_up (va_up F 8 (nI a)) 9 (nI b)) 10 (nI t)) 11 (nI (gPB σ))) (va_up (va_up (va_up (va_up R 15 uq.1) 16 uq.2.1) 18 uq.2.2.1) 17 uq.2.2.2)) H := hP
  have hD : va_D _ (SW G ad (va_up (va_up (va_up (va_up F 8 (nI a)) 9 (nI b)) 10 (nI t)) 11 (nI (gPB σ))) (va_up (va_up (va_up (va_up R 15 uq.1) 16 uq.2.1) 18 uq.2.2.1) 17 uq.2.2.2)) := hD
  exact W.vret hx hb hr (fun t9 ht9 hW9 => ⟨⟨(va_up (va_up (va_up (va_up F 8 (nI a)) 9 (nI b)) 10 (nI t)) 11 (nI (gPB σ)), va_up (va_up (va_up (va_up R 15 uq.1) 16 uq.2.1) 18 uq.2.2.1) 17 uq.2.2.2), rfl, ⟨⟨hN, hCC, hTB, huq⟩, rfl⟩, by rw [ht9]; exact hP, hD⟩, hS.F ht9⟩) hS.2.2 dX3_setLoop_19
