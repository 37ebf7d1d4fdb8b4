set_option maxHeartbeats 4000000 in
set_option maxRecDepth 100000 in
theorem c_J7_fill (l : Launch) (G : mx_G) (a0 n : Nat) (f : Nat → Int32) (v : Int32) (hn : n < 2 ^ 31) (sz : Nat) : mx_EF l yJ7_fill_53178 wsJ7_fill_53178 0 0 0 0 G [.ref a0, .int v] sz ([(a0, .inl (G.2.1, n, .inl (f)))]) (fun _ : Nat → Int32 => none) (fun f1 : Nat → Int32 => ∀ i, i < n → f1 i = v) (fun f1 : Nat → Int32 => [(a0, .inl (G.2.1, n, .inl f1))]) := by
  refine mx_ofWF (cc := cJ7_fill_53178) (maxL := 4) (ret := none) (by decide +kernel) rfl ?_
  intro p e s m args below meth c s₁ BB hml hv
  obtain ⟨rfl, ⟨hsz, hP, hD0⟩, hK⟩ := hv
  have hx := BB.exec
  have hb := BB.bytes
  have hr := BB.returns
  have hts := atoms_spec (ws := wsJ7_fill_53178) BB.pre
  have hown : s.vm.findClass RJ7 = some m.cls := findClass_of_methodNamed BB.named
  have hlocks := BB.notSynchronized
  subst hsz
  have hD := hD0.self (sz := s.heap.size)
  have hA : ∀ q : Nat, s.heap.size ≤ q → va_A ([(a0, .inl (G.2.1, n, .inl (f)))]) s.heap.size q := fun q h => Or.inr h
  have hS : va_S (va_A ([(a0, .inl (G.2.1, n, .inl (f)))]) s.heap.size) s.heap s.heap [] := va_S.rf
  have hl := lv_entry ([.ref a0, .int v]) (n := 4) (Nat.le_of_ble_eq_true rfl)
  rw [lg_entry_eq]
  generalize (lg_sl ([.ref a0, .int v]) ++ List.replicate (4 - (lg_sl ([.ref a0, .int v])).length) Slot.unset).toArray = ls at hl ⊢
  have hl : lv_has ls 4 [(0, .ref a0), (1, .int v)] := hl
  refine lv_iconst (v := nI 0) hx hb dJ7_fill_53178_0 (by decide) ?_
  refine lv_istore_n (lv' := [(2, .int (nI 0)), (0, .ref a0), (1, .int v)]) hx hb dJ7_fill_53178_1 rfl hl (by decide) rfl (fun ls hl => ?_)
  refine lv_aload_n hx hb dJ7_fill_53178_2 rfl (lv_at hl 1 rfl) ?_
  refine va_alen hx hb hK.1 hP 0 0 rfl rfl (v := nI n) rfl dJ7_fill_53178_3 ?_
  refine lv_istore_n (lv' := [(3, .int (nI n)), (2, .int (nI 0)), (0, .ref a0), (1, .int v)]) hx hb dJ7_fill_53178_4 rfl hl (by decide) rfl (fun ls hl => ?_)
  have lp5 : ∀ (nn : Nat) (i : Nat) (f9 : Nat → Int32), n - i < nn → (i ≤ n) → (∀ k, k < i → f9 k = v) → ∀ (H : Heap) (locs : List Loc), va_P G.1 vwCl ([(a0, .inl (G.2.1, n, .inl (f9)))]) H → va_D (va_A ([(a0, .inl (G.2.1, n, .inl (f)))]) s.heap.size) ([(a0, .inl (G.2.1, n, .inl (f9)))]) → va_S (va_A ([(a0, .inl (G.2.1, n, .inl (f)))]) s.heap.size) s.heap H locs → ∀ ls : Array Slot, lv_has ls 4 [(0, .ref a0), (1, .int v), (2, .int (nI i)), (3, .int (nI n))] → mx_WE l wsJ7_fill_53178 0 0 0 0 G p e s m (([.ref a0, .int v] : List Value).toArray) below meth c ([(a0, .inl (G.2.1, n, .inl (f)))]) (fun _ : Nat → Int32 => none) (fun f1 : Nat → Int32 => ∀ i, i < n → f1 i = v) (fun f1 : Nat → Int32 => [(a0, .inl (G.2.1, n, .inl f1))]) H locs 0 0 (F0 m 5 ls []) := by
    intro nn
    induction nn with
    | zero => intro i f9 hmu; exact absurd hmu (Nat.not_lt_zero _)
    | succ nn ih5 =>
      intro i f9 hmu hi hf9 H locs hP hD hS ls hl
      refine lv_iload_n hx hb dJ7_fill_53178_5 rfl (lv_at hl 2 rfl) ?_
      refine lv_iload_n hx hb dJ7_fill_53178_6 rfl (lv_at hl 3 rfl) ?_
      refine x_icmp_ge (tgt := 20) hx hb (by omega) (by omega) dJ7_fill_53178_7 (by decide) (fun c_7 => ?_) (fun c_7 => ?_)
      · exact W.vret hx hb hr (fun t9 ht9 hW9 => ⟨⟨f9, rfl, fun i hi => hf9 i (by omega), by rw [ht9]; exact hP, hD⟩, hS.F ht9⟩) hS.2.2 dJ7_fill_53178_20
      · refine lv_aload_n hx hb dJ7_fill_53178_10 rfl (lv_at hl 0 rfl) ?_
        refine lv_iload_n hx hb dJ7_fill_53178_11 rfl (lv_at hl 2 rfl) ?_
        refine lv_iload_n hx hb dJ7_fill_53178_12 rfl (lv_at hl 1 rfl) ?_
        refine x_iast hx hb hK.1 hP hD hS 0 0 (n := n) (f := f9) rfl rfl (k := i) (by omega) (by omega) dJ7_fill_53178_13 ([(a0, .inl (G.2.1, n, .inl (upd f9 i v)))]) rfl (fun H locs hP hD hS => ?_)
        refine x_iinc (lv' := [(2, .int (nI (i + 1))), (0, .ref a0), (1, .int v), (3, .int (nI n))]) hx hb dJ7_fill_53178_14 hl (k := 2) rfl (x_inc1 _) (by decide) rfl (fun ls hl => ?_)
        refine lv_goto (tgt := 5) hx hb dJ7_fill_53178_17 (by decide) ?_
        exact ih5 (i + 1) (upd f9 i v) (by omega) (by omega) (fill_s hf9) _ _ hP hD hS _ (lv_sub hl [1, 2, 0, 3] rfl)
  exact lp5 (n - 0 + 1) 0 f (Nat.lt_succ_self _) (by omega) (lt_0) _ _ hP hD hS _ (lv_sub hl [2, 3, 1, 0] rfl)

set_option maxHeartbeats 4000000 in
set_option maxRecDepth 100000 in
theorem c_X3_layOutBeats (l : Launch) (G : mx_G) (ad : Nat → Nat) (F : Nat → Int32) (R : Nat → Nat → Int32) (σ : Sg) (hN : soN F σ) (ok : sgOk σ) (hCC : soC R σ) (sz : Nat) : mx_EF l yX3_layOutBeats wsX3_layOutBeats 2 43 0 0 G [.ref (ad 0)] sz (SW G ad F R) (fun _ : (Nat → Int32) × (Nat → Int32) => none) (fun u : (Nat → Int32) × (Nat → Int32) => (∀ b, b ≤ gB σ → u.1 b = nI (gFst σ b)) ∧ ∀ k, k ≤ gFst σ (gB σ) → u.2 k = gTick σ k) (fun u : (Nat → Int32) × (Nat → Int32) => SW G ad F (va_up (va_up R 13 u.1) 14 u.2)) := by
  refine Met.ofW (cc := cX3_layOutBeats) (maxL := 5) (ret := none) (by decide) rfl ?_
  intro p e s m args below meth c s₁ BB hml hv
  obtain ⟨rfl, ⟨hsz, hP, hD0⟩, hK⟩ := hv
  have hx := BB.exec
  have hb := BB.bytes
  have hr := BB.returns
  have hts := atoms_spec (ws := wsX3_layOutBeats) BB.pre
  have hown : s.vm.findClass RX3 = some m.cls := findClass_of_methodNamed BB.named
  have hlocks := BB.notSynchronized
  subst hsz
  have hD := hD0.self (sz := s.heap.size)
  have hA : ∀ q : Nat, s.heap.size ≤ q → va_A (SW G ad F R) s.heap.size q := fun q h => Or.inr h
  have hS : va_S (va_A (SW G ad F R) s.heap.size) s.heap s.heap [] := va_S.rf
  obtain ⟨f1, f2, f3, f4, f5, f6, f7, f8, f9, f10⟩ := id hN
  obtain ⟨hB2, hB64, hAE, hEB, hT1, hT4, hPB, hP1, hP16, hC, hst, hmo⟩ := id ok
  have fl30 := hts (.fieldLink RX3 30 "MixDesk$Song" "beatsOf" "[I") (by decide +kernel)
  have fl34 := hts (.fieldLink RX3 34 "MixDesk$Song" "firstOf" "[I") (by decide +kernel)
  have fl37 := hts (.fieldLink RX3 37 "MixDesk$Song" "tickOf" "[I") (by decide +kernel)
  have fl58 := hts (.fieldLink RX3 58 "MixDesk$Song" "bars" "I") (by decide +kernel)
  have inX3 : ∀ w ∈ wsX30, w ∈ wsX3_layOutBeats := by decide +kernel
  have hl := lv_entry ([.ref (ad 0)]) (n := 5) (Nat.le_of_ble_eq_true rfl)
  rw [lg_entry_eq]
  generalize (lg_sl ([.ref (ad 0)]) ++ List.replicate (5 - (lg_sl ([.ref (ad 0)])).length) Slot.unset).toArray = ls at hl ⊢
  have hl : lv_has ls 5 [(0, .ref (ad 0))] := hl
  refine lv_iconst (v := nI 0) hx hb dX3_layOutBeats_0 (by decide) ?_
  refine lv_istore_n (lv' := [(1, .int (nI 0)), (0, .ref (ad 0))]) hx hb dX3_layOutBeats_1 rfl hl (by decide) rfl (fun ls hl => ?_)
  refine lv_iconst (v := nI 0) hx hb dX3_layOutBeats_2 (by decide) ?_
  refine lv_istore_n (lv' := [(2, .int (nI 0)), (1, .int (nI 0)), (0, .ref (ad 0))]) hx hb dX3_layOutBeats_3 rfl hl (by decide) rfl (fun ls hl => ?_)
  refine lv_iconst (v := nI 0) hx hb dX3_layOutBeats_4 (by decide) ?_
  refine lv_istore_n (lv' := [(3, .int (nI 0)), (2, .int (nI 0)), (1, .int (nI 0)), (0, .ref (ad 0))]) hx hb dX3_layOutBeats_5 rfl hl (by decide) rfl (fun ls hl => ?_)
  have lp6 : ∀ (nn : Nat) (b : Nat) (FO : Nat → Int32) (TO : Nat → Int32), gB σ - b < nn → (b ≤ gB σ) → (∀ q, q < b → FO q = nI (gFst σ q)) → (∀ k, k < gFst σ b → TO k = gTick σ k) → ∀ (H : Heap) (locs : List Loc), va_P G.1 vwCl (SW G ad F (va_up (va_up R 13 FO) 14 TO)) H → va_D (va_A (SW G ad F R) s.heap.size) (SW G ad F (va_up (va_up R 13 FO) 14 TO)) → va_S (va_A (SW G ad F R) s.heap.size) s.heap H locs → ∀ ls : Array Slot, lv_has ls 5 [(0, .ref (ad 0)), (1, .int (nI (gFst σ b))), (2, .int (gTick σ (gFst σ b))), (3, .int (nI b))] → mx_WE l wsX3_layOutBeats 2 43 0 0 G p e s m (([.ref (ad 0)] : List Value).toArray) below meth c (SW G ad F R) (fun _ : (Nat → Int32) × (Nat → Int32) => none) (fun u : (Nat → Int32) × (Nat → Int32) => (∀ b, b ≤ gB σ → u.1 b = nI (gFst σ b)) ∧ ∀ k, k ≤ gFst σ (gB σ) → u.2 k = gTick σ k) (fun u : (Nat → Int32) × (Nat → Int32) => SW G ad F (va_up (va_up R 13 u.1) 14 u.2)) H locs 0 0 (F0 m 6 ls []) := by
    intro nn
    induction nn with
    | zero => intro b FO TO hmu; exact absurd hmu (Nat.not_lt_zero _)
    | succ nn ih6 =>
      intro b FO TO hmu hb9 hFO hTO H locs hP hD hS ls hl
      refine lv_iload_n hx hb dX3_layOutBeats_6 rfl (lv_at hl 3 rfl) ?_
      refine lv_aload_n hx hb dX3_layOutBeats_7 rfl (lv_at hl 0 rfl) ?_
      refine va_get (D := G.1) (ci := 3) (v := .int (F 2)) (C := RX3) (T := TX3) (N := 19) hx hb hts inX3 hown hK.1 hP 0 rfl rfl 2 (by decide) fl58 (fun _ h9 => h9) rfl dX3_layOutBeats_8 ?_
      refine x_top (y := nI (gB σ)) (f2) ?_
      refine x_icmp_ge (tgt := 65) hx hb (by omega) (by omega) dX3_layOutBeats_11 (by decide) (fun c_11 => ?_) (fun c_11 => ?_)
      · have hF := gFst_le ok (gB σ)
        have hl : lv_has ls 5 [(0, .ref (ad 0)), (1, .int (nI (gFst σ (gB σ)))), (2, .int (gTick σ (gFst σ b))), (3, .int (nI b))] := Eq.mp (congrArg (fun z9 : Int32 => lv_has ls 5 [(0, .ref (ad 0)), (1, .int z9), (2, .int (gTick σ (gFst σ b))), (3, .int (nI b))]) (show nI (gFst σ b) = nI (gFst σ (gB σ)) from by rw [show b = gB σ by omega])) hl
        have hl : lv_has ls 5 [(0, .ref (ad 0)), (1, .int (nI (gFst σ (gB σ)))), (2, .int (gTick σ (gFst σ (gB σ)))), (3, .int (nI b))] := Eq.mp (congrArg (fun z9 : Int32 => lv_has ls 5 [(0, .ref (ad 0)), (1, .int (nI (gFst σ (gB σ)))), (2, .int z9), (3, .int (nI b))]) (show gTick σ (gFst σ b) = gTick σ (gFst σ (gB σ)) from by rw [show b = gB σ by omega])) hl
        refine lv_aload_n hx hb dX3_layOutBeats_65 rfl (lv_at hl 0 rfl) ?_
        refine va_get (D := G.1) (ci := 3) (v := .ref (ad 14)) (C := RX3) (T := TX3) (N := 19) hx hb hts inX3 hown hK.1 hP 0 rfl rfl 13 (by decide) fl34 (fun _ h9 => h9) rfl dX3_layOutBeats_66 ?_
        refine lv_aload_n hx hb dX3_layOutBeats_69 rfl (lv_at hl 0 rfl) ?_
        refine va_get (D := G.1) (ci := 3) (v := .int (F 2)) (C := RX3) (T := TX3) (N := 19) hx hb hts inX3 hown hK.1 hP 0 rfl rfl 2 (by decide) fl58 (fun _ h9 => h9) rfl dX3_layOutBeats_70 ?_
        refine x_top (y := nI (gB σ)) (f2) ?_
        refine lv_iload_n hx hb dX3_layOutBeats_73 rfl (lv_at hl 1 rfl) ?_
        refine x_iast hx hb hK.1 hP hD hS 2 0 (n := 65) (f := FO) rfl rfl (k := gB σ) (by omega) (by omega) dX3_layOutBeats_74 (SW G ad F (va_up (va_up R 14 TO) 13 (upd FO (gB σ) (nI (gFst σ (gB σ)))))) rfl (fun H locs hP hD hS => ?_)
        refine lv_aload_n hx hb dX3_layOutBeats_75 rfl (lv_at hl 0 rfl) ?_
        refine va_get (D := G.1) (ci := 3) (v := .ref (ad 15)) (C := RX3) (T := TX3) (N := 19) hx hb hts inX3 hown hK.1 hP 0 rfl rfl 14 (by decide) fl37 (fun _ h9 => h9) rfl dX3_layOutBeats_76 ?_
        refine lv_iload_n hx hb dX3_layOutBeats_79 rfl (lv_at hl 1 rfl) ?_
        refine lv_iload_n hx hb dX3_layOutBeats_80 rfl (lv_at hl 2 rfl) ?_
        refine x_iast hx hb hK.1 hP hD hS 3 0 (n := 257) (f := TO) rfl rfl (k := gFst σ (gB σ)) (by omega) (by omega) dX3_layOutBeats_81 (SW G ad F (va_up (va_up R 13 (upd FO (gB σ) (nI (gFst σ (gB σ))))) 14 (upd TO (gFst σ (gB σ)) (gTick σ (gFst σ (gB σ)))))) rfl (fun H locs hP hD hS => ?_)
        exact W.vret hx hb hr (fun t9 ht9 hW9 => ⟨⟨(upd FO (gB σ) (nI (gFst σ (gB σ))), upd TO (gFst σ (gB σ)) (gTick σ (gFst σ (gB σ)))), rfl, ⟨fun q hq => tab_s (fun q hq => hFO q (by omega)) rfl q (by omega), fun k hk => tab_s (fun k hk => hTO k (by rw [show b = gB σ by omega]; exact hk)) rfl k (by omega)⟩, by rw [ht9]; exact hP, hD⟩, hS.F ht9⟩) hS.2.2 dX3_layOutBeats_82
      · have hF := gFst_le ok b
        have hCb := hC b
        refine lv_aload_n hx hb dX3_layOutBeats_14 rfl (lv_at hl 0 rfl) ?_
        refine va_get (D := G.1) (ci := 3) (v := .ref (ad 14)) (C := RX3) (T := TX3) (N := 19) hx hb hts inX3 hown hK.1 hP 0 rfl rfl 13 (by decide) fl34 (fun _ h9 => h9) rfl dX3_layOutBeats_15 ?_
        refine lv_iload_n hx hb dX3_layOutBeats_18 rfl (lv_at hl 3 rfl) ?_
        refine lv_iload_n hx hb dX3_layOutBeats_19 rfl (lv_at hl 1 rfl) ?_
        refine x_iast hx hb hK.1 hP hD hS 2 0 (n := 65) (f := FO) rfl rfl (k := b) (by omega) (by omega) dX3_layOutBeats_20 (SW G ad F (va_up (va_up R 14 TO) 13 (upd FO b (nI (gFst σ b))))) rfl (fun H locs hP hD hS => ?_)
        refine lv_iconst (v := nI 0) hx hb dX3_layOutBeats_21 (by decide) ?_
        refine lv_istore (lv' := [(4, .int (nI 0)), (0, .ref (ad 0)), (1, .int (nI (gFst σ b))), (2, .int (gTick σ (gFst σ b))), (3, .int (nI b))]) hx hb dX3_layOutBeats_22 hl (by decide) rfl (fun ls hl => ?_)
        have lp24 : ∀ (nn : Nat) (i : Nat) (TO2 : Nat → Int32), gC σ b - i < nn → (i ≤ gC σ b) → (∀ k, k < gFst σ b + i → TO2 k = gTick σ k) → ∀ (H : Heap) (locs : List Loc), va_P G.1 vwCl (SW G ad F (va_up (va_up R 13 (upd FO b (nI (gFst σ b)))) 14 TO2)) H → va_D (va_A (SW G ad F R) s.heap.size) (SW G ad F (va_up (va_up R 13 (upd FO b (nI (gFst σ b)))) 14 TO2)) → va_S (va_A (SW G ad F R) s.heap.size) s.heap H locs → ∀ ls : Array Slot, lv_has ls 5 [(0, .ref (ad 0)), (1, .int (nI (gFst σ b + i))), (2, .int (gTick σ (gFst σ b + i))), (3, .int (nI b)), (4, .int (nI i))] → mx_WE l wsX3_layOutBeats 2 43 0 0 G p e s m (([.ref (ad 0)] : List Value).toArray) below meth c (SW G ad F R) (fun _ : (Nat → Int32) × (Nat → Int32) => none) (fun u : (Nat → Int32) × (Nat → Int32) => (∀ b, b ≤ gB σ → u.1 b = nI (gFst σ b)) ∧ ∀ k, k ≤ gFst σ (gB σ) → u.2 k = gTick σ k) (fun u : (Nat → Int32) × (Nat → Int32) => SW G ad F (va_up (va_up R 13 u.1) 14 u.2)) H locs 0 0 (F0 m 24 ls []) := by
          intro nn
          induction nn with
          | zero => intro i TO2 hmu; exact absurd hmu (Nat.not_lt_zero _)
          | succ nn ih24 =>
            intro i TO2 hmu hi hTO2 H locs hP hD hS ls hl
            refine lv_iload hx hb dX3_layOutBeats_24 (lv_at hl 4 rfl) ?_
            refine lv_aload_n hx hb dX3_layOutBeats_26 rfl (lv_at hl 0 rfl) ?_
            refine va_get (D := G.1) (ci := 3) (v := .ref (ad 13)) (C := RX3) (T := TX3) (N := 19) hx hb hts inX3 hown hK.1 hP 0 rfl rfl 12 (by decide) fl30 (fun _ h9 => h9) rfl dX3_layOutBeats_27 ?_
            refine lv_iload_n hx hb dX3_layOutBeats_30 rfl (lv_at hl 3 rfl) ?_
            refine x_iald hx hb hK.1 hP 1 0 (n := 64) (f := R 12) rfl rfl (k := b) (by omega) (by omega) dX3_layOutBeats_31 ?_
            refine x_top (y := nI (gC σ b)) (hCC b (by omega)) ?_
            refine x_icmp_ge (tgt := 59) hx hb (by omega) (by omega) dX3_layOutBeats_32 (by decide) (fun c_32 => ?_) (fun c_32 => ?_)
            · have hl : lv_has ls 5 [(0, .ref (ad 0)), (1, .int (nI (gFst σ (b + 1)))), (2, .int (gTick σ (gFst σ b + i))), (3, .int (nI b)), (4, .int (nI i))] := Eq.mp (congrArg (fun z9 : Int32 => lv_has ls 5 [(0, .ref (ad 0)), (1, .int z9), (2, .int (gTick σ (gFst σ b + i))), (3, .int (nI b)), (4, .int (nI i))]) (show nI (gFst σ b + i) = nI (gFst σ (b + 1)) from by rw [show i = gC σ b by omega]; rfl)) hl
              have hl : lv_has ls 5 [(0, .ref (ad 0)), (1, .int (nI (gFst σ (b + 1)))), (2, .int (gTick σ (gFst σ (b + 1)))), (3, .int (nI b)), (4, .int (nI i))] := Eq.mp (congrArg (fun z9 : Int32 => lv_has ls 5 [(0, .ref (ad 0)), (1, .int (nI (gFst σ (b + 1)))), (2, .int z9), (3, .int (nI b)), (4, .int (nI i))]) (show gTick σ (gFst σ b + i) = gTick σ (gFst σ (b + 1)) from by rw [show i = gC σ b by omega]; rfl)) hl
              refine x_iinc (lv' := [(3, .int (nI (b + 1))), (0, .ref (ad 0)), (1, .int (nI (gFst σ (b + 1)))), (2, .int (gTick σ (gFst σ (b + 1)))), (4, .int (nI i))]) hx hb dX3_layOutBeats_59 hl (k := 3) rfl (x_inc1 _) (by decide) rfl (fun ls hl => ?_)
              refine lv_goto (tgt := 6) hx hb dX3_layOutBeats_62 (by decide) ?_
              exact ih6 (b + 1) (upd FO b (nI (gFst σ b))) TO2 (by omega) (by omega) (tab_s hFO rfl) (fun k hk => hTO2 k (by have : gFst σ (b + 1) = gFst σ b + gC σ b := rfl; omega)) _ _ hP hD hS _ (lv_sub hl [1, 2, 3, 0] rfl)
            · refine lv_aload_n hx hb dX3_layOutBeats_35 rfl (lv_at hl 0 rfl) ?_
              refine va_get (D := G.1) (ci := 3) (v := .ref (ad 15)) (C := RX3) (T := TX3) (N := 19) hx hb hts inX3 hown hK.1 hP 0 rfl rfl 14 (by decide) fl37 (fun _ h9 => h9) rfl dX3_layOutBeats_36 ?_
              refine lv_iload_n hx hb dX3_layOutBeats_39 rfl (lv_at hl 1 rfl) ?_
              refine lv_iload_n hx hb dX3_layOutBeats_40 rfl (lv_at hl 2 rfl) ?_
              refine x_iast hx hb hK.1 hP hD hS 3 0 (n := 257) (f := TO2) rfl rfl (k := gFst σ b + i) (by omega) (by omega) dX3_layOutBeats_41 (SW G ad F (va_up (va_up R 13 (upd FO b (nI (gFst σ b)))) 14 (upd TO2 (gFst σ b + i) (gTick σ (gFst σ b + i))))) rfl (fun H locs hP hD hS => ?_)
              refine lv_iload_n hx hb dX3_layOutBeats_42 rfl (lv_at hl 2 rfl) ?_
              refine lv_aload_n hx hb dX3_layOutBeats_43 rfl (lv_at hl 0 rfl) ?_
              refine lv_iload_n hx hb dX3_layOutBeats_44 rfl (lv_at hl 1 rfl) ?_
              refine mx_callRO (v := .int (gLast σ (gFst σ b + i))) (va_runV (As := [.int (nI (gFst σ b + i))]) (rest := [.int (gTick σ (gFst σ b + i))]) ⟨hx, hb, hml, hown, hts⟩ (c_X3_lasting l G ad F (va_up (va_up R 13 (upd FO b (nI (gFst σ b)))) 14 (upd TO2 (gFst σ b + i) (gTick σ (gFst σ b + i)))) σ (gFst σ b + i) hN ok (by omega)) (cwV 1 hts gX3_layOutBeats_X3_lasting rfl rfl rfl (by decide +kernel) ⟨Nat.le_of_ble_eq_true rfl, Nat.le_of_ble_eq_true rfl⟩) (mx_preV hK hP (va_recv hK.1 hP (ci := 3) (q0 := 0) rfl rfl)) rfl rfl hl.1 rfl (lv_room (Nat.le_of_ble_eq_true rfl)) dX3_layOutBeats_45 ⟨Nat.zero_le _, Nat.zero_le _⟩) ?_
              refine lv_iadd hx hb dX3_layOutBeats_48 ?_
              refine x_top (y := gTick σ (gFst σ b + (i + 1))) (rfl) ?_
              refine lv_istore_n (lv' := [(2, .int (gTick σ (gFst σ b + (i + 1)))), (0, .ref (ad 0)), (1, .int (nI (gFst σ b + i))), (3, .int (nI b)), (4, .int (nI i))]) hx hb dX3_layOutBeats_49 rfl hl (by decide) rfl (fun ls hl => ?_)
              refine x_iinc (lv' := [(1, .int (nI (gFst σ b + i + 1))), (2, .int (gTick σ (gFst σ b + (i + 1)))), (0, .ref (ad 0)), (3, .int (nI b)), (4, .int (nI i))]) hx hb dX3_layOutBeats_50 hl (k := 2) rfl (x_inc1 _) (by decide) rfl (fun ls hl => ?_)
              refine x_iinc (lv' := [(4, .int (nI (i + 1))), (1, .int (nI (gFst σ b + i + 1))), (2, .int (gTick σ (gFst σ b + (i + 1)))), (0, .ref (ad 0)), (3, .int (nI b))]) hx hb dX3_layOutBeats_53 hl (k := 4) rfl (x_inc1 _) (by decide) rfl (fun ls hl => ?_)
              refine lv_goto (tgt := 24) hx hb dX3_layOutBeats_56 (by decide) ?_
              exact ih24 (i + 1) (upd TO2 (gFst σ b + i) (gTick σ (gFst σ b + i))) (by omega) (by omega) (tab_s hTO2 rfl) _ _ hP hD hS _ (lv_sub hl [3, 1, 2, 4, 0] rfl)
        exact lp24 (gC σ b - 0 + 1) 0 TO (Nat.lt_succ_self _) (by omega) (hTO) _ _ hP hD hS _ (lv_sub hl [1, 2, 3, 4, 0] rfl)
  exact lp6 (gB σ - 0 + 1) 0 (R 13) (R 14) (Nat.lt_succ_self _) (by omega) (lt_0) (lt_0) _ _ hP hD hS _ (lv_sub hl [3, 2, 1, 0] rfl)
