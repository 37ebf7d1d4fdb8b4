set_option maxHeartbeats 4000000 in
set_option maxRecDepth 100000 in
theorem c_X5_stroke (l : Launch) (G : mx_G) (aD : Nat → Nat) (SD : Nat → Option Nat) (WI : Nat → Int32) (aK : Nat → Nat) (FK : Nat → Int32) (RK : Nat → Nat → Int32) (aJ : Nat → Nat) (FJ : Nat → Int32) (RJ : Nat → Nat → Int32) (aT : Nat → Nat) (FT : Nat → Int32) (RT : Nat → Nat → Int32) (aN : Nat → Nat) (FN : Nat → Int32) (RN : Nat → Nat → Int32) (SR : Nat → Option Nat) (ra rl m12 : Nat) (so : So) (aS : Nat → Nat → Nat) (FS : Nat → Nat → Int32) (RS : Nat → Nat → Nat → Int32) (n : Nat) (T : Nat → Nat) (t : Int32) (hF : FK 1 = nI n) (hn : n ≤ 60) (hT : ∀ i, i < n → RK 0 i = nI (T i) ∧ T i ≤ 1000000) (sz : Nat) : mx_EF l yX5_stroke wsX5_stroke 2 43 0 0 G [.ref (aD 0), .int t] sz (([(aD 0, .inr (5, [.ref (aD 1), .ref (aD 2), .ref (aK 0), .ref (aJ 0), .ref (aT 0), .ref (aN 0)]))]) ++ (([(aD 1, .inl (G.2.2.2, 12, .inr (.inr (.inr (.inr (SD))))))]) ++ (([(aD 2, .inl (G.2.1, 144, .inl (WI)))]) ++ ((KW G aK FK RK) ++ ((JW G aJ FJ RJ) ++ ((TW G aT FT RT) ++ ((NW G aN FN RN SR ra rl) ++ (pool G so aS FS RS m12)))))))) (fun _ : Int32 × (Nat → Int32) => some (.int (aStroke n T t))) (fun u : Int32 × (Nat → Int32) => u.1 = nI (nStn n T t) ∧ u.2 = nStT n T t (RK 0)) (fun u : Int32 × (Nat → Int32) => ([(aD 0, .inr (5, [.ref (aD 1), .ref (aD 2), .ref (aK 0), .ref (aJ 0), .ref (aT 0), .ref (aN 0)]))]) ++ (([(aD 1, .inl (G.2.2.2, 12, .inr (.inr (.inr (.inr (SD))))))]) ++ (([(aD 2, .inl (G.2.1, 144, .inl (WI)))]) ++ ((KW G aK (va_up FK 1 u.1) (va_up RK 0 u.2)) ++ ((JW G aJ FJ RJ) ++ ((TW G aT FT RT) ++ ((NW G aN FN RN SR ra rl) ++ (pool G so aS FS RS m12)))))))) := by
  refine Met.ofW (cc := cX5_stroke) (maxL := 2) (ret := (some .int)) (by decide) rfl ?_
  intro p e s m args below meth c s₁ BB hml hv
  obtain ⟨rfl, ⟨hsz, hP, hD0⟩, hK⟩ := hv
  have hx := BB.exec
  have hb := BB.bytes
  have hr := BB.returns
  have hts := atoms_spec (ws := wsX5_stroke) BB.pre
  have hown : s.vm.findClass RX5 = some m.cls := findClass_of_methodNamed BB.named
  have hlocks := BB.notSynchronized
  subst hsz
  have hD := hD0.self (sz := s.heap.size)
  have hA : ∀ q : Nat, s.heap.size ≤ q → va_A (([(aD 0, .inr (5, [.ref (aD 1), .ref (aD 2), .ref (aK 0), .ref (aJ 0), .ref (aT 0), .ref (aN 0)]))]) ++ (([(aD 1, .inl (G.2.2.2, 12, .inr (.inr (.inr (.inr (SD))))))]) ++ (([(aD 2, .inl (G.2.1, 144, .inl (WI)))]) ++ ((KW G aK FK RK) ++ ((JW G aJ FJ RJ) ++ ((TW G aT FT RT) ++ ((NW G aN FN RN SR ra rl) ++ (pool G so aS FS RS m12)))))))) s.heap.size q := fun q h => Or.inr h
  have hS : va_S (va_A (([(aD 0, .inr (5, [.ref (aD 1), .ref (aD 2), .ref (aK 0), .ref (aJ 0), .ref (aT 0), .ref (aN 0)]))]) ++ (([(aD 1, .inl (G.2.2.2, 12, .inr (.inr (.inr (.inr (SD))))))]) ++ (([(aD 2, .inl (G.2.1, 144, .inl (WI)))]) ++ ((KW G aK FK RK) ++ ((JW G aJ FJ RJ) ++ ((TW G aT FT RT) ++ ((NW G aN FN RN SR ra rl) ++ (pool G so aS FS RS m12)))))))) s.heap.size) s.heap s.heap [] := va_S.rf
  have fl22 := hts (.fieldLink RX5 22 "MixDesk" "strokes" "LMixDesk$Strokes;") (by decide +kernel)
  have inX5 : ∀ w ∈ wsX50, w ∈ wsX5_stroke := by decide +kernel
  have hl := lv_entry ([.ref (aD 0), .int t]) (n := 2) (Nat.le_of_ble_eq_true rfl)
  rw [lg_entry_eq]
  generalize (lg_sl ([.ref (aD 0), .int t]) ++ List.replicate (2 - (lg_sl ([.ref (aD 0), .int t])).length) Slot.unset).toArray = ls at hl ⊢
  have hl : lv_has ls 2 [(0, .ref (aD 0)), (1, .int t)] := hl
  refine lv_aload_n hx hb dX5_stroke_0 rfl (lv_at hl 0 rfl) ?_
  refine va_get (D := G.1) (ci := 5) (v := .ref (aK 0)) (C := RX5) (T := TX5) (N := 6) hx hb hts inX5 hown hK.1 hP 0 rfl rfl 2 (by decide) fl22 (fun _ h9 => h9) rfl dX5_stroke_1 ?_
  refine lv_iload_n hx hb dX5_stroke_4 rfl (lv_at hl 1 rfl) ?_
  refine mx_callEi (va_runV (As := [.int t]) (rest := []) ⟨hx, hb, hml, hown, hts⟩ (c_X4_add l G aK FK RK n T t hF hn hT _) (cwV 1 hts gX5_stroke_X4_add rfl rfl rfl (by decide +kernel) ⟨Nat.le_of_ble_eq_true rfl, Nat.le_of_ble_eq_true rfl⟩) (mx_preV hK ⟨rfl, mx_cut hP hD (a := KW G aK FK RK) (b := ([(aD 0, .inr (5, [.ref (aD 1), .ref (aD 2), .ref (aK 0), .ref (aJ 0), .ref (aT 0), .ref (aN 0)]))]) ++ (([(aD 1, .inl (G.2.2.2, 12, .inr (.inr (.inr (.inr (SD))))))]) ++ (([(aD 2, .inl (G.2.1, 144, .inl (WI)))]) ++ ((JW G aJ FJ RJ) ++ ((TW G aT FT RT) ++ ((NW G aN FN RN SR ra rl) ++ (pool G so aS FS RS m12))))))) (mx_perm (fun n9 hn9 => by simp only [hn9, List.append_nil] <;> omega))⟩ (va_recv hK.1 hP (ci := 4) (q0 := 3) rfl rfl)) rfl rfl hl.1 rfl (lv_room (Nat.le_of_ble_eq_true rfl)) dX5_stroke_5 ⟨Nat.zero_le _, Nat.zero_le _⟩) hP hD hS hA (((mx_perm (fun n9 hn9 => by simp only [hn9, List.append_nil] <;> omega)) : List.Perm _ ((KW G aK FK RK) ++ (([(aD 0, .inr (5, [.ref (aD 1), .ref (aD 2), .ref (aK 0), .ref (aJ 0), .ref (aT 0), .ref (aN 0)]))]) ++ (([(aD 1, .inl (G.2.2.2, 12, .inr (.inr (.inr (.inr (SD))))))]) ++ (([(aD 2, .inl (G.2.1, 144, .inl (WI)))]) ++ ((JW G aJ FJ RJ) ++ ((TW G aT FT RT) ++ ((NW G aN FN RN SR ra rl) ++ (pool G so aS FS RS m12)))))))))) (fun u9 H locs hu9 hP hD hS => ?_)
  have hP : va_P G.1 vwCl ((KW G aK (va_up FK 1 u9.1) (va_up RK 0 u9.2)) ++ (([(aD 0, .inr (5, [.ref (aD 1), .ref (aD 2), .ref (aK 0), .ref (aJ 0), .ref (aT 0), .ref (aN 0)]))]) ++ (([(aD 1, .inl (G.2.2.2, 12, .inr (.inr (.inr (.inr (SD))))))]) ++ (([(aD 2, .inl (G.2.1, 144, .inl (WI)))]) ++ ((JW G aJ FJ RJ) ++ ((TW G aT FT RT) ++ ((NW G aN FN RN SR ra rl) ++ (pool G so aS FS RS m12)))))))) H := hP
  have hD : va_D _ ((KW G aK (va_up FK 1 u9.1) (va_up RK 0 u9.2)) ++ (([(aD 0, .inr (5, [.ref (aD 1), .ref (aD 2), .ref (aK 0), .ref (aJ 0), .ref (aT 0), .ref (aN 0)]))]) ++ (([(aD 1, .inl (G.2.2.2, 12, .inr (.inr (.inr (.inr (SD))))))]) ++ (([(aD 2, .inl (G.2.1, 144, .inl (WI)))]) ++ ((JW G aJ FJ RJ) ++ ((TW G aT FT RT) ++ ((NW G aN FN RN SR ra rl) ++ (pool G so aS FS RS m12)))))))) := hD
  have hP : va_P G.1 vwCl (([(aD 0, .inr (5, [.ref (aD 1), .ref (aD 2), .ref (aK 0), .ref (aJ 0), .ref (aT 0), .ref (aN 0)]))]) ++ (([(aD 1, .inl (G.2.2.2, 12, .inr (.inr (.inr (.inr (SD))))))]) ++ (([(aD 2, .inl (G.2.1, 144, .inl (WI)))]) ++ ((KW G aK (va_up FK 1 u9.1) (va_up RK 0 u9.2)) ++ ((JW G aJ FJ RJ) ++ ((TW G aT FT RT) ++ ((NW G aN FN RN SR ra rl) ++ (pool G so aS FS RS m12)))))))) H := mx_Pperm hP (mx_perm (fun n9 hn9 => by simp only [hn9, List.append_nil] <;> omega))
  have hD : va_D _ (([(aD 0, .inr (5, [.ref (aD 1), .ref (aD 2), .ref (aK 0), .ref (aJ 0), .ref (aT 0), .ref (aN 0)]))]) ++ (([(aD 1, .inl (G.2.2.2, 12, .inr (.inr (.inr (.inr (SD))))))]) ++ (([(aD 2, .inl (G.2.1, 144, .inl (WI)))]) ++ ((KW G aK (va_up FK 1 u9.1) (va_up RK 0 u9.2)) ++ ((JW G aJ FJ RJ) ++ ((TW G aT FT RT) ++ ((NW G aN FN RN SR ra rl) ++ (pool G so aS FS RS m12)))))))) := mx_Dperm hD (mx_perm (fun n9 hn9 => by simp only [hn9, List.append_nil] <;> omega))
  exact W.iret (v := aStroke n T t) hx hb hr (fun t9 ht9 hW9 => ⟨⟨u9, rfl, hu9, by rw [ht9]; exact hP, hD⟩, hS.F ht9⟩) hS.2.2 dX5_stroke_8

set_option maxHeartbeats 4000000 in
set_option maxRecDepth 100000 in
theorem c_X5_clear (l : Launch) (G : mx_G) (aD : Nat → Nat) (SD : Nat → Option Nat) (WI : Nat → Int32) (aK : Nat → Nat) (FK : Nat → Int32) (RK : Nat → Nat → Int32) (aJ : Nat → Nat) (FJ : Nat → Int32) (RJ : Nat → Nat → Int32) (aT : Nat → Nat) (FT : Nat → Int32) (RT : Nat → Nat → Int32) (aN : Nat → Nat) (FN : Nat → Int32) (RN : Nat → Nat → Int32) (SR : Nat → Option Nat) (ra rl m12 : Nat) (so : So) (aS : Nat → Nat → Nat) (FS : Nat → Nat → Int32) (RS : Nat → Nat → Nat → Int32) (n : Nat) (hF : FK 1 = nI n) (sz : Nat) : mx_EF l yX5_clear wsX5_clear 1 21 0 0 G [.ref (aD 0)] sz (([(aD 0, .inr (5, [.ref (aD 1), .ref (aD 2), .ref (aK 0), .ref (aJ 0), .ref (aT 0), .ref (aN 0)]))]) ++ (([(aD 1, .inl (G.2.2.2, 12, .inr (.inr (.inr (.inr (SD))))))]) ++ (([(aD 2, .inl (G.2.1, 144, .inl (WI)))]) ++ ((KW G aK FK RK) ++ ((JW G aJ FJ RJ) ++ ((TW G aT FT RT) ++ ((NW G aN FN RN SR ra rl) ++ (pool G so aS FS RS m12)))))))) (fun _ : Unit => some (.int (nI n))) (fun _ : Unit => True) (fun u : Unit => ([(aD 0, .inr (5, [.ref (aD 1), .ref (aD 2), .ref (aK 0), .ref (aJ 0), .ref (aT 0), .ref (aN 0)]))]) ++ (([(aD 1, .inl (G.2.2.2, 12, .inr (.inr (.inr (.inr (SD))))))]) ++ (([(aD 2, .inl (G.2.1, 144, .inl (WI)))]) ++ ((KW G aK (va_up FK 1 (nI 0)) RK) ++ ((JW G aJ FJ RJ) ++ ((TW G aT FT RT) ++ ((NW G aN FN RN SR ra rl) ++ (pool G so aS FS RS m12)))))))) := by
  refine Met.ofW (cc := cX5_clear) (maxL := 1) (ret := (some .int)) (by decide) rfl ?_
  intro p e s m args below meth c s₁ BB hml hv
  obtain ⟨rfl, ⟨hsz, hP, hD0⟩, hK⟩ := hv
  have hx := BB.exec
  have hb := BB.bytes
  have hr := BB.returns
  have hts := atoms_spec (ws := wsX5_clear) BB.pre
  have hown : s.vm.findClass RX5 = some m.cls := findClass_of_methodNamed BB.named
  have hlocks := BB.notSynchronized
  subst hsz
  have hD := hD0.self (sz := s.heap.size)
  have hA : ∀ q : Nat, s.heap.size ≤ q → va_A (([(aD 0, .inr (5, [.ref (aD 1), .ref (aD 2), .ref (aK 0), .ref (aJ 0), .ref (aT 0), .ref (aN 0)]))]) ++ (([(aD 1, .inl (G.2.2.2, 12, .inr (.inr (.inr (.inr (SD))))))]) ++ (([(aD 2, .inl (G.2.1, 144, .inl (WI)))]) ++ ((KW G aK FK RK) ++ ((JW G aJ FJ RJ) ++ ((TW G aT FT RT) ++ ((NW G aN FN RN SR ra rl) ++ (pool G so aS FS RS m12)))))))) s.heap.size q := fun q h => Or.inr h
  have hS : va_S (va_A (([(aD 0, .inr (5, [.ref (aD 1), .ref (aD 2), .ref (aK 0), .ref (aJ 0), .ref (aT 0), .ref (aN 0)]))]) ++ (([(aD 1, .inl (G.2.2.2, 12, .inr (.inr (.inr (.inr (SD))))))]) ++ (([(aD 2, .inl (G.2.1, 144, .inl (WI)))]) ++ ((KW G aK FK RK) ++ ((JW G aJ FJ RJ) ++ ((TW G aT FT RT) ++ ((NW G aN FN RN SR ra rl) ++ (pool G so aS FS RS m12)))))))) s.heap.size) s.heap s.heap [] := va_S.rf
  have fl22 := hts (.fieldLink RX5 22 "MixDesk" "strokes" "LMixDesk$Strokes;") (by decide +kernel)
  have inX5 : ∀ w ∈ wsX50, w ∈ wsX5_clear := by decide +kernel
  have hl := lv_entry ([.ref (aD 0)]) (n := 1) (Nat.le_of_ble_eq_true rfl)
  rw [lg_entry_eq]
  generalize (lg_sl ([.ref (aD 0)]) ++ List.replicate (1 - (lg_sl ([.ref (aD 0)])).length) Slot.unset).toArray = ls at hl ⊢
  have hl : lv_has ls 1 [(0, .ref (aD 0))] := hl
  refine lv_aload_n hx hb dX5_clear_0 rfl (lv_at hl 0 rfl) ?_
  refine va_get (D := G.1) (ci := 5) (v := .ref (aK 0)) (C := RX5) (T := TX5) (N := 6) hx hb hts inX5 hown hK.1 hP 0 rfl rfl 2 (by decide) fl22 (fun _ h9 => h9) rfl dX5_clear_1 ?_
  refine mx_callEi (va_runV (As := []) (rest := []) ⟨hx, hb, hml, hown, hts⟩ (c_X4_empty l G aK FK RK n hF _) (cwV 0 hts gX5_clear_X4_empty rfl rfl rfl (by decide +kernel) ⟨Nat.le_of_ble_eq_true rfl, Nat.le_of_ble_eq_true rfl⟩) (mx_preV hK ⟨rfl, mx_cut hP hD (a := KW G aK FK RK) (b := ([(aD 0, .inr (5, [.ref (aD 1), .ref (aD 2), .ref (aK 0), .ref (aJ 0), .ref (aT 0), .ref (aN 0)]))]) ++ (([(aD 1, .inl (G.2.2.2, 12, .inr (.inr (.inr (.inr (SD))))))]) ++ (([(aD 2, .inl (G.2.1, 144, .inl (WI)))]) ++ ((JW G aJ FJ RJ) ++ ((TW G aT FT RT) ++ ((NW G aN FN RN SR ra rl) ++ (pool G so aS FS RS m12))))))) (mx_perm (fun n9 hn9 => by simp only [hn9, List.append_nil] <;> omega))⟩ (va_recv hK.1 hP (ci := 4) (q0 := 3) rfl rfl)) rfl rfl hl.1 rfl (lv_room (Nat.le_of_ble_eq_true rfl)) dX5_clear_4 ⟨Nat.zero_le _, Nat.zero_le _⟩) hP hD hS hA (((mx_perm (fun n9 hn9 => by simp only [hn9, List.append_nil] <;> omega)) : List.Perm _ ((KW G aK FK RK) ++ (([(aD 0, .inr (5, [.ref (aD 1), .ref (aD 2), .ref (aK 0), .ref (aJ 0), .ref (aT 0), .ref (aN 0)]))]) ++ (([(aD 1, .inl (G.2.2.2, 12, .inr (.inr (.inr (.inr (SD))))))]) ++ (([(aD 2, .inl (G.2.1, 144, .inl (WI)))]) ++ ((JW G aJ FJ RJ) ++ ((TW G aT FT RT) ++ ((NW G aN FN RN SR ra rl) ++ (pool G so aS FS RS m12)))))))))) (fun u9 H locs hu9 hP hD hS => ?_)
  have hP : va_P G.1 vwCl ((KW G aK (va_up FK 1 (nI 0)) RK) ++ (([(aD 0, .inr (5, [.ref (aD 1), .ref (aD 2), .ref (aK 0), .ref (aJ 0), .ref (aT 0), .ref (aN 0)]))]) ++ (([(aD 1, .inl (G.2.2.2, 12, .inr (.inr (.inr (.inr (SD))))))]) ++ (([(aD 2, .inl (G.2.1, 144, .inl (WI)))]) ++ ((JW G aJ FJ RJ) ++ ((TW G aT FT RT) ++ ((NW G aN FN RN SR ra rl) ++ (pool G so aS FS RS m12)))))))) H := hP
  have hD : va_D _ ((KW G aK (va_up FK 1 (nI 0)) RK) ++ (([(aD 0, .inr (5, [.ref (aD 1), .ref (aD 2), .ref (aK 0), .ref (aJ 0), .ref (aT 0), .ref (aN 0)]))]) ++ (([(aD 1, .inl (G.2.2.2, 12, .inr (.inr (.inr (.inr (SD))))))]) ++ (([(aD 2, .inl (G.2.1, 144, .inl (WI)))]) ++ ((JW G aJ FJ RJ) ++ ((TW G aT FT RT) ++ ((NW G aN FN RN SR ra rl) ++ (pool G so aS FS RS m12)))))))) := hD
  have hP : va_P G.1 vwCl (([(aD 0, .inr (5, [.ref (aD 1), .ref (aD 2), .ref (aK 0), .ref (aJ 0), .ref (aT 0), .ref (aN 0)]))]) ++ (([(aD 1, .inl (G.2.2.2, 12, .inr (.inr (.inr (.inr (SD))))))]) ++ (([(aD 2, .inl (G.2.1, 144, .inl (WI)))]) ++ ((KW G aK (va_up FK 1 (nI 0)) RK) ++ ((JW G aJ FJ RJ) ++ ((TW G aT FT RT) ++ ((NW G aN FN RN SR ra rl) ++ (pool G so aS FS RS m12)))))))) H := mx_Pperm hP (mx_perm (fun n9 hn9 => by simp only [hn9, List.append_nil] <;> omega))
  have hD : va_D _ (([(aD 0, .inr (5, [.ref (aD 1), .ref (aD 2), .ref (aK 0), .ref (aJ 0), .ref (aT 0), .ref (aN 0)]))]) ++ (([(aD 1, .inl (G.2.2.2, 12, .inr (.inr (.inr (.inr (SD))))))]) ++ (([(aD 2, .inl (G.2.1, 144, .inl (WI)))]) ++ ((KW G aK (va_up FK 1 (nI 0)) RK) ++ ((JW G aJ FJ RJ) ++ ((TW G aT FT RT) ++ ((NW G aN FN RN SR ra rl) ++ (pool G so aS FS RS m12)))))))) := mx_Dperm hD (mx_perm (fun n9 hn9 => by simp only [hn9, List.append_nil] <;> omega))
  exact W.iret (v := nI n) hx hb hr (fun t9 ht9 hW9 => ⟨⟨(), rfl, trivial, by rw [ht9]; exact hP, hD⟩, hS.F ht9⟩) hS.2.2 dX5_clear_7

set_option maxHeartbeats 4000000 in
set_option maxRecDepth 100000 in
theorem c_X5_find (l : Launch) (G : mx_G) (aD : Nat → Nat) (SD : Nat → Option Nat) (WI : Nat → Int32) (aK : Nat → Nat) (FK : Nat → Int32) (RK : Nat → Nat → Int32) (aJ : Nat → Nat) (FJ : Nat → Int32) (RJ : Nat → Nat → Int32) (aT : Nat → Nat) (FT : Nat → Int32) (RT : Nat → Nat → Int32) (aN : Nat → Nat) (FN : Nat → Int32) (RN : Nat → Nat → Int32) (SR : Nat → Option Nat) (ra rl m12 : Nat) (so : So) (aS : Nat → Nat → Nat) (FS : Nat → Nat → Int32) (RS : Nat → Nat → Nat → Int32) (n : Nat) (T : Nat → Nat) (gap miss skip : Int32) (hF : FK 1 = nI n) (hn : n ≤ 60) (hT : ∀ i, i < n → RK 0 i = nI (T i) ∧ T i ≤ 1000000) (hTm : ∀ i k, k < i → i < n → T k < T i) (sz : Nat) : mx_EF l yX5_find wsX5_find 4 95 0 0 G [.ref (aD 0), .int gap, .int miss, .int skip] sz (([(aD 0, .inr (5, [.ref (aD 1), .ref (aD 2), .ref (aK 0), .ref (aJ 0), .ref (aT 0), .ref (aN 0)]))]) ++ (([(aD 1, .inl (G.2.2.2, 12, .inr (.inr (.inr (.inr (SD))))))]) ++ (([(aD 2, .inl (G.2.1, 144, .inl (WI)))]) ++ ((KW G aK FK RK) ++ ((JW G aJ FJ RJ) ++ ((TW G aT FT RT) ++ ((NW G aN FN RN SR ra rl) ++ (pool G so aS FS RS m12)))))))) (fun _ : Int32 × (Nat → Int32) × (Nat → Int32) × (Nat → Int32) => some (.int (aFind T n gap miss skip))) (fun u : Int32 × (Nat → Int32) × (Nat → Int32) × (Nat → Int32) => (okFind gap miss skip n → ∃ cnt, u.1 = nI cnt ∧ cnt ≤ 60 ∧ isFound T gap.toNatClampNeg miss.toNatClampNeg skip.toNatClampNeg n cnt u.2.2.2) ∧ (¬ okFind gap miss skip n → u.1 = FK 5 ∧ u.2.2.2 = RK 4)) (fun u : Int32 × (Nat → Int32) × (Nat → Int32) × (Nat → Int32) => ([(aD 0, .inr (5, [.ref (aD 1), .ref (aD 2), .ref (aK 0), .ref (aJ 0), .ref (aT 0), .ref (aN 0)]))]) ++ (([(aD 1, .inl (G.2.2.2, 12, .inr (.inr (.inr (.inr (SD))))))]) ++ (([(aD 2, .inl (G.2.1, 144, .inl (WI)))]) ++ ((KW G aK (va_up FK 5 u.1) (va_up (va_up (va_up RK 2 u.2.1) 3 u.2.2.1) 4 u.2.2.2)) ++ ((JW G aJ FJ RJ) ++ ((TW G aT FT RT) ++ ((NW G aN FN RN SR ra rl) ++ (pool G so aS FS RS m12)))))))) := by
  refine Met.ofW (cc := cX5_find) (maxL := 4) (ret := (some .int)) (by decide) rfl ?_
  intro p e s m args below meth c s₁ BB hml hv
  obtain ⟨rfl, ⟨hsz, hP, hD0⟩, hK⟩ := hv
  have hx := BB.exec
  have hb := BB.bytes
  have hr := BB.returns
  have hts := atoms_spec (ws := wsX5_find) BB.pre
  have hown : s.vm.findClass RX5 = some m.cls := findClass_of_methodNamed BB.named
  have hlocks := BB.notSynchronized
  subst hsz
  have hD := hD0.self (sz := s.heap.size)
  have hA : ∀ q : Nat, s.heap.size ≤ q → va_A (([(aD 0, .inr (5, [.ref (aD 1), .ref (aD 2), .ref (aK 0), .ref (aJ 0), .ref (aT 0), .ref (aN 0)]))]) ++ (([(aD 1, .inl (G.2.2.2, 12, .inr (.inr (.inr (.inr (SD))))))]) ++ (([(aD 2, .inl (G.2.1, 144, .inl (WI)))]) ++ ((KW G aK FK RK) ++ ((JW G aJ FJ RJ) ++ ((TW G aT FT RT) ++ ((NW G aN FN RN SR ra rl) ++ (pool G so aS FS RS m12)))))))) s.heap.size q := fun q h => Or.inr h
  have hS : va_S (va_A (([(aD 0, .inr (5, [.ref (aD 1), .ref (aD 2), .ref (aK 0), .ref (aJ 0), .ref (aT 0), .ref (aN 0)]))]) ++ (([(aD 1, .inl (G.2.2.2, 12, .inr (.inr (.inr (.inr (SD))))))]) ++ (([(aD 2, .inl (G.2.1, 144, .inl (WI)))]) ++ ((KW G aK FK RK) ++ ((JW G aJ FJ RJ) ++ ((TW G aT FT RT) ++ ((NW G aN FN RN SR ra rl) ++ (pool G so aS FS RS m12)))))))) s.heap.size) s.heap s.heap [] := va_S.rf
  have fl22 := hts (.fieldLink RX5 22 "MixDesk" "strokes" "LMixDesk$Strokes;") (by decide +kernel)
  have inX5 : ∀ w ∈ wsX50, w ∈ wsX5_find := by decide +kernel
  have hl := lv_entry ([.ref (aD 0), .int gap, .int miss, .int skip]) (n := 4) (Nat.le_of_ble_eq_true rfl)
  rw [lg_entry_eq]
  generalize (lg_sl ([.ref (aD 0), .int gap, .int miss, .int skip]) ++ List.replicate (4 - (lg_sl ([.ref (aD 0), .int gap, .int miss, .int skip])).length) Slot.unset).toArray = ls at hl ⊢
  have hl : lv_has ls 4 [(0, .ref (aD 0)), (1, .int gap), (2, .int miss), (3, .int skip)] := hl
  refine lv_iload_n hx hb dX5_find_0 rfl (lv_at hl 1 rfl) ?_
  refine lv_bipush (v := nI 10) hx hb dX5_find_1 (by decide) ?_
  refine lv_sipush (v := nI 1000) hx hb dX5_find_3 (by decide) ?_
  refine mx_callRO (v := .int (wi gap (nI 10) (nI 1000))) (va_runS (As := [.int gap, .int (nI 10), .int (nI 1000)]) (rest := []) ⟨hx, hb, hml, hown, hts⟩ (c_X5_within l G gap (nI 10) (nI 1000)) (va_cwS 3 hts gX5_find_X5_within rfl rfl rfl (by decide +kernel) ⟨Nat.le_of_ble_eq_true rfl, Nat.le_of_ble_eq_true rfl⟩) (mx_preS hK trivial) rfl rfl hl.1 rfl (lv_room (Nat.le_of_ble_eq_true rfl)) dX5_find_6 ⟨Nat.zero_le _, Nat.zero_le _⟩) ?_
  refine lv_if_eq (tgt := 34) hx hb dX5_find_9 (by decide) (fun c_9 => ?_) (fun c_9 => ?_)
  · refine lv_iconst (v := (-1)) hx hb dX5_find_34 (by decide) ?_
    refine x_top (y := aFind T n gap miss skip) (find_rno (fun q => (wi_0 c_9).elim q.1.1 q.1.2)) ?_
    exact W.iret (v := aFind T n gap miss skip) hx hb hr (fun t9 ht9 hW9 => ⟨⟨(FK 5, RK 2, RK 3, RK 4), rfl, ⟨fun q => absurd q (fun q => (wi_0 c_9).elim q.1.1 q.1.2), fun _ => ⟨rfl, rfl⟩⟩, by rw [ht9]; exact hP, hD⟩, hS.F ht9⟩) hS.2.2 dX5_find_35
  · refine lv_iload_n hx hb dX5_find_12 rfl (lv_at hl 2 rfl) ?_
    refine lv_iconst (v := nI 0) hx hb dX5_find_13 (by decide) ?_
    refine lv_sipush (v := nI 10000) hx hb dX5_find_14 (by decide) ?_
    refine mx_callRO (v := .int (wi miss (nI 0) (nI 10000))) (va_runS (As := [.int miss, .int (nI 0), .int (nI 10000)]) (rest := []) ⟨hx, hb, hml, hown, hts⟩ (c_X5_within l G miss (nI 0) (nI 10000)) (va_cwS 3 hts gX5_find_X5_within rfl rfl rfl (by decide +kernel) ⟨Nat.le_of_ble_eq_true rfl, Nat.le_of_ble_eq_true rfl⟩) (mx_preS hK trivial) rfl rfl hl.1 rfl (lv_room (Nat.le_of_ble_eq_true rfl)) dX5_find_17 ⟨Nat.zero_le _, Nat.zero_le _⟩) ?_
    refine lv_if_eq (tgt := 34) hx hb dX5_find_20 (by decide) (fun c_20 => ?_) (fun c_20 => ?_)
    · refine lv_iconst (v := (-1)) hx hb dX5_find_34 (by decide) ?_
      refine x_top (y := aFind T n gap miss skip) (find_rno (fun q => (wi_0 c_20).elim q.2.1.1 q.2.1.2)) ?_
      exact W.iret (v := aFind T n gap miss skip) hx hb hr (fun t9 ht9 hW9 => ⟨⟨(FK 5, RK 2, RK 3, RK 4), rfl, ⟨fun q => absurd q (fun q => (wi_0 c_20).elim q.2.1.1 q.2.1.2), fun _ => ⟨rfl, rfl⟩⟩, by rw [ht9]; exact hP, hD⟩, hS.F ht9⟩) hS.2.2 dX5_find_35
    · refine lv_iload_n hx hb dX5_find_23 rfl (lv_at hl 3 rfl) ?_
      refine lv_iconst (v := nI 0) hx hb dX5_find_24 (by decide) ?_
      refine lv_sipush (v := nI 10000) hx hb dX5_find_25 (by decide) ?_
      refine mx_callRO (v := .int (wi skip (nI 0) (nI 10000))) (va_runS (As := [.int skip, .int (nI 0), .int (nI 10000)]) (rest := []) ⟨hx, hb, hml, hown, hts⟩ (c_X5_within l G skip (nI 0) (nI 10000)) (va_cwS 3 hts gX5_find_X5_within rfl rfl rfl (by decide +kernel) ⟨Nat.le_of_ble_eq_true rfl, Nat.le_of_ble_eq_true rfl⟩) (mx_preS hK trivial) rfl rfl hl.1 rfl (lv_room (Nat.le_of_ble_eq_true rfl)) dX5_find_28 ⟨Nat.zero_le _, Nat.zero_le _⟩) ?_
      refine lv_if_ne (tgt := 36) hx hb dX5_find_31 (by decide) (fun c_31 => ?_) (fun c_31 => ?_)
      · obtain ⟨gp, hgp0, hgp, rfl⟩ := gap_of c_9
        obtain ⟨ms, hms, rfl⟩ := nat_of (by omega) c_20
        obtain ⟨sk, hsk, rfl⟩ := nat_of (by omega) c_31
        refine lv_aload_n hx hb dX5_find_36 rfl (lv_at hl 0 rfl) ?_
        refine va_get (D := G.1) (ci := 5) (v := .ref (aK 0)) (C := RX5) (T := TX5) (N := 6) hx hb hts inX5 hown hK.1 hP 0 rfl rfl 2 (by decide) fl22 (fun _ h9 => h9) rfl dX5_find_37 ?_
        refine lv_iload_n hx hb dX5_find_40 rfl (lv_at hl 1 rfl) ?_
        refine lv_iload_n hx hb dX5_find_41 rfl (lv_at hl 2 rfl) ?_
        refine lv_iload_n hx hb dX5_find_42 rfl (lv_at hl 3 rfl) ?_
        refine mx_callEi (va_runV (As := [.int (nI gp), .int (nI ms), .int (nI sk)]) (rest := []) ⟨hx, hb, hml, hown, hts⟩ (c_X4_seekBeats l G aK FK RK n T gp ms sk hF hn hT hTm hgp0 hgp hms hsk _) (cwV 3 hts gX5_find_X4_seekBeats rfl rfl rfl (by decide +kernel) ⟨Nat.le_of_ble_eq_true rfl, Nat.le_of_ble_eq_true rfl⟩) (mx_preV hK ⟨rfl, mx_cut hP hD (a := KW G aK FK RK) (b := ([(aD 0, .inr (5, [.ref (aD 1), .ref (aD 2), .ref (aK 0), .ref (aJ 0), .ref (aT 0), .ref (aN 0)]))]) ++ (([(aD 1, .inl (G.2.2.2, 12, .inr (.inr (.inr (.inr (SD))))))]) ++ (([(aD 2, .inl (G.2.1, 144, .inl (WI)))]) ++ ((JW G aJ FJ RJ) ++ ((TW G aT FT RT) ++ ((NW G aN FN RN SR ra rl) ++ (pool G so aS FS RS m12))))))) (mx_perm (fun n9 hn9 => by simp only [hn9, List.append_nil] <;> omega))⟩ (va_recv hK.1 hP (ci := 4) (q0 := 3) rfl rfl)) rfl rfl hl.1 rfl (lv_room (Nat.le_of_ble_eq_true rfl)) dX5_find_43 ⟨Nat.zero_le _, Nat.zero_le _⟩) hP hD hS hA (((mx_perm (fun n9 hn9 => by simp only [hn9, List.append_nil] <;> omega)) : List.Perm _ ((KW G aK FK RK) ++ (([(aD 0, .inr (5, [.ref (aD 1), .ref (aD 2), .ref (aK 0), .ref (aJ 0), .ref (aT 0), .ref (aN 0)]))]) ++ (([(aD 1, .inl (G.2.2.2, 12, .inr (.inr (.inr (.inr (SD))))))]) ++ (([(aD 2, .inl (G.2.1, 144, .inl (WI)))]) ++ ((JW G aJ FJ RJ) ++ ((TW G aT FT RT) ++ ((NW G aN FN RN SR ra rl) ++ (pool G so aS FS RS m12)))))))))) (fun u9 H locs hu9 hP hD hS => ?_)
        have hP : va_P G.1 vwCl ((KW G aK (va_up FK 5 u9.1) (va_up (va_up (va_up RK 2 u9.2.1) 3 u9.2.2.1) 4 u9.2.2.2)) ++ (([(aD 0, .inr (5, [.ref (aD 1), .ref (aD 2), .ref (aK 0), .ref (aJ 0), .ref (aT 0), .ref (aN 0)]))]) ++ (([(aD 1, .inl (G.2.2.2, 12, .inr (.inr (.inr (.inr (SD))))))]) ++ (([(aD 2, .inl (G.2.1, 144, .inl (WI)))]) ++ ((JW G aJ FJ RJ) ++ ((TW G aT FT RT) ++ ((NW G aN FN RN SR ra rl) ++ (pool G so aS FS RS m12)))))))) H := hP
        have hD : va_D _ ((KW G aK (va_up FK 5 u9.1) (va_up (va_up (va_up RK 2 u9.2.1) 3 u9.2.2.1) 4 u9.2.2.2)) ++ (([(aD 0, .inr (5, [.ref (aD 1), .ref (aD 2), .ref (aK 0), .ref (aJ 0), .ref (aT 0), .ref (aN 0)]))]) ++ (([(aD 1, .inl (G.2.2.2, 12, .inr (.inr (.inr (.inr (SD))))))]) ++ (([(aD 2, .inl (G.2.1, 144, .inl (WI)))]) ++ ((JW G aJ FJ RJ) ++ ((TW G aT FT RT) ++ ((NW G aN FN RN SR ra rl) ++ (pool G so aS FS RS m12)))))))) := hD
        have hP : va_P G.1 vwCl (([(aD 0, .inr (5, [.ref (aD 1), .ref (aD 2), .ref (aK 0), .ref (aJ 0), .ref (aT 0), .ref (aN 0)]))]) ++ (([(aD 1, .inl (G.2.2.2, 12, .inr (.inr (.inr (.inr (SD))))))]) ++ (([(aD 2, .inl (G.2.1, 144, .inl (WI)))]) ++ ((KW G aK (va_up FK 5 u9.1) (va_up (va_up (va_up RK 2 u9.2.1) 3 u9.2.2.1) 4 u9.2.2.2)) ++ ((JW G aJ FJ RJ) ++ ((TW G aT FT RT) ++ ((NW G aN FN RN SR ra rl) ++ (pool G so aS FS RS m12)))))))) H := mx_Pperm hP (mx_perm (fun n9 hn9 => by simp only [hn9, List.append_nil] <;> omega))
        have hD : va_D _ (([(aD 0, .inr (5, [.ref (aD 1), .ref (aD 2), .ref (aK 0), .ref (aJ 0), .ref (aT 0), .ref (aN 0)]))]) ++ (([(aD 1, .inl (G.2.2.2, 12, .inr (.inr (.inr (.inr (SD))))))]) ++ (([(aD 2, .inl (G.2.1, 144, .inl (WI)))]) ++ ((KW G aK (va_up FK 5 u9.1) (va_up (va_up (va_up RK 2 u9.2.1) 3 u9.2.2.1) 4 u9.2.2.2)) ++ ((JW G aJ FJ RJ) ++ ((TW G aT FT RT) ++ ((NW G aN FN RN SR ra rl) ++ (pool G so aS FS RS m12)))))))) := mx_Dperm hD (mx_perm (fun n9 hn9 => by simp only [hn9, List.append_nil] <;> omega))
        refine x_top (y := aFind T n (nI gp) (nI ms) (nI sk)) (find_ret hgp0 hgp hms hsk) ?_
        exact W.iret (v := aFind T n (nI gp) (nI ms) (nI sk)) hx hb hr (fun t9 ht9 hW9 => ⟨⟨u9, rfl, ⟨fun q => by rw [nI_clamp (by omega), nI_clamp (by omega), nI_clamp (by omega)]; exact hu9.1 q.2.2.2, fun q => hu9.2 (Classical.not_not.mp (fun z => q ((okFind_n hgp0 hgp hms hsk).mpr z)))⟩, by rw [ht9]; exact hP, hD⟩, hS.F ht9⟩) hS.2.2 dX5_find_46
      · refine lv_iconst (v := (-1)) hx hb dX5_find_34 (by decide) ?_
        refine x_top (y := aFind T n gap miss skip) (find_rno (fun q => (wi_0 c_31).elim q.2.2.1.1 q.2.2.1.2)) ?_
        exact W.iret (v := aFind T n gap miss skip) hx hb hr (fun t9 ht9 hW9 => ⟨⟨(FK 5, RK 2, RK 3, RK 4), rfl, ⟨fun q => absurd q (fun q => (wi_0 c_31).elim q.2.2.1.1 q.2.2.1.2), fun _ => ⟨rfl, rfl⟩⟩, by rw [ht9]; exact hP, hD⟩, hS.F ht9⟩) hS.2.2 dX5_find_35

set_option maxHeartbeats 4000000 in
set_option maxRecDepth 100000 in
theorem c_X5_costs (l : Launch) (G : mx_G) (aD : Nat → Nat) (SD : Nat → Option Nat) (WI : Nat → Int32) (aK : Nat → Nat) (FK : Nat → Int32) (RK : Nat → Nat → Int32) (aJ : Nat → Nat) (FJ : Nat → Int32) (RJ : Nat → Nat → Int32) (aT : Nat → Nat) (FT : Nat → Int32) (RT : Nat → Nat → Int32) (aN : Nat → Nat) (FN : Nat → Int32) (RN : Nat → Nat → Int32) (SR : Nat → Option Nat) (ra rl m12 : Nat) (so : So) (aS : Nat → Nat → Nat) (FS : Nat → Nat → Int32) (RS : Nat → Nat → Nat → Int32) (b k h : Int32) (sz : Nat) : mx_EF l yX5_costs wsX5_costs 2 46 0 0 G [.ref (aD 0), .int b, .int k, .int h] sz (([(aD 0, .inr (5, [.ref (aD 1), .ref (aD 2), .ref (aK 0), .ref (aJ 0), .ref (aT 0), .ref (aN 0)]))]) ++ (([(aD 1, .inl (G.2.2.2, 12, .inr (.inr (.inr (.inr (SD))))))]) ++ (([(aD 2, .inl (G.2.1, 144, .inl (WI)))]) ++ ((KW G aK FK RK) ++ ((JW G aJ FJ RJ) ++ ((TW G aT FT RT) ++ ((NW G aN FN RN SR ra rl) ++ (pool G so aS FS RS m12)))))))) (fun _ : (Nat → Int32) × (Nat → Int32) => some (.int (b2i (okCost b k h)))) (fun u : (Nat → Int32) × (Nat → Int32) => (okCost b k h → u.1 = va_up (va_up (va_up FJ 0 b) 1 k) 2 h ∧ ∀ q, q < 1152 → u.2 q = (-1)) ∧ (¬ okCost b k h → u.1 = FJ ∧ u.2 = RJ 3)) (fun u : (Nat → Int32) × (Nat → Int32) => ([(aD 0, .inr (5, [.ref (aD 1), .ref (aD 2), .ref (aK 0), .ref (aJ 0), .ref (aT 0), .ref (aN 0)]))]) ++ (([(aD 1, .inl (G.2.2.2, 12, .inr (.inr (.inr (.inr (SD))))))]) ++ (([(aD 2, .inl (G.2.1, 144, .inl (WI)))]) ++ ((KW G aK FK RK) ++ ((JW G aJ u.1 (va_up RJ 3 u.2)) ++ ((TW G aT FT RT) ++ ((NW G aN FN RN SR ra rl) ++ (pool G so aS FS RS m12)))))))) := by
  refine Met.ofW (cc := cX5_costs) (maxL := 4) (ret := (some .boolean)) (by decide) rfl ?_
  intro p e s m args below meth c s₁ BB hml hv
  obtain ⟨rfl, ⟨hsz, hP, hD0⟩, hK⟩ := hv
  have hx := BB.exec
  have hb := BB.bytes
  have hr := BB.returns
  have hts := atoms_spec (ws := wsX5_costs) BB.pre
  have hown : s.vm.findClass RX5 = some m.cls := findClass_of_methodNamed BB.named
  have hlocks := BB.notSynchronized
  subst hsz
  have hD := hD0.self (sz := s.heap.size)
  have hA : ∀ q : Nat, s.heap.size ≤ q → va_A (([(aD 0, .inr (5, [.ref (aD 1), .ref (aD 2), .ref (aK 0), .ref (aJ 0), .ref (aT 0), .ref (aN 0)]))]) ++ (([(aD 1, .inl (G.2.2.2, 12, .inr (.inr (.inr (.inr (SD))))))]) ++ (([(aD 2, .inl (G.2.1, 144, .inl (WI)))]) ++ ((KW G aK FK RK) ++ ((JW G aJ FJ RJ) ++ ((TW G aT FT RT) ++ ((NW G aN FN RN SR ra rl) ++ (pool G so aS FS RS m12)))))))) s.heap.size q := fun q h => Or.inr h
  have hS : va_S (va_A (([(aD 0, .inr (5, [.ref (aD 1), .ref (aD 2), .ref (aK 0), .ref (aJ 0), .ref (aT 0), .ref (aN 0)]))]) ++ (([(aD 1, .inl (G.2.2.2, 12, .inr (.inr (.inr (.inr (SD))))))]) ++ (([(aD 2, .inl (G.2.1, 144, .inl (WI)))]) ++ ((KW G aK FK RK) ++ ((JW G aJ FJ RJ) ++ ((TW G aT FT RT) ++ ((NW G aN FN RN SR ra rl) ++ (pool G so aS FS RS m12)))))))) s.heap.size) s.heap s.heap [] := va_S.rf
  have fl29 := hts (.fieldLink RX5 29 "MixDesk" "joins" "LMixDesk$Joins;") (by decide +kernel)
  have inX5 : ∀ w ∈ wsX50, w ∈ wsX5_costs := by decide +kernel
  have hl := lv_entry ([.ref (aD 0), .int b, .int k, .int h]) (n := 4) (Nat.le_of_ble_eq_true rfl)
  rw [lg_entry_eq]
  generalize (lg_sl ([.ref (aD 0), .int b, .int k, .int h]) ++ List.replicate (4 - (lg_sl ([.ref (aD 0), .int b, .int k, .int h])).length) Slot.unset).toArray = ls at hl ⊢
  have hl : lv_has ls 4 [(0, .ref (aD 0)), (1, .int b), (2, .int k), (3, .int h)] := hl
  refine lv_iload_n hx hb dX5_costs_0 rfl (lv_at hl 1 rfl) ?_
  refine lv_iconst (v := nI 0) hx hb dX5_costs_1 (by decide) ?_
  refine lv_sipush (v := nI 1000) hx hb dX5_costs_2 (by decide) ?_
  refine mx_callRO (v := .int (wi b (nI 0) (nI 1000))) (va_runS (As := [.int b, .int (nI 0), .int (nI 1000)]) (rest := []) ⟨hx, hb, hml, hown, hts⟩ (c_X5_within l G b (nI 0) (nI 1000)) (va_cwS 3 hts gX5_costs_X5_within rfl rfl rfl (by decide +kernel) ⟨Nat.le_of_ble_eq_true rfl, Nat.le_of_ble_eq_true rfl⟩) (mx_preS hK trivial) rfl rfl hl.1 rfl (lv_room (Nat.le_of_ble_eq_true rfl)) dX5_costs_5 ⟨Nat.zero_le _, Nat.zero_le _⟩) ?_
  refine lv_if_eq (tgt := 33) hx hb dX5_costs_8 (by decide) (fun c_8 => ?_) (fun c_8 => ?_)
  · refine lv_iconst (v := nI 0) hx hb dX5_costs_33 (by decide) ?_
    refine x_top (y := b2i (okCost b k h)) (b2i_f (fun q => (wi_0 c_8).elim q.1.1 q.1.2)) ?_
    exact W.zret (v := b2i (okCost b k h)) hx hb hr (b2i_n _) (fun t9 ht9 hW9 => ⟨⟨(FJ, RJ 3), rfl, ⟨fun q => absurd q (fun q => (wi_0 c_8).elim q.1.1 q.1.2), fun _ => ⟨rfl, rfl⟩⟩, by rw [ht9]; exact hP, hD⟩, hS.F ht9⟩) hS.2.2 dX5_costs_34
  · refine lv_iload_n hx hb dX5_costs_11 rfl (lv_at hl 2 rfl) ?_
    refine lv_iconst (v := nI 0) hx hb dX5_costs_12 (by decide) ?_
    refine lv_sipush (v := nI 1000) hx hb dX5_costs_13 (by decide) ?_
    refine mx_callRO (v := .int (wi k (nI 0) (nI 1000))) (va_runS (As := [.int k, .int (nI 0), .int (nI 1000)]) (rest := []) ⟨hx, hb, hml, hown, hts⟩ (c_X5_within l G k (nI 0) (nI 1000)) (va_cwS 3 hts gX5_costs_X5_within rfl rfl rfl (by decide +kernel) ⟨Nat.le_of_ble_eq_true rfl, Nat.le_of_ble_eq_true rfl⟩) (mx_preS hK trivial) rfl rfl hl.1 rfl (lv_room (Nat.le_of_ble_eq_true rfl)) dX5_costs_16 ⟨Nat.zero_le _, Nat.zero_le _⟩) ?_
    refine lv_if_eq (tgt := 33) hx hb dX5_costs_19 (by decide) (fun c_19 => ?_) (fun c_19 => ?_)
    · refine lv_iconst (v := nI 0) hx hb dX5_costs_33 (by decide) ?_
      refine x_top (y := b2i (okCost b k h)) (b2i_f (fun q => (wi_0 c_19).elim q.2.1.1 q.2.1.2)) ?_
      exact W.zret (v := b2i (okCost b k h)) hx hb hr (b2i_n _) (fun t9 ht9 hW9 => ⟨⟨(FJ, RJ 3), rfl, ⟨fun q => absurd q (fun q => (wi_0 c_19).elim q.2.1.1 q.2.1.2), fun _ => ⟨rfl, rfl⟩⟩, by rw [ht9]; exact hP, hD⟩, hS.F ht9⟩) hS.2.2 dX5_costs_34
    · refine lv_iload_n hx hb dX5_costs_22 rfl (lv_at hl 3 rfl) ?_
      refine lv_iconst (v := nI 0) hx hb dX5_costs_23 (by decide) ?_
      refine lv_sipush (v := nI 1000) hx hb dX5_costs_24 (by decide) ?_
      refine mx_callRO (v := .int (wi h (nI 0) (nI 1000))) (va_runS (As := [.int h, .int (nI 0), .int (nI 1000)]) (rest := []) ⟨hx, hb, hml, hown, hts⟩ (c_X5_within l G h (nI 0) (nI 1000)) (va_cwS 3 hts gX5_costs_X5_within rfl rfl rfl (by decide +kernel) ⟨Nat.le_of_ble_eq_true rfl, Nat.le_of_ble_eq_true rfl⟩) (mx_preS hK trivial) rfl rfl hl.1 rfl (lv_room (Nat.le_of_ble_eq_true rfl)) dX5_costs_27 ⟨Nat.zero_le _, Nat.zero_le _⟩) ?_
      refine lv_if_ne (tgt := 35) hx hb dX5_costs_30 (by decide) (fun c_30 => ?_) (fun c_30 => ?_)
      · refine lv_aload_n hx hb dX5_costs_35 rfl (lv_at hl 0 rfl) ?_
        refine va_get (D := G.1) (ci := 5) (v := .ref (aJ 0)) (C := RX5) (T := TX5) (N := 6) hx hb hts inX5 hown hK.1 hP 0 rfl rfl 3 (by decide) fl29 (fun _ h9 => h9) rfl dX5_costs_36 ?_
        refine lv_iload_n hx hb dX5_costs_39 rfl (lv_at hl 1 rfl) ?_
        refine lv_iload_n hx hb dX5_costs_40 rfl (lv_at hl 2 rfl) ?_
        refine lv_iload_n hx hb dX5_costs_41 rfl (lv_at hl 3 rfl) ?_
        refine mx_callEv (va_runV (As := [.int b, .int k, .int h]) (rest := []) ⟨hx, hb, hml, hown, hts⟩ (c_X0_setCosts l G aJ FJ RJ b k h _) (cwV 3 hts gX5_costs_X0_setCosts rfl rfl rfl (by decide +kernel) ⟨Nat.le_of_ble_eq_true rfl, Nat.le_of_ble_eq_true rfl⟩) (mx_preV hK ⟨rfl, mx_cut hP hD (a := JW G aJ FJ RJ) (b := ([(aD 0, .inr (5, [.ref (aD 1), .ref (aD 2), .ref (aK 0), .ref (aJ 0), .ref (aT 0), .ref (aN 0)]))]) ++ (([(aD 1, .inl (G.2.2.2, 12, .inr (.inr (.inr (.inr (SD))))))]) ++ (([(aD 2, .inl (G.2.1, 144, .inl (WI)))]) ++ ((KW G aK FK RK) ++ ((TW G aT FT RT) ++ ((NW G aN FN RN SR ra rl) ++ (pool G so aS FS RS m12))))))) (mx_perm (fun n9 hn9 => by simp only [hn9, List.append_nil] <;> omega))⟩ (va_recv hK.1 hP (ci := 0) (q0 := 8) rfl rfl)) rfl rfl hl.1 rfl (lv_room (Nat.le_of_ble_eq_true rfl)) dX5_costs_42 ⟨Nat.zero_le _, Nat.zero_le _⟩) hP hD hS hA (((mx_perm (fun n9 hn9 => by simp only [hn9, List.append_nil] <;> omega)) : List.Perm _ ((JW G aJ FJ RJ) ++ (([(aD 0, .inr (5, [.ref (aD 1), .ref (aD 2), .ref (aK 0), .ref (aJ 0), .ref (aT 0), .ref (aN 0)]))]) ++ (([(aD 1, .inl (G.2.2.2, 12, .inr (.inr (.inr (.inr (SD))))))]) ++ (([(aD 2, .inl (G.2.1, 144, .inl (WI)))]) ++ ((KW G aK FK RK) ++ ((TW G aT FT RT) ++ ((NW G aN FN RN SR ra rl) ++ (pool G so aS FS RS m12)))))))))) (fun u9 H locs hu9 hP hD hS => ?_)
        have hP : va_P G.1 vwCl ((JW G aJ (va_up (va_up (va_up FJ 0 b) 1 k) 2 h) (va_up RJ 3 u9)) ++ (([(aD 0, .inr (5, [.ref (aD 1), .ref (aD 2), .ref (aK 0), .ref (aJ 0), .ref (aT 0), .ref (aN 0)]))]) ++ (([(aD 1, .inl (G.2.2.2, 12, .inr (.inr (.inr (.inr (SD))))))]) ++ (([(aD 2, .inl (G.2.1, 144, .inl (WI)))]) ++ ((KW G aK FK RK) ++ ((TW G aT FT RT) ++ ((NW G aN FN RN SR ra rl) ++ (pool G so aS FS RS m12)))))))) H := hP
        have hD : va_D _ ((JW G aJ (va_up (va_up (va_up FJ 0 b) 1 k) 2 h) (va_up RJ 3 u9)) ++ (([(aD 0, .inr (5, [.ref (aD 1), .ref (aD 2), .ref (aK 0), .ref (aJ 0), .ref (aT 0), .ref (aN 0)]))]) ++ (([(aD 1, .inl (G.2.2.2, 12, .inr (.inr (.inr (.inr (SD))))))]) ++ (([(aD 2, .inl (G.2.1, 144, .inl (WI)))]) ++ ((KW G aK FK RK) ++ ((TW G aT FT RT) ++ ((NW G aN FN RN SR ra rl) ++ (pool G so aS FS RS m12)))))))) := hD
        have hP : va_P G.1 vwCl (([(aD 0, .inr (5, [.ref (aD 1), .ref (aD 2), .ref (aK 0), .ref (aJ 0), .ref (aT 0), .ref (aN 0)]))]) ++ (([(aD 1, .inl (G.2.2.2, 12, .inr (.inr (.inr (.inr (SD))))))]) ++ (([(aD 2, .inl (G.2.1, 144, .inl (WI)))]) ++ ((KW G aK FK RK) ++ ((JW G aJ (va_up (va_up (va_up FJ 0 b) 1 k) 2 h) (va_up RJ 3 u9)) ++ ((TW G aT FT RT) ++ ((NW G aN FN RN SR ra rl) ++ (pool G so aS FS RS m12)))))))) H := mx_Pperm hP (mx_perm (fun n9 hn9 => by simp only [hn9, List.append_nil] <;> omega))
        have hD : va_D _ (([(aD 0, .inr (5, [.ref (aD 1), .ref (aD 2), .ref (aK 0), .ref (aJ 0), .ref (aT 0), .ref (aN 0)]))]) ++ (([(aD 1, .inl (G.2.2.2, 12, .inr (.inr (.inr (.inr (SD))))))]) ++ (([(aD 2, .inl (G.2.1, 144, .inl (WI)))]) ++ ((KW G aK FK RK) ++ ((JW G aJ (va_up (va_up (va_up FJ 0 b) 1 k) 2 h) (va_up RJ 3 u9)) ++ ((TW G aT FT RT) ++ ((NW G aN FN RN SR ra rl) ++ (pool G so aS FS RS m12)))))))) := mx_Dperm hD (mx_perm (fun n9 hn9 => by simp only [hn9, List.append_nil] <;> omega))
        refine lv_iconst (v := nI 1) hx hb dX5_costs_45 (by decide) ?_
        refine x_top (y := b2i (okCost b k h)) (b2i_t ⟨wi_1 c_8, wi_1 c_19, wi_1 c_30⟩) ?_
        exact W.zret (v := b2i (okCost b k h)) hx hb hr (b2i_n _) (fun t9 ht9 hW9 => ⟨⟨(va_up (va_up (va_up FJ 0 b) 1 k) 2 h, u9), rfl, ⟨fun _ => ⟨rfl, hu9⟩, fun q => absurd ⟨wi_1 c_8, wi_1 c_19, wi_1 c_30⟩ q⟩, by rw [ht9]; exact hP, hD⟩, hS.F ht9⟩) hS.2.2 dX5_costs_46
      · refine lv_iconst (v := nI 0) hx hb dX5_costs_33 (by decide) ?_
        refine x_top (y := b2i (okCost b k h)) (b2i_f (fun q => (wi_0 c_30).elim q.2.2.1 q.2.2.2)) ?_
        exact W.zret (v := b2i (okCost b k h)) hx hb hr (b2i_n _) (fun t9 ht9 hW9 => ⟨⟨(FJ, RJ 3), rfl, ⟨fun q => absurd q (fun q => (wi_0 c_30).elim q.2.2.1 q.2.2.2), fun _ => ⟨rfl, rfl⟩⟩, by rw [ht9]; exact hP, hD⟩, hS.F ht9⟩) hS.2.2 dX5_costs_34

set_option maxHeartbeats 4000000 in
set_option maxRecDepth 100000 in
theorem c_X5_must (l : Launch) (G : mx_G) (aD : Nat → Nat) (SD : Nat → Option Nat) (WI : Nat → Int32) (aK : Nat → Nat) (FK : Nat → Int32) (RK : Nat → Nat → Int32) (aJ : Nat → Nat) (FJ : Nat → Int32) (RJ : Nat → Nat → Int32) (aT : Nat → Nat) (FT : Nat → Int32) (RT : Nat → Nat → Int32) (aN : Nat → Nat) (FN : Nat → Int32) (RN : Nat → Nat → Int32) (SR : Nat → Option Nat) (ra rl m12 : Nat) (so : So) (aS : Nat → Nat → Nat) (FS : Nat → Nat → Int32) (RS : Nat → Nat → Nat → Int32) (x y w : Int32) (hm12 : m12 = 12) (hd : dOk so aS FS RS SD) (sz : Nat) : mx_EF l yX5_must wsX5_must 2 43 0 0 G [.ref (aD 0), .int x, .int y, .int w] sz (([(aD 0, .inr (5, [.ref (aD 1), .ref (aD 2), .ref (aK 0), .ref (aJ 0), .ref (aT 0), .ref (aN 0)]))]) ++ (([(aD 1, .inl (G.2.2.2, 12, .inr (.inr (.inr (.inr (SD))))))]) ++ (([(aD 2, .inl (G.2.1, 144, .inl (WI)))]) ++ ((KW G aK FK RK) ++ ((JW G aJ FJ RJ) ++ ((TW G aT FT RT) ++ ((NW G aN FN RN SR ra rl) ++ (pool G so aS FS RS m12)))))))) (fun _ : Nat → Int32 => some (.int (b2i (okMust so x y w)))) (fun u : Nat → Int32 => u = nMus so WI x y w) (fun u : Nat → Int32 => ([(aD 0, .inr (5, [.ref (aD 1), .ref (aD 2), .ref (aK 0), .ref (aJ 0), .ref (aT 0), .ref (aN 0)]))]) ++ (([(aD 1, .inl (G.2.2.2, 12, .inr (.inr (.inr (.inr (SD))))))]) ++ (([(aD 2, .inl (G.2.1, 144, .inl (u)))]) ++ ((KW G aK FK RK) ++ ((JW G aJ FJ RJ) ++ ((TW G aT FT RT) ++ ((NW G aN FN RN SR ra rl) ++ (pool G so aS FS RS m12)))))))) := by
  refine Met.ofW (cc := cX5_must) (maxL := 4) (ret := (some .boolean)) (by decide) rfl ?_
  intro p e s m args below meth c s₁ BB hml hv
  obtain ⟨rfl, ⟨hsz, hP, hD0⟩, hK⟩ := hv
  have hx := BB.exec
  have hb := BB.bytes
  have hr := BB.returns
  have hts := atoms_spec (ws := wsX5_must) BB.pre
  have hown : s.vm.findClass RX5 = some m.cls := findClass_of_methodNamed BB.named
  have hlocks := BB.notSynchronized
  subst hsz
  have hD := hD0.self (sz := s.heap.size)
  have hA : ∀ q : Nat, s.heap.size ≤ q → va_A (([(aD 0, .inr (5, [.ref (aD 1), .ref (aD 2), .ref (aK 0), .ref (aJ 0), .ref (aT 0), .ref (aN 0)]))]) ++ (([(aD 1, .inl (G.2.2.2, 12, .inr (.inr (.inr (.inr (SD))))))]) ++ (([(aD 2, .inl (G.2.1, 144, .inl (WI)))]) ++ ((KW G aK FK RK) ++ ((JW G aJ FJ RJ) ++ ((TW G aT FT RT) ++ ((NW G aN FN RN SR ra rl) ++ (pool G so aS FS RS m12)))))))) s.heap.size q := fun q h => Or.inr h
  have hS : va_S (va_A (([(aD 0, .inr (5, [.ref (aD 1), .ref (aD 2), .ref (aK 0), .ref (aJ 0), .ref (aT 0), .ref (aN 0)]))]) ++ (([(aD 1, .inl (G.2.2.2, 12, .inr (.inr (.inr (.inr (SD))))))]) ++ (([(aD 2, .inl (G.2.1, 144, .inl (WI)))]) ++ ((KW G aK FK RK) ++ ((JW G aJ FJ RJ) ++ ((TW G aT FT RT) ++ ((NW G aN FN RN SR ra rl) ++ (pool G so aS FS RS m12)))))))) s.heap.size) s.heap s.heap [] := va_S.rf
  have fl15 := hts (.fieldLink RX5 15 "MixDesk" "wishes" "[I") (by decide +kernel)
  have inX5 : ∀ w ∈ wsX50, w ∈ wsX5_must := by decide +kernel
  have hl := lv_entry ([.ref (aD 0), .int x, .int y, .int w]) (n := 4) (Nat.le_of_ble_eq_true rfl)
  rw [lg_entry_eq]
  generalize (lg_sl ([.ref (aD 0), .int x, .int y, .int w]) ++ List.replicate (4 - (lg_sl ([.ref (aD 0), .int x, .int y, .int w])).length) Slot.unset).toArray = ls at hl ⊢
  have hl : lv_has ls 4 [(0, .ref (aD 0)), (1, .int x), (2, .int y), (3, .int w)] := hl
  refine lv_aload_n hx hb dX5_must_0 rfl (lv_at hl 0 rfl) ?_
  refine lv_iload_n hx hb dX5_must_1 rfl (lv_at hl 1 rfl) ?_
  refine mx_callRO (v := va_rf (sRf so aS x)) (va_runV (As := [.int x]) (rest := []) ⟨hx, hb, hml, hown, hts⟩ (c_X5_songAt l G aD SD WI aK FK RK aJ FJ RJ aT FT RT aN FN RN SR ra rl m12 so aS FS RS x hm12 hd) (cwV 1 hts gX5_must_X5_songAt rfl rfl rfl (by decide +kernel) ⟨Nat.le_of_ble_eq_true rfl, Nat.le_of_ble_eq_true rfl⟩) (mx_preV hK hP (va_recv hK.1 hP (ci := 5) (q0 := 0) rfl rfl)) rfl rfl hl.1 rfl (lv_room (Nat.le_of_ble_eq_true rfl)) dX5_must_2 ⟨Nat.zero_le _, Nat.zero_le _⟩) ?_
  rcases sat_cases so x with ho | ⟨j, σ, rfl, hj, hsoj, hσj⟩
  · rw [sRf_n ho]
    refine lv_ifnullN (tgt := 30) hx hb dX5_must_5 (by decide) ?_
    refine lv_iconst (v := nI 0) hx hb dX5_must_30 (by decide) ?_
    refine x_top (y := b2i (okMust so x y w)) (b2i_f (fun q => by have h9 := q.1; rw [ho] at h9; exact absurd h9 (by decide))) ?_
    exact W.zret (v := b2i (okMust so x y w)) hx hb hr (b2i_n _) (fun t9 ht9 hW9 => ⟨⟨WI, rfl, nMus_no (fun q => by have h9 := q.1; rw [ho] at h9; exact absurd h9 (by decide)), by rw [ht9]; exact hP, hD⟩, hS.F ht9⟩) hS.2.2 dX5_must_31
  · rw [sRf_s hj hσj]
    refine lv_ifnull hx hb dX5_must_5 ?_
    refine lv_aload_n hx hb dX5_must_8 rfl (lv_at hl 0 rfl) ?_
    refine lv_iload_n hx hb dX5_must_9 rfl (lv_at hl 2 rfl) ?_
    refine mx_callRO (v := va_rf (sRf so aS y)) (va_runV (As := [.int y]) (rest := []) ⟨hx, hb, hml, hown, hts⟩ (c_X5_songAt l G aD SD WI aK FK RK aJ FJ RJ aT FT RT aN FN RN SR ra rl m12 so aS FS RS y hm12 hd) (cwV 1 hts gX5_must_X5_songAt rfl rfl rfl (by decide +kernel) ⟨Nat.le_of_ble_eq_true rfl, Nat.le_of_ble_eq_true rfl⟩) (mx_preV hK hP (va_recv hK.1 hP (ci := 5) (q0 := 0) rfl rfl)) rfl rfl hl.1 rfl (lv_room (Nat.le_of_ble_eq_true rfl)) dX5_must_10 ⟨Nat.zero_le _, Nat.zero_le _⟩) ?_
    rcases sat_cases so y with ho2 | ⟨k, τ, rfl, hk, hsok, hσk⟩
    · rw [sRf_n ho2]
      refine lv_ifnullN (tgt := 30) hx hb dX5_must_13 (by decide) ?_
      refine lv_iconst (v := nI 0) hx hb dX5_must_30 (by decide) ?_
      refine x_top (y := b2i (okMust so (nI j) y w)) (b2i_f (fun q => by have h9 := q.2.1; rw [ho2] at h9; exact absurd h9 (by decide))) ?_
      exact W.zret (v := b2i (okMust so (nI j) y w)) hx hb hr (b2i_n _) (fun t9 ht9 hW9 => ⟨⟨WI, rfl, nMus_no (fun q => by have h9 := q.2.1; rw [ho2] at h9; exact absurd h9 (by decide)), by rw [ht9]; exact hP, hD⟩, hS.F ht9⟩) hS.2.2 dX5_must_31
    · rw [sRf_s hk hσk]
      refine lv_ifnull hx hb dX5_must_13 ?_
      refine lv_iload_n hx hb dX5_must_16 rfl (lv_at hl 1 rfl) ?_
      refine lv_iload_n hx hb dX5_must_17 rfl (lv_at hl 2 rfl) ?_
      refine x_icmp_eq (tgt := 30) hx hb (by omega) (by omega) dX5_must_18 (by decide) (fun c_18 => ?_) (fun c_18 => ?_)
      · refine lv_iconst (v := nI 0) hx hb dX5_must_30 (by decide) ?_
        refine x_top (y := b2i (okMust so (nI j) (nI k) w)) (b2i_f (fun q => q.2.2.1 (congrArg nI c_18))) ?_
        exact W.zret (v := b2i (okMust so (nI j) (nI k) w)) hx hb hr (b2i_n _) (fun t9 ht9 hW9 => ⟨⟨WI, rfl, nMus_no (fun q => q.2.2.1 (congrArg nI c_18)), by rw [ht9]; exact hP, hD⟩, hS.F ht9⟩) hS.2.2 dX5_must_31
      · refine lv_iload_n hx hb dX5_must_21 rfl (lv_at hl 3 rfl) ?_
        refine lv_iconst (v := nI 0) hx hb dX5_must_22 (by decide) ?_
        refine lv_iconst (v := nI 2) hx hb dX5_must_23 (by decide) ?_
        refine mx_callRO (v := .int (wi w (nI 0) (nI 2))) (va_runS (As := [.int w, .int (nI 0), .int (nI 2)]) (rest := []) ⟨hx, hb, hml, hown, hts⟩ (c_X5_within l G w (nI 0) (nI 2)) (va_cwS 3 hts gX5_must_X5_within rfl rfl rfl (by decide +kernel) ⟨Nat.le_of_ble_eq_true rfl, Nat.le_of_ble_eq_true rfl⟩) (mx_preS hK trivial) rfl rfl hl.1 rfl (lv_room (Nat.le_of_ble_eq_true rfl)) dX5_must_24 ⟨Nat.zero_le _, Nat.zero_le _⟩) ?_
        refine lv_if_ne (tgt := 32) hx hb dX5_must_27 (by decide) (fun c_27 => ?_) (fun c_27 => ?_)
        · refine lv_aload_n hx hb dX5_must_32 rfl (lv_at hl 0 rfl) ?_
          refine va_get (D := G.1) (ci := 5) (v := .ref (aD 2)) (C := RX5) (T := TX5) (N := 6) hx hb hts inX5 hown hK.1 hP 0 rfl rfl 1 (by decide) fl15 (fun _ h9 => h9) rfl dX5_must_33 ?_
          refine lv_iload_n hx hb dX5_must_36 rfl (lv_at hl 1 rfl) ?_
          refine lv_bipush (v := nI 12) hx hb dX5_must_37 (by decide) ?_
          refine x_imul (r := 12 * j) hx hb dX5_must_39 (by omega) ?_
          refine lv_iload_n hx hb dX5_must_40 rfl (lv_at hl 2 rfl) ?_
          refine x_iadd (r := 12 * j + k) hx hb dX5_must_41 (rfl) ?_
          refine lv_iload_n hx hb dX5_must_42 rfl (lv_at hl 3 rfl) ?_
          refine x_iast hx hb hK.1 hP hD hS 2 0 (n := 144) (f := WI) rfl rfl (k := 12 * j + k) (by omega) (by omega) dX5_must_43 (([(aD 0, .inr (5, [.ref (aD 1), .ref (aD 2), .ref (aK 0), .ref (aJ 0), .ref (aT 0), .ref (aN 0)]))]) ++ (([(aD 1, .inl (G.2.2.2, 12, .inr (.inr (.inr (.inr (SD))))))]) ++ (([(aD 2, .inl (G.2.1, 144, .inl (upd WI (12 * j + k) w)))]) ++ ((KW G aK FK RK) ++ ((JW G aJ FJ RJ) ++ ((TW G aT FT RT) ++ ((NW G aN FN RN SR ra rl) ++ (pool G so aS FS RS m12)))))))) rfl (fun H locs hP hD hS => ?_)
          refine lv_iconst (v := nI 1) hx hb dX5_must_44 (by decide) ?_
          refine x_top (y := b2i (okMust so (nI j) (nI k) w)) (b2i_t ⟨some_of hσj, some_of hσk, fun q9 => c_18 ((nI_eq (by omega) (by omega)).mp q9), wi_1 c_27⟩) ?_
          exact W.zret (v := b2i (okMust so (nI j) (nI k) w)) hx hb hr (b2i_n _) (fun t9 ht9 hW9 => ⟨⟨upd WI (12 * j + k) w, rfl, nMus_yes hj hk ⟨some_of hσj, some_of hσk, fun q9 => c_18 ((nI_eq (by omega) (by omega)).mp q9), wi_1 c_27⟩, by rw [ht9]; exact hP, hD⟩, hS.F ht9⟩) hS.2.2 dX5_must_45
        · refine lv_iconst (v := nI 0) hx hb dX5_must_30 (by decide) ?_
          refine x_top (y := b2i (okMust so (nI j) (nI k) w)) (b2i_f (fun q => (wi_0 c_27).elim q.2.2.2.1 q.2.2.2.2)) ?_
          exact W.zret (v := b2i (okMust so (nI j) (nI k) w)) hx hb hr (b2i_n _) (fun t9 ht9 hW9 => ⟨⟨WI, rfl, nMus_no (fun q => (wi_0 c_27).elim q.2.2.2.1 q.2.2.2.2), by rw [ht9]; exact hP, hD⟩, hS.F ht9⟩) hS.2.2 dX5_must_31

set_option maxHeartbeats 4000000 in
set_option maxRecDepth 100000 in
theorem c_X5_forgetSong (l : Launch) (G : mx_G) (aD : Nat → Nat) (SD : Nat → Option Nat) (WI : Nat → Int32) (aK : Nat → Nat) (FK : Nat → Int32) (RK : Nat → Nat → Int32) (aJ : Nat → Nat) (FJ : Nat → Int32) (RJ : Nat → Nat → Int32) (aT : Nat → Nat) (FT : Nat → Int32) (RT : Nat → Nat → Int32) (aN : Nat → Nat) (FN : Nat → Int32) (RN : Nat → Nat → Int32) (SR : Nat → Option Nat) (ra rl m12 : Nat) (so : So) (aS : Nat → Nat → Nat) (FS : Nat → Nat → Int32) (RS : Nat → Nat → Nat → Int32) (j : Nat) (hj : j < 12) (sz : Nat) : mx_EF l yX5_forgetSong wsX5_forgetSong 2 45 0 0 G [.ref (aD 0), .int (nI j)] sz (([(aD 0, .inr (5, [.ref (aD 1), .ref (aD 2), .ref (aK 0), .ref (aJ 0), .ref (aT 0), .ref (aN 0)]))]) ++ (([(aD 1, .inl (G.2.2.2, 12, .inr (.inr (.inr (.inr (SD))))))]) ++ (([(aD 2, .inl (G.2.1, 144, .inl (WI)))]) ++ ((KW G aK FK RK) ++ ((JW G aJ FJ RJ) ++ ((TW G aT FT RT) ++ ((NW G aN FN RN SR ra rl) ++ (pool G so aS FS RS m12)))))))) (fun _ : (Nat → Int32) × (Nat → Int32) => none) (fun u : (Nat → Int32) × (Nat → Int32) => (∀ i, i < 144 → u.1 i = clrM WI j i) ∧ ∀ n a b, 1 ≤ n → n ≤ 8 → a < 12 → b < 12 → u.2 (slotN a b n) = if a = j ∨ b = j then (-1) else RJ 3 (slotN a b n)) (fun u : (Nat → Int32) × (Nat → Int32) => ([(aD 0, .inr (5, [.ref (aD 1), .ref (aD 2), .ref (aK 0), .ref (aJ 0), .ref (aT 0), .ref (aN 0)]))]) ++ (([(aD 1, .inl (G.2.2.2, 12, .inr (.inr (.inr (.inr (SD))))))]) ++ (([(aD 2, .inl (G.2.1, 144, .inl (u.1)))]) ++ ((KW G aK FK RK) ++ ((JW G aJ FJ (va_up RJ 3 u.2)) ++ ((TW G aT FT RT) ++ ((NW G aN FN RN SR ra rl) ++ (pool G so aS FS RS m12)))))))) := by
  refine Met.ofW (cc := cX5_forgetSong) (maxL := 3) (ret := none) (by decide) rfl ?_
  intro p e s m args below meth c s₁ BB hml hv
  obtain ⟨rfl, ⟨hsz, hP, hD0⟩, hK⟩ := hv
  have hx := BB.exec
  have hb := BB.bytes
  have hr := BB.returns
  have hts := atoms_spec (ws := wsX5_forgetSong) BB.pre
  have hown : s.vm.findClass RX5 = some m.cls := findClass_of_methodNamed BB.named
  have hlocks := BB.notSynchronized
  subst hsz
  have hD := hD0.self (sz := s.heap.size)
  have hA : ∀ q : Nat, s.heap.size ≤ q → va_A (([(aD 0, .inr (5, [.ref (aD 1), .ref (aD 2), .ref (aK 0), .ref (aJ 0), .ref (aT 0), .ref (aN 0)]))]) ++ (([(aD 1, .inl (G.2.2.2, 12, .inr (.inr (.inr (.inr (SD))))))]) ++ (([(aD 2, .inl (G.2.1, 144, .inl (WI)))]) ++ ((KW G aK FK RK) ++ ((JW G aJ FJ RJ) ++ ((TW G aT FT RT) ++ ((NW G aN FN RN SR ra rl) ++ (pool G so aS FS RS m12)))))))) s.heap.size q := fun q h => Or.inr h
  have hS : va_S (va_A (([(aD 0, .inr (5, [.ref (aD 1), .ref (aD 2), .ref (aK 0), .ref (aJ 0), .ref (aT 0), .ref (aN 0)]))]) ++ (([(aD 1, .inl (G.2.2.2, 12, .inr (.inr (.inr (.inr (SD))))))]) ++ (([(aD 2, .inl (G.2.1, 144, .inl (WI)))]) ++ ((KW G aK FK RK) ++ ((JW G aJ FJ RJ) ++ ((TW G aT FT RT) ++ ((NW G aN FN RN SR ra rl) ++ (pool G so aS FS RS m12)))))))) s.heap.size) s.heap s.heap [] := va_S.rf
  have fl15 := hts (.fieldLink RX5 15 "MixDesk" "wishes" "[I") (by decide +kernel)
  have fl29 := hts (.fieldLink RX5 29 "MixDesk" "joins" "LMixDesk$Joins;") (by decide +kernel)
  have inX5 : ∀ w ∈ wsX50, w ∈ wsX5_forgetSong := by decide +kernel
  have hl := lv_entry ([.ref (aD 0), .int (nI j)]) (n := 3) (Nat.le_of_ble_eq_true rfl)
  rw [lg_entry_eq]
  generalize (lg_sl ([.ref (aD 0), .int (nI j)]) ++ List.replicate (3 - (lg_sl ([.ref (aD 0), .int (nI j)])).length) Slot.unset).toArray = ls at hl ⊢
  have hl : lv_has ls 3 [(0, .ref (aD 0)), (1, .int (nI j))] := hl
  refine lv_iconst (v := nI 0) hx hb dX5_forgetSong_0 (by decide) ?_
  refine lv_istore_n (lv' := [(2, .int (nI 0)), (0, .ref (aD 0)), (1, .int (nI j))]) hx hb dX5_forgetSong_1 rfl hl (by decide) rfl (fun ls hl => ?_)
  have lp2 : ∀ (nn : Nat) (k : Nat) (MX : Nat → Int32), 12 - k < nn → (k ≤ 12) → (∀ i, i < 144 → MX i = if (i / 12 = j ∧ i % 12 < k) ∨ (i % 12 = j ∧ i / 12 < k) then nI 0 else WI i) → ∀ (H : Heap) (locs : List Loc), va_P G.1 vwCl (([(aD 0, .inr (5, [.ref (aD 1), .ref (aD 2), .ref (aK 0), .ref (aJ 0), .ref (aT 0), .ref (aN 0)]))]) ++ (([(aD 1, .inl (G.2.2.2, 12, .inr (.inr (.inr (.inr (SD))))))]) ++ (([(aD 2, .inl (G.2.1, 144, .inl (MX)))]) ++ ((KW G aK FK RK) ++ ((JW G aJ FJ RJ) ++ ((TW G aT FT RT) ++ ((NW G aN FN RN SR ra rl) ++ (pool G so aS FS RS m12)))))))) H → va_D (va_A (([(aD 0, .inr (5, [.ref (aD 1), .ref (aD 2), .ref (aK 0), .ref (aJ 0), .ref (aT 0), .ref (aN 0)]))]) ++ (([(aD 1, .inl (G.2.2.2, 12, .inr (.inr (.inr (.inr (SD))))))]) ++ (([(aD 2, .inl (G.2.1, 144, .inl (WI)))]) ++ ((KW G aK FK RK) ++ ((JW G aJ FJ RJ) ++ ((TW G aT FT RT) ++ ((NW G aN FN RN SR ra rl) ++ (pool G so aS FS RS m12)))))))) s.heap.size) (([(aD 0, .inr (5, [.ref (aD 1), .ref (aD 2), .ref (aK 0), .ref (aJ 0), .ref (aT 0), .ref (aN 0)]))]) ++ (([(aD 1, .inl (G.2.2.2, 12, .inr (.inr (.inr (.inr (SD))))))]) ++ (([(aD 2, .inl (G.2.1, 144, .inl (MX)))]) ++ ((KW G aK FK RK) ++ ((JW G aJ FJ RJ) ++ ((TW G aT FT RT) ++ ((NW G aN FN RN SR ra rl) ++ (pool G so aS FS RS m12)))))))) → va_S (va_A (([(aD 0, .inr (5, [.ref (aD 1), .ref (aD 2), .ref (aK 0), .ref (aJ 0), .ref (aT 0), .ref (aN 0)]))]) ++ (([(aD 1, .inl (G.2.2.2, 12, .inr (.inr (.inr (.inr (SD))))))]) ++ (([(aD 2, .inl (G.2.1, 144, .inl (WI)))]) ++ ((KW G aK FK RK) ++ ((JW G aJ FJ RJ) ++ ((TW G aT FT RT) ++ ((NW G aN FN RN SR ra rl) ++ (pool G so aS FS RS m12)))))))) s.heap.size) s.heap H locs → ∀ ls : Array Slot, lv_has ls 3 [(0, .ref (aD 0)), (1, .int (nI j)), (2, .int (nI k))] → mx_WE l wsX5_forgetSong 2 45 0 0 G p e s m (([.ref (aD 0), .int (nI j)] : List Value).toArray) below meth c (([(aD 0, .inr (5, [.ref (aD 1), .ref (aD 2), .ref (aK 0), .ref (aJ 0), .ref (aT 0), .ref (aN 0)]))]) ++ (([(aD 1, .inl (G.2.2.2, 12, .inr (.inr (.inr (.inr (SD))))))]) ++ (([(aD 2, .inl (G.2.1, 144, .inl (WI)))]) ++ ((KW G aK FK RK) ++ ((JW G aJ FJ RJ) ++ ((TW G aT FT RT) ++ ((NW G aN FN RN SR ra rl) ++ (pool G so aS FS RS m12)))))))) (fun _ : (Nat → Int32) × (Nat → Int32) => none) (fun u : (Nat → Int32) × (Nat → Int32) => (∀ i, i < 144 → u.1 i = clrM WI j i) ∧ ∀ n a b, 1 ≤ n → n ≤ 8 → a < 12 → b < 12 → u.2 (slotN a b n) = if a = j ∨ b = j then (-1) else RJ 3 (slotN a b n)) (fun u : (Nat → Int32) × (Nat → Int32) => ([(aD 0, .inr (5, [.ref (aD 1), .ref (aD 2), .ref (aK 0), .ref (aJ 0), .ref (aT 0), .ref (aN 0)]))]) ++ (([(aD 1, .inl (G.2.2.2, 12, .inr (.inr (.inr (.inr (SD))))))]) ++ (([(aD 2, .inl (G.2.1, 144, .inl (u.1)))]) ++ ((KW G aK FK RK) ++ ((JW G aJ FJ (va_up RJ 3 u.2)) ++ ((TW G aT FT RT) ++ ((NW G aN FN RN SR ra rl) ++ (pool G so aS FS RS m12)))))))) H locs 0 0 (F0 m 2 ls []) := by
    intro nn
    induction nn with
    | zero => intro k MX hmu; exact absurd hmu (Nat.not_lt_zero _)
    | succ nn ih2 =>
      intro k MX hmu hk hMX H locs hP hD hS ls hl
      refine lv_iload_n hx hb dX5_forgetSong_2 rfl (lv_at hl 2 rfl) ?_
      refine lv_bipush (v := nI 12) hx hb dX5_forgetSong_3 (by decide) ?_
      refine x_icmp_ge (tgt := 38) hx hb (by omega) (by omega) dX5_forgetSong_5 (by decide) (fun c_5 => ?_) (fun c_5 => ?_)
      · refine lv_aload_n hx hb dX5_forgetSong_38 rfl (lv_at hl 0 rfl) ?_
        refine va_get (D := G.1) (ci := 5) (v := .ref (aJ 0)) (C := RX5) (T := TX5) (N := 6) hx hb hts inX5 hown hK.1 hP 0 rfl rfl 3 (by decide) fl29 (fun _ h9 => h9) rfl dX5_forgetSong_39 ?_
        refine lv_iload_n hx hb dX5_forgetSong_42 rfl (lv_at hl 1 rfl) ?_
        refine mx_callEv (va_runV (As := [.int (nI j)]) (rest := []) ⟨hx, hb, hml, hown, hts⟩ (c_X0_forgetJoinsOf l G aJ FJ RJ j (by omega) _) (cwV 1 hts gX5_forgetSong_X0_forgetJoinsOf rfl rfl rfl (by decide +kernel) ⟨Nat.le_of_ble_eq_true rfl, Nat.le_of_ble_eq_true rfl⟩) (mx_preV hK ⟨rfl, mx_cut hP hD (a := JW G aJ FJ RJ) (b := ([(aD 0, .inr (5, [.ref (aD 1), .ref (aD 2), .ref (aK 0), .ref (aJ 0), .ref (aT 0), .ref (aN 0)]))]) ++ (([(aD 1, .inl (G.2.2.2, 12, .inr (.inr (.inr (.inr (SD))))))]) ++ (([(aD 2, .inl (G.2.1, 144, .inl (MX)))]) ++ ((KW G aK FK RK) ++ ((TW G aT FT RT) ++ ((NW G aN FN RN SR ra rl) ++ (pool G so aS FS RS m12))))))) (mx_perm (fun n9 hn9 => by simp only [hn9, List.append_nil] <;> omega))⟩ (va_recv hK.1 hP (ci := 0) (q0 := 8) rfl rfl)) rfl rfl hl.1 rfl (lv_room (Nat.le_of_ble_eq_true rfl)) dX5_forgetSong_43 ⟨Nat.zero_le _, Nat.zero_le _⟩) hP hD hS hA (((mx_perm (fun n9 hn9 => by simp only [hn9, List.append_nil] <;> omega)) : List.Perm _ ((JW G aJ FJ RJ) ++ (([(aD 0, .inr (5, [.ref (aD 1), .ref (aD 2), .ref (aK 0), .ref (aJ 0), .ref (aT 0), .ref (aN 0)]))]) ++ (([(aD 1, .inl (G.2.2.2, 12, .inr (.inr (.inr (.inr (SD))))))]) ++ (([(aD 2, .inl (G.2.1, 144, .inl (MX)))]) ++ ((KW G aK FK RK) ++ ((TW G aT FT RT) ++ ((NW G aN FN RN SR ra rl) ++ (pool G so aS FS RS m12)))))))))) (fun uj H locs huj hP hD hS => ?_)
        have hP : va_P G.1 vwCl ((JW G aJ FJ (va_up RJ 3 uj)) ++ (([(aD 0, .inr (5, [.ref (aD 1), .ref (aD 2), .ref (aK 0), .ref (aJ 0), .ref (aT 0), .ref (aN 0)]))]) ++ (([(aD 1, .inl (G.2.2.2, 12, .inr (.inr (.inr (.inr (SD))))))]) ++ (([(aD 2, .inl (G.2.1, 144, .inl (MX)))]) ++ ((KW G aK FK RK) ++ ((TW G aT FT RT) ++ ((NW G aN FN RN SR ra rl) ++ (pool G so aS FS RS m12)))))))) H := hP
        have hD : va_D _ ((JW G aJ FJ (va_up RJ 3 uj)) ++ (([(aD 0, .inr (5, [.ref (aD 1), .ref (aD 2), .ref (aK 0), .ref (aJ 0), .ref (aT 0), .ref (aN 0)]))]) ++ (([(aD 1, .inl (G.2.2.2, 12, .inr (.inr (.inr (.inr (SD))))))]) ++ (([(aD 2, .inl (G.2.1, 144, .inl (MX)))]) ++ ((KW G aK FK RK) ++ ((TW G aT FT RT) ++ ((NW G aN FN RN SR ra rl) ++ (pool G so aS FS RS m12)))))))) := hD
        have hP : va_P G.1 vwCl (([(aD 0, .inr (5, [.ref (aD 1), .ref (aD 2), .ref (aK 0), .ref (aJ 0), .ref (aT 0), .ref (aN 0)]))]) ++ (([(aD 1, .inl (G.2.2.2, 12, .inr (.inr (.inr (.inr (SD))))))]) ++ (([(aD 2, .inl (G.2.1, 144, .inl (MX)))]) ++ ((KW G aK FK RK) ++ ((JW G aJ FJ (va_up RJ 3 uj)) ++ ((TW G aT FT RT) ++ ((NW G aN FN RN SR ra rl) ++ (pool G so aS FS RS m12)))))))) H := mx_Pperm hP (mx_perm (fun n9 hn9 => by simp only [hn9, List.append_nil] <;> omega))
        have hD : va_D _ (([(aD 0, .inr (5, [.ref (aD 1), .ref (aD 2), .ref (aK 0), .ref (aJ 0), .ref (aT 0), .ref (aN 0)]))]) ++ (([(aD 1, .inl (G.2.2.2, 12, .inr (.inr (.inr (.inr (SD))))))]) ++ (([(aD 2, .inl (G.2.1, 144, .inl (MX)))]) ++ ((KW G aK FK RK) ++ ((JW G aJ FJ (va_up RJ 3 uj)) ++ ((TW G aT FT RT) ++ ((NW G aN FN RN SR ra rl) ++ (pool G so aS FS RS m12)))))))) := mx_Dperm hD (mx_perm (fun n9 hn9 => by simp only [hn9, List.append_nil] <;> omega))
        exact W.vret hx hb hr (fun t9 ht9 hW9 => ⟨⟨(MX, uj), rfl, ⟨fun i hi => (hMX i hi).trans (forg_end (by omega) hi), huj⟩, by rw [ht9]; exact hP, hD⟩, hS.F ht9⟩) hS.2.2 dX5_forgetSong_46
      · refine lv_aload_n hx hb dX5_forgetSong_8 rfl (lv_at hl 0 rfl) ?_
        refine va_get (D := G.1) (ci := 5) (v := .ref (aD 2)) (C := RX5) (T := TX5) (N := 6) hx hb hts inX5 hown hK.1 hP 0 rfl rfl 1 (by decide) fl15 (fun _ h9 => h9) rfl dX5_forgetSong_9 ?_
        refine lv_iload_n hx hb dX5_forgetSong_12 rfl (lv_at hl 1 rfl) ?_
        refine lv_bipush (v := nI 12) hx hb dX5_forgetSong_13 (by decide) ?_
        refine x_imul (r := 12 * j) hx hb dX5_forgetSong_15 (by omega) ?_
        refine lv_iload_n hx hb dX5_forgetSong_16 rfl (lv_at hl 2 rfl) ?_
        refine x_iadd (r := 12 * j + k) hx hb dX5_forgetSong_17 (rfl) ?_
        refine lv_iconst (v := nI 0) hx hb dX5_forgetSong_18 (by decide) ?_
        refine x_iast hx hb hK.1 hP hD hS 2 0 (n := 144) (f := MX) rfl rfl (k := 12 * j + k) (by omega) (by omega) dX5_forgetSong_19 (([(aD 0, .inr (5, [.ref (aD 1), .ref (aD 2), .ref (aK 0), .ref (aJ 0), .ref (aT 0), .ref (aN 0)]))]) ++ (([(aD 1, .inl (G.2.2.2, 12, .inr (.inr (.inr (.inr (SD))))))]) ++ (([(aD 2, .inl (G.2.1, 144, .inl (upd MX (12 * j + k) (nI 0))))]) ++ ((KW G aK FK RK) ++ ((JW G aJ FJ RJ) ++ ((TW G aT FT RT) ++ ((NW G aN FN RN SR ra rl) ++ (pool G so aS FS RS m12)))))))) rfl (fun H locs hP hD hS => ?_)
        refine lv_aload_n hx hb dX5_forgetSong_20 rfl (lv_at hl 0 rfl) ?_
        refine va_get (D := G.1) (ci := 5) (v := .ref (aD 2)) (C := RX5) (T := TX5) (N := 6) hx hb hts inX5 hown hK.1 hP 0 rfl rfl 1 (by decide) fl15 (fun _ h9 => h9) rfl dX5_forgetSong_21 ?_
        refine lv_iload_n hx hb dX5_forgetSong_24 rfl (lv_at hl 2 rfl) ?_
        refine lv_bipush (v := nI 12) hx hb dX5_forgetSong_25 (by decide) ?_
        refine x_imul (r := 12 * k) hx hb dX5_forgetSong_27 (by omega) ?_
        refine lv_iload_n hx hb dX5_forgetSong_28 rfl (lv_at hl 1 rfl) ?_
        refine x_iadd (r := 12 * k + j) hx hb dX5_forgetSong_29 (rfl) ?_
        refine lv_iconst (v := nI 0) hx hb dX5_forgetSong_30 (by decide) ?_
        refine x_iast hx hb hK.1 hP hD hS 2 0 (n := 144) (f := upd MX (12 * j + k) (nI 0)) rfl rfl (k := 12 * k + j) (by omega) (by omega) dX5_forgetSong_31 (([(aD 0, .inr (5, [.ref (aD 1), .ref (aD 2), .ref (aK 0), .ref (aJ 0), .ref (aT 0), .ref (aN 0)]))]) ++ (([(aD 1, .inl (G.2.2.2, 12, .inr (.inr (.inr (.inr (SD))))))]) ++ (([(aD 2, .inl (G.2.1, 144, .inl (upd (upd MX (12 * j + k) (nI 0)) (12 * k + j) (nI 0))))]) ++ ((KW G aK FK RK) ++ ((JW G aJ FJ RJ) ++ ((TW G aT FT RT) ++ ((NW G aN FN RN SR ra rl) ++ (pool G so aS FS RS m12)))))))) rfl (fun H locs hP hD hS => ?_)
        refine x_iinc (lv' := [(2, .int (nI (k + 1))), (0, .ref (aD 0)), (1, .int (nI j))]) hx hb dX5_forgetSong_32 hl (k := 2) rfl (x_inc1 _) (by decide) rfl (fun ls hl => ?_)
        refine lv_goto (tgt := 2) hx hb dX5_forgetSong_35 (by decide) ?_
        exact ih2 (k + 1) (upd (upd MX (12 * j + k) (nI 0)) (12 * k + j) (nI 0)) (by omega) (by omega) (forg_step hj (by omega) hMX) _ _ hP hD hS _ (lv_sub hl [1, 2, 0] rfl)
  exact lp2 (12 - 0 + 1) 0 WI (Nat.lt_succ_self _) (by omega) (fun i hi => by rw [if_neg (by omega)]) _ _ hP hD hS _ (lv_sub hl [1, 2, 0] rfl)
