set_option maxHeartbeats 4000000 in
set_option maxRecDepth 100000 in
theorem c_X2_seekOrder (l : Launch) (G : mx_G) (an : Nat → Nat) (FN : Nat → Int32) (RN : Nat → Nat → Int32) (SR : Nat → Option Nat) (ra rl : Nat) (cnt : Nat) (m12 : Nat) (so : So) (aS : Nat → Nat → Nat) (FS : Nat → Nat → Int32) (RS : Nat → Nat → Nat → Int32) (nm : Nat → Nat) (ms : Nat) (hF : FN 1 = nI cnt) (hc12 : cnt ≤ 12) (hm12 : m12 = 12) (hc1 : 1 ≤ cnt) (hrl2 : rl < 2 ^ 27) (hms : (if rl < (2 ^ cnt * cnt) then (2 ^ cnt * cnt) else 0) ≤ ms) (hSR : ∀ i, i < cnt → nm i < m12 ∧ (∃ σ, so (nm i) = some σ) ∧ SR i = some (aS (nm i) 0) ∧ FS (nm i) 0 = nI (nm i)) (sz : Nat) : mx_EF l yX2_seekOrder wsX2_seekOrder 3 75 1 ms G [.ref (an 0)] sz ((NW G an FN RN SR ra rl) ++ (pool G so aS FS RS m12)) (fun _ : Nat × Nat × (Nat → Int32) × Int32 × Int32 × (Nat → Int32) => some (.int (b2i (¬ (lF (RN 3) (rR (eN (RN 2)) cnt) cnt).2 = (-1))))) (fun u : Nat × Nat × (Nat → Int32) × Int32 × Int32 × (Nat → Int32) => u.2.1 = (if rl < (2 ^ cnt * cnt) then (2 ^ cnt * cnt) else rl) ∧ (¬ (lF (RN 3) (rR (eN (RN 2)) cnt) cnt).2 = (-1) → ∃ x, (lF (RN 3) (rR (eN (RN 2)) cnt) cnt).2 = nI x ∧ x < cnt ∧ u.2.2.2.1 = (lF (RN 3) (rR (eN (RN 2)) cnt) cnt).1 ∧ u.2.2.2.2.1 = nI cnt ∧ ∀ i, i < cnt → u.2.2.2.2.2 i = nI (nm (cSq (eN (RN 2)) (rR (eN (RN 2)) cnt) cnt x i).2)) ∧ ((lF (RN 3) (rR (eN (RN 2)) cnt) cnt).2 = (-1) → u.2.2.2.1 = FN 5 ∧ u.2.2.2.2.1 = FN 7 ∧ u.2.2.2.2.2 = RN 6)) (fun u : Nat × Nat × (Nat → Int32) × Int32 × Int32 × (Nat → Int32) => NW G an (va_up (va_up FN 5 u.2.2.2.1) 7 u.2.2.2.2.1) (va_up (va_up RN 4 u.2.2.1) 6 u.2.2.2.2.2) SR u.1 u.2.1 ++ (pool G so aS FS RS m12)) := by
  refine Met.ofW (cc := cX2_seekOrder) (maxL := 3) (ret := (some .boolean)) (by decide) rfl ?_
  intro p e s m args below meth c s₁ BB hml hv
  obtain ⟨rfl, ⟨hsz, hP, hD0⟩, hK⟩ := hv
  have hx := BB.exec
  have hb := BB.bytes
  have hr := BB.returns
  have hts := atoms_spec (ws := wsX2_seekOrder) BB.pre
  have hown : s.vm.findClass RX2 = some m.cls := findClass_of_methodNamed BB.named
  have hlocks := BB.notSynchronized
  subst hsz
  have hD := hD0.self (sz := s.heap.size)
  have hA : ∀ q : Nat, s.heap.size ≤ q → va_A ((NW G an FN RN SR ra rl) ++ (pool G so aS FS RS m12)) s.heap.size q := fun q h => Or.inr h
  have hS : va_S (va_A ((NW G an FN RN SR ra rl) ++ (pool G so aS FS RS m12)) s.heap.size) s.heap s.heap [] := va_S.rf
  have hpw := pow_le hc12
  have hpc := pow_cnt hc12
  have hpg : 2 ≤ 2 ^ cnt := by have := Nat.pow_le_pow_right (show 0 < 2 by omega) hc1; omega
  have fl17 := hts (.fieldLink RX2 17 "MixDesk$Nights" "count" "I") (by decide +kernel)
  have fl29 := hts (.fieldLink RX2 29 "MixDesk$Nights" "rest" "[I") (by decide +kernel)
  have fl33 := hts (.fieldLink RX2 33 "MixDesk$Nights" "cost" "I") (by decide +kernel)
  have inX2 : ∀ w ∈ wsX20, w ∈ wsX2_seekOrder := by decide +kernel
  have hl := lv_entry ([.ref (an 0)]) (n := 3) (Nat.le_of_ble_eq_true rfl)
  rw [lg_entry_eq]
  generalize (lg_sl ([.ref (an 0)]) ++ List.replicate (3 - (lg_sl ([.ref (an 0)])).length) Slot.unset).toArray = ls at hl ⊢
  have hl : lv_has ls 3 [(0, .ref (an 0))] := hl
  refine lv_iconst (v := nI 1) hx hb dX2_seekOrder_0 (by decide) ?_
  refine lv_aload_n hx hb dX2_seekOrder_1 rfl (lv_at hl 0 rfl) ?_
  refine va_get (D := G.1) (ci := 2) (v := .int (FN 1)) (C := RX2) (T := TX2) (N := 8) hx hb hts inX2 hown hK.1 hP 0 rfl rfl 1 (by decide) fl17 (fun _ h9 => h9) rfl dX2_seekOrder_2 ?_
  refine x_top (y := nI cnt) (hF) ?_
  refine lv_ishl hx hb dX2_seekOrder_5 ?_
  refine x_top (y := nI (2 ^ cnt)) (zz_pow2 (by omega)) ?_
  refine lv_iconst (v := nI 1) hx hb dX2_seekOrder_6 (by decide) ?_
  refine x_isub (r := 2 ^ cnt - 1) hx hb dX2_seekOrder_7 (by omega) ?_
  refine lv_istore_n (lv' := [(1, .int (nI (2 ^ cnt - 1))), (0, .ref (an 0))]) hx hb dX2_seekOrder_8 rfl hl (by decide) rfl (fun ls hl => ?_)
  refine lv_aload_n hx hb dX2_seekOrder_9 rfl (lv_at hl 1 rfl) ?_
  refine va_get (D := G.1) (ci := 2) (v := .ref ra) (C := RX2) (T := TX2) (N := 8) hx hb hts inX2 hown hK.1 hP 0 rfl rfl 4 (by decide) fl29 (fun _ h9 => h9) rfl dX2_seekOrder_10 ?_
  refine va_alen hx hb hK.1 hP 4 0 rfl rfl (v := nI rl) rfl dX2_seekOrder_13 ?_
  refine lv_iload_n hx hb dX2_seekOrder_14 rfl (lv_at hl 0 rfl) ?_
  refine lv_iconst (v := nI 1) hx hb dX2_seekOrder_15 (by decide) ?_
  refine x_iadd (r := 2 ^ cnt) hx hb dX2_seekOrder_16 (by omega) ?_
  refine lv_aload_n hx hb dX2_seekOrder_17 rfl (lv_at hl 1 rfl) ?_
  refine va_get (D := G.1) (ci := 2) (v := .int (FN 1)) (C := RX2) (T := TX2) (N := 8) hx hb hts inX2 hown hK.1 hP 0 rfl rfl 1 (by decide) fl17 (fun _ h9 => h9) rfl dX2_seekOrder_18 ?_
  refine x_top (y := nI cnt) (hF) ?_
  refine x_imul (r := 2 ^ cnt * cnt) hx hb dX2_seekOrder_21 (rfl) ?_
  have lp39 : ∀ (ra1 : Nat) (rl1 : Nat) (RR : Nat → Int32), (rl1 = if rl < (2 ^ cnt * cnt) then (2 ^ cnt * cnt) else rl) → ∀ (H : Heap) (locs : List Loc), va_P G.1 vwCl ((NW G an FN (va_up RN 4 RR) SR ra1 rl1) ++ (pool G so aS FS RS m12)) H → va_D (va_A ((NW G an FN RN SR ra rl) ++ (pool G so aS FS RS m12)) s.heap.size) ((NW G an FN (va_up RN 4 RR) SR ra1 rl1) ++ (pool G so aS FS RS m12)) → va_S (va_A ((NW G an FN RN SR ra rl) ++ (pool G so aS FS RS m12)) s.heap.size) s.heap H locs → ∀ ls : Array Slot, lv_has ls 3 [(0, .ref (an 0)), (1, .int (nI (2 ^ cnt - 1)))] → mx_WE l wsX2_seekOrder 3 75 1 ms G p e s m (([.ref (an 0)] : List Value).toArray) below meth c ((NW G an FN RN SR ra rl) ++ (pool G so aS FS RS m12)) (fun _ : Nat × Nat × (Nat → Int32) × Int32 × Int32 × (Nat → Int32) => some (.int (b2i (¬ (lF (RN 3) (rR (eN (RN 2)) cnt) cnt).2 = (-1))))) (fun u : Nat × Nat × (Nat → Int32) × Int32 × Int32 × (Nat → Int32) => u.2.1 = (if rl < (2 ^ cnt * cnt) then (2 ^ cnt * cnt) else rl) ∧ (¬ (lF (RN 3) (rR (eN (RN 2)) cnt) cnt).2 = (-1) → ∃ x, (lF (RN 3) (rR (eN (RN 2)) cnt) cnt).2 = nI x ∧ x < cnt ∧ u.2.2.2.1 = (lF (RN 3) (rR (eN (RN 2)) cnt) cnt).1 ∧ u.2.2.2.2.1 = nI cnt ∧ ∀ i, i < cnt → u.2.2.2.2.2 i = nI (nm (cSq (eN (RN 2)) (rR (eN (RN 2)) cnt) cnt x i).2)) ∧ ((lF (RN 3) (rR (eN (RN 2)) cnt) cnt).2 = (-1) → u.2.2.2.1 = FN 5 ∧ u.2.2.2.2.1 = FN 7 ∧ u.2.2.2.2.2 = RN 6)) (fun u : Nat × Nat × (Nat → Int32) × Int32 × Int32 × (Nat → Int32) => NW G an (va_up (va_up FN 5 u.2.2.2.1) 7 u.2.2.2.2.1) (va_up (va_up RN 4 u.2.2.1) 6 u.2.2.2.2.2) SR u.1 u.2.1 ++ (pool G so aS FS RS m12)) H locs 1 ms (F0 m 39 ls []) := by
    intro ra1 rl1 RR hrl1 H locs hP hD hS ls hl
    have hrl : 2 ^ cnt * cnt ≤ rl1 := by rw [hrl1]; split <;> omega
    have hrl3 : rl1 < 2 ^ 27 := by rw [hrl1]; split <;> omega
    have hrl2 := hrl3
    refine lv_iconst (v := nI 0) hx hb dX2_seekOrder_39 (by decide) ?_
    refine lv_istore_n (lv' := [(2, .int (nI 0)), (0, .ref (an 0)), (1, .int (nI (2 ^ cnt - 1)))]) hx hb dX2_seekOrder_40 rfl hl (by decide) rfl (fun ls hl => ?_)
    have lp41 : ∀ (nn : Nat) (k : Nat) (RF : Nat → Int32), cnt - k < nn → (k ≤ cnt) → (∀ z, z < k → RF ((2 ^ cnt - 1) * cnt + z) = nI 0) → ∀ (H : Heap) (locs : List Loc), va_P G.1 vwCl ((NW G an FN (va_up RN 4 RF) SR ra1 rl1) ++ (pool G so aS FS RS m12)) H → va_D (va_A ((NW G an FN RN SR ra rl) ++ (pool G so aS FS RS m12)) s.heap.size) ((NW G an FN (va_up RN 4 RF) SR ra1 rl1) ++ (pool G so aS FS RS m12)) → va_S (va_A ((NW G an FN RN SR ra rl) ++ (pool G so aS FS RS m12)) s.heap.size) s.heap H locs → ∀ ls : Array Slot, lv_has ls 3 [(0, .ref (an 0)), (1, .int (nI (2 ^ cnt - 1))), (2, .int (nI k))] → mx_WE l wsX2_seekOrder 3 75 1 ms G p e s m (([.ref (an 0)] : List Value).toArray) below meth c ((NW G an FN RN SR ra rl) ++ (pool G so aS FS RS m12)) (fun _ : Nat × Nat × (Nat → Int32) × Int32 × Int32 × (Nat → Int32) => some (.int (b2i (¬ (lF (RN 3) (rR (eN (RN 2)) cnt) cnt).2 = (-1))))) (fun u : Nat × Nat × (Nat → Int32) × Int32 × Int32 × (Nat → Int32) => u.2.1 = (if rl < (2 ^ cnt * cnt) then (2 ^ cnt * cnt) else rl) ∧ (¬ (lF (RN 3) (rR (eN (RN 2)) cnt) cnt).2 = (-1) → ∃ x, (lF (RN 3) (rR (eN (RN 2)) cnt) cnt).2 = nI x ∧ x < cnt ∧ u.2.2.2.1 = (lF (RN 3) (rR (eN (RN 2)) cnt) cnt).1 ∧ u.2.2.2.2.1 = nI cnt ∧ ∀ i, i < cnt → u.2.2.2.2.2 i = nI (nm (cSq (eN (RN 2)) (rR (eN (RN 2)) cnt) cnt x i).2)) ∧ ((lF (RN 3) (rR (eN (RN 2)) cnt) cnt).2 = (-1) → u.2.2.2.1 = FN 5 ∧ u.2.2.2.2.1 = FN 7 ∧ u.2.2.2.2.2 = RN 6)) (fun u : Nat × Nat × (Nat → Int32) × Int32 × Int32 × (Nat → Int32) => NW G an (va_up (va_up FN 5 u.2.2.2.1) 7 u.2.2.2.2.1) (va_up (va_up RN 4 u.2.2.1) 6 u.2.2.2.2.2) SR u.1 u.2.1 ++ (pool G so aS FS RS m12)) H locs 1 ms (F0 m 41 ls []) := by
      intro nn
      induction nn with
      | zero => intro k RF hmu; exact absurd hmu (Nat.not_lt_zero _)
      | succ nn ih41 =>
        intro k RF hmu hk hRF H locs hP hD hS ls hl
        refine lv_iload_n hx hb dX2_seekOrder_41 rfl (lv_at hl 2 rfl) ?_
        refine lv_aload_n hx hb dX2_seekOrder_42 rfl (lv_at hl 0 rfl) ?_
        refine va_get (D := G.1) (ci := 2) (v := .int (FN 1)) (C := RX2) (T := TX2) (N := 8) hx hb hts inX2 hown hK.1 hP 0 rfl rfl 1 (by decide) fl17 (fun _ h9 => h9) rfl dX2_seekOrder_43 ?_
        refine x_top (y := nI cnt) (hF) ?_
        refine x_icmp_ge (tgt := 69) hx hb (by omega) (by omega) dX2_seekOrder_46 (by decide) (fun c_46 => ?_) (fun c_46 => ?_)
        · refine lv_iload_n hx hb dX2_seekOrder_69 rfl (lv_at hl 1 rfl) ?_
          refine lv_iconst (v := nI 1) hx hb dX2_seekOrder_70 (by decide) ?_
          refine x_isub (r := 2 ^ cnt - 1 - 1) hx hb dX2_seekOrder_71 (by omega) ?_
          refine lv_istore_n (lv' := [(2, .int (nI (2 ^ cnt - 1 - 1))), (0, .ref (an 0)), (1, .int (nI (2 ^ cnt - 1)))]) hx hb dX2_seekOrder_72 rfl hl (by decide) rfl (fun ls hl => ?_)
          have lp73 : ∀ (nn : Nat) (q : Nat) (RX : Nat → Int32), q < nn → (q < 2 ^ cnt - 1) → (agQ cnt q RX (rR (eN (RN 2)) cnt)) → ∀ (H : Heap) (locs : List Loc), va_P G.1 vwCl ((NW G an FN (va_up RN 4 RX) SR ra1 rl1) ++ (pool G so aS FS RS m12)) H → va_D (va_A ((NW G an FN RN SR ra rl) ++ (pool G so aS FS RS m12)) s.heap.size) ((NW G an FN (va_up RN 4 RX) SR ra1 rl1) ++ (pool G so aS FS RS m12)) → va_S (va_A ((NW G an FN RN SR ra rl) ++ (pool G so aS FS RS m12)) s.heap.size) s.heap H locs → ∀ ls : Array Slot, lv_has ls 3 [(0, .ref (an 0)), (1, .int (nI (2 ^ cnt - 1))), (2, .int (nI q))] → mx_WE l wsX2_seekOrder 3 75 1 ms G p e s m (([.ref (an 0)] : List Value).toArray) below meth c ((NW G an FN RN SR ra rl) ++ (pool G so aS FS RS m12)) (fun _ : Nat × Nat × (Nat → Int32) × Int32 × Int32 × (Nat → Int32) => some (.int (b2i (¬ (lF (RN 3) (rR (eN (RN 2)) cnt) cnt).2 = (-1))))) (fun u : Nat × Nat × (Nat → Int32) × Int32 × Int32 × (Nat → Int32) => u.2.1 = (if rl < (2 ^ cnt * cnt) then (2 ^ cnt * cnt) else rl) ∧ (¬ (lF (RN 3) (rR (eN (RN 2)) cnt) cnt).2 = (-1) → ∃ x, (lF (RN 3) (rR (eN (RN 2)) cnt) cnt).2 = nI x ∧ x < cnt ∧ u.2.2.2.1 = (lF (RN 3) (rR (eN (RN 2)) cnt) cnt).1 ∧ u.2.2.2.2.1 = nI cnt ∧ ∀ i, i < cnt → u.2.2.2.2.2 i = nI (nm (cSq (eN (RN 2)) (rR (eN (RN 2)) cnt) cnt x i).2)) ∧ ((lF (RN 3) (rR (eN (RN 2)) cnt) cnt).2 = (-1) → u.2.2.2.1 = FN 5 ∧ u.2.2.2.2.1 = FN 7 ∧ u.2.2.2.2.2 = RN 6)) (fun u : Nat × Nat × (Nat → Int32) × Int32 × Int32 × (Nat → Int32) => NW G an (va_up (va_up FN 5 u.2.2.2.1) 7 u.2.2.2.2.1) (va_up (va_up RN 4 u.2.2.1) 6 u.2.2.2.2.2) SR u.1 u.2.1 ++ (pool G so aS FS RS m12)) H locs 1 ms (F0 m 73 ls []) := by
            intro nn
            induction nn with
            | zero => intro q RX hmu; exact absurd hmu (Nat.not_lt_zero _)
            | succ nn ih73 =>
              intro q RX hmu hq hRX H locs hP hD hS ls hl
              refine lv_iload_n hx hb dX2_seekOrder_73 rfl (lv_at hl 2 rfl) ?_
              refine x_if_le (tgt := 88) hx hb (by omega) dX2_seekOrder_74 (by decide) (fun c_74 => ?_) (fun c_74 => ?_)
              · have hag : agW cnt (wN cnt RX) (rR (eN (RN 2)) cnt) := fun q0 h0 => hRX q0 (by omega)
                refine lv_aload_n hx hb dX2_seekOrder_88 rfl (lv_at hl 0 rfl) ?_
                refine mx_callRO (v := .int ((lF (RN 3) (wN cnt (RX)) cnt).2)) (va_runV (As := []) (rest := []) ⟨hx, hb, hml, hown, hts⟩ (c_X2_leastFirst l G an FN (va_up RN 4 RX) SR ra1 rl1 cnt hF hc12 hrl hrl2) (cwV 0 hts gX2_seekOrder_X2_leastFirst rfl rfl rfl (by decide +kernel) ⟨Nat.le_of_ble_eq_true rfl, Nat.le_of_ble_eq_true rfl⟩) (mx_preV hK (mx_Psub hP (fun q9 => fun h => List.mem_append_left _ h)) (va_recv hK.1 hP (ci := 2) (q0 := 0) rfl rfl)) rfl rfl hl.1 rfl (lv_room (Nat.le_of_ble_eq_true rfl)) dX2_seekOrder_89 ⟨Nat.le_of_ble_eq_true rfl, Nat.le_refl _⟩) ?_
                refine x_top (y := (lF (RN 3) (rR (eN (RN 2)) cnt) cnt).2) (by rw [ag_lF hag]) ?_
                refine lv_istore_n (lv' := [(2, .int ((lF (RN 3) (rR (eN (RN 2)) cnt) cnt).2)), (0, .ref (an 0)), (1, .int (nI (2 ^ cnt - 1)))]) hx hb dX2_seekOrder_92 rfl hl (by decide) rfl (fun ls hl => ?_)
                refine lv_iload_n hx hb dX2_seekOrder_93 rfl (lv_at hl 0 rfl) ?_
                refine lv_iconst (v := (-1)) hx hb dX2_seekOrder_94 (by decide) ?_
                refine lv_icmp_ne (tgt := 100) hx hb dX2_seekOrder_95 (by decide) (fun c_95 => ?_) (fun c_95 => ?_)
                · have hne : ¬ (lF (RN 3) (rR (eN (RN 2)) cnt) cnt).2 = (-1) := c_95
                  obtain ⟨x, hx1, hx2, hx3, hx5, hx6, -⟩ := (lF_end (b := RN 3) (Wf := (rR (eN (RN 2)) cnt)) cnt).resolve_left (fun q9 => hne q9.1)
                  have hl : lv_has ls 3 [(2, .int (nI x)), (0, .ref (an 0)), (1, .int (nI (2 ^ cnt - 1)))] := Eq.mp (congrArg (fun z9 : Int32 => lv_has ls 3 [(2, .int z9), (0, .ref (an 0)), (1, .int (nI (2 ^ cnt - 1)))]) (show (lF (RN 3) (rR (eN (RN 2)) cnt) cnt).2 = nI x from hx2)) hl
                  refine lv_aload_n hx hb dX2_seekOrder_100 rfl (lv_at hl 1 rfl) ?_
                  refine lv_aload_n hx hb dX2_seekOrder_101 rfl (lv_at hl 1 rfl) ?_
                  refine va_get (D := G.1) (ci := 2) (v := .ref ra1) (C := RX2) (T := TX2) (N := 8) hx hb hts inX2 hown hK.1 hP 0 rfl rfl 4 (by decide) fl29 (fun _ h9 => h9) rfl dX2_seekOrder_102 ?_
                  refine lv_iconst (v := nI 1) hx hb dX2_seekOrder_105 (by decide) ?_
                  refine lv_iload_n hx hb dX2_seekOrder_106 rfl (lv_at hl 0 rfl) ?_
                  refine lv_ishl hx hb dX2_seekOrder_107 ?_
                  refine x_top (y := nI (2 ^ x)) (zz_pow (by omega)) ?_
                  refine lv_aload_n hx hb dX2_seekOrder_108 rfl (lv_at hl 1 rfl) ?_
                  refine va_get (D := G.1) (ci := 2) (v := .int (FN 1)) (C := RX2) (T := TX2) (N := 8) hx hb hts inX2 hown hK.1 hP 0 rfl rfl 1 (by decide) fl17 (fun _ h9 => h9) rfl dX2_seekOrder_109 ?_
                  refine x_top (y := nI cnt) (hF) ?_
                  refine x_imul (r := 2 ^ x * cnt) hx hb dX2_seekOrder_112 (rfl) ?_
                  refine lv_iload_n hx hb dX2_seekOrder_113 rfl (lv_at hl 0 rfl) ?_
                  refine x_iadd (r := 2 ^ x * cnt + x) hx hb dX2_seekOrder_114 (rfl) ?_
                  refine x_iald hx hb hK.1 hP 4 0 (n := rl1) (f := RX) rfl rfl (k := 2 ^ x * cnt + x) (ix_lt (Nat.pow_lt_pow_right (by omega) (by omega)) (by omega) hrl) (by omega) dX2_seekOrder_115 ?_
                  refine x_top (y := (rR (eN (RN 2)) cnt) (2 ^ x) x) (hag _ (Nat.two_pow_pos _) (Nat.pow_lt_pow_right (by omega) (by omega)) x hx1 (by have h9 := or_bit (q := 0) (k := x) (i := x); rw [Nat.zero_or, if_pos rfl] at h9; omega)) ?_
                  refine va_put (D := G.1) (ci := 2) (v := .int ((rR (eN (RN 2)) cnt) (2 ^ x) x)) (ty := .int) (C := RX2) (T := TX2) (N := 8) hx hb hts inX2 tyX2 tyX2_ok nmX2 hown hK.1 hP hD hS 0 rfl rfl 5 (by decide) fl33 (fun _ h9 => h9) rfl (by decide +kernel) rfl rfl (Nat.le_of_ble_eq_true rfl) dX2_seekOrder_116 (fun H locs hP hD hS => ?_)
                  have hP : va_P G.1 vwCl ((NW G an (va_up FN 5 ((rR (eN (RN 2)) cnt) (2 ^ x) x)) (va_up RN 4 RX) SR ra1 rl1) ++ (pool G so aS FS RS m12)) H := hP
                  have hD : va_D _ ((NW G an (va_up FN 5 ((rR (eN (RN 2)) cnt) (2 ^ x) x)) (va_up RN 4 RX) SR ra1 rl1) ++ (pool G so aS FS RS m12)) := hD
                  refine lv_aload_n hx hb dX2_seekOrder_119 rfl (lv_at hl 1 rfl) ?_
                  refine lv_iload_n hx hb dX2_seekOrder_120 rfl (lv_at hl 0 rfl) ?_
                  refine mx_callEv (va_runV (As := [.int (nI x)]) (rest := []) ⟨hx, hb, hml, hown, hts⟩ (c_X2_keepOrder l G an (va_up FN 5 ((rR (eN (RN 2)) cnt) (2 ^ x) x)) (va_up RN 4 RX) SR ra1 rl1 cnt m12 so aS FS RS x nm hF hc12 hrl hrl2 hm12 hx1 hSR (ag_ok hc12 hx1 hag hx6) _) (cwV 1 hts gX2_seekOrder_X2_keepOrder rfl rfl rfl (by decide +kernel) ⟨Nat.le_of_ble_eq_true rfl, Nat.le_of_ble_eq_true rfl⟩) (mx_preV hK ⟨rfl, hP, mx_any hD (fun _ _ => trivial)⟩ (va_recv hK.1 hP (ci := 2) (q0 := 0) rfl rfl)) rfl rfl hl.1 rfl (lv_room (Nat.le_of_ble_eq_true rfl)) dX2_seekOrder_121 ⟨Nat.le_of_ble_eq_true rfl, Nat.le_refl _⟩) hP hD hS hA (mx_perm0) (fun uo H locs huo hP hD hS => ?_)
                  rw [List.append_nil] at hP hD
                  have hP : va_P G.1 vwCl ((NW G an (va_up (va_up FN 5 ((rR (eN (RN 2)) cnt) (2 ^ x) x)) 7 (nI cnt)) (va_up (va_up RN 4 RX) 6 uo) SR ra1 rl1) ++ (pool G so aS FS RS m12)) H := hP
                  have hD : va_D _ ((NW G an (va_up (va_up FN 5 ((rR (eN (RN 2)) cnt) (2 ^ x) x)) 7 (nI cnt)) (va_up (va_up RN 4 RX) 6 uo) SR ra1 rl1) ++ (pool G so aS FS RS m12)) := hD
                  refine lv_iconst (v := nI 1) hx hb dX2_seekOrder_124 (by decide) ?_
                  refine x_top (y := b2i (¬ (lF (RN 3) (rR (eN (RN 2)) cnt) cnt).2 = (-1))) (b2i_t hne) ?_
                  exact W.zret (v := b2i (¬ (lF (RN 3) (rR (eN (RN 2)) cnt) cnt).2 = (-1))) hx hb hr (b2i_n _) (fun t9 ht9 hW9 => ⟨⟨(ra1, rl1, RX, (rR (eN (RN 2)) cnt) (2 ^ x) x, nI cnt, uo), rfl, ⟨hrl1, fun _ => ⟨x, hx2, hx1, by rw [hx5], rfl, fun i hi => by rw [← ag_seq hc12 hx1 hag hx6 i hi]; exact huo i hi⟩, fun q9 => absurd q9 hne⟩, by rw [ht9]; exact hP, hD⟩, hS.F ht9⟩) hS.2.2 dX2_seekOrder_125
                · refine lv_iconst (v := nI 0) hx hb dX2_seekOrder_98 (by decide) ?_
                  refine x_top (y := b2i (¬ (lF (RN 3) (rR (eN (RN 2)) cnt) cnt).2 = (-1))) (b2i_f (fun q9 => q9 c_95)) ?_
                  exact W.zret (v := b2i (¬ (lF (RN 3) (rR (eN (RN 2)) cnt) cnt).2 = (-1))) hx hb hr (b2i_n _) (fun t9 ht9 hW9 => ⟨⟨(ra1, rl1, RX, FN 5, FN 7, RN 6), rfl, ⟨hrl1, fun q9 => absurd c_95 q9, fun _ => ⟨rfl, rfl, rfl⟩⟩, by rw [ht9]; exact hP, hD⟩, hS.F ht9⟩) hS.2.2 dX2_seekOrder_99
              · obtain ⟨y, rfl⟩ : ∃ y, q = y + 1 := ⟨q - 1, by omega⟩
                refine lv_aload_n hx hb dX2_seekOrder_77 rfl (lv_at hl 0 rfl) ?_
                refine lv_iload_n hx hb dX2_seekOrder_78 rfl (lv_at hl 2 rfl) ?_
                refine mx_callEv (va_runV (As := [.int (nI (y + 1))]) (rest := []) ⟨hx, hb, hml, hown, hts⟩ (c_X2_weighSet l G an FN (va_up RN 4 RX) SR ra1 rl1 cnt (y + 1) hF hc12 hrl hrl2 (by omega) _) (cwV 1 hts gX2_seekOrder_X2_weighSet rfl rfl rfl (by decide +kernel) ⟨Nat.le_of_ble_eq_true rfl, Nat.le_of_ble_eq_true rfl⟩) (mx_preV hK ⟨rfl, mx_cut hP hD (a := NW G an FN (va_up RN 4 RX) SR ra1 rl1) (b := pool G so aS FS RS m12) (mx_perm (fun n9 hn9 => by simp only [hn9, List.append_nil] <;> omega))⟩ (va_recv hK.1 hP (ci := 2) (q0 := 0) rfl rfl)) rfl rfl hl.1 rfl (lv_room (Nat.le_of_ble_eq_true rfl)) dX2_seekOrder_79 ⟨Nat.le_of_ble_eq_true rfl, Nat.le_refl _⟩) hP hD hS hA (((mx_perm (fun n9 hn9 => by simp only [hn9, List.append_nil] <;> omega)) : List.Perm _ ((NW G an FN (va_up RN 4 RX) SR ra1 rl1) ++ (pool G so aS FS RS m12)))) (fun uw H locs huw hP hD hS => ?_)
                have hP : va_P G.1 vwCl ((NW G an FN (va_up RN 4 uw) SR ra1 rl1) ++ (pool G so aS FS RS m12)) H := hP
                have hD : va_D _ ((NW G an FN (va_up RN 4 uw) SR ra1 rl1) ++ (pool G so aS FS RS m12)) := hD
                have hP : va_P G.1 vwCl ((NW G an FN (va_up RN 4 uw) SR ra1 rl1) ++ (pool G so aS FS RS m12)) H := mx_Pperm hP (mx_perm (fun n9 hn9 => by simp only [hn9, List.append_nil] <;> omega))
                have hD : va_D _ ((NW G an FN (va_up RN 4 uw) SR ra1 rl1) ++ (pool G so aS FS RS m12)) := mx_Dperm hD (mx_perm (fun n9 hn9 => by simp only [hn9, List.append_nil] <;> omega))
                refine x_iinc (lv' := [(2, .int (nI y)), (0, .ref (an 0)), (1, .int (nI (2 ^ cnt - 1)))]) hx hb dX2_seekOrder_82 hl (k := 2) rfl (x_dec1 y) (by decide) rfl (fun ls hl => ?_)
                refine lv_goto (tgt := 73) hx hb dX2_seekOrder_85 (by decide) ?_
                exact ih73 y uw (by omega) (by omega) (seekq_s (by omega) hRX huw.1 huw.2) _ _ hP hD hS _ (lv_sub hl [1, 2, 0] rfl)
          exact lp73 ((2 ^ cnt - 1 - 1) + 1) (2 ^ cnt - 1 - 1) RF (Nat.lt_succ_self _) (by omega) (seekq_0 (fun z hz => hRF z (by omega))) _ _ hP hD hS _ (lv_sub hl [1, 2, 0] rfl)
        · refine lv_aload_n hx hb dX2_seekOrder_49 rfl (lv_at hl 0 rfl) ?_
          refine va_get (D := G.1) (ci := 2) (v := .ref ra1) (C := RX2) (T := TX2) (N := 8) hx hb hts inX2 hown hK.1 hP 0 rfl rfl 4 (by decide) fl29 (fun _ h9 => h9) rfl dX2_seekOrder_50 ?_
          refine lv_iload_n hx hb dX2_seekOrder_53 rfl (lv_at hl 1 rfl) ?_
          refine lv_aload_n hx hb dX2_seekOrder_54 rfl (lv_at hl 0 rfl) ?_
          refine va_get (D := G.1) (ci := 2) (v := .int (FN 1)) (C := RX2) (T := TX2) (N := 8) hx hb hts inX2 hown hK.1 hP 0 rfl rfl 1 (by decide) fl17 (fun _ h9 => h9) rfl dX2_seekOrder_55 ?_
          refine x_top (y := nI cnt) (hF) ?_
          refine x_imul (r := (2 ^ cnt - 1) * cnt) hx hb dX2_seekOrder_58 (rfl) ?_
          refine lv_iload_n hx hb dX2_seekOrder_59 rfl (lv_at hl 2 rfl) ?_
          refine x_iadd (r := (2 ^ cnt - 1) * cnt + k) hx hb dX2_seekOrder_60 (rfl) ?_
          refine lv_iconst (v := nI 0) hx hb dX2_seekOrder_61 (by decide) ?_
          refine x_iast hx hb hK.1 hP hD hS 4 0 (n := rl1) (f := RF) rfl rfl (k := (2 ^ cnt - 1) * cnt + k) (ix_lt (by omega) (by omega) hrl) (by omega) dX2_seekOrder_62 ((NW G an FN (va_up RN 4 (upd RF ((2 ^ cnt - 1) * cnt + k) (nI 0))) SR ra1 rl1) ++ (pool G so aS FS RS m12)) rfl (fun H locs hP hD hS => ?_)
          refine x_iinc (lv' := [(2, .int (nI (k + 1))), (0, .ref (an 0)), (1, .int (nI (2 ^ cnt - 1)))]) hx hb dX2_seekOrder_63 hl (k := 2) rfl (x_inc1 _) (by decide) rfl (fun ls hl => ?_)
          refine lv_goto (tgt := 41) hx hb dX2_seekOrder_66 (by decide) ?_
          exact ih41 (k + 1) (upd RF ((2 ^ cnt - 1) * cnt + k) (nI 0)) (by omega) (by omega) (sgq_step hRF) _ _ hP hD hS _ (lv_sub hl [1, 2, 0] rfl)
    exact lp41 (cnt - 0 + 1) 0 RR (Nat.lt_succ_self _) (by omega) (fun z hz => absurd hz (Nat.not_lt_zero _)) _ _ hP hD hS _ (lv_sub hl [1, 2, 0] rfl)
  refine x_icmp_ge (tgt := 39) hx hb (by omega) (by omega) dX2_seekOrder_22 (by decide) (fun c_22 => ?_) (fun c_22 => ?_)
  · refine W.widen (k := 1) (n := ms) (Nat.le_of_ble_eq_true rfl) (Nat.zero_le _) ?_
    exact lp39 ra rl (RN 4) ((if_neg (by omega)).symm) _ _ hP hD hS _ (lv_sub hl [1, 0] rfl)
  · refine lv_aload_n hx hb dX2_seekOrder_25 rfl (lv_at hl 1 rfl) ?_
    refine lv_iload_n hx hb dX2_seekOrder_26 rfl (lv_at hl 0 rfl) ?_
    refine lv_iconst (v := nI 1) hx hb dX2_seekOrder_27 (by decide) ?_
    refine x_iadd (r := 2 ^ cnt) hx hb dX2_seekOrder_28 (by omega) ?_
    refine lv_aload_n hx hb dX2_seekOrder_29 rfl (lv_at hl 1 rfl) ?_
    refine va_get (D := G.1) (ci := 2) (v := .int (FN 1)) (C := RX2) (T := TX2) (N := 8) hx hb hts inX2 hown hK.1 hP 0 rfl rfl 1 (by decide) fl17 (fun _ h9 => h9) rfl dX2_seekOrder_30 ?_
    refine x_top (y := nI cnt) (hF) ?_
    refine x_imul (r := 2 ^ cnt * cnt) hx hb dX2_seekOrder_33 (rfl) ?_
    refine x_newI hx hb (hts (.arrayClass .int) (by decide +kernel)) hK hP hD hS hA (n := 2 ^ cnt * cnt) (by omega) (Nat.le_of_ble_eq_true rfl) (by show 0 + _ ≤ ms; rw [if_pos (by omega)] at hms; omega) dX2_seekOrder_34 (fun q1 H hP hD hS => ?_)
    have hP : va_P G.1 vwCl ((NW G an FN RN SR ra rl) ++ ((pool G so aS FS RS m12) ++ ([(q1, .inl (G.2.1, 2 ^ cnt * cnt, .inl (fun _ => nI 0)))]))) H := hP
    have hD : va_D _ ((NW G an FN RN SR ra rl) ++ ((pool G so aS FS RS m12) ++ ([(q1, .inl (G.2.1, 2 ^ cnt * cnt, .inl (fun _ => nI 0)))]))) := hD
    refine va_put (D := G.1) (ci := 2) (v := .ref q1) (ty := .array .int) (C := RX2) (T := TX2) (N := 8) hx hb hts inX2 tyX2 tyX2_ok nmX2 hown hK.1 hP hD hS 0 rfl rfl 4 (by decide) fl29 (fun _ h9 => h9) rfl (by decide +kernel) rfl rfl (Nat.le_of_ble_eq_true rfl) dX2_seekOrder_36 (fun H locs hP hD hS => ?_)
    have hP : va_P G.1 vwCl (([(an 0, .inr (2, [.ref (an 1), .int (FN 1), .ref (an 3), .ref (an 4), .ref q1, .int (FN 5), .ref (an 7), .int (FN 7)])), (an 1, .inl (G.2.2.2, 12, .inr (.inr (.inr (.inr (SR)))))), (an 3, .inl (G.2.1, 144, .inl (RN 2))), (an 4, .inl (G.2.2.1, 12, .inl (RN 3))), (ra, .inl (G.2.1, rl, .inl (RN 4))), (an 7, .inl (G.2.1, 12, .inl (RN 6)))]) ++ ((pool G so aS FS RS m12) ++ ([(q1, .inl (G.2.1, 2 ^ cnt * cnt, .inl (fun _ => nI 0)))]))) H := hP
    have hD : va_D _ (([(an 0, .inr (2, [.ref (an 1), .int (FN 1), .ref (an 3), .ref (an 4), .ref q1, .int (FN 5), .ref (an 7), .int (FN 7)])), (an 1, .inl (G.2.2.2, 12, .inr (.inr (.inr (.inr (SR)))))), (an 3, .inl (G.2.1, 144, .inl (RN 2))), (an 4, .inl (G.2.2.1, 12, .inl (RN 3))), (ra, .inl (G.2.1, rl, .inl (RN 4))), (an 7, .inl (G.2.1, 12, .inl (RN 6)))]) ++ ((pool G so aS FS RS m12) ++ ([(q1, .inl (G.2.1, 2 ^ cnt * cnt, .inl (fun _ => nI 0)))]))) := hD
    have hP9 := mx_PL (mx_Pperm hP (mx_perm (fun n9 hn9 => by simp only [hn9] <;> omega) : List.Perm (([(an 0, .inr (2, [.ref (an 1), .int (FN 1), .ref (an 3), .ref (an 4), .ref q1, .int (FN 5), .ref (an 7), .int (FN 7)])), (an 1, .inl (G.2.2.2, 12, .inr (.inr (.inr (.inr (SR)))))), (an 3, .inl (G.2.1, 144, .inl (RN 2))), (an 4, .inl (G.2.2.1, 12, .inl (RN 3)))] : va_W) ++ (([(ra, .inl (G.2.1, rl, .inl (RN 4)))] : va_W) ++ (([(an 7, .inl (G.2.1, 12, .inl (RN 6)))] : va_W) ++ ((pool G so aS FS RS m12) ++ ([(q1, .inl (G.2.1, 2 ^ cnt * cnt, .inl (fun _ => nI 0)))] : va_W))))) ((([(an 0, .inr (2, [.ref (an 1), .int (FN 1), .ref (an 3), .ref (an 4), .ref q1, .int (FN 5), .ref (an 7), .int (FN 7)])), (an 1, .inl (G.2.2.2, 12, .inr (.inr (.inr (.inr (SR)))))), (an 3, .inl (G.2.1, 144, .inl (RN 2))), (an 4, .inl (G.2.2.1, 12, .inl (RN 3)))] : va_W) ++ (([(q1, .inl (G.2.1, 2 ^ cnt * cnt, .inl (fun _ => nI 0)))] : va_W) ++ (([(an 7, .inl (G.2.1, 12, .inl (RN 6)))] : va_W) ++ pool G so aS FS RS m12))) ++ ([(ra, .inl (G.2.1, rl, .inl (RN 4)))] : va_W))))
    have hD9 := mx_DL (mx_Dperm hD (mx_perm (fun n9 hn9 => by simp only [hn9] <;> omega) : List.Perm (([(an 0, .inr (2, [.ref (an 1), .int (FN 1), .ref (an 3), .ref (an 4), .ref q1, .int (FN 5), .ref (an 7), .int (FN 7)])), (an 1, .inl (G.2.2.2, 12, .inr (.inr (.inr (.inr (SR)))))), (an 3, .inl (G.2.1, 144, .inl (RN 2))), (an 4, .inl (G.2.2.1, 12, .inl (RN 3)))] : va_W) ++ (([(ra, .inl (G.2.1, rl, .inl (RN 4)))] : va_W) ++ (([(an 7, .inl (G.2.1, 12, .inl (RN 6)))] : va_W) ++ ((pool G so aS FS RS m12) ++ ([(q1, .inl (G.2.1, 2 ^ cnt * cnt, .inl (fun _ => nI 0)))] : va_W))))) ((([(an 0, .inr (2, [.ref (an 1), .int (FN 1), .ref (an 3), .ref (an 4), .ref q1, .int (FN 5), .ref (an 7), .int (FN 7)])), (an 1, .inl (G.2.2.2, 12, .inr (.inr (.inr (.inr (SR)))))), (an 3, .inl (G.2.1, 144, .inl (RN 2))), (an 4, .inl (G.2.2.1, 12, .inl (RN 3)))] : va_W) ++ (([(q1, .inl (G.2.1, 2 ^ cnt * cnt, .inl (fun _ => nI 0)))] : va_W) ++ (([(an 7, .inl (G.2.1, 12, .inl (RN 6)))] : va_W) ++ pool G so aS FS RS m12))) ++ ([(ra, .inl (G.2.1, rl, .inl (RN 4)))] : va_W))))
    have hP : va_P G.1 vwCl ((NW G an FN (va_up RN 4 (fun _ => nI 0)) SR q1 (2 ^ cnt * cnt)) ++ (pool G so aS FS RS m12)) H := hP9
    have hD : va_D _ ((NW G an FN (va_up RN 4 (fun _ => nI 0)) SR q1 (2 ^ cnt * cnt)) ++ (pool G so aS FS RS m12)) := hD9
    refine W.widen (k := 1) (n := ms) (Nat.le_of_ble_eq_true rfl) (by show 0 + _ ≤ ms; rw [if_pos (by omega)] at hms; omega) ?_
    exact lp39 q1 (2 ^ cnt * cnt) (fun _ => nI 0) ((if_pos (by omega)).symm) _ _ hP hD hS _ (lv_sub hl [1, 0] rfl)
