set_option maxHeartbeats 4000000 in
set_option maxRecDepth 100000 in
theorem c_X6_night (l : Launch) (G : mx_G) (ad : Nat → Nat) (F : Nat → Int32) (R : Nat → Nat → Int32) (so : So) (x : Int32) (m9 : Nat) (hall : moAll R so) (hm9 : m9 = 12) (sz : Nat) : mx_EF l yX6_night wsX6_night 6 147 0 0 G [.ref (ad 0), .int x] sz (MW G ad F R) (fun _ : (Nat → Int32) × (Nat → Nat → Int32) => some (.int (aNightR m9 F R so x))) (nightPost m9 F R so x) (fun u9 : (Nat → Int32) × (Nat → Nat → Int32) => MW G ad u9.1 u9.2) := by
  refine Met.ofW (cc := cX6_night) (maxL := 9) (ret := (some .int)) (by decide) rfl ?_
  intro p e s m args below meth c s₁ BB hml hv
  obtain ⟨rfl, ⟨hsz, hP, hD0⟩, hK⟩ := hv
  have hx := BB.exec
  have hb := BB.bytes
  have hr := BB.returns
  have hts := atoms_spec (ws := wsX6_night) BB.pre
  have hown : s.vm.findClass RX6 = some m.cls := findClass_of_methodNamed BB.named
  have hlocks := BB.notSynchronized
  subst hsz
  have hD := hD0.self (sz := s.heap.size)
  have hA : ∀ q : Nat, s.heap.size ≤ q → va_A (MW G ad F R) s.heap.size q := fun q h => Or.inr h
  have hS : va_S (va_A (MW G ad F R) s.heap.size) s.heap s.heap [] := va_S.rf
  have fl100 := hts (.fieldLink RX6 100 "MixDeskModel" "ordered" "[I") (by decide +kernel)
  have fl209 := hts (.fieldLink RX6 209 "MixDeskModel" "orders" "I") (by decide +kernel)
  have fl93 := hts (.fieldLink RX6 93 "MixDeskModel" "edge" "[I") (by decide +kernel)
  have fl97 := hts (.fieldLink RX6 97 "MixDeskModel" "weigh" "[I") (by decide +kernel)
  have inX6 : ∀ w ∈ wsX60, w ∈ wsX6_night := by decide +kernel
  have ck164 := hts (.constant RX6 164 (1000000000)) (by decide +kernel)
  have hl := lv_entry ([.ref (ad 0), .int x]) (n := 9) (Nat.le_of_ble_eq_true rfl)
  rw [lg_entry_eq]
  generalize (lg_sl ([.ref (ad 0), .int x]) ++ List.replicate (9 - (lg_sl ([.ref (ad 0), .int x])).length) Slot.unset).toArray = ls at hl ⊢
  have hl : lv_has ls 9 [(0, .ref (ad 0)), (1, .int x)] := hl
  refine lv_aload_n hx hb dX6_night_0 rfl (lv_at hl 0 rfl) ?_
  refine mx_callRO (v := .int (nI (thB (R 0) 12))) (va_runV (As := []) (rest := []) ⟨hx, hb, hml, hown, hts⟩ (c_X6_there l G ad F R) (cwV 0 hts gX6_night_X6_there rfl rfl rfl (by decide +kernel) ⟨Nat.le_of_ble_eq_true rfl, Nat.le_of_ble_eq_true rfl⟩) (mx_preV hK hP (va_recv hK.1 hP (ci := 6) (q0 := 0) rfl rfl)) rfl rfl hl.1 rfl (lv_room (Nat.le_of_ble_eq_true rfl)) dX6_night_1 ⟨Nat.zero_le _, Nat.zero_le _⟩) ?_
  refine lv_istore_n (lv' := [(2, .int (nI (thB (R 0) 12))), (0, .ref (ad 0)), (1, .int x)]) hx hb dX6_night_4 rfl hl (by decide) rfl (fun ls hl => ?_)
  have hA9 := thB_lt (R 0) 12
  refine lv_iload_n hx hb dX6_night_5 rfl (lv_at hl 2 rfl) ?_
  refine lv_iconst (v := nI 1) hx hb dX6_night_6 (by decide) ?_
  refine lv_icmp_lt (tgt := 20) hx hb dX6_night_7 (by decide) (fun c_7 => ?_) (fun c_7 => ?_)
  · refine lv_iconst (v := (-1)) hx hb dX6_night_20 (by decide) ?_
    refine x_top (y := aNightR m9 F R so x) (by unfold aNightR aNight; rw [if_pos c_7]) ?_
    exact W.iret (v := aNightR m9 F R so x) hx hb hr (fun t9 ht9 hW9 => ⟨⟨(F, R), rfl, ⟨fun _ _ _ _ => rfl, fun _ _ _ _ => rfl, fun q => (q.1 c_7).elim, fun _ => ⟨rfl, rfl⟩⟩, by rw [ht9]; exact hP, hD⟩, hS.F ht9⟩) hS.2.2 dX6_night_21
  · refine lv_iload_n hx hb dX6_night_10 rfl (lv_at hl 2 rfl) ?_
    refine lv_bipush (v := nI 8) hx hb dX6_night_11 (by decide) ?_
    refine lv_icmp_gt (tgt := 20) hx hb dX6_night_13 (by decide) (fun c_13 => ?_) (fun c_13 => ?_)
    · refine lv_iconst (v := (-1)) hx hb dX6_night_20 (by decide) ?_
      refine x_top (y := aNightR m9 F R so x) (by unfold aNightR aNight; rw [if_neg c_7, if_pos c_13]) ?_
      exact W.iret (v := aNightR m9 F R so x) hx hb hr (fun t9 ht9 hW9 => ⟨⟨(F, R), rfl, ⟨fun _ _ _ _ => rfl, fun _ _ _ _ => rfl, fun q => (q.2.1 c_13).elim, fun _ => ⟨rfl, rfl⟩⟩, by rw [ht9]; exact hP, hD⟩, hS.F ht9⟩) hS.2.2 dX6_night_21
    · refine lv_iload_n hx hb dX6_night_16 rfl (lv_at hl 0 rfl) ?_
      refine x_if_ne (tgt := 22) hx hb (by omega) dX6_night_17 (by decide) (fun c_17 => ?_) (fun c_17 => ?_)
      · obtain ⟨n0, hn8, rfl⟩ := le_of (n := 8) (by omega) (fun q => c_7 (Int32.lt_trans q (by decide))) c_13
        have hn1 : ¬ n0 < 1 := fun q => c_7 ((nI_ltI (by omega) (by omega)).mpr q)
        obtain ⟨Ef, hEf⟩ : ∃ z, z = (eT (eV so (R 12) (F 18) (F 19) (F 20) n0)) := ⟨_, rfl⟩
        obtain ⟨W9, hWf⟩ : ∃ z, z = nWf Ef R := ⟨_, rfl⟩
        refine lv_aload_n hx hb dX6_night_22 rfl (lv_at hl 1 rfl) ?_
        refine lv_iload_n hx hb dX6_night_23 rfl (lv_at hl 2 rfl) ?_
        refine mx_callEv (va_runV (As := [.int (nI n0)]) (rest := []) ⟨hx, hb, hml, hown, hts⟩ (c_X6_edges l G ad F R so n0 hall (by omega) (by omega) _) (cwV 1 hts gX6_night_X6_edges rfl rfl rfl (by decide +kernel) ⟨Nat.le_of_ble_eq_true rfl, Nat.le_of_ble_eq_true rfl⟩) (mx_preV hK ⟨rfl, hP, mx_any hD (fun _ _ => trivial)⟩ (va_recv hK.1 hP (ci := 6) (q0 := 0) rfl rfl)) rfl rfl hl.1 rfl (lv_room (Nat.le_of_ble_eq_true rfl)) dX6_night_24 ⟨Nat.zero_le _, Nat.zero_le _⟩) hP hD hS hA (mx_perm0) (fun u7 H locs hu7 hP hD hS => ?_)
        rw [List.append_nil] at hP hD
        obtain ⟨F1, U⟩ := u7
        obtain ⟨hkF, hkU, hEv⟩ := hu7
        have hkF : keepF F1 F := hkF
        have hkU : keepE U R := hkU
        have hEv : ∀ q, q < 144 → U 32 q = eV so (R 12) (F 18) (F 19) (F 20) n0 q := hEv
        have hP : va_P G.1 vwCl (MW G ad F1 U) H := hP
        have hD : va_D _ (MW G ad F1 U) := hD
        refine lv_aload_n hx hb dX6_night_27 rfl (lv_at hl 1 rfl) ?_
        refine lv_iload_n hx hb dX6_night_28 rfl (lv_at hl 0 rfl) ?_
        refine mx_callEv (va_runV (As := [.int (nI (thB (R 0) 12))]) (rest := []) ⟨hx, hb, hml, hown, hts⟩ (c_X6_weighs l G ad F1 U _ (thB (R 0) 12) (by omega) hEv _) (cwV 1 hts gX6_night_X6_weighs rfl rfl rfl (by decide +kernel) ⟨Nat.le_of_ble_eq_true rfl, Nat.le_of_ble_eq_true rfl⟩) (mx_preV hK ⟨rfl, hP, mx_any hD (fun _ _ => trivial)⟩ (va_recv hK.1 hP (ci := 6) (q0 := 0) rfl rfl)) rfl rfl hl.1 rfl (lv_room (Nat.le_of_ble_eq_true rfl)) dX6_night_29 ⟨Nat.zero_le _, Nat.zero_le _⟩) hP hD hS hA (mx_perm0) (fun V H locs hV hP hD hS => ?_)
        rw [List.append_nil] at hP hD
        have hP : va_P G.1 vwCl (MW G ad F1 (va_up U 33 V)) H := hP
        have hD : va_D _ (MW G ad F1 (va_up U 33 V)) := hD
        have hV : ∀ q, q ≤ (thB (R 0) 12) → sub q (thB (R 0) 12) = 0 → ∀ z, z < 12 → V (12 * q + z) = W9 q z := by rw [hWf, hEf]; rw [hkU 12 (by decide) (by decide)] at hV; exact hV
        have hEw : ∀ y k, y < 12 → k < 12 → U 32 (12 * y + k) = Ef y k := fun y k h1 h2 => by rw [hEf]; exact hEv _ (by omega)
        refine lv_ldc hx hb hown ck164 dX6_night_32 ?_
        refine x_top (y := nI 1000000000) (by decide) ?_
        refine lv_istore_n (lv' := [(3, .int (nI 1000000000)), (2, .int (nI (thB (R 0) 12))), (0, .ref (ad 0)), (1, .int (nI n0))]) hx hb dX6_night_34 rfl hl (by decide) rfl (fun ls hl => ?_)
        refine lv_iconst (v := (-1)) hx hb dX6_night_35 (by decide) ?_
        refine x_top (y := atV 12 (nB W9 (bdT (R 12) (nI 1)) (thB (R 0) 12) 0).2) (rfl) ?_
        refine lv_istore (lv' := [(4, .int (atV 12 (nB W9 (bdT (R 12) (nI 1)) (thB (R 0) 12) 0).2)), (3, .int (nI 1000000000)), (2, .int (nI (thB (R 0) 12))), (0, .ref (ad 0)), (1, .int (nI n0))]) hx hb dX6_night_36 hl (by decide) rfl (fun ls hl => ?_)
        refine lv_iconst (v := nI 0) hx hb dX6_night_38 (by decide) ?_
        refine lv_istore (lv' := [(5, .int (nI 0)), (4, .int (atV 12 (nB W9 (bdT (R 12) (nI 1)) (thB (R 0) 12) 0).2)), (3, .int (nI 1000000000)), (2, .int (nI (thB (R 0) 12))), (0, .ref (ad 0)), (1, .int (nI n0))]) hx hb dX6_night_39 hl (by decide) rfl (fun ls hl => ?_)
        have lp41 : ∀ (nn : Nat) (z : Nat), 12 - z < nn → (z ≤ m9) → ∀ (H : Heap) (locs : List Loc), va_P G.1 vwCl (MW G ad F1 (va_up U 33 V)) H → va_D (va_A (MW G ad F R) s.heap.size) (MW G ad F1 (va_up U 33 V)) → va_S (va_A (MW G ad F R) s.heap.size) s.heap H locs → ∀ ls : Array Slot, lv_has ls 9 [(0, .ref (ad 0)), (1, .int (nI n0)), (2, .int (nI (thB (R 0) 12))), (3, .int ((nB W9 (bdT (R 12) (nI 1)) (thB (R 0) 12) z).1)), (4, .int (atV 12 (nB W9 (bdT (R 12) (nI 1)) (thB (R 0) 12) z).2)), (5, .int (nI z))] → mx_WE l wsX6_night 6 147 0 0 G p e s m (([.ref (ad 0), .int (nI n0)] : List Value).toArray) below meth c (MW G ad F R) (fun _ : (Nat → Int32) × (Nat → Nat → Int32) => some (.int (aNightR m9 F R so (nI n0)))) (nightPost m9 F R so (nI n0)) (fun u9 : (Nat → Int32) × (Nat → Nat → Int32) => MW G ad u9.1 u9.2) H locs 0 0 (F0 m 41 ls []) := by
          intro nn
          induction nn with
          | zero => intro z hmu; exact absurd hmu (Nat.not_lt_zero _)
          | succ nn ih41 =>
            intro z hmu hz H locs hP hD hS ls hl
            refine lv_iload hx hb dX6_night_41 (lv_at hl 5 rfl) ?_
            refine lv_bipush (v := nI 12) hx hb dX6_night_43 (by decide) ?_
            refine x_icmp_ge (tgt := 123) hx hb (by omega) (by omega) dX6_night_45 (by decide) (fun c_45 => ?_) (fun c_45 => ?_)
            · obtain rfl : m9 = z := by omega
              refine lv_iload hx hb dX6_night_123 (lv_at hl 4 rfl) ?_
              refine lv_iconst (v := (-1)) hx hb dX6_night_125 (by decide) ?_
              refine lv_icmp_ne (tgt := 132) hx hb dX6_night_126 (by decide) (fun c_126 => ?_) (fun c_126 => ?_)
              · have hat : (nB W9 (bdT (R 12) (nI 1)) (thB (R 0) 12) m9).2 < 12 := Classical.not_not.mp (fun q => c_126 ((atV_m1 (by omega)).mpr q))
                obtain ⟨-, hb1, -, hb3, hb4⟩ := nB_prop m9 (by omega) hat
                have hrm := rm_lt (k := (nB W9 (bdT (R 12) (nI 1)) (thB (R 0) 12) m9).2) (show (thB (R 0) 12) < 4096 by omega) hb1
                have hsr := sub_rm (k := (nB W9 (bdT (R 12) (nI 1)) (thB (R 0) 12) m9).2) (show (thB (R 0) 12) < 4096 by omega) (sub_self (show (thB (R 0) 12) < 4096 by omega))
                have hcn := cntB_rm (show (thB (R 0) 12) < 4096 by omega) hb1 12
                have hcl := cntB_le (thB (R 0) 12) 12
                rw [if_pos hat] at hcn
                have hl : lv_has ls 9 [(0, .ref (ad 0)), (1, .int (nI n0)), (2, .int (nI (thB (R 0) 12))), (3, .int ((nB W9 (bdT (R 12) (nI 1)) (thB (R 0) 12) (m9)).1)), (4, .int (nI ((nB W9 (bdT (R 12) (nI 1)) (thB (R 0) 12) m9).2))), (5, .int (nI (m9)))] := Eq.mp (congrArg (fun z9 : Int32 => lv_has ls 9 [(0, .ref (ad 0)), (1, .int (nI n0)), (2, .int (nI (thB (R 0) 12))), (3, .int ((nB W9 (bdT (R 12) (nI 1)) (thB (R 0) 12) (m9)).1)), (4, .int z9), (5, .int (nI (m9)))]) (show atV 12 (nB W9 (bdT (R 12) (nI 1)) (thB (R 0) 12) (m9)).2 = nI ((nB W9 (bdT (R 12) (nI 1)) (thB (R 0) 12) m9).2) from atV_yes hat)) hl
                refine lv_aload_n hx hb dX6_night_132 rfl (lv_at hl 0 rfl) ?_
                refine lv_iconst (v := nI 0) hx hb dX6_night_133 (by decide) ?_
                refine va_put (D := G.1) (ci := 6) (v := .int (nI 0)) (ty := .int) (C := RX6) (T := TX6) (N := 36) hx hb hts inX6 tyX6 tyX6_ok nmX6 hown hK.1 hP hD hS 0 rfl rfl 34 (by decide) fl209 (fun _ h9 => h9) rfl (by decide +kernel) rfl rfl (Nat.le_of_ble_eq_true rfl) dX6_night_134 (fun H locs hP hD hS => ?_)
                have hP : va_P G.1 vwCl (MW G ad (va_up F1 34 (nI 0)) (va_up U 33 V)) H := hP
                have hD : va_D _ (MW G ad (va_up F1 34 (nI 0)) (va_up U 33 V)) := hD
                refine lv_iload_n hx hb dX6_night_137 rfl (lv_at hl 2 rfl) ?_
                refine lv_iconst (v := nI 1) hx hb dX6_night_138 (by decide) ?_
                refine lv_iload hx hb dX6_night_139 (lv_at hl 4 rfl) ?_
                refine lv_ishl hx hb dX6_night_141 ?_
                refine x_top (y := nI (2 ^ (nB W9 (bdT (R 12) (nI 1)) (thB (R 0) 12) m9).2)) (zz_pow (by omega)) ?_
                refine lv_iconst (v := (-1)) hx hb dX6_night_142 (by decide) ?_
                refine lv_ixor hx hb dX6_night_143 ?_
                refine lv_iand hx hb dX6_night_144 ?_
                refine x_top (y := nI (rm (thB (R 0) 12) (nB W9 (bdT (R 12) (nI 1)) (thB (R 0) 12) m9).2)) (zz_clr (by omega)) ?_
                refine lv_istore (lv' := [(5, .int (nI (rm (thB (R 0) 12) (nB W9 (bdT (R 12) (nI 1)) (thB (R 0) 12) m9).2))), (0, .ref (ad 0)), (1, .int (nI n0)), (2, .int (nI (thB (R 0) 12))), (3, .int ((nB W9 (bdT (R 12) (nI 1)) (thB (R 0) 12) (m9)).1)), (4, .int (nI ((nB W9 (bdT (R 12) (nI 1)) (thB (R 0) 12) m9).2)))]) hx hb dX6_night_145 hl (by decide) rfl (fun ls hl => ?_)
                refine lv_aload_n hx hb dX6_night_147 rfl (lv_at hl 1 rfl) ?_
                refine va_get (D := G.1) (ci := 6) (v := .ref (ad 36)) (C := RX6) (T := TX6) (N := 36) hx hb hts inX6 hown hK.1 hP 0 rfl rfl 35 (by decide) fl100 (fun _ h9 => h9) rfl dX6_night_148 ?_
                refine lv_aload_n hx hb dX6_night_151 rfl (lv_at hl 1 rfl) ?_
                refine va_get (D := G.1) (ci := 6) (v := .int (nI 0)) (C := RX6) (T := TX6) (N := 36) hx hb hts inX6 hown hK.1 hP 0 rfl rfl 34 (by decide) fl209 (fun _ h9 => h9) rfl dX6_night_152 ?_
                refine lv_iload hx hb dX6_night_155 (lv_at hl 5 rfl) ?_
                refine x_iast hx hb hK.1 hP hD hS 27 0 (n := 12) (f := U 35) rfl rfl (k := 0) (by omega) (by omega) dX6_night_157 (MW G ad (va_up F1 34 (nI 0)) (va_up (va_up U 33 V) 35 (upd (U 35) 0 (nI ((nB W9 (bdT (R 12) (nI 1)) (thB (R 0) 12) m9).2))))) rfl (fun H locs hP hD hS => ?_)
                refine lv_aload_n hx hb dX6_night_158 rfl (lv_at hl 1 rfl) ?_
                refine lv_dup hx hb dX6_night_159 rfl ?_
                refine va_get (D := G.1) (ci := 6) (v := .int (nI 0)) (C := RX6) (T := TX6) (N := 36) hx hb hts inX6 hown hK.1 hP 0 rfl rfl 34 (by decide) fl209 (fun _ h9 => h9) rfl dX6_night_160 ?_
                refine lv_iconst (v := nI 1) hx hb dX6_night_163 (by decide) ?_
                refine x_iadd (r := 1) hx hb dX6_night_164 (by decide) ?_
                refine va_put (D := G.1) (ci := 6) (v := .int (nI 1)) (ty := .int) (C := RX6) (T := TX6) (N := 36) hx hb hts inX6 tyX6 tyX6_ok nmX6 hown hK.1 hP hD hS 0 rfl rfl 34 (by decide) fl209 (fun _ h9 => h9) rfl (by decide +kernel) rfl rfl (Nat.le_of_ble_eq_true rfl) dX6_night_165 (fun H locs hP hD hS => ?_)
                have hP : va_P G.1 vwCl (MW G ad (va_up F1 34 (nI 1)) (va_up (va_up U 33 V) 35 (upd (U 35) 0 (nI ((nB W9 (bdT (R 12) (nI 1)) (thB (R 0) 12) m9).2))))) H := hP
                have hD : va_D _ (MW G ad (va_up F1 34 (nI 1)) (va_up (va_up U 33 V) 35 (upd (U 35) 0 (nI ((nB W9 (bdT (R 12) (nI 1)) (thB (R 0) 12) m9).2))))) := hD
                have lp168 : ∀ (nn : Nat) (f : Nat) (Q : Nat → Int32), (nS Ef W9 (bdT (R 12) (nI 1)) (thB (R 0) 12) m9 f).1 < nn → (∀ i, i ≤ f → Q i = nI (nS Ef W9 (bdT (R 12) (nI 1)) (thB (R 0) 12) m9 i).2) → (∀ i, i < f → ¬ (nS Ef W9 (bdT (R 12) (nI 1)) (thB (R 0) 12) m9 i).1 = 0) → (W9 ((nS Ef W9 (bdT (R 12) (nI 1)) (thB (R 0) 12) m9 f).1) ((nS Ef W9 (bdT (R 12) (nI 1)) (thB (R 0) 12) m9 f).2) < nI 1000000000) → ((nS Ef W9 (bdT (R 12) (nI 1)) (thB (R 0) 12) m9 f).2 < 12) → (sub ((nS Ef W9 (bdT (R 12) (nI 1)) (thB (R 0) 12) m9 f).1) (thB (R 0) 12) = 0) → ((nS Ef W9 (bdT (R 12) (nI 1)) (thB (R 0) 12) m9 f).1 ≤ (thB (R 0) 12)) → (f + 1 + cntB ((nS Ef W9 (bdT (R 12) (nI 1)) (thB (R 0) 12) m9 f).1) 12 ≤ 12) → ∀ (H : Heap) (locs : List Loc), va_P G.1 vwCl (MW G ad (va_up F1 34 (nI (f + 1))) (va_up (va_up U 33 V) 35 Q)) H → va_D (va_A (MW G ad F R) s.heap.size) (MW G ad (va_up F1 34 (nI (f + 1))) (va_up (va_up U 33 V) 35 Q)) → va_S (va_A (MW G ad F R) s.heap.size) s.heap H locs → ∀ ls : Array Slot, lv_has ls 9 [(0, .ref (ad 0)), (1, .int (nI n0)), (2, .int (nI (thB (R 0) 12))), (3, .int ((nB W9 (bdT (R 12) (nI 1)) (thB (R 0) 12) m9).1)), (4, .int (nI ((nS Ef W9 (bdT (R 12) (nI 1)) (thB (R 0) 12) m9 f).2))), (5, .int (nI ((nS Ef W9 (bdT (R 12) (nI 1)) (thB (R 0) 12) m9 f).1)))] → mx_WE l wsX6_night 6 147 0 0 G p e s m (([.ref (ad 0), .int (nI n0)] : List Value).toArray) below meth c (MW G ad F R) (fun _ : (Nat → Int32) × (Nat → Nat → Int32) => some (.int (aNightR m9 F R so (nI n0)))) (nightPost m9 F R so (nI n0)) (fun u9 : (Nat → Int32) × (Nat → Nat → Int32) => MW G ad u9.1 u9.2) H locs 0 0 (F0 m 168 ls []) := by
                  intro nn
                  induction nn with
                  | zero => intro f Q hmu; exact absurd hmu (Nat.not_lt_zero _)
                  | succ nn ih168 =>
                    intro f Q hmu hQ hne hfar hat2 hsub hleA hcnt H locs hP hD hS ls hl
                    refine lv_iload hx hb dX6_night_168 (lv_at hl 5 rfl) ?_
                    refine x_if_eq (tgt := 333) hx hb (Nat.lt_of_le_of_lt hleA (by omega)) dX6_night_170 (by decide) (fun c_170 => ?_) (fun c_170 => ?_)
                    · refine lv_iload_n hx hb dX6_night_333 rfl (lv_at hl 3 rfl) ?_
                      refine x_top (y := aNightR m9 F R so (nI n0)) (by unfold aNightR aNight; rw [if_neg c_7, if_neg c_13, if_neg c_17, nI_clamp (by omega), ← hEf, ← hWf]; exact (if_pos hat).symm) ?_
                      exact W.iret (v := aNightR m9 F R so (nI n0)) hx hb hr (fun t9 ht9 hW9 => ⟨⟨(va_up F1 34 (nI (f + 1)), va_up (va_up U 33 V) 35 Q), rfl, ⟨fun i h1 h2 h3 => by simp only [va_up]; rw [if_neg h3]; exact hkF i h1 h2, fun i h1 h2 h3 => by simp only [va_up]; rw [if_neg (by omega), if_neg (by omega)]; exact hkU i h1 (by omega), fun _ => ⟨f + 1, rfl, by omega, by unfold isNightR; rw [nI_clamp (by omega), ← hEf, ← hWf]; exact ⟨by omega, c_170, fun i hi => hne i (by omega), fun i hi => hQ i (by omega)⟩⟩, fun q => absurd ⟨c_7, c_13, c_17, by rw [nI_clamp (by omega), ← hEf, ← hWf]; exact hat⟩ q⟩, by rw [ht9]; exact hP, hD⟩, hS.F ht9⟩) hS.2.2 dX6_night_334
                    · have hlt4 : (nS Ef W9 (bdT (R 12) (nI 1)) (thB (R 0) 12) m9 f).1 < 4096 := Nat.lt_of_le_of_lt hleA (by omega)
                      have hcp := cntB_pos hlt4 c_170
                      have hex := nx_ex (m := m9) hm9 (E := Ef) (W := W9) (bd := (bdT (R 12) (nI 0))) (z := (nS Ef W9 (bdT (R 12) (nI 1)) (thB (R 0) 12) m9 f).2) (fun _ _ => by rw [hWf]) hlt4 c_170 hfar
                      refine lv_iconst (v := (-1)) hx hb dX6_night_173 (by decide) ?_
                      refine x_top (y := nxV (nP Ef W9 ((nS Ef W9 (bdT (R 12) (nI 1)) (thB (R 0) 12) m9 f).1) ((nS Ef W9 (bdT (R 12) (nI 1)) (thB (R 0) 12) m9 f).2)) 0 0) (nxV_0) ?_
                      refine lv_istore (lv' := [(6, .int (nxV (nP Ef W9 ((nS Ef W9 (bdT (R 12) (nI 1)) (thB (R 0) 12) m9 f).1) ((nS Ef W9 (bdT (R 12) (nI 1)) (thB (R 0) 12) m9 f).2)) 0 0)), (0, .ref (ad 0)), (1, .int (nI n0)), (2, .int (nI (thB (R 0) 12))), (3, .int ((nB W9 (bdT (R 12) (nI 1)) (thB (R 0) 12) m9).1)), (4, .int (nI ((nS Ef W9 (bdT (R 12) (nI 1)) (thB (R 0) 12) m9 f).2))), (5, .int (nI ((nS Ef W9 (bdT (R 12) (nI 1)) (thB (R 0) 12) m9 f).1)))]) hx hb dX6_night_174 hl (by decide) rfl (fun ls hl => ?_)
                      refine lv_iconst (v := nI 0) hx hb dX6_night_176 (by decide) ?_
                      refine lv_istore (lv' := [(7, .int (nI 0)), (6, .int (nxV (nP Ef W9 ((nS Ef W9 (bdT (R 12) (nI 1)) (thB (R 0) 12) m9 f).1) ((nS Ef W9 (bdT (R 12) (nI 1)) (thB (R 0) 12) m9 f).2)) 0 0)), (0, .ref (ad 0)), (1, .int (nI n0)), (2, .int (nI (thB (R 0) 12))), (3, .int ((nB W9 (bdT (R 12) (nI 1)) (thB (R 0) 12) m9).1)), (4, .int (nI ((nS Ef W9 (bdT (R 12) (nI 1)) (thB (R 0) 12) m9 f).2))), (5, .int (nI ((nS Ef W9 (bdT (R 12) (nI 1)) (thB (R 0) 12) m9 f).1)))]) hx hb dX6_night_177 hl (by decide) rfl (fun ls hl => ?_)
                      have lp179 : ∀ (nn : Nat) (d : Nat), 12 - d < nn → (d ≤ 12) → ∀ (H : Heap) (locs : List Loc), va_P G.1 vwCl (MW G ad (va_up F1 34 (nI (f + 1))) (va_up (va_up U 33 V) 35 Q)) H → va_D (va_A (MW G ad F R) s.heap.size) (MW G ad (va_up F1 34 (nI (f + 1))) (va_up (va_up U 33 V) 35 Q)) → va_S (va_A (MW G ad F R) s.heap.size) s.heap H locs → ∀ ls : Array Slot, lv_has ls 9 [(0, .ref (ad 0)), (1, .int (nI n0)), (2, .int (nI (thB (R 0) 12))), (3, .int ((nB W9 (bdT (R 12) (nI 1)) (thB (R 0) 12) m9).1)), (4, .int (nI ((nS Ef W9 (bdT (R 12) (nI 1)) (thB (R 0) 12) m9 f).2))), (5, .int (nI ((nS Ef W9 (bdT (R 12) (nI 1)) (thB (R 0) 12) m9 f).1))), (6, .int (nxV (nP Ef W9 ((nS Ef W9 (bdT (R 12) (nI 1)) (thB (R 0) 12) m9 f).1) ((nS Ef W9 (bdT (R 12) (nI 1)) (thB (R 0) 12) m9 f).2)) 0 d)), (7, .int (nI d))] → mx_WE l wsX6_night 6 147 0 0 G p e s m (([.ref (ad 0), .int (nI n0)] : List Value).toArray) below meth c (MW G ad F R) (fun _ : (Nat → Int32) × (Nat → Nat → Int32) => some (.int (aNightR m9 F R so (nI n0)))) (nightPost m9 F R so (nI n0)) (fun u9 : (Nat → Int32) × (Nat → Nat → Int32) => MW G ad u9.1 u9.2) H locs 0 0 (F0 m 179 ls []) := by
                        intro nn
                        induction nn with
                        | zero => intro d hmu; exact absurd hmu (Nat.not_lt_zero _)
                        | succ nn ih179 =>
                          intro d hmu hd H locs hP hD hS ls hl
                          refine lv_iload hx hb dX6_night_179 (lv_at hl 7 rfl) ?_
                          refine lv_bipush (v := nI 12) hx hb dX6_night_181 (by decide) ?_
                          refine x_icmp_ge (tgt := 294) hx hb (by omega) (by omega) dX6_night_183 (by decide) (fun c_183 => ?_) (fun c_183 => ?_)
                          · have hnd := nxN_done (P := (nP Ef W9 ((nS Ef W9 (bdT (R 12) (nI 1)) (thB (R 0) 12) m9 f).1) ((nS Ef W9 (bdT (R 12) (nI 1)) (thB (R 0) 12) m9 f).2))) (d := d) hm9 (by omega) hex (Or.inl (by omega))
                            have hk12 : nxS (nP Ef W9 ((nS Ef W9 (bdT (R 12) (nI 1)) (thB (R 0) 12) m9 f).1) ((nS Ef W9 (bdT (R 12) (nI 1)) (thB (R 0) 12) m9 f).2)) 0 m9 < 12 := by obtain ⟨k9, q1, q2⟩ := hex; exact Nat.lt_of_lt_of_le (Nat.lt_of_le_of_lt (nxS_first (Nat.zero_le k9) q2 m9 (by omega)) q1) (by omega)
                            have hsp := nxS_spec (P := (nP Ef W9 ((nS Ef W9 (bdT (R 12) (nI 1)) (thB (R 0) 12) m9 f).1) ((nS Ef W9 (bdT (R 12) (nI 1)) (thB (R 0) 12) m9 f).2))) (lo := 0) m9 (by omega)
                            have hrm2 := rm_lt (k := nxS (nP Ef W9 ((nS Ef W9 (bdT (R 12) (nI 1)) (thB (R 0) 12) m9 f).1) ((nS Ef W9 (bdT (R 12) (nI 1)) (thB (R 0) 12) m9 f).2)) 0 m9) hlt4 hsp.1
                            have hsr2 := sub_rm (k := nxS (nP Ef W9 ((nS Ef W9 (bdT (R 12) (nI 1)) (thB (R 0) 12) m9 f).1) ((nS Ef W9 (bdT (R 12) (nI 1)) (thB (R 0) 12) m9 f).2)) 0 m9) hlt4 hsub
                            have hcn2 := cntB_rm hlt4 hsp.1 12
                            rw [if_pos hk12] at hcn2
                            have hns : nS Ef W9 (bdT (R 12) (nI 1)) (thB (R 0) 12) m9 (f + 1) = (rm ((nS Ef W9 (bdT (R 12) (nI 1)) (thB (R 0) 12) m9 f).1) (nxS (nP Ef W9 ((nS Ef W9 (bdT (R 12) (nI 1)) (thB (R 0) 12) m9 f).1) ((nS Ef W9 (bdT (R 12) (nI 1)) (thB (R 0) 12) m9 f).2)) 0 m9), nxS (nP Ef W9 ((nS Ef W9 (bdT (R 12) (nI 1)) (thB (R 0) 12) m9 f).1) ((nS Ef W9 (bdT (R 12) (nI 1)) (thB (R 0) 12) m9 f).2)) 0 m9) := rfl
                            have hl : lv_has ls 9 [(0, .ref (ad 0)), (1, .int (nI n0)), (2, .int (nI (thB (R 0) 12))), (3, .int ((nB W9 (bdT (R 12) (nI 1)) (thB (R 0) 12) m9).1)), (4, .int (nI ((nS Ef W9 (bdT (R 12) (nI 1)) (thB (R 0) 12) m9 f).2))), (5, .int (nI ((nS Ef W9 (bdT (R 12) (nI 1)) (thB (R 0) 12) m9 f).1))), (6, .int (nI (nxS (nP Ef W9 ((nS Ef W9 (bdT (R 12) (nI 1)) (thB (R 0) 12) m9 f).1) ((nS Ef W9 (bdT (R 12) (nI 1)) (thB (R 0) 12) m9 f).2)) 0 m9))), (7, .int (nI d))] := Eq.mp (congrArg (fun z9 : Int32 => lv_has ls 9 [(0, .ref (ad 0)), (1, .int (nI n0)), (2, .int (nI (thB (R 0) 12))), (3, .int ((nB W9 (bdT (R 12) (nI 1)) (thB (R 0) 12) m9).1)), (4, .int (nI ((nS Ef W9 (bdT (R 12) (nI 1)) (thB (R 0) 12) m9 f).2))), (5, .int (nI ((nS Ef W9 (bdT (R 12) (nI 1)) (thB (R 0) 12) m9 f).1))), (6, .int z9), (7, .int (nI d))]) (show nxV (nP Ef W9 ((nS Ef W9 (bdT (R 12) (nI 1)) (thB (R 0) 12) m9 f).1) ((nS Ef W9 (bdT (R 12) (nI 1)) (thB (R 0) 12) m9 f).2)) 0 d = nI (nxS (nP Ef W9 ((nS Ef W9 (bdT (R 12) (nI 1)) (thB (R 0) 12) m9 f).1) ((nS Ef W9 (bdT (R 12) (nI 1)) (thB (R 0) 12) m9 f).2)) 0 m9) from hnd)) hl
                            refine lv_iload hx hb dX6_night_294 (lv_at hl 6 rfl) ?_
                            refine lv_istore (lv' := [(4, .int (nI (nxS (nP Ef W9 ((nS Ef W9 (bdT (R 12) (nI 1)) (thB (R 0) 12) m9 f).1) ((nS Ef W9 (bdT (R 12) (nI 1)) (thB (R 0) 12) m9 f).2)) 0 m9))), (0, .ref (ad 0)), (1, .int (nI n0)), (2, .int (nI (thB (R 0) 12))), (3, .int ((nB W9 (bdT (R 12) (nI 1)) (thB (R 0) 12) m9).1)), (5, .int (nI ((nS Ef W9 (bdT (R 12) (nI 1)) (thB (R 0) 12) m9 f).1))), (6, .int (nI (nxS (nP Ef W9 ((nS Ef W9 (bdT (R 12) (nI 1)) (thB (R 0) 12) m9 f).1) ((nS Ef W9 (bdT (R 12) (nI 1)) (thB (R 0) 12) m9 f).2)) 0 m9))), (7, .int (nI d))]) hx hb dX6_night_296 hl (by decide) rfl (fun ls hl => ?_)
                            refine lv_iload hx hb dX6_night_298 (lv_at hl 5 rfl) ?_
                            refine lv_iconst (v := nI 1) hx hb dX6_night_300 (by decide) ?_
                            refine lv_iload hx hb dX6_night_301 (lv_at hl 0 rfl) ?_
                            refine lv_ishl hx hb dX6_night_303 ?_
                            refine x_top (y := nI (2 ^ (nxS (nP Ef W9 ((nS Ef W9 (bdT (R 12) (nI 1)) (thB (R 0) 12) m9 f).1) ((nS Ef W9 (bdT (R 12) (nI 1)) (thB (R 0) 12) m9 f).2)) 0 m9))) (zz_pow (by omega)) ?_
                            refine lv_iconst (v := (-1)) hx hb dX6_night_304 (by decide) ?_
                            refine lv_ixor hx hb dX6_night_305 ?_
                            refine lv_iand hx hb dX6_night_306 ?_
                            refine x_top (y := nI (rm ((nS Ef W9 (bdT (R 12) (nI 1)) (thB (R 0) 12) m9 f).1) (nxS (nP Ef W9 ((nS Ef W9 (bdT (R 12) (nI 1)) (thB (R 0) 12) m9 f).1) ((nS Ef W9 (bdT (R 12) (nI 1)) (thB (R 0) 12) m9 f).2)) 0 m9))) (zz_clr hlt4) ?_
                            refine lv_istore (lv' := [(5, .int (nI (rm ((nS Ef W9 (bdT (R 12) (nI 1)) (thB (R 0) 12) m9 f).1) (nxS (nP Ef W9 ((nS Ef W9 (bdT (R 12) (nI 1)) (thB (R 0) 12) m9 f).1) ((nS Ef W9 (bdT (R 12) (nI 1)) (thB (R 0) 12) m9 f).2)) 0 m9)))), (4, .int (nI (nxS (nP Ef W9 ((nS Ef W9 (bdT (R 12) (nI 1)) (thB (R 0) 12) m9 f).1) ((nS Ef W9 (bdT (R 12) (nI 1)) (thB (R 0) 12) m9 f).2)) 0 m9))), (0, .ref (ad 0)), (1, .int (nI n0)), (2, .int (nI (thB (R 0) 12))), (3, .int ((nB W9 (bdT (R 12) (nI 1)) (thB (R 0) 12) m9).1)), (6, .int (nI (nxS (nP Ef W9 ((nS Ef W9 (bdT (R 12) (nI 1)) (thB (R 0) 12) m9 f).1) ((nS Ef W9 (bdT (R 12) (nI 1)) (thB (R 0) 12) m9 f).2)) 0 m9))), (7, .int (nI d))]) hx hb dX6_night_307 hl (by decide) rfl (fun ls hl => ?_)
                            refine lv_aload_n hx hb dX6_night_309 rfl (lv_at hl 2 rfl) ?_
                            refine va_get (D := G.1) (ci := 6) (v := .ref (ad 36)) (C := RX6) (T := TX6) (N := 36) hx hb hts inX6 hown hK.1 hP 0 rfl rfl 35 (by decide) fl100 (fun _ h9 => h9) rfl dX6_night_310 ?_
                            refine lv_aload_n hx hb dX6_night_313 rfl (lv_at hl 2 rfl) ?_
                            refine va_get (D := G.1) (ci := 6) (v := .int (nI (f + 1))) (C := RX6) (T := TX6) (N := 36) hx hb hts inX6 hown hK.1 hP 0 rfl rfl 34 (by decide) fl209 (fun _ h9 => h9) rfl dX6_night_314 ?_
                            refine lv_iload hx hb dX6_night_317 (lv_at hl 1 rfl) ?_
                            refine x_iast hx hb hK.1 hP hD hS 27 0 (n := 12) (f := Q) rfl rfl (k := f + 1) (by omega) (by omega) dX6_night_319 (MW G ad (va_up F1 34 (nI (f + 1))) (va_up (va_up U 33 V) 35 (upd Q (f + 1) (nI (nxS (nP Ef W9 ((nS Ef W9 (bdT (R 12) (nI 1)) (thB (R 0) 12) m9 f).1) ((nS Ef W9 (bdT (R 12) (nI 1)) (thB (R 0) 12) m9 f).2)) 0 m9))))) rfl (fun H locs hP hD hS => ?_)
                            refine lv_aload_n hx hb dX6_night_320 rfl (lv_at hl 2 rfl) ?_
                            refine lv_dup hx hb dX6_night_321 rfl ?_
                            refine va_get (D := G.1) (ci := 6) (v := .int (nI (f + 1))) (C := RX6) (T := TX6) (N := 36) hx hb hts inX6 hown hK.1 hP 0 rfl rfl 34 (by decide) fl209 (fun _ h9 => h9) rfl dX6_night_322 ?_
                            refine lv_iconst (v := nI 1) hx hb dX6_night_325 (by decide) ?_
                            refine x_iadd (r := f + 1 + 1) hx hb dX6_night_326 (rfl) ?_
                            refine va_put (D := G.1) (ci := 6) (v := .int (nI (f + 1 + 1))) (ty := .int) (C := RX6) (T := TX6) (N := 36) hx hb hts inX6 tyX6 tyX6_ok nmX6 hown hK.1 hP hD hS 0 rfl rfl 34 (by decide) fl209 (fun _ h9 => h9) rfl (by decide +kernel) rfl rfl (Nat.le_of_ble_eq_true rfl) dX6_night_327 (fun H locs hP hD hS => ?_)
                            have hP : va_P G.1 vwCl (MW G ad (va_up F1 34 (nI (f + 1 + 1))) (va_up (va_up U 33 V) 35 (upd Q (f + 1) (nI (nxS (nP Ef W9 ((nS Ef W9 (bdT (R 12) (nI 1)) (thB (R 0) 12) m9 f).1) ((nS Ef W9 (bdT (R 12) (nI 1)) (thB (R 0) 12) m9 f).2)) 0 m9))))) H := hP
                            have hD : va_D _ (MW G ad (va_up F1 34 (nI (f + 1 + 1))) (va_up (va_up U 33 V) 35 (upd Q (f + 1) (nI (nxS (nP Ef W9 ((nS Ef W9 (bdT (R 12) (nI 1)) (thB (R 0) 12) m9 f).1) ((nS Ef W9 (bdT (R 12) (nI 1)) (thB (R 0) 12) m9 f).2)) 0 m9))))) := hD
                            have hl : lv_has ls 9 [(5, .int (nI (rm ((nS Ef W9 (bdT (R 12) (nI 1)) (thB (R 0) 12) m9 f).1) (nxS (nP Ef W9 ((nS Ef W9 (bdT (R 12) (nI 1)) (thB (R 0) 12) m9 f).1) ((nS Ef W9 (bdT (R 12) (nI 1)) (thB (R 0) 12) m9 f).2)) 0 m9)))), (4, .int (nI ((nS Ef W9 (bdT (R 12) (nI 1)) (thB (R 0) 12) m9 (f + 1)).2))), (0, .ref (ad 0)), (1, .int (nI n0)), (2, .int (nI (thB (R 0) 12))), (3, .int ((nB W9 (bdT (R 12) (nI 1)) (thB (R 0) 12) m9).1)), (6, .int (nI (nxS (nP Ef W9 ((nS Ef W9 (bdT (R 12) (nI 1)) (thB (R 0) 12) m9 f).1) ((nS Ef W9 (bdT (R 12) (nI 1)) (thB (R 0) 12) m9 f).2)) 0 m9))), (7, .int (nI d))] := Eq.mp (congrArg (fun z9 : Int32 => lv_has ls 9 [(5, .int (nI (rm ((nS Ef W9 (bdT (R 12) (nI 1)) (thB (R 0) 12) m9 f).1) (nxS (nP Ef W9 ((nS Ef W9 (bdT (R 12) (nI 1)) (thB (R 0) 12) m9 f).1) ((nS Ef W9 (bdT (R 12) (nI 1)) (thB (R 0) 12) m9 f).2)) 0 m9)))), (4, .int z9), (0, .ref (ad 0)), (1, .int (nI n0)), (2, .int (nI (thB (R 0) 12))), (3, .int ((nB W9 (bdT (R 12) (nI 1)) (thB (R 0) 12) m9).1)), (6, .int (nI (nxS (nP Ef W9 ((nS Ef W9 (bdT (R 12) (nI 1)) (thB (R 0) 12) m9 f).1) ((nS Ef W9 (bdT (R 12) (nI 1)) (thB (R 0) 12) m9 f).2)) 0 m9))), (7, .int (nI d))]) (show nI (nxS (nP Ef W9 ((nS Ef W9 (bdT (R 12) (nI 1)) (thB (R 0) 12) m9 f).1) ((nS Ef W9 (bdT (R 12) (nI 1)) (thB (R 0) 12) m9 f).2)) 0 m9) = nI ((nS Ef W9 (bdT (R 12) (nI 1)) (thB (R 0) 12) m9 (f + 1)).2) from by rw [hns])) hl
                            have hl : lv_has ls 9 [(5, .int (nI ((nS Ef W9 (bdT (R 12) (nI 1)) (thB (R 0) 12) m9 (f + 1)).1))), (4, .int (nI ((nS Ef W9 (bdT (R 12) (nI 1)) (thB (R 0) 12) m9 (f + 1)).2))), (0, .ref (ad 0)), (1, .int (nI n0)), (2, .int (nI (thB (R 0) 12))), (3, .int ((nB W9 (bdT (R 12) (nI 1)) (thB (R 0) 12) m9).1)), (6, .int (nI (nxS (nP Ef W9 ((nS Ef W9 (bdT (R 12) (nI 1)) (thB (R 0) 12) m9 f).1) ((nS Ef W9 (bdT (R 12) (nI 1)) (thB (R 0) 12) m9 f).2)) 0 m9))), (7, .int (nI d))] := Eq.mp (congrArg (fun z9 : Int32 => lv_has ls 9 [(5, .int z9), (4, .int (nI ((nS Ef W9 (bdT (R 12) (nI 1)) (thB (R 0) 12) m9 (f + 1)).2))), (0, .ref (ad 0)), (1, .int (nI n0)), (2, .int (nI (thB (R 0) 12))), (3, .int ((nB W9 (bdT (R 12) (nI 1)) (thB (R 0) 12) m9).1)), (6, .int (nI (nxS (nP Ef W9 ((nS Ef W9 (bdT (R 12) (nI 1)) (thB (R 0) 12) m9 f).1) ((nS Ef W9 (bdT (R 12) (nI 1)) (thB (R 0) 12) m9 f).2)) 0 m9))), (7, .int (nI d))]) (show nI (rm ((nS Ef W9 (bdT (R 12) (nI 1)) (thB (R 0) 12) m9 f).1) (nxS (nP Ef W9 ((nS Ef W9 (bdT (R 12) (nI 1)) (thB (R 0) 12) m9 f).1) ((nS Ef W9 (bdT (R 12) (nI 1)) (thB (R 0) 12) m9 f).2)) 0 m9)) = nI ((nS Ef W9 (bdT (R 12) (nI 1)) (thB (R 0) 12) m9 (f + 1)).1) from by rw [hns])) hl
                            refine lv_goto (tgt := 168) hx hb dX6_night_330 (by decide) ?_
                            exact ih168 (f + 1) (upd Q (f + 1) (nI (nxS (nP Ef W9 ((nS Ef W9 (bdT (R 12) (nI 1)) (thB (R 0) 12) m9 f).1) ((nS Ef W9 (bdT (R 12) (nI 1)) (thB (R 0) 12) m9 f).2)) 0 m9))) (by rw [hns]; show rm ((nS Ef W9 (bdT (R 12) (nI 1)) (thB (R 0) 12) m9 f).1) (nxS (nP Ef W9 ((nS Ef W9 (bdT (R 12) (nI 1)) (thB (R 0) 12) m9 f).1) ((nS Ef W9 (bdT (R 12) (nI 1)) (thB (R 0) 12) m9 f).2)) 0 m9) < _; omega) (night_s hQ (by rw [hns])) (lt_s hne c_170) (by rw [hns]; exact hsp.2.2.1) (by rw [hns]; exact hk12) (by rw [hns]; exact hsr2) (by rw [hns]; exact Nat.le_trans (Nat.le_of_lt hrm2) hleA) (by rw [hns]; show f + 1 + 1 + cntB (rm ((nS Ef W9 (bdT (R 12) (nI 1)) (thB (R 0) 12) m9 f).1) (nxS (nP Ef W9 ((nS Ef W9 (bdT (R 12) (nI 1)) (thB (R 0) 12) m9 f).1) ((nS Ef W9 (bdT (R 12) (nI 1)) (thB (R 0) 12) m9 f).2)) 0 m9)) 12 ≤ 12; omega) _ _ hP hD hS _ (lv_sub hl [2, 3, 4, 5, 1, 0] rfl)
                          · refine lv_iload hx hb dX6_night_186 (lv_at hl 6 rfl) ?_
                            refine lv_iconst (v := (-1)) hx hb dX6_night_188 (by decide) ?_
                            refine lv_icmp_ne (tgt := 294) hx hb dX6_night_189 (by decide) (fun c_189 => ?_) (fun c_189 => ?_)
                            · have hnd := nxN_done (P := (nP Ef W9 ((nS Ef W9 (bdT (R 12) (nI 1)) (thB (R 0) 12) m9 f).1) ((nS Ef W9 (bdT (R 12) (nI 1)) (thB (R 0) 12) m9 f).2))) (d := d) hm9 (by omega) hex (Or.inr c_189)
                              have hk12 : nxS (nP Ef W9 ((nS Ef W9 (bdT (R 12) (nI 1)) (thB (R 0) 12) m9 f).1) ((nS Ef W9 (bdT (R 12) (nI 1)) (thB (R 0) 12) m9 f).2)) 0 m9 < 12 := by obtain ⟨k9, q1, q2⟩ := hex; exact Nat.lt_of_lt_of_le (Nat.lt_of_le_of_lt (nxS_first (Nat.zero_le k9) q2 m9 (by omega)) q1) (by omega)
                              have hsp := nxS_spec (P := (nP Ef W9 ((nS Ef W9 (bdT (R 12) (nI 1)) (thB (R 0) 12) m9 f).1) ((nS Ef W9 (bdT (R 12) (nI 1)) (thB (R 0) 12) m9 f).2))) (lo := 0) m9 (by omega)
                              have hrm2 := rm_lt (k := nxS (nP Ef W9 ((nS Ef W9 (bdT (R 12) (nI 1)) (thB (R 0) 12) m9 f).1) ((nS Ef W9 (bdT (R 12) (nI 1)) (thB (R 0) 12) m9 f).2)) 0 m9) hlt4 hsp.1
                              have hsr2 := sub_rm (k := nxS (nP Ef W9 ((nS Ef W9 (bdT (R 12) (nI 1)) (thB (R 0) 12) m9 f).1) ((nS Ef W9 (bdT (R 12) (nI 1)) (thB (R 0) 12) m9 f).2)) 0 m9) hlt4 hsub
                              have hcn2 := cntB_rm hlt4 hsp.1 12
                              rw [if_pos hk12] at hcn2
                              have hns : nS Ef W9 (bdT (R 12) (nI 1)) (thB (R 0) 12) m9 (f + 1) = (rm ((nS Ef W9 (bdT (R 12) (nI 1)) (thB (R 0) 12) m9 f).1) (nxS (nP Ef W9 ((nS Ef W9 (bdT (R 12) (nI 1)) (thB (R 0) 12) m9 f).1) ((nS Ef W9 (bdT (R 12) (nI 1)) (thB (R 0) 12) m9 f).2)) 0 m9), nxS (nP Ef W9 ((nS Ef W9 (bdT (R 12) (nI 1)) (thB (R 0) 12) m9 f).1) ((nS Ef W9 (bdT (R 12) (nI 1)) (thB (R 0) 12) m9 f).2)) 0 m9) := rfl
                              have hl : lv_has ls 9 [(0, .ref (ad 0)), (1, .int (nI n0)), (2, .int (nI (thB (R 0) 12))), (3, .int ((nB W9 (bdT (R 12) (nI 1)) (thB (R 0) 12) m9).1)), (4, .int (nI ((nS Ef W9 (bdT (R 12) (nI 1)) (thB (R 0) 12) m9 f).2))), (5, .int (nI ((nS Ef W9 (bdT (R 12) (nI 1)) (thB (R 0) 12) m9 f).1))), (6, .int (nI (nxS (nP Ef W9 ((nS Ef W9 (bdT (R 12) (nI 1)) (thB (R 0) 12) m9 f).1) ((nS Ef W9 (bdT (R 12) (nI 1)) (thB (R 0) 12) m9 f).2)) 0 m9))), (7, .int (nI d))] := Eq.mp (congrArg (fun z9 : Int32 => lv_has ls 9 [(0, .ref (ad 0)), (1, .int (nI n0)), (2, .int (nI (thB (R 0) 12))), (3, .int ((nB W9 (bdT (R 12) (nI 1)) (thB (R 0) 12) m9).1)), (4, .int (nI ((nS Ef W9 (bdT (R 12) (nI 1)) (thB (R 0) 12) m9 f).2))), (5, .int (nI ((nS Ef W9 (bdT (R 12) (nI 1)) (thB (R 0) 12) m9 f).1))), (6, .int z9), (7, .int (nI d))]) (show nxV (nP Ef W9 ((nS Ef W9 (bdT (R 12) (nI 1)) (thB (R 0) 12) m9 f).1) ((nS Ef W9 (bdT (R 12) (nI 1)) (thB (R 0) 12) m9 f).2)) 0 d = nI (nxS (nP Ef W9 ((nS Ef W9 (bdT (R 12) (nI 1)) (thB (R 0) 12) m9 f).1) ((nS Ef W9 (bdT (R 12) (nI 1)) (thB (R 0) 12) m9 f).2)) 0 m9) from hnd)) hl
                              refine lv_iload hx hb dX6_night_294 (lv_at hl 6 rfl) ?_
                              refine lv_istore (lv' := [(4, .int (nI (nxS (nP Ef W9 ((nS Ef W9 (bdT (R 12) (nI 1)) (thB (R 0) 12) m9 f).1) ((nS Ef W9 (bdT (R 12) (nI 1)) (thB (R 0) 12) m9 f).2)) 0 m9))), (0, .ref (ad 0)), (1, .int (nI n0)), (2, .int (nI (thB (R 0) 12))), (3, .int ((nB W9 (bdT (R 12) (nI 1)) (thB (R 0) 12) m9).1)), (5, .int (nI ((nS Ef W9 (bdT (R 12) (nI 1)) (thB (R 0) 12) m9 f).1))), (6, .int (nI (nxS (nP Ef W9 ((nS Ef W9 (bdT (R 12) (nI 1)) (thB (R 0) 12) m9 f).1) ((nS Ef W9 (bdT (R 12) (nI 1)) (thB (R 0) 12) m9 f).2)) 0 m9))), (7, .int (nI d))]) hx hb dX6_night_296 hl (by decide) rfl (fun ls hl => ?_)
                              refine lv_iload hx hb dX6_night_298 (lv_at hl 5 rfl) ?_
                              refine lv_iconst (v := nI 1) hx hb dX6_night_300 (by decide) ?_
                              refine lv_iload hx hb dX6_night_301 (lv_at hl 0 rfl) ?_
                              refine lv_ishl hx hb dX6_night_303 ?_
                              refine x_top (y := nI (2 ^ (nxS (nP Ef W9 ((nS Ef W9 (bdT (R 12) (nI 1)) (thB (R 0) 12) m9 f).1) ((nS Ef W9 (bdT (R 12) (nI 1)) (thB (R 0) 12) m9 f).2)) 0 m9))) (zz_pow (by omega)) ?_
                              refine lv_iconst (v := (-1)) hx hb dX6_night_304 (by decide) ?_
                              refine lv_ixor hx hb dX6_night_305 ?_
                              refine lv_iand hx hb dX6_night_306 ?_
                              refine x_top (y := nI (rm ((nS Ef W9 (bdT (R 12) (nI 1)) (thB (R 0) 12) m9 f).1) (nxS (nP Ef W9 ((nS Ef W9 (bdT (R 12) (nI 1)) (thB (R 0) 12) m9 f).1) ((nS Ef W9 (bdT (R 12) (nI 1)) (thB (R 0) 12) m9 f).2)) 0 m9))) (zz_clr hlt4) ?_
                              refine lv_istore (lv' := [(5, .int (nI (rm ((nS Ef W9 (bdT (R 12) (nI 1)) (thB (R 0) 12) m9 f).1) (nxS (nP Ef W9 ((nS Ef W9 (bdT (R 12) (nI 1)) (thB (R 0) 12) m9 f).1) ((nS Ef W9 (bdT (R 12) (nI 1)) (thB (R 0) 12) m9 f).2)) 0 m9)))), (4, .int (nI (nxS (nP Ef W9 ((nS Ef W9 (bdT (R 12) (nI 1)) (thB (R 0) 12) m9 f).1) ((nS Ef W9 (bdT (R 12) (nI 1)) (thB (R 0) 12) m9 f).2)) 0 m9))), (0, .ref (ad 0)), (1, .int (nI n0)), (2, .int (nI (thB (R 0) 12))), (3, .int ((nB W9 (bdT (R 12) (nI 1)) (thB (R 0) 12) m9).1)), (6, .int (nI (nxS (nP Ef W9 ((nS Ef W9 (bdT (R 12) (nI 1)) (thB (R 0) 12) m9 f).1) ((nS Ef W9 (bdT (R 12) (nI 1)) (thB (R 0) 12) m9 f).2)) 0 m9))), (7, .int (nI d))]) hx hb dX6_night_307 hl (by decide) rfl (fun ls hl => ?_)
                              refine lv_aload_n hx hb dX6_night_309 rfl (lv_at hl 2 rfl) ?_
                              refine va_get (D := G.1) (ci := 6) (v := .ref (ad 36)) (C := RX6) (T := TX6) (N := 36) hx hb hts inX6 hown hK.1 hP 0 rfl rfl 35 (by decide) fl100 (fun _ h9 => h9) rfl dX6_night_310 ?_
                              refine lv_aload_n hx hb dX6_night_313 rfl (lv_at hl 2 rfl) ?_
                              refine va_get (D := G.1) (ci := 6) (v := .int (nI (f + 1))) (C := RX6) (T := TX6) (N := 36) hx hb hts inX6 hown hK.1 hP 0 rfl rfl 34 (by decide) fl209 (fun _ h9 => h9) rfl dX6_night_314 ?_
                              refine lv_iload hx hb dX6_night_317 (lv_at hl 1 rfl) ?_
                              refine x_iast hx hb hK.1 hP hD hS 27 0 (n := 12) (f := Q) rfl rfl (k := f + 1) (by omega) (by omega) dX6_night_319 (MW G ad (va_up F1 34 (nI (f + 1))) (va_up (va_up U 33 V) 35 (upd Q (f + 1) (nI (nxS (nP Ef W9 ((nS Ef W9 (bdT (R 12) (nI 1)) (thB (R 0) 12) m9 f).1) ((nS Ef W9 (bdT (R 12) (nI 1)) (thB (R 0) 12) m9 f).2)) 0 m9))))) rfl (fun H locs hP hD hS => ?_)
                              refine lv_aload_n hx hb dX6_night_320 rfl (lv_at hl 2 rfl) ?_
                              refine lv_dup hx hb dX6_night_321 rfl ?_
                              refine va_get (D := G.1) (ci := 6) (v := .int (nI (f + 1))) (C := RX6) (T := TX6) (N := 36) hx hb hts inX6 hown hK.1 hP 0 rfl rfl 34 (by decide) fl209 (fun _ h9 => h9) rfl dX6_night_322 ?_
                              refine lv_iconst (v := nI 1) hx hb dX6_night_325 (by decide) ?_
                              refine x_iadd (r := f + 1 + 1) hx hb dX6_night_326 (rfl) ?_
                              refine va_put (D := G.1) (ci := 6) (v := .int (nI (f + 1 + 1))) (ty := .int) (C := RX6) (T := TX6) (N := 36) hx hb hts inX6 tyX6 tyX6_ok nmX6 hown hK.1 hP hD hS 0 rfl rfl 34 (by decide) fl209 (fun _ h9 => h9) rfl (by decide +kernel) rfl rfl (Nat.le_of_ble_eq_true rfl) dX6_night_327 (fun H locs hP hD hS => ?_)
                              have hP : va_P G.1 vwCl (MW G ad (va_up F1 34 (nI (f + 1 + 1))) (va_up (va_up U 33 V) 35 (upd Q (f + 1) (nI (nxS (nP Ef W9 ((nS Ef W9 (bdT (R 12) (nI 1)) (thB (R 0) 12) m9 f).1) ((nS Ef W9 (bdT (R 12) (nI 1)) (thB (R 0) 12) m9 f).2)) 0 m9))))) H := hP
                              have hD : va_D _ (MW G ad (va_up F1 34 (nI (f + 1 + 1))) (va_up (va_up U 33 V) 35 (upd Q (f + 1) (nI (nxS (nP Ef W9 ((nS Ef W9 (bdT (R 12) (nI 1)) (thB (R 0) 12) m9 f).1) ((nS Ef W9 (bdT (R 12) (nI 1)) (thB (R 0) 12) m9 f).2)) 0 m9))))) := hD
                              have hl : lv_has ls 9 [(5, .int (nI (rm ((nS Ef W9 (bdT (R 12) (nI 1)) (thB (R 0) 12) m9 f).1) (nxS (nP Ef W9 ((nS Ef W9 (bdT (R 12) (nI 1)) (thB (R 0) 12) m9 f).1) ((nS Ef W9 (bdT (R 12) (nI 1)) (thB (R 0) 12) m9 f).2)) 0 m9)))), (4, .int (nI ((nS Ef W9 (bdT (R 12) (nI 1)) (thB (R 0) 12) m9 (f + 1)).2))), (0, .ref (ad 0)), (1, .int (nI n0)), (2, .int (nI (thB (R 0) 12))), (3, .int ((nB W9 (bdT (R 12) (nI 1)) (thB (R 0) 12) m9).1)), (6, .int (nI (nxS (nP Ef W9 ((nS Ef W9 (bdT (R 12) (nI 1)) (thB (R 0) 12) m9 f).1) ((nS Ef W9 (bdT (R 12) (nI 1)) (thB (R 0) 12) m9 f).2)) 0 m9))), (7, .int (nI d))] := Eq.mp (congrArg (fun z9 : Int32 => lv_has ls 9 [(5, .int (nI (rm ((nS Ef W9 (bdT (R 12) (nI 1)) (thB (R 0) 12) m9 f).1) (nxS (nP Ef W9 ((nS Ef W9 (bdT (R 12) (nI 1)) (thB (R 0) 12) m9 f).1) ((nS Ef W9 (bdT (R 12) (nI 1)) (thB (R 0) 12) m9 f).2)) 0 m9)))), (4, .int z9), (0, .ref (ad 0)), (1, .int (nI n0)), (2, .int (nI (thB (R 0) 12))), (3, .int ((nB W9 (bdT (R 12) (nI 1)) (thB (R 0) 12) m9).1)), (6, .int (nI (nxS (nP Ef W9 ((nS Ef W9 (bdT (R 12) (nI 1)) (thB (R 0) 12) m9 f).1) ((nS Ef W9 (bdT (R 12) (nI 1)) (thB (R 0) 12) m9 f).2)) 0 m9))), (7, .int (nI d))]) (show nI (nxS (nP Ef W9 ((nS Ef W9 (bdT (R 12) (nI 1)) (thB (R 0) 12) m9 f).1) ((nS Ef W9 (bdT (R 12) (nI 1)) (thB (R 0) 12) m9 f).2)) 0 m9) = nI ((nS Ef W9 (bdT (R 12) (nI 1)) (thB (R 0) 12) m9 (f + 1)).2) from by rw [hns])) hl
                              have hl : lv_has ls 9 [(5, .int (nI ((nS Ef W9 (bdT (R 12) (nI 1)) (thB (R 0) 12) m9 (f + 1)).1))), (4, .int (nI ((nS Ef W9 (bdT (R 12) (nI 1)) (thB (R 0) 12) m9 (f + 1)).2))), (0, .ref (ad 0)), (1, .int (nI n0)), (2, .int (nI (thB (R 0) 12))), (3, .int ((nB W9 (bdT (R 12) (nI 1)) (thB (R 0) 12) m9).1)), (6, .int (nI (nxS (nP Ef W9 ((nS Ef W9 (bdT (R 12) (nI 1)) (thB (R 0) 12) m9 f).1) ((nS Ef W9 (bdT (R 12) (nI 1)) (thB (R 0) 12) m9 f).2)) 0 m9))), (7, .int (nI d))] := Eq.mp (congrArg (fun z9 : Int32 => lv_has ls 9 [(5, .int z9), (4, .int (nI ((nS Ef W9 (bdT (R 12) (nI 1)) (thB (R 0) 12) m9 (f + 1)).2))), (0, .ref (ad 0)), (1, .int (nI n0)), (2, .int (nI (thB (R 0) 12))), (3, .int ((nB W9 (bdT (R 12) (nI 1)) (thB (R 0) 12) m9).1)), (6, .int (nI (nxS (nP Ef W9 ((nS Ef W9 (bdT (R 12) (nI 1)) (thB (R 0) 12) m9 f).1) ((nS Ef W9 (bdT (R 12) (nI 1)) (thB (R 0) 12) m9 f).2)) 0 m9))), (7, .int (nI d))]) (show nI (rm ((nS Ef W9 (bdT (R 12) (nI 1)) (thB (R 0) 12) m9 f).1) (nxS (nP Ef W9 ((nS Ef W9 (bdT (R 12) (nI 1)) (thB (R 0) 12) m9 f).1) ((nS Ef W9 (bdT (R 12) (nI 1)) (thB (R 0) 12) m9 f).2)) 0 m9)) = nI ((nS Ef W9 (bdT (R 12) (nI 1)) (thB (R 0) 12) m9 (f + 1)).1) from by rw [hns])) hl
                              refine lv_goto (tgt := 168) hx hb dX6_night_330 (by decide) ?_
                              exact ih168 (f + 1) (upd Q (f + 1) (nI (nxS (nP Ef W9 ((nS Ef W9 (bdT (R 12) (nI 1)) (thB (R 0) 12) m9 f).1) ((nS Ef W9 (bdT (R 12) (nI 1)) (thB (R 0) 12) m9 f).2)) 0 m9))) (by rw [hns]; show rm ((nS Ef W9 (bdT (R 12) (nI 1)) (thB (R 0) 12) m9 f).1) (nxS (nP Ef W9 ((nS Ef W9 (bdT (R 12) (nI 1)) (thB (R 0) 12) m9 f).1) ((nS Ef W9 (bdT (R 12) (nI 1)) (thB (R 0) 12) m9 f).2)) 0 m9) < _; omega) (night_s hQ (by rw [hns])) (lt_s hne c_170) (by rw [hns]; exact hsp.2.2.1) (by rw [hns]; exact hk12) (by rw [hns]; exact hsr2) (by rw [hns]; exact Nat.le_trans (Nat.le_of_lt hrm2) hleA) (by rw [hns]; show f + 1 + 1 + cntB (rm ((nS Ef W9 (bdT (R 12) (nI 1)) (thB (R 0) 12) m9 f).1) (nxS (nP Ef W9 ((nS Ef W9 (bdT (R 12) (nI 1)) (thB (R 0) 12) m9 f).1) ((nS Ef W9 (bdT (R 12) (nI 1)) (thB (R 0) 12) m9 f).2)) 0 m9)) 12 ≤ 12; omega) _ _ hP hD hS _ (lv_sub hl [2, 3, 4, 5, 1, 0] rfl)
                            · refine lv_iload hx hb dX6_night_192 (lv_at hl 5 rfl) ?_
                              refine lv_iload hx hb dX6_night_194 (lv_at hl 7 rfl) ?_
                              refine lv_ishr hx hb dX6_night_196 ?_
                              refine x_top (y := nI ((nS Ef W9 (bdT (R 12) (nI 1)) (thB (R 0) 12) m9 f).1 / 2 ^ d)) (zz_shr hlt4 (by omega)) ?_
                              refine lv_iconst (v := nI 1) hx hb dX6_night_197 (by decide) ?_
                              refine lv_iand hx hb dX6_night_198 ?_
                              refine x_top (y := nI ((nS Ef W9 (bdT (R 12) (nI 1)) (thB (R 0) 12) m9 f).1 / 2 ^ d % 2)) (zz_bit hlt4) ?_
                              refine x_if_eq (tgt := 288) hx hb (Nat.lt_trans (Nat.mod_lt _ (by omega)) (by omega)) dX6_night_199 (by decide) (fun c_199 => ?_) (fun c_199 => ?_)
                              · have hl : lv_has ls 9 [(0, .ref (ad 0)), (1, .int (nI n0)), (2, .int (nI (thB (R 0) 12))), (3, .int ((nB W9 (bdT (R 12) (nI 1)) (thB (R 0) 12) m9).1)), (4, .int (nI ((nS Ef W9 (bdT (R 12) (nI 1)) (thB (R 0) 12) m9 f).2))), (5, .int (nI ((nS Ef W9 (bdT (R 12) (nI 1)) (thB (R 0) 12) m9 f).1))), (6, .int (nxV (nP Ef W9 ((nS Ef W9 (bdT (R 12) (nI 1)) (thB (R 0) 12) m9 f).1) ((nS Ef W9 (bdT (R 12) (nI 1)) (thB (R 0) 12) m9 f).2)) 0 (d + 1))), (7, .int (nI d))] := Eq.mp (congrArg (fun z9 : Int32 => lv_has ls 9 [(0, .ref (ad 0)), (1, .int (nI n0)), (2, .int (nI (thB (R 0) 12))), (3, .int ((nB W9 (bdT (R 12) (nI 1)) (thB (R 0) 12) m9).1)), (4, .int (nI ((nS Ef W9 (bdT (R 12) (nI 1)) (thB (R 0) 12) m9 f).2))), (5, .int (nI ((nS Ef W9 (bdT (R 12) (nI 1)) (thB (R 0) 12) m9 f).1))), (6, .int z9), (7, .int (nI d))]) (show nxV (nP Ef W9 ((nS Ef W9 (bdT (R 12) (nI 1)) (thB (R 0) 12) m9 f).1) ((nS Ef W9 (bdT (R 12) (nI 1)) (thB (R 0) 12) m9 f).2)) 0 d = nxV (nP Ef W9 ((nS Ef W9 (bdT (R 12) (nI 1)) (thB (R 0) 12) m9 f).1) ((nS Ef W9 (bdT (R 12) (nI 1)) (thB (R 0) 12) m9 f).2)) 0 (d + 1) from nxV_stay (by omega) c_189 (fun q => q.1 (by rw [Nat.zero_add]; exact c_199)))) hl
                                refine x_iinc (lv' := [(7, .int (nI (d + 1))), (0, .ref (ad 0)), (1, .int (nI n0)), (2, .int (nI (thB (R 0) 12))), (3, .int ((nB W9 (bdT (R 12) (nI 1)) (thB (R 0) 12) m9).1)), (4, .int (nI ((nS Ef W9 (bdT (R 12) (nI 1)) (thB (R 0) 12) m9 f).2))), (5, .int (nI ((nS Ef W9 (bdT (R 12) (nI 1)) (thB (R 0) 12) m9 f).1))), (6, .int (nxV (nP Ef W9 ((nS Ef W9 (bdT (R 12) (nI 1)) (thB (R 0) 12) m9 f).1) ((nS Ef W9 (bdT (R 12) (nI 1)) (thB (R 0) 12) m9 f).2)) 0 (d + 1)))]) hx hb dX6_night_288 hl (k := 7) rfl (x_inc1 _) (by decide) rfl (fun ls hl => ?_)
                                refine lv_goto (tgt := 179) hx hb dX6_night_291 (by decide) ?_
                                exact ih179 (d + 1) (by omega) (by omega) _ _ hP hD hS _ (lv_sub hl [1, 2, 3, 4, 5, 6, 7, 0] rfl)
                              · refine lv_aload_n hx hb dX6_night_202 rfl (lv_at hl 0 rfl) ?_
                                refine va_get (D := G.1) (ci := 6) (v := .ref (ad 33)) (C := RX6) (T := TX6) (N := 36) hx hb hts inX6 hown hK.1 hP 0 rfl rfl 32 (by decide) fl93 (fun _ h9 => h9) rfl dX6_night_203 ?_
                                refine lv_bipush (v := nI 12) hx hb dX6_night_206 (by decide) ?_
                                refine lv_iload hx hb dX6_night_208 (lv_at hl 4 rfl) ?_
                                refine x_imul (r := 12 * (nS Ef W9 (bdT (R 12) (nI 1)) (thB (R 0) 12) m9 f).2) hx hb dX6_night_210 (rfl) ?_
                                refine lv_iload hx hb dX6_night_211 (lv_at hl 7 rfl) ?_
                                refine x_iadd (r := 12 * (nS Ef W9 (bdT (R 12) (nI 1)) (thB (R 0) 12) m9 f).2 + d) hx hb dX6_night_213 (rfl) ?_
                                refine x_iald hx hb hK.1 hP 25 0 (n := 144) (f := U 32) rfl rfl (k := 12 * (nS Ef W9 (bdT (R 12) (nI 1)) (thB (R 0) 12) m9 f).2 + d) (by omega) (by omega) dX6_night_214 ?_
                                refine x_top (y := Ef ((nS Ef W9 (bdT (R 12) (nI 1)) (thB (R 0) 12) m9 f).2) d) (hEw _ _ hat2 (by omega)) ?_
                                refine lv_ldc hx hb hown ck164 dX6_night_215 ?_
                                refine x_top (y := nI 1000000000) (by decide) ?_
                                refine lv_icmp_ne (tgt := 223) hx hb dX6_night_217 (by decide) (fun c_217 => ?_) (fun c_217 => ?_)
                                · have hrm2 := rm_lt (k := d) hlt4 c_199
                                  have hsr2 := sub_rm (k := d) hlt4 hsub
                                  refine lv_aload_n hx hb dX6_night_223 rfl (lv_at hl 0 rfl) ?_
                                  refine va_get (D := G.1) (ci := 6) (v := .ref (ad 34)) (C := RX6) (T := TX6) (N := 36) hx hb hts inX6 hown hK.1 hP 0 rfl rfl 33 (by decide) fl97 (fun _ h9 => h9) rfl dX6_night_224 ?_
                                  refine lv_bipush (v := nI 12) hx hb dX6_night_227 (by decide) ?_
                                  refine lv_iload hx hb dX6_night_229 (lv_at hl 5 rfl) ?_
                                  refine lv_iconst (v := nI 1) hx hb dX6_night_231 (by decide) ?_
                                  refine lv_iload hx hb dX6_night_232 (lv_at hl 7 rfl) ?_
                                  refine lv_ishl hx hb dX6_night_234 ?_
                                  refine x_top (y := nI (2 ^ d)) (zz_pow (by omega)) ?_
                                  refine lv_iconst (v := (-1)) hx hb dX6_night_235 (by decide) ?_
                                  refine lv_ixor hx hb dX6_night_236 ?_
                                  refine lv_iand hx hb dX6_night_237 ?_
                                  refine x_top (y := nI (rm ((nS Ef W9 (bdT (R 12) (nI 1)) (thB (R 0) 12) m9 f).1) d)) (zz_clr hlt4) ?_
                                  refine x_imul (r := 12 * rm ((nS Ef W9 (bdT (R 12) (nI 1)) (thB (R 0) 12) m9 f).1) d) hx hb dX6_night_238 (rfl) ?_
                                  refine lv_iload hx hb dX6_night_239 (lv_at hl 7 rfl) ?_
                                  refine x_iadd (r := 12 * rm ((nS Ef W9 (bdT (R 12) (nI 1)) (thB (R 0) 12) m9 f).1) d + d) hx hb dX6_night_241 (rfl) ?_
                                  refine x_iald hx hb hK.1 hP 26 0 (n := 49152) (f := V) rfl rfl (k := 12 * rm ((nS Ef W9 (bdT (R 12) (nI 1)) (thB (R 0) 12) m9 f).1) d + d) (by omega) (by omega) dX6_night_242 ?_
                                  refine x_top (y := W9 (rm ((nS Ef W9 (bdT (R 12) (nI 1)) (thB (R 0) 12) m9 f).1) d) d) (hV _ (by omega) hsr2 d (by omega)) ?_
                                  refine lv_istore (lv' := [(8, .int (W9 (rm ((nS Ef W9 (bdT (R 12) (nI 1)) (thB (R 0) 12) m9 f).1) d) d)), (0, .ref (ad 0)), (1, .int (nI n0)), (2, .int (nI (thB (R 0) 12))), (3, .int ((nB W9 (bdT (R 12) (nI 1)) (thB (R 0) 12) m9).1)), (4, .int (nI ((nS Ef W9 (bdT (R 12) (nI 1)) (thB (R 0) 12) m9 f).2))), (5, .int (nI ((nS Ef W9 (bdT (R 12) (nI 1)) (thB (R 0) 12) m9 f).1))), (6, .int (nxV (nP Ef W9 ((nS Ef W9 (bdT (R 12) (nI 1)) (thB (R 0) 12) m9 f).1) ((nS Ef W9 (bdT (R 12) (nI 1)) (thB (R 0) 12) m9 f).2)) 0 d)), (7, .int (nI d))]) hx hb dX6_night_243 hl (by decide) rfl (fun ls hl => ?_)
                                  refine lv_iload hx hb dX6_night_245 (lv_at hl 0 rfl) ?_
                                  refine lv_ldc hx hb hown ck164 dX6_night_247 ?_
                                  refine x_top (y := nI 1000000000) (by decide) ?_
                                  refine lv_icmp_ge (tgt := 288) hx hb dX6_night_249 (by decide) (fun c_249 => ?_) (fun c_249 => ?_)
                                  · have hl : lv_has ls 9 [(8, .int (W9 (rm ((nS Ef W9 (bdT (R 12) (nI 1)) (thB (R 0) 12) m9 f).1) d) d)), (0, .ref (ad 0)), (1, .int (nI n0)), (2, .int (nI (thB (R 0) 12))), (3, .int ((nB W9 (bdT (R 12) (nI 1)) (thB (R 0) 12) m9).1)), (4, .int (nI ((nS Ef W9 (bdT (R 12) (nI 1)) (thB (R 0) 12) m9 f).2))), (5, .int (nI ((nS Ef W9 (bdT (R 12) (nI 1)) (thB (R 0) 12) m9 f).1))), (6, .int (nxV (nP Ef W9 ((nS Ef W9 (bdT (R 12) (nI 1)) (thB (R 0) 12) m9 f).1) ((nS Ef W9 (bdT (R 12) (nI 1)) (thB (R 0) 12) m9 f).2)) 0 (d + 1))), (7, .int (nI d))] := Eq.mp (congrArg (fun z9 : Int32 => lv_has ls 9 [(8, .int (W9 (rm ((nS Ef W9 (bdT (R 12) (nI 1)) (thB (R 0) 12) m9 f).1) d) d)), (0, .ref (ad 0)), (1, .int (nI n0)), (2, .int (nI (thB (R 0) 12))), (3, .int ((nB W9 (bdT (R 12) (nI 1)) (thB (R 0) 12) m9).1)), (4, .int (nI ((nS Ef W9 (bdT (R 12) (nI 1)) (thB (R 0) 12) m9 f).2))), (5, .int (nI ((nS Ef W9 (bdT (R 12) (nI 1)) (thB (R 0) 12) m9 f).1))), (6, .int z9), (7, .int (nI d))]) (show nxV (nP Ef W9 ((nS Ef W9 (bdT (R 12) (nI 1)) (thB (R 0) 12) m9 f).1) ((nS Ef W9 (bdT (R 12) (nI 1)) (thB (R 0) 12) m9 f).2)) 0 d = nxV (nP Ef W9 ((nS Ef W9 (bdT (R 12) (nI 1)) (thB (R 0) 12) m9 f).1) ((nS Ef W9 (bdT (R 12) (nI 1)) (thB (R 0) 12) m9 f).2)) 0 (d + 1) from nxV_stay (by omega) c_189 (fun q => Int32.not_lt.mpr c_249 (by have z9 := q.2.2.1; rw [Nat.zero_add] at z9; exact z9)))) hl
                                    refine x_iinc (lv' := [(7, .int (nI (d + 1))), (8, .int (W9 (rm ((nS Ef W9 (bdT (R 12) (nI 1)) (thB (R 0) 12) m9 f).1) d) d)), (0, .ref (ad 0)), (1, .int (nI n0)), (2, .int (nI (thB (R 0) 12))), (3, .int ((nB W9 (bdT (R 12) (nI 1)) (thB (R 0) 12) m9).1)), (4, .int (nI ((nS Ef W9 (bdT (R 12) (nI 1)) (thB (R 0) 12) m9 f).2))), (5, .int (nI ((nS Ef W9 (bdT (R 12) (nI 1)) (thB (R 0) 12) m9 f).1))), (6, .int (nxV (nP Ef W9 ((nS Ef W9 (bdT (R 12) (nI 1)) (thB (R 0) 12) m9 f).1) ((nS Ef W9 (bdT (R 12) (nI 1)) (thB (R 0) 12) m9 f).2)) 0 (d + 1)))]) hx hb dX6_night_288 hl (k := 8) rfl (x_inc1 _) (by decide) rfl (fun ls hl => ?_)
                                    refine lv_goto (tgt := 179) hx hb dX6_night_291 (by decide) ?_
                                    exact ih179 (d + 1) (by omega) (by omega) _ _ hP hD hS _ (lv_sub hl [2, 3, 4, 5, 6, 7, 8, 0] rfl)
                                  · refine lv_iload hx hb dX6_night_252 (lv_at hl 0 rfl) ?_
                                    refine lv_aload_n hx hb dX6_night_254 rfl (lv_at hl 1 rfl) ?_
                                    refine va_get (D := G.1) (ci := 6) (v := .ref (ad 33)) (C := RX6) (T := TX6) (N := 36) hx hb hts inX6 hown hK.1 hP 0 rfl rfl 32 (by decide) fl93 (fun _ h9 => h9) rfl dX6_night_255 ?_
                                    refine lv_bipush (v := nI 12) hx hb dX6_night_258 (by decide) ?_
                                    refine lv_iload hx hb dX6_night_260 (lv_at hl 5 rfl) ?_
                                    refine x_imul (r := 12 * (nS Ef W9 (bdT (R 12) (nI 1)) (thB (R 0) 12) m9 f).2) hx hb dX6_night_262 (rfl) ?_
                                    refine lv_iload hx hb dX6_night_263 (lv_at hl 8 rfl) ?_
                                    refine x_iadd (r := 12 * (nS Ef W9 (bdT (R 12) (nI 1)) (thB (R 0) 12) m9 f).2 + d) hx hb dX6_night_265 (rfl) ?_
                                    refine x_iald hx hb hK.1 hP 25 0 (n := 144) (f := U 32) rfl rfl (k := 12 * (nS Ef W9 (bdT (R 12) (nI 1)) (thB (R 0) 12) m9 f).2 + d) (by omega) (by omega) dX6_night_266 ?_
                                    refine x_top (y := Ef ((nS Ef W9 (bdT (R 12) (nI 1)) (thB (R 0) 12) m9 f).2) d) (hEw _ _ hat2 (by omega)) ?_
                                    refine lv_iadd hx hb dX6_night_267 ?_
                                    refine lv_aload_n hx hb dX6_night_268 rfl (lv_at hl 1 rfl) ?_
                                    refine va_get (D := G.1) (ci := 6) (v := .ref (ad 34)) (C := RX6) (T := TX6) (N := 36) hx hb hts inX6 hown hK.1 hP 0 rfl rfl 33 (by decide) fl97 (fun _ h9 => h9) rfl dX6_night_269 ?_
                                    refine lv_bipush (v := nI 12) hx hb dX6_night_272 (by decide) ?_
                                    refine lv_iload hx hb dX6_night_274 (lv_at hl 6 rfl) ?_
                                    refine x_imul (r := 12 * (nS Ef W9 (bdT (R 12) (nI 1)) (thB (R 0) 12) m9 f).1) hx hb dX6_night_276 (rfl) ?_
                                    refine lv_iload hx hb dX6_night_277 (lv_at hl 5 rfl) ?_
                                    refine x_iadd (r := 12 * (nS Ef W9 (bdT (R 12) (nI 1)) (thB (R 0) 12) m9 f).1 + (nS Ef W9 (bdT (R 12) (nI 1)) (thB (R 0) 12) m9 f).2) hx hb dX6_night_279 (rfl) ?_
                                    refine x_iald hx hb hK.1 hP 26 0 (n := 49152) (f := V) rfl rfl (k := 12 * (nS Ef W9 (bdT (R 12) (nI 1)) (thB (R 0) 12) m9 f).1 + (nS Ef W9 (bdT (R 12) (nI 1)) (thB (R 0) 12) m9 f).2) (by omega) (by omega) dX6_night_280 ?_
                                    refine x_top (y := W9 ((nS Ef W9 (bdT (R 12) (nI 1)) (thB (R 0) 12) m9 f).1) ((nS Ef W9 (bdT (R 12) (nI 1)) (thB (R 0) 12) m9 f).2)) (hV _ hleA hsub _ hat2) ?_
                                    refine lv_icmp_ne (tgt := 288) hx hb dX6_night_281 (by decide) (fun c_281 => ?_) (fun c_281 => ?_)
                                    · have hl : lv_has ls 9 [(8, .int (W9 (rm ((nS Ef W9 (bdT (R 12) (nI 1)) (thB (R 0) 12) m9 f).1) d) d)), (0, .ref (ad 0)), (1, .int (nI n0)), (2, .int (nI (thB (R 0) 12))), (3, .int ((nB W9 (bdT (R 12) (nI 1)) (thB (R 0) 12) m9).1)), (4, .int (nI ((nS Ef W9 (bdT (R 12) (nI 1)) (thB (R 0) 12) m9 f).2))), (5, .int (nI ((nS Ef W9 (bdT (R 12) (nI 1)) (thB (R 0) 12) m9 f).1))), (6, .int (nxV (nP Ef W9 ((nS Ef W9 (bdT (R 12) (nI 1)) (thB (R 0) 12) m9 f).1) ((nS Ef W9 (bdT (R 12) (nI 1)) (thB (R 0) 12) m9 f).2)) 0 (d + 1))), (7, .int (nI d))] := Eq.mp (congrArg (fun z9 : Int32 => lv_has ls 9 [(8, .int (W9 (rm ((nS Ef W9 (bdT (R 12) (nI 1)) (thB (R 0) 12) m9 f).1) d) d)), (0, .ref (ad 0)), (1, .int (nI n0)), (2, .int (nI (thB (R 0) 12))), (3, .int ((nB W9 (bdT (R 12) (nI 1)) (thB (R 0) 12) m9).1)), (4, .int (nI ((nS Ef W9 (bdT (R 12) (nI 1)) (thB (R 0) 12) m9 f).2))), (5, .int (nI ((nS Ef W9 (bdT (R 12) (nI 1)) (thB (R 0) 12) m9 f).1))), (6, .int z9), (7, .int (nI d))]) (show nxV (nP Ef W9 ((nS Ef W9 (bdT (R 12) (nI 1)) (thB (R 0) 12) m9 f).1) ((nS Ef W9 (bdT (R 12) (nI 1)) (thB (R 0) 12) m9 f).2)) 0 d = nxV (nP Ef W9 ((nS Ef W9 (bdT (R 12) (nI 1)) (thB (R 0) 12) m9 f).1) ((nS Ef W9 (bdT (R 12) (nI 1)) (thB (R 0) 12) m9 f).2)) 0 (d + 1) from nxV_stay (by omega) c_189 (fun q => c_281 (by have z9 := q.2.2.2; rw [Nat.zero_add] at z9; exact z9)))) hl
                                      refine x_iinc (lv' := [(7, .int (nI (d + 1))), (8, .int (W9 (rm ((nS Ef W9 (bdT (R 12) (nI 1)) (thB (R 0) 12) m9 f).1) d) d)), (0, .ref (ad 0)), (1, .int (nI n0)), (2, .int (nI (thB (R 0) 12))), (3, .int ((nB W9 (bdT (R 12) (nI 1)) (thB (R 0) 12) m9).1)), (4, .int (nI ((nS Ef W9 (bdT (R 12) (nI 1)) (thB (R 0) 12) m9 f).2))), (5, .int (nI ((nS Ef W9 (bdT (R 12) (nI 1)) (thB (R 0) 12) m9 f).1))), (6, .int (nxV (nP Ef W9 ((nS Ef W9 (bdT (R 12) (nI 1)) (thB (R 0) 12) m9 f).1) ((nS Ef W9 (bdT (R 12) (nI 1)) (thB (R 0) 12) m9 f).2)) 0 (d + 1)))]) hx hb dX6_night_288 hl (k := 8) rfl (x_inc1 _) (by decide) rfl (fun ls hl => ?_)
                                      refine lv_goto (tgt := 179) hx hb dX6_night_291 (by decide) ?_
                                      exact ih179 (d + 1) (by omega) (by omega) _ _ hP hD hS _ (lv_sub hl [2, 3, 4, 5, 6, 7, 8, 0] rfl)
                                    · refine lv_iload hx hb dX6_night_284 (lv_at hl 8 rfl) ?_
                                      refine lv_istore (lv' := [(6, .int (nI d)), (8, .int (W9 (rm ((nS Ef W9 (bdT (R 12) (nI 1)) (thB (R 0) 12) m9 f).1) d) d)), (0, .ref (ad 0)), (1, .int (nI n0)), (2, .int (nI (thB (R 0) 12))), (3, .int ((nB W9 (bdT (R 12) (nI 1)) (thB (R 0) 12) m9).1)), (4, .int (nI ((nS Ef W9 (bdT (R 12) (nI 1)) (thB (R 0) 12) m9 f).2))), (5, .int (nI ((nS Ef W9 (bdT (R 12) (nI 1)) (thB (R 0) 12) m9 f).1))), (7, .int (nI d))]) hx hb dX6_night_286 hl (by decide) rfl (fun ls hl => ?_)
                                      have hl : lv_has ls 9 [(6, .int (nxV (nP Ef W9 ((nS Ef W9 (bdT (R 12) (nI 1)) (thB (R 0) 12) m9 f).1) ((nS Ef W9 (bdT (R 12) (nI 1)) (thB (R 0) 12) m9 f).2)) 0 (d + 1))), (8, .int (W9 (rm ((nS Ef W9 (bdT (R 12) (nI 1)) (thB (R 0) 12) m9 f).1) d) d)), (0, .ref (ad 0)), (1, .int (nI n0)), (2, .int (nI (thB (R 0) 12))), (3, .int ((nB W9 (bdT (R 12) (nI 1)) (thB (R 0) 12) m9).1)), (4, .int (nI ((nS Ef W9 (bdT (R 12) (nI 1)) (thB (R 0) 12) m9 f).2))), (5, .int (nI ((nS Ef W9 (bdT (R 12) (nI 1)) (thB (R 0) 12) m9 f).1))), (7, .int (nI d))] := Eq.mp (congrArg (fun z9 : Int32 => lv_has ls 9 [(6, .int z9), (8, .int (W9 (rm ((nS Ef W9 (bdT (R 12) (nI 1)) (thB (R 0) 12) m9 f).1) d) d)), (0, .ref (ad 0)), (1, .int (nI n0)), (2, .int (nI (thB (R 0) 12))), (3, .int ((nB W9 (bdT (R 12) (nI 1)) (thB (R 0) 12) m9).1)), (4, .int (nI ((nS Ef W9 (bdT (R 12) (nI 1)) (thB (R 0) 12) m9 f).2))), (5, .int (nI ((nS Ef W9 (bdT (R 12) (nI 1)) (thB (R 0) 12) m9 f).1))), (7, .int (nI d))]) (show nI d = nxV (nP Ef W9 ((nS Ef W9 (bdT (R 12) (nI 1)) (thB (R 0) 12) m9 f).1) ((nS Ef W9 (bdT (R 12) (nI 1)) (thB (R 0) 12) m9 f).2)) 0 (d + 1) from (by have z9 := nxV_hit (P := (nP Ef W9 ((nS Ef W9 (bdT (R 12) (nI 1)) (thB (R 0) 12) m9 f).1) ((nS Ef W9 (bdT (R 12) (nI 1)) (thB (R 0) 12) m9 f).2))) (lo := 0) (d := d) (by omega) c_189 (by rw [Nat.zero_add]; exact ⟨c_199, c_217, Int32.not_le.mp c_249, c_281⟩); rw [Nat.zero_add] at z9; exact z9))) hl
                                      refine x_iinc (lv' := [(7, .int (nI (d + 1))), (6, .int (nxV (nP Ef W9 ((nS Ef W9 (bdT (R 12) (nI 1)) (thB (R 0) 12) m9 f).1) ((nS Ef W9 (bdT (R 12) (nI 1)) (thB (R 0) 12) m9 f).2)) 0 (d + 1))), (8, .int (W9 (rm ((nS Ef W9 (bdT (R 12) (nI 1)) (thB (R 0) 12) m9 f).1) d) d)), (0, .ref (ad 0)), (1, .int (nI n0)), (2, .int (nI (thB (R 0) 12))), (3, .int ((nB W9 (bdT (R 12) (nI 1)) (thB (R 0) 12) m9).1)), (4, .int (nI ((nS Ef W9 (bdT (R 12) (nI 1)) (thB (R 0) 12) m9 f).2))), (5, .int (nI ((nS Ef W9 (bdT (R 12) (nI 1)) (thB (R 0) 12) m9 f).1)))]) hx hb dX6_night_288 hl (k := 8) rfl (x_inc1 _) (by decide) rfl (fun ls hl => ?_)
                                      refine lv_goto (tgt := 179) hx hb dX6_night_291 (by decide) ?_
                                      exact ih179 (d + 1) (by omega) (by omega) _ _ hP hD hS _ (lv_sub hl [3, 4, 5, 6, 7, 8, 1, 0] rfl)
                                · refine lv_goto (tgt := 288) hx hb dX6_night_220 (by decide) ?_
                                  have hl : lv_has ls 9 [(0, .ref (ad 0)), (1, .int (nI n0)), (2, .int (nI (thB (R 0) 12))), (3, .int ((nB W9 (bdT (R 12) (nI 1)) (thB (R 0) 12) m9).1)), (4, .int (nI ((nS Ef W9 (bdT (R 12) (nI 1)) (thB (R 0) 12) m9 f).2))), (5, .int (nI ((nS Ef W9 (bdT (R 12) (nI 1)) (thB (R 0) 12) m9 f).1))), (6, .int (nxV (nP Ef W9 ((nS Ef W9 (bdT (R 12) (nI 1)) (thB (R 0) 12) m9 f).1) ((nS Ef W9 (bdT (R 12) (nI 1)) (thB (R 0) 12) m9 f).2)) 0 (d + 1))), (7, .int (nI d))] := Eq.mp (congrArg (fun z9 : Int32 => lv_has ls 9 [(0, .ref (ad 0)), (1, .int (nI n0)), (2, .int (nI (thB (R 0) 12))), (3, .int ((nB W9 (bdT (R 12) (nI 1)) (thB (R 0) 12) m9).1)), (4, .int (nI ((nS Ef W9 (bdT (R 12) (nI 1)) (thB (R 0) 12) m9 f).2))), (5, .int (nI ((nS Ef W9 (bdT (R 12) (nI 1)) (thB (R 0) 12) m9 f).1))), (6, .int z9), (7, .int (nI d))]) (show nxV (nP Ef W9 ((nS Ef W9 (bdT (R 12) (nI 1)) (thB (R 0) 12) m9 f).1) ((nS Ef W9 (bdT (R 12) (nI 1)) (thB (R 0) 12) m9 f).2)) 0 d = nxV (nP Ef W9 ((nS Ef W9 (bdT (R 12) (nI 1)) (thB (R 0) 12) m9 f).1) ((nS Ef W9 (bdT (R 12) (nI 1)) (thB (R 0) 12) m9 f).2)) 0 (d + 1) from nxV_stay (by omega) c_189 (fun q => q.2.1 (by rw [Nat.zero_add]; exact c_217)))) hl
                                  refine x_iinc (lv' := [(7, .int (nI (d + 1))), (0, .ref (ad 0)), (1, .int (nI n0)), (2, .int (nI (thB (R 0) 12))), (3, .int ((nB W9 (bdT (R 12) (nI 1)) (thB (R 0) 12) m9).1)), (4, .int (nI ((nS Ef W9 (bdT (R 12) (nI 1)) (thB (R 0) 12) m9 f).2))), (5, .int (nI ((nS Ef W9 (bdT (R 12) (nI 1)) (thB (R 0) 12) m9 f).1))), (6, .int (nxV (nP Ef W9 ((nS Ef W9 (bdT (R 12) (nI 1)) (thB (R 0) 12) m9 f).1) ((nS Ef W9 (bdT (R 12) (nI 1)) (thB (R 0) 12) m9 f).2)) 0 (d + 1)))]) hx hb dX6_night_288 hl (k := 7) rfl (x_inc1 _) (by decide) rfl (fun ls hl => ?_)
                                  refine lv_goto (tgt := 179) hx hb dX6_night_291 (by decide) ?_
                                  exact ih179 (d + 1) (by omega) (by omega) _ _ hP hD hS _ (lv_sub hl [1, 2, 3, 4, 5, 6, 7, 0] rfl)
                      exact lp179 (12 - 0 + 1) 0 (Nat.lt_succ_self _) (by omega) _ _ hP hD hS _ (lv_sub hl [2, 3, 4, 5, 6, 7, 1, 0] rfl)
                exact lp168 ((nS Ef W9 (bdT (R 12) (nI 1)) (thB (R 0) 12) m9 0).1 + 1) 0 (upd (U 35) 0 (nI ((nB W9 (bdT (R 12) (nI 1)) (thB (R 0) 12) m9).2))) (Nat.lt_succ_self _) (fun i hi => by rw [show i = 0 by omega]; unfold upd; rw [if_pos rfl]; rfl) (lt_0) (by rw [hb3] at hb4; exact hb4) (hat) (hsr) (Nat.le_of_lt hrm) (by show 0 + 1 + cntB (rm (thB (R 0) 12) (nB W9 (bdT (R 12) (nI 1)) (thB (R 0) 12) m9).2) 12 ≤ 12; omega) _ _ hP hD hS _ (lv_sub hl [1, 2, 3, 4, 5, 0] rfl)
              · refine lv_bipush (v := (-2)) hx hb dX6_night_129 (by decide) ?_
                refine x_top (y := aNightR m9 F R so (nI n0)) (by unfold aNightR aNight; rw [if_neg c_7, if_neg c_13, if_neg c_17, nI_clamp (by omega), ← hEf, ← hWf]; exact (if_neg ((atV_m1 (by omega)).mp c_126)).symm) ?_
                exact W.iret (v := aNightR m9 F R so (nI n0)) hx hb hr (fun t9 ht9 hW9 => ⟨⟨(F1, va_up U 33 V), rfl, ⟨fun i h1 h2 h3 => hkF i h1 h2, fun i h1 h2 h3 => by simp only [va_up]; rw [if_neg (by omega)]; exact hkU i h1 (by omega), fun q => absurd (by have z9 := q.2.2.2; rw [nI_clamp (by omega), ← hEf, ← hWf] at z9; exact z9) ((atV_m1 (by omega)).mp c_126), fun _ => ⟨hkF 34 (by decide) (by decide), hkU 35 (by decide) (by decide)⟩⟩, by rw [ht9]; exact hP, hD⟩, hS.F ht9⟩) hS.2.2 dX6_night_131
            · refine lv_iload_n hx hb dX6_night_48 rfl (lv_at hl 2 rfl) ?_
              refine lv_iload hx hb dX6_night_49 (lv_at hl 5 rfl) ?_
              refine lv_ishr hx hb dX6_night_51 ?_
              refine x_top (y := nI ((thB (R 0) 12) / 2 ^ z)) (zz_shr (by omega) (by omega)) ?_
              refine lv_iconst (v := nI 1) hx hb dX6_night_52 (by decide) ?_
              refine lv_iand hx hb dX6_night_53 ?_
              refine x_top (y := nI ((thB (R 0) 12) / 2 ^ z % 2)) (zz_bit (by omega)) ?_
              refine x_if_eq (tgt := 117) hx hb (by omega) dX6_night_54 (by decide) (fun c_54 => ?_) (fun c_54 => ?_)
              · have e117 : nB W9 (bdT (R 12) (nI 1)) (thB (R 0) 12) (z + 1) = nB W9 (bdT (R 12) (nI 1)) (thB (R 0) 12) z := if_neg (fun q => q.1 c_54)
                have hl : lv_has ls 9 [(0, .ref (ad 0)), (1, .int (nI n0)), (2, .int (nI (thB (R 0) 12))), (3, .int ((nB W9 (bdT (R 12) (nI 1)) (thB (R 0) 12) (z + 1)).1)), (4, .int (atV 12 (nB W9 (bdT (R 12) (nI 1)) (thB (R 0) 12) z).2)), (5, .int (nI z))] := Eq.mp (congrArg (fun z9 : Int32 => lv_has ls 9 [(0, .ref (ad 0)), (1, .int (nI n0)), (2, .int (nI (thB (R 0) 12))), (3, .int z9), (4, .int (atV 12 (nB W9 (bdT (R 12) (nI 1)) (thB (R 0) 12) z).2)), (5, .int (nI z))]) (show (nB W9 (bdT (R 12) (nI 1)) (thB (R 0) 12) z).1 = (nB W9 (bdT (R 12) (nI 1)) (thB (R 0) 12) (z + 1)).1 from by rw [e117])) hl
                have hl : lv_has ls 9 [(0, .ref (ad 0)), (1, .int (nI n0)), (2, .int (nI (thB (R 0) 12))), (3, .int ((nB W9 (bdT (R 12) (nI 1)) (thB (R 0) 12) (z + 1)).1)), (4, .int (atV 12 (nB W9 (bdT (R 12) (nI 1)) (thB (R 0) 12) (z + 1)).2)), (5, .int (nI z))] := Eq.mp (congrArg (fun z9 : Int32 => lv_has ls 9 [(0, .ref (ad 0)), (1, .int (nI n0)), (2, .int (nI (thB (R 0) 12))), (3, .int ((nB W9 (bdT (R 12) (nI 1)) (thB (R 0) 12) (z + 1)).1)), (4, .int z9), (5, .int (nI z))]) (show atV 12 (nB W9 (bdT (R 12) (nI 1)) (thB (R 0) 12) z).2 = atV 12 (nB W9 (bdT (R 12) (nI 1)) (thB (R 0) 12) (z + 1)).2 from by rw [e117])) hl
                refine x_iinc (lv' := [(5, .int (nI (z + 1))), (0, .ref (ad 0)), (1, .int (nI n0)), (2, .int (nI (thB (R 0) 12))), (3, .int ((nB W9 (bdT (R 12) (nI 1)) (thB (R 0) 12) (z + 1)).1)), (4, .int (atV 12 (nB W9 (bdT (R 12) (nI 1)) (thB (R 0) 12) (z + 1)).2))]) hx hb dX6_night_117 hl (k := 5) rfl (x_inc1 _) (by decide) rfl (fun ls hl => ?_)
                refine lv_goto (tgt := 41) hx hb dX6_night_120 (by decide) ?_
                exact ih41 (z + 1) (by omega) (by omega) _ _ hP hD hS _ (lv_sub hl [1, 2, 3, 4, 5, 0] rfl)
              · refine lv_aload_n hx hb dX6_night_57 rfl (lv_at hl 0 rfl) ?_
                refine lv_iload hx hb dX6_night_58 (lv_at hl 5 rfl) ?_
                refine lv_iconst (v := nI 1) hx hb dX6_night_60 (by decide) ?_
                refine mx_callRO (v := .int (boundV (U 12) z (nI 1))) (va_runV (As := [.int (nI z), .int (nI 1)]) (rest := []) ⟨hx, hb, hml, hown, hts⟩ (c_X6_isBound l G ad F1 (va_up U 33 V) z (nI 1) (by omega)) (cwV 2 hts gX6_night_X6_isBound rfl rfl rfl (by decide +kernel) ⟨Nat.le_of_ble_eq_true rfl, Nat.le_of_ble_eq_true rfl⟩) (mx_preV hK hP (va_recv hK.1 hP (ci := 6) (q0 := 0) rfl rfl)) rfl rfl hl.1 rfl (lv_room (Nat.le_of_ble_eq_true rfl)) dX6_night_61 ⟨Nat.zero_le _, Nat.zero_le _⟩) ?_
                refine x_top (y := boundV (R 12) z (nI 1)) (by rw [hkU 12 (by decide) (by decide)]) ?_
                refine lv_if_ne (tgt := 117) hx hb dX6_night_64 (by decide) (fun c_64 => ?_) (fun c_64 => ?_)
                · have e117 : nB W9 (bdT (R 12) (nI 1)) (thB (R 0) 12) (z + 1) = nB W9 (bdT (R 12) (nI 1)) (thB (R 0) 12) z := if_neg (fun q => q.2.1 c_64)
                  have hl : lv_has ls 9 [(0, .ref (ad 0)), (1, .int (nI n0)), (2, .int (nI (thB (R 0) 12))), (3, .int ((nB W9 (bdT (R 12) (nI 1)) (thB (R 0) 12) (z + 1)).1)), (4, .int (atV 12 (nB W9 (bdT (R 12) (nI 1)) (thB (R 0) 12) z).2)), (5, .int (nI z))] := Eq.mp (congrArg (fun z9 : Int32 => lv_has ls 9 [(0, .ref (ad 0)), (1, .int (nI n0)), (2, .int (nI (thB (R 0) 12))), (3, .int z9), (4, .int (atV 12 (nB W9 (bdT (R 12) (nI 1)) (thB (R 0) 12) z).2)), (5, .int (nI z))]) (show (nB W9 (bdT (R 12) (nI 1)) (thB (R 0) 12) z).1 = (nB W9 (bdT (R 12) (nI 1)) (thB (R 0) 12) (z + 1)).1 from by rw [e117])) hl
                  have hl : lv_has ls 9 [(0, .ref (ad 0)), (1, .int (nI n0)), (2, .int (nI (thB (R 0) 12))), (3, .int ((nB W9 (bdT (R 12) (nI 1)) (thB (R 0) 12) (z + 1)).1)), (4, .int (atV 12 (nB W9 (bdT (R 12) (nI 1)) (thB (R 0) 12) (z + 1)).2)), (5, .int (nI z))] := Eq.mp (congrArg (fun z9 : Int32 => lv_has ls 9 [(0, .ref (ad 0)), (1, .int (nI n0)), (2, .int (nI (thB (R 0) 12))), (3, .int ((nB W9 (bdT (R 12) (nI 1)) (thB (R 0) 12) (z + 1)).1)), (4, .int z9), (5, .int (nI z))]) (show atV 12 (nB W9 (bdT (R 12) (nI 1)) (thB (R 0) 12) z).2 = atV 12 (nB W9 (bdT (R 12) (nI 1)) (thB (R 0) 12) (z + 1)).2 from by rw [e117])) hl
                  refine x_iinc (lv' := [(5, .int (nI (z + 1))), (0, .ref (ad 0)), (1, .int (nI n0)), (2, .int (nI (thB (R 0) 12))), (3, .int ((nB W9 (bdT (R 12) (nI 1)) (thB (R 0) 12) (z + 1)).1)), (4, .int (atV 12 (nB W9 (bdT (R 12) (nI 1)) (thB (R 0) 12) (z + 1)).2))]) hx hb dX6_night_117 hl (k := 5) rfl (x_inc1 _) (by decide) rfl (fun ls hl => ?_)
                  refine lv_goto (tgt := 41) hx hb dX6_night_120 (by decide) ?_
                  exact ih41 (z + 1) (by omega) (by omega) _ _ hP hD hS _ (lv_sub hl [1, 2, 3, 4, 5, 0] rfl)
                · have hrm := rm_lt (k := z) (show (thB (R 0) 12) < 4096 by omega) c_54
                  have hsr := sub_rm (k := z) (show (thB (R 0) 12) < 4096 by omega) (sub_self (show (thB (R 0) 12) < 4096 by omega))
                  refine lv_aload_n hx hb dX6_night_67 rfl (lv_at hl 0 rfl) ?_
                  refine va_get (D := G.1) (ci := 6) (v := .ref (ad 34)) (C := RX6) (T := TX6) (N := 36) hx hb hts inX6 hown hK.1 hP 0 rfl rfl 33 (by decide) fl97 (fun _ h9 => h9) rfl dX6_night_68 ?_
                  refine lv_bipush (v := nI 12) hx hb dX6_night_71 (by decide) ?_
                  refine lv_iload_n hx hb dX6_night_73 rfl (lv_at hl 2 rfl) ?_
                  refine lv_iconst (v := nI 1) hx hb dX6_night_74 (by decide) ?_
                  refine lv_iload hx hb dX6_night_75 (lv_at hl 5 rfl) ?_
                  refine lv_ishl hx hb dX6_night_77 ?_
                  refine x_top (y := nI (2 ^ z)) (zz_pow (by omega)) ?_
                  refine lv_iconst (v := (-1)) hx hb dX6_night_78 (by decide) ?_
                  refine lv_ixor hx hb dX6_night_79 ?_
                  refine lv_iand hx hb dX6_night_80 ?_
                  refine x_top (y := nI (rm (thB (R 0) 12) z)) (zz_clr (by omega)) ?_
                  refine x_imul (r := 12 * rm (thB (R 0) 12) z) hx hb dX6_night_81 (rfl) ?_
                  refine lv_iload hx hb dX6_night_82 (lv_at hl 5 rfl) ?_
                  refine x_iadd (r := 12 * rm (thB (R 0) 12) z + z) hx hb dX6_night_84 (rfl) ?_
                  refine x_iald hx hb hK.1 hP 26 0 (n := 49152) (f := V) rfl rfl (k := 12 * rm (thB (R 0) 12) z + z) (by omega) (by omega) dX6_night_85 ?_
                  refine x_top (y := W9 (rm (thB (R 0) 12) z) z) (hV _ (by omega) hsr z (by omega)) ?_
                  refine lv_iload_n hx hb dX6_night_86 rfl (lv_at hl 3 rfl) ?_
                  refine lv_icmp_lt (tgt := 93) hx hb dX6_night_87 (by decide) (fun c_87 => ?_) (fun c_87 => ?_)
                  · refine lv_aload_n hx hb dX6_night_93 rfl (lv_at hl 0 rfl) ?_
                    refine va_get (D := G.1) (ci := 6) (v := .ref (ad 34)) (C := RX6) (T := TX6) (N := 36) hx hb hts inX6 hown hK.1 hP 0 rfl rfl 33 (by decide) fl97 (fun _ h9 => h9) rfl dX6_night_94 ?_
                    refine lv_bipush (v := nI 12) hx hb dX6_night_97 (by decide) ?_
                    refine lv_iload_n hx hb dX6_night_99 rfl (lv_at hl 2 rfl) ?_
                    refine lv_iconst (v := nI 1) hx hb dX6_night_100 (by decide) ?_
                    refine lv_iload hx hb dX6_night_101 (lv_at hl 5 rfl) ?_
                    refine lv_ishl hx hb dX6_night_103 ?_
                    refine x_top (y := nI (2 ^ z)) (zz_pow (by omega)) ?_
                    refine lv_iconst (v := (-1)) hx hb dX6_night_104 (by decide) ?_
                    refine lv_ixor hx hb dX6_night_105 ?_
                    refine lv_iand hx hb dX6_night_106 ?_
                    refine x_top (y := nI (rm (thB (R 0) 12) z)) (zz_clr (by omega)) ?_
                    refine x_imul (r := 12 * rm (thB (R 0) 12) z) hx hb dX6_night_107 (rfl) ?_
                    refine lv_iload hx hb dX6_night_108 (lv_at hl 5 rfl) ?_
                    refine x_iadd (r := 12 * rm (thB (R 0) 12) z + z) hx hb dX6_night_110 (rfl) ?_
                    refine x_iald hx hb hK.1 hP 26 0 (n := 49152) (f := V) rfl rfl (k := 12 * rm (thB (R 0) 12) z + z) (by omega) (by omega) dX6_night_111 ?_
                    refine x_top (y := W9 (rm (thB (R 0) 12) z) z) (hV _ (by omega) hsr z (by omega)) ?_
                    refine lv_istore_n (lv' := [(3, .int (W9 (rm (thB (R 0) 12) z) z)), (0, .ref (ad 0)), (1, .int (nI n0)), (2, .int (nI (thB (R 0) 12))), (4, .int (atV 12 (nB W9 (bdT (R 12) (nI 1)) (thB (R 0) 12) z).2)), (5, .int (nI z))]) hx hb dX6_night_112 rfl hl (by decide) rfl (fun ls hl => ?_)
                    refine lv_iload hx hb dX6_night_113 (lv_at hl 5 rfl) ?_
                    refine lv_istore (lv' := [(4, .int (nI z)), (3, .int (W9 (rm (thB (R 0) 12) z) z)), (0, .ref (ad 0)), (1, .int (nI n0)), (2, .int (nI (thB (R 0) 12))), (5, .int (nI z))]) hx hb dX6_night_115 hl (by decide) rfl (fun ls hl => ?_)
                    have e117 : nB W9 (bdT (R 12) (nI 1)) (thB (R 0) 12) (z + 1) = (W9 (rm (thB (R 0) 12) z) z, z) := if_pos ⟨c_54, fun q => q c_64, c_87⟩
                    have hl : lv_has ls 9 [(4, .int (nI z)), (3, .int ((nB W9 (bdT (R 12) (nI 1)) (thB (R 0) 12) (z + 1)).1)), (0, .ref (ad 0)), (1, .int (nI n0)), (2, .int (nI (thB (R 0) 12))), (5, .int (nI z))] := Eq.mp (congrArg (fun z9 : Int32 => lv_has ls 9 [(4, .int (nI z)), (3, .int z9), (0, .ref (ad 0)), (1, .int (nI n0)), (2, .int (nI (thB (R 0) 12))), (5, .int (nI z))]) (show W9 (rm (thB (R 0) 12) z) z = (nB W9 (bdT (R 12) (nI 1)) (thB (R 0) 12) (z + 1)).1 from by rw [e117])) hl
                    have hl : lv_has ls 9 [(4, .int (atV 12 (nB W9 (bdT (R 12) (nI 1)) (thB (R 0) 12) (z + 1)).2)), (3, .int ((nB W9 (bdT (R 12) (nI 1)) (thB (R 0) 12) (z + 1)).1)), (0, .ref (ad 0)), (1, .int (nI n0)), (2, .int (nI (thB (R 0) 12))), (5, .int (nI z))] := Eq.mp (congrArg (fun z9 : Int32 => lv_has ls 9 [(4, .int z9), (3, .int ((nB W9 (bdT (R 12) (nI 1)) (thB (R 0) 12) (z + 1)).1)), (0, .ref (ad 0)), (1, .int (nI n0)), (2, .int (nI (thB (R 0) 12))), (5, .int (nI z))]) (show nI z = atV 12 (nB W9 (bdT (R 12) (nI 1)) (thB (R 0) 12) (z + 1)).2 from by rw [e117]; exact (atV_yes (by omega)).symm)) hl
                    refine x_iinc (lv' := [(5, .int (nI (z + 1))), (4, .int (atV 12 (nB W9 (bdT (R 12) (nI 1)) (thB (R 0) 12) (z + 1)).2)), (3, .int ((nB W9 (bdT (R 12) (nI 1)) (thB (R 0) 12) (z + 1)).1)), (0, .ref (ad 0)), (1, .int (nI n0)), (2, .int (nI (thB (R 0) 12)))]) hx hb dX6_night_117 hl (k := 5) rfl (x_inc1 _) (by decide) rfl (fun ls hl => ?_)
                    refine lv_goto (tgt := 41) hx hb dX6_night_120 (by decide) ?_
                    exact ih41 (z + 1) (by omega) (by omega) _ _ hP hD hS _ (lv_sub hl [3, 4, 5, 2, 1, 0] rfl)
                  · refine lv_goto (tgt := 117) hx hb dX6_night_90 (by decide) ?_
                    have e117 : nB W9 (bdT (R 12) (nI 1)) (thB (R 0) 12) (z + 1) = nB W9 (bdT (R 12) (nI 1)) (thB (R 0) 12) z := if_neg (fun q => c_87 q.2.2)
                    have hl : lv_has ls 9 [(0, .ref (ad 0)), (1, .int (nI n0)), (2, .int (nI (thB (R 0) 12))), (3, .int ((nB W9 (bdT (R 12) (nI 1)) (thB (R 0) 12) (z + 1)).1)), (4, .int (atV 12 (nB W9 (bdT (R 12) (nI 1)) (thB (R 0) 12) z).2)), (5, .int (nI z))] := Eq.mp (congrArg (fun z9 : Int32 => lv_has ls 9 [(0, .ref (ad 0)), (1, .int (nI n0)), (2, .int (nI (thB (R 0) 12))), (3, .int z9), (4, .int (atV 12 (nB W9 (bdT (R 12) (nI 1)) (thB (R 0) 12) z).2)), (5, .int (nI z))]) (show (nB W9 (bdT (R 12) (nI 1)) (thB (R 0) 12) z).1 = (nB W9 (bdT (R 12) (nI 1)) (thB (R 0) 12) (z + 1)).1 from by rw [e117])) hl
                    have hl : lv_has ls 9 [(0, .ref (ad 0)), (1, .int (nI n0)), (2, .int (nI (thB (R 0) 12))), (3, .int ((nB W9 (bdT (R 12) (nI 1)) (thB (R 0) 12) (z + 1)).1)), (4, .int (atV 12 (nB W9 (bdT (R 12) (nI 1)) (thB (R 0) 12) (z + 1)).2)), (5, .int (nI z))] := Eq.mp (congrArg (fun z9 : Int32 => lv_has ls 9 [(0, .ref (ad 0)), (1, .int (nI n0)), (2, .int (nI (thB (R 0) 12))), (3, .int ((nB W9 (bdT (R 12) (nI 1)) (thB (R 0) 12) (z + 1)).1)), (4, .int z9), (5, .int (nI z))]) (show atV 12 (nB W9 (bdT (R 12) (nI 1)) (thB (R 0) 12) z).2 = atV 12 (nB W9 (bdT (R 12) (nI 1)) (thB (R 0) 12) (z + 1)).2 from by rw [e117])) hl
                    refine x_iinc (lv' := [(5, .int (nI (z + 1))), (0, .ref (ad 0)), (1, .int (nI n0)), (2, .int (nI (thB (R 0) 12))), (3, .int ((nB W9 (bdT (R 12) (nI 1)) (thB (R 0) 12) (z + 1)).1)), (4, .int (atV 12 (nB W9 (bdT (R 12) (nI 1)) (thB (R 0) 12) (z + 1)).2))]) hx hb dX6_night_117 hl (k := 5) rfl (x_inc1 _) (by decide) rfl (fun ls hl => ?_)
                    refine lv_goto (tgt := 41) hx hb dX6_night_120 (by decide) ?_
                    exact ih41 (z + 1) (by omega) (by omega) _ _ hP hD hS _ (lv_sub hl [1, 2, 3, 4, 5, 0] rfl)
        exact lp41 (12 - 0 + 1) 0 (Nat.lt_succ_self _) (by omega) _ _ hP hD hS _ (lv_sub hl [4, 5, 3, 2, 1, 0] rfl)
      · refine lv_iconst (v := (-1)) hx hb dX6_night_20 (by decide) ?_
        refine x_top (y := aNightR m9 F R so x) (by unfold aNightR aNight; rw [if_neg c_7, if_neg c_13, if_pos c_17]) ?_
        exact W.iret (v := aNightR m9 F R so x) hx hb hr (fun t9 ht9 hW9 => ⟨⟨(F, R), rfl, ⟨fun _ _ _ _ => rfl, fun _ _ _ _ => rfl, fun q => (q.2.2.1 c_17).elim, fun _ => ⟨rfl, rfl⟩⟩, by rw [ht9]; exact hP, hD⟩, hS.F ht9⟩) hS.2.2 dX6_night_21
