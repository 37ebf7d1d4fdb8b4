set_option maxHeartbeats 4000000 in
set_option maxRecDepth 100000 in
theorem c_X6_find (l : Launch) (G : mx_G) (ad : Nat → Nat) (F : Nat → Int32) (R : Nat → Nat → Int32) (n : Nat) (T : Nat → Nat) (gap miss skip : Int32) (hF : F 13 = nI n) (hn : n ≤ 60) (hT : ∀ i, i < n → R 14 i = nI (T i) ∧ T i ≤ 1000000) (hTm : ∀ i k, k < i → i < n → T k < T i) (sz : Nat) : mx_EF l yX6_find wsX6_find 2 43 0 0 G [.ref (ad 0), .int gap, .int miss, .int skip] sz (MW G ad F R) (fun _ : Int32 × (Nat → Int32) × (Nat → Int32) => some (.int (aFind T n gap miss skip))) (fun u : Int32 × (Nat → Int32) × (Nat → Int32) => (okFind gap miss skip n → ∃ cnt, u.1 = nI cnt ∧ cnt ≤ 60 ∧ isFound T gap.toNatClampNeg miss.toNatClampNeg skip.toNatClampNeg n cnt u.2.2) ∧ (¬ okFind gap miss skip n → u.1 = F 16 ∧ u.2.2 = R 17)) (fun u : Int32 × (Nat → Int32) × (Nat → Int32) => MW G ad (va_up F 16 u.1) (va_up (va_up R 15 u.2.1) 17 u.2.2)) := by
  refine Met.ofW (cc := cX6_find) (maxL := 9) (ret := (some .int)) (by decide) rfl ?_
  intro p e s m args below meth c s₁ BB hml hv
  obtain ⟨rfl, ⟨hsz, hP, hD0⟩, hK⟩ := hv
  have hx := BB.exec
  have hb := BB.bytes
  have hr := BB.returns
  have hts := atoms_spec (ws := wsX6_find) BB.pre
  have hown : s.vm.findClass RX6 = some m.cls := findClass_of_methodNamed BB.named
  have hlocks := BB.notSynchronized
  subst hsz
  have hD := hD0.self (sz := s.heap.size)
  have hA : ∀ q : Nat, s.heap.size ≤ q → va_A (MW G ad F R) s.heap.size q := fun q h => Or.inr h
  have hS : va_S (va_A (MW G ad F R) s.heap.size) s.heap s.heap [] := va_S.rf
  have fl141 := hts (.fieldLink RX6 141 "MixDeskModel" "strokes" "I") (by decide +kernel)
  have fl151 := hts (.fieldLink RX6 151 "MixDeskModel" "founds" "I") (by decide +kernel)
  have fl50 := hts (.fieldLink RX6 50 "MixDeskModel" "stroke" "[I") (by decide +kernel)
  have fl53 := hts (.fieldLink RX6 53 "MixDeskModel" "costs" "[I") (by decide +kernel)
  have fl56 := hts (.fieldLink RX6 56 "MixDeskModel" "foundOnes" "[I") (by decide +kernel)
  have inX6 : ∀ w ∈ wsX60, w ∈ wsX6_find := by decide +kernel
  have hl := lv_entry ([.ref (ad 0), .int gap, .int miss, .int skip]) (n := 9) (Nat.le_of_ble_eq_true rfl)
  rw [lg_entry_eq]
  generalize (lg_sl ([.ref (ad 0), .int gap, .int miss, .int skip]) ++ List.replicate (9 - (lg_sl ([.ref (ad 0), .int gap, .int miss, .int skip])).length) Slot.unset).toArray = ls at hl ⊢
  have hl : lv_has ls 9 [(0, .ref (ad 0)), (1, .int gap), (2, .int miss), (3, .int skip)] := hl
  refine lv_iload_n hx hb dX6_find_0 rfl (lv_at hl 1 rfl) ?_
  refine lv_bipush (v := nI 10) hx hb dX6_find_1 (by decide) ?_
  refine lv_icmp_lt (tgt := 42) hx hb dX6_find_3 (by decide) (fun c_3 => ?_) (fun c_3 => ?_)
  · have hno : ¬ (okFind gap miss skip n) := fun q => q.1.1 c_3
    refine lv_iconst (v := (-1)) hx hb dX6_find_42 (by decide) ?_
    refine x_top (y := aFind T n gap miss skip) (by unfold aFind; rw [if_neg hno]) ?_
    exact W.iret (v := aFind T n gap miss skip) hx hb hr (fun t9 ht9 hW9 => ⟨⟨(F 16, R 15, R 17), rfl, ⟨fun q => absurd q hno, fun _ => ⟨rfl, rfl⟩⟩, by rw [ht9]; exact hP, hD⟩, hS.F ht9⟩) hS.2.2 dX6_find_43
  · refine lv_iload_n hx hb dX6_find_6 rfl (lv_at hl 1 rfl) ?_
    refine lv_sipush (v := nI 1000) hx hb dX6_find_7 (by decide) ?_
    refine lv_icmp_gt (tgt := 42) hx hb dX6_find_10 (by decide) (fun c_10 => ?_) (fun c_10 => ?_)
    · have hno : ¬ (okFind gap miss skip n) := fun q => q.1.2 c_10
      refine lv_iconst (v := (-1)) hx hb dX6_find_42 (by decide) ?_
      refine x_top (y := aFind T n gap miss skip) (by unfold aFind; rw [if_neg hno]) ?_
      exact W.iret (v := aFind T n gap miss skip) hx hb hr (fun t9 ht9 hW9 => ⟨⟨(F 16, R 15, R 17), rfl, ⟨fun q => absurd q hno, fun _ => ⟨rfl, rfl⟩⟩, by rw [ht9]; exact hP, hD⟩, hS.F ht9⟩) hS.2.2 dX6_find_43
    · refine lv_iload_n hx hb dX6_find_13 rfl (lv_at hl 2 rfl) ?_
      refine lv_if_lt (tgt := 42) hx hb dX6_find_14 (by decide) (fun c_14 => ?_) (fun c_14 => ?_)
      · have hno : ¬ (okFind gap miss skip n) := fun q => q.2.1.1 c_14
        refine lv_iconst (v := (-1)) hx hb dX6_find_42 (by decide) ?_
        refine x_top (y := aFind T n gap miss skip) (by unfold aFind; rw [if_neg hno]) ?_
        exact W.iret (v := aFind T n gap miss skip) hx hb hr (fun t9 ht9 hW9 => ⟨⟨(F 16, R 15, R 17), rfl, ⟨fun q => absurd q hno, fun _ => ⟨rfl, rfl⟩⟩, by rw [ht9]; exact hP, hD⟩, hS.F ht9⟩) hS.2.2 dX6_find_43
      · refine lv_iload_n hx hb dX6_find_17 rfl (lv_at hl 2 rfl) ?_
        refine lv_sipush (v := nI 10000) hx hb dX6_find_18 (by decide) ?_
        refine lv_icmp_gt (tgt := 42) hx hb dX6_find_21 (by decide) (fun c_21 => ?_) (fun c_21 => ?_)
        · have hno : ¬ (okFind gap miss skip n) := fun q => q.2.1.2 c_21
          refine lv_iconst (v := (-1)) hx hb dX6_find_42 (by decide) ?_
          refine x_top (y := aFind T n gap miss skip) (by unfold aFind; rw [if_neg hno]) ?_
          exact W.iret (v := aFind T n gap miss skip) hx hb hr (fun t9 ht9 hW9 => ⟨⟨(F 16, R 15, R 17), rfl, ⟨fun q => absurd q hno, fun _ => ⟨rfl, rfl⟩⟩, by rw [ht9]; exact hP, hD⟩, hS.F ht9⟩) hS.2.2 dX6_find_43
        · refine lv_iload_n hx hb dX6_find_24 rfl (lv_at hl 3 rfl) ?_
          refine lv_if_lt (tgt := 42) hx hb dX6_find_25 (by decide) (fun c_25 => ?_) (fun c_25 => ?_)
          · have hno : ¬ (okFind gap miss skip n) := fun q => q.2.2.1.1 c_25
            refine lv_iconst (v := (-1)) hx hb dX6_find_42 (by decide) ?_
            refine x_top (y := aFind T n gap miss skip) (by unfold aFind; rw [if_neg hno]) ?_
            exact W.iret (v := aFind T n gap miss skip) hx hb hr (fun t9 ht9 hW9 => ⟨⟨(F 16, R 15, R 17), rfl, ⟨fun q => absurd q hno, fun _ => ⟨rfl, rfl⟩⟩, by rw [ht9]; exact hP, hD⟩, hS.F ht9⟩) hS.2.2 dX6_find_43
          · refine lv_iload_n hx hb dX6_find_28 rfl (lv_at hl 3 rfl) ?_
            refine lv_sipush (v := nI 10000) hx hb dX6_find_29 (by decide) ?_
            refine lv_icmp_gt (tgt := 42) hx hb dX6_find_32 (by decide) (fun c_32 => ?_) (fun c_32 => ?_)
            · have hno : ¬ (okFind gap miss skip n) := fun q => q.2.2.1.2 c_32
              refine lv_iconst (v := (-1)) hx hb dX6_find_42 (by decide) ?_
              refine x_top (y := aFind T n gap miss skip) (by unfold aFind; rw [if_neg hno]) ?_
              exact W.iret (v := aFind T n gap miss skip) hx hb hr (fun t9 ht9 hW9 => ⟨⟨(F 16, R 15, R 17), rfl, ⟨fun q => absurd q hno, fun _ => ⟨rfl, rfl⟩⟩, by rw [ht9]; exact hP, hD⟩, hS.F ht9⟩) hS.2.2 dX6_find_43
            · refine lv_aload_n hx hb dX6_find_35 rfl (lv_at hl 0 rfl) ?_
              refine va_get (D := G.1) (ci := 6) (v := .int (F 13)) (C := RX6) (T := TX6) (N := 36) hx hb hts inX6 hown hK.1 hP 0 rfl rfl 13 (by decide) fl141 (fun _ h9 => h9) rfl dX6_find_36 ?_
              refine x_top (y := nI n) (hF) ?_
              refine x_if_ne (tgt := 44) hx hb (by omega) dX6_find_39 (by decide) (fun c_39 => ?_) (fun c_39 => ?_)
              · have hyes : (okFind gap miss skip n) := ⟨⟨c_3, c_10⟩, ⟨c_14, c_21⟩, ⟨c_25, c_32⟩, c_39⟩
                obtain ⟨gp, hgp, rfl⟩ := le_of (n := 1000) (by omega) (fun q => c_3 (Int32.lt_trans q (by decide))) c_10
                obtain ⟨ms, hms, rfl⟩ := le_of (n := 10000) (by omega) c_14 c_21
                obtain ⟨sk, hsk, rfl⟩ := le_of (n := 10000) (by omega) c_25 c_32
                have hgp0 : 10 ≤ gp := Nat.le_of_not_lt (fun q => c_3 ((nI_ltI (by omega) (by omega)).mpr q))
                have hn0 : 0 < n := Nat.pos_of_ne_zero c_39
                refine lv_aload_n hx hb dX6_find_44 rfl (lv_at hl 0 rfl) ?_
                refine va_get (D := G.1) (ci := 6) (v := .int (F 13)) (C := RX6) (T := TX6) (N := 36) hx hb hts inX6 hown hK.1 hP 0 rfl rfl 13 (by decide) fl141 (fun _ h9 => h9) rfl dX6_find_45 ?_
                refine x_top (y := nI n) (hF) ?_
                refine lv_iconst (v := nI 1) hx hb dX6_find_48 (by decide) ?_
                refine lv_isub hx hb dX6_find_49 ?_
                refine x_top (y := pr n) (pr_sub n) ?_
                refine lv_istore (lv' := [(4, .int (pr n)), (0, .ref (ad 0)), (1, .int (nI gp)), (2, .int (nI ms)), (3, .int (nI sk))]) hx hb dX6_find_50 hl (by decide) rfl (fun ls hl => ?_)
                have lp52 : ∀ (nn : Nat) (r : Nat) (C : Nat → Int32), r < nn → (r ≤ n) → (∀ q, r ≤ q → q < n → C q = (dpC T gp ms sk n) q) → ∀ (H : Heap) (locs : List Loc), va_P G.1 vwCl (MW G ad F (va_up R 15 C)) H → va_D (va_A (MW G ad F R) s.heap.size) (MW G ad F (va_up R 15 C)) → va_S (va_A (MW G ad F R) s.heap.size) s.heap H locs → ∀ ls : Array Slot, lv_has ls 9 [(0, .ref (ad 0)), (1, .int (nI gp)), (2, .int (nI ms)), (3, .int (nI sk)), (4, .int (pr r))] → mx_WE l wsX6_find 2 43 0 0 G p e s m (([.ref (ad 0), .int (nI gp), .int (nI ms), .int (nI sk)] : List Value).toArray) below meth c (MW G ad F R) (fun _ : Int32 × (Nat → Int32) × (Nat → Int32) => some (.int (aFind T n (nI gp) (nI ms) (nI sk)))) (fun u : Int32 × (Nat → Int32) × (Nat → Int32) => (okFind (nI gp) (nI ms) (nI sk) n → ∃ cnt, u.1 = nI cnt ∧ cnt ≤ 60 ∧ isFound T (nI gp).toNatClampNeg (nI ms).toNatClampNeg (nI sk).toNatClampNeg n cnt u.2.2) ∧ (¬ okFind (nI gp) (nI ms) (nI sk) n → u.1 = F 16 ∧ u.2.2 = R 17)) (fun u : Int32 × (Nat → Int32) × (Nat → Int32) => MW G ad (va_up F 16 u.1) (va_up (va_up R 15 u.2.1) 17 u.2.2)) H locs 0 0 (F0 m 52 ls []) := by
                  intro nn
                  induction nn with
                  | zero => intro r C hmu; exact absurd hmu (Nat.not_lt_zero _)
                  | succ nn ih52 =>
                    intro r C hmu hr9 hC H locs hP hD hS ls hl
                    refine lv_iload hx hb dX6_find_52 (lv_at hl 4 rfl) ?_
                    refine lv_if_lt (tgt := 163) hx hb dX6_find_54 (by decide) (fun c_54 => ?_) (fun c_54 => ?_)
                    · obtain rfl : r = 0 := (pr_neg (by omega)).mp c_54
                      have hC0 : ∀ q, q < n → C q = (dpC T gp ms sk n) q := fun q hq => hC q (Nat.zero_le q) hq
                      refine lv_iconst (v := nI 0) hx hb dX6_find_163 (by decide) ?_
                      refine lv_istore (lv' := [(4, .int (nI 0)), (0, .ref (ad 0)), (1, .int (nI gp)), (2, .int (nI ms)), (3, .int (nI sk))]) hx hb dX6_find_164 hl (by decide) rfl (fun ls hl => ?_)
                      refine lv_iconst (v := nI 1) hx hb dX6_find_166 (by decide) ?_
                      refine lv_istore (lv' := [(5, .int (nI 1)), (4, .int (nI 0)), (0, .ref (ad 0)), (1, .int (nI gp)), (2, .int (nI ms)), (3, .int (nI sk))]) hx hb dX6_find_167 hl (by decide) rfl (fun ls hl => ?_)
                      have lp169 : ∀ (nn : Nat) (d : Nat), n - d < nn → (d + 1 ≤ n) → ∀ (H : Heap) (locs : List Loc), va_P G.1 vwCl (MW G ad F (va_up R 15 C)) H → va_D (va_A (MW G ad F R) s.heap.size) (MW G ad F (va_up R 15 C)) → va_S (va_A (MW G ad F R) s.heap.size) s.heap H locs → ∀ ls : Array Slot, lv_has ls 9 [(0, .ref (ad 0)), (1, .int (nI gp)), (2, .int (nI ms)), (3, .int (nI sk)), (4, .int (nI (dpA sk (dpC T gp ms sk n) d))), (5, .int (nI (d + 1)))] → mx_WE l wsX6_find 2 43 0 0 G p e s m (([.ref (ad 0), .int (nI gp), .int (nI ms), .int (nI sk)] : List Value).toArray) below meth c (MW G ad F R) (fun _ : Int32 × (Nat → Int32) × (Nat → Int32) => some (.int (aFind T n (nI gp) (nI ms) (nI sk)))) (fun u : Int32 × (Nat → Int32) × (Nat → Int32) => (okFind (nI gp) (nI ms) (nI sk) n → ∃ cnt, u.1 = nI cnt ∧ cnt ≤ 60 ∧ isFound T (nI gp).toNatClampNeg (nI ms).toNatClampNeg (nI sk).toNatClampNeg n cnt u.2.2) ∧ (¬ okFind (nI gp) (nI ms) (nI sk) n → u.1 = F 16 ∧ u.2.2 = R 17)) (fun u : Int32 × (Nat → Int32) × (Nat → Int32) => MW G ad (va_up F 16 u.1) (va_up (va_up R 15 u.2.1) 17 u.2.2)) H locs 0 0 (F0 m 169 ls []) := by
                        intro nn
                        induction nn with
                        | zero => intro d hmu; exact absurd hmu (Nat.not_lt_zero _)
                        | succ nn ih169 =>
                          intro d hmu hd H locs hP hD hS ls hl
                          refine lv_iload hx hb dX6_find_169 (lv_at hl 5 rfl) ?_
                          refine lv_aload_n hx hb dX6_find_171 rfl (lv_at hl 0 rfl) ?_
                          refine va_get (D := G.1) (ci := 6) (v := .int (F 13)) (C := RX6) (T := TX6) (N := 36) hx hb hts inX6 hown hK.1 hP 0 rfl rfl 13 (by decide) fl141 (fun _ h9 => h9) rfl dX6_find_172 ?_
                          refine x_top (y := nI n) (hF) ?_
                          refine x_icmp_ge (tgt := 215) hx hb (by omega) (by omega) dX6_find_175 (by decide) (fun c_175 => ?_) (fun c_175 => ?_)
                          · have hA := dpA_le sk (dpC T gp ms sk n) (n - 1)
                            have hl : lv_has ls 9 [(0, .ref (ad 0)), (1, .int (nI gp)), (2, .int (nI ms)), (3, .int (nI sk)), (4, .int (nI (dpA sk (dpC T gp ms sk n) (n - 1)))), (5, .int (nI (d + 1)))] := Eq.mp (congrArg (fun z9 : Int32 => lv_has ls 9 [(0, .ref (ad 0)), (1, .int (nI gp)), (2, .int (nI ms)), (3, .int (nI sk)), (4, .int z9), (5, .int (nI (d + 1)))]) (show nI (dpA sk (dpC T gp ms sk n) d) = nI (dpA sk (dpC T gp ms sk n) (n - 1)) from by rw [show d = n - 1 by omega])) hl
                            refine lv_iload_n hx hb dX6_find_215 rfl (lv_at hl 3 rfl) ?_
                            refine lv_iload hx hb dX6_find_216 (lv_at hl 4 rfl) ?_
                            refine x_imul (r := sk * (dpA sk (dpC T gp ms sk n) (n - 1))) hx hb dX6_find_218 (rfl) ?_
                            refine lv_aload_n hx hb dX6_find_219 rfl (lv_at hl 0 rfl) ?_
                            refine va_get (D := G.1) (ci := 6) (v := .ref (ad 16)) (C := RX6) (T := TX6) (N := 36) hx hb hts inX6 hown hK.1 hP 0 rfl rfl 15 (by decide) fl53 (fun _ h9 => h9) rfl dX6_find_220 ?_
                            refine lv_iload hx hb dX6_find_223 (lv_at hl 4 rfl) ?_
                            refine x_iald hx hb hK.1 hP 15 0 (n := 61) (f := C) rfl rfl (k := dpA sk (dpC T gp ms sk n) (n - 1)) (by omega) (by omega) dX6_find_225 ?_
                            refine x_top (y := (dpC T gp ms sk n) (dpA sk (dpC T gp ms sk n) (n - 1))) (hC0 _ (by omega)) ?_
                            refine lv_iadd hx hb dX6_find_226 ?_
                            refine x_top (y := fnV T gp ms sk n) (rfl) ?_
                            refine lv_istore (lv' := [(5, .int (fnV T gp ms sk n)), (0, .ref (ad 0)), (1, .int (nI gp)), (2, .int (nI ms)), (3, .int (nI sk)), (4, .int (nI (dpA sk (dpC T gp ms sk n) (n - 1))))]) hx hb dX6_find_227 hl (by decide) rfl (fun ls hl => ?_)
                            refine lv_aload_n hx hb dX6_find_229 rfl (lv_at hl 1 rfl) ?_
                            refine lv_iconst (v := nI 0) hx hb dX6_find_230 (by decide) ?_
                            refine va_put (D := G.1) (ci := 6) (v := .int (nI 0)) (ty := .int) (C := RX6) (T := TX6) (N := 36) hx hb hts inX6 tyX6 tyX6_ok nmX6 hown hK.1 hP hD hS 0 rfl rfl 16 (by decide) fl151 (fun _ h9 => h9) rfl (by decide +kernel) rfl rfl (Nat.le_of_ble_eq_true rfl) dX6_find_231 (fun H locs hP hD hS => ?_)
                            have hP : va_P G.1 vwCl (MW G ad (va_up F 16 (nI 0)) (va_up R 15 C)) H := hP
                            have hD : va_D _ (MW G ad (va_up F 16 (nI 0)) (va_up R 15 C)) := hD
                            refine lv_iload hx hb dX6_find_234 (lv_at hl 5 rfl) ?_
                            refine x_top (y := atV n (dpCh T gp ms sk n (dpC T gp ms sk n) 0)) ((atV_yes (show dpA sk (dpC T gp ms sk n) (n - 1) < n by omega)).symm) ?_
                            refine lv_istore (lv' := [(6, .int (atV n (dpCh T gp ms sk n (dpC T gp ms sk n) 0))), (5, .int (fnV T gp ms sk n)), (0, .ref (ad 0)), (1, .int (nI gp)), (2, .int (nI ms)), (3, .int (nI sk)), (4, .int (nI (dpA sk (dpC T gp ms sk n) (n - 1))))]) hx hb dX6_find_236 hl (by decide) rfl (fun ls hl => ?_)
                            have lp238 : ∀ (nn : Nat) (f : Nat) (Q : Nat → Int32), n - dpCh T gp ms sk n (dpC T gp ms sk n) f < nn → (∀ i, i < f → dpCh T gp ms sk n (dpC T gp ms sk n) i < n ∧ Q i = nI (dpCh T gp ms sk n (dpC T gp ms sk n) i)) → ∀ (H : Heap) (locs : List Loc), va_P G.1 vwCl (MW G ad (va_up F 16 (nI f)) (va_up (va_up R 15 C) 17 Q)) H → va_D (va_A (MW G ad F R) s.heap.size) (MW G ad (va_up F 16 (nI f)) (va_up (va_up R 15 C) 17 Q)) → va_S (va_A (MW G ad F R) s.heap.size) s.heap H locs → ∀ ls : Array Slot, lv_has ls 9 [(0, .ref (ad 0)), (1, .int (nI gp)), (2, .int (nI ms)), (3, .int (nI sk)), (5, .int (fnV T gp ms sk n)), (6, .int (atV n (dpCh T gp ms sk n (dpC T gp ms sk n) f)))] → mx_WE l wsX6_find 2 43 0 0 G p e s m (([.ref (ad 0), .int (nI gp), .int (nI ms), .int (nI sk)] : List Value).toArray) below meth c (MW G ad F R) (fun _ : Int32 × (Nat → Int32) × (Nat → Int32) => some (.int (aFind T n (nI gp) (nI ms) (nI sk)))) (fun u : Int32 × (Nat → Int32) × (Nat → Int32) => (okFind (nI gp) (nI ms) (nI sk) n → ∃ cnt, u.1 = nI cnt ∧ cnt ≤ 60 ∧ isFound T (nI gp).toNatClampNeg (nI ms).toNatClampNeg (nI sk).toNatClampNeg n cnt u.2.2) ∧ (¬ okFind (nI gp) (nI ms) (nI sk) n → u.1 = F 16 ∧ u.2.2 = R 17)) (fun u : Int32 × (Nat → Int32) × (Nat → Int32) => MW G ad (va_up F 16 u.1) (va_up (va_up R 15 u.2.1) 17 u.2.2)) H locs 0 0 (F0 m 238 ls []) := by
                              intro nn
                              induction nn with
                              | zero => intro f Q hmu; exact absurd hmu (Nat.not_lt_zero _)
                              | succ nn ih238 =>
                                intro f Q hmu hQ H locs hP hD hS ls hl
                                refine lv_iload hx hb dX6_find_238 (lv_at hl 5 rfl) ?_
                                refine lv_iconst (v := (-1)) hx hb dX6_find_240 (by decide) ?_
                                refine lv_icmp_eq (tgt := 354) hx hb dX6_find_241 (by decide) (fun c_241 => ?_) (fun c_241 => ?_)
                                · have hcnt : f ≤ 60 := by
                                    rcases f with _ | f
                                    · omega
                                    · have h1 := dpCh_ge f (fun i hi => (hQ i (by omega)).1); have h2 := (hQ f (by omega)).1; omega
                                  refine lv_iload hx hb dX6_find_354 (lv_at hl 4 rfl) ?_
                                  refine x_top (y := aFind T n (nI gp) (nI ms) (nI sk)) (by unfold aFind; rw [if_pos hyes, nI_clamp (by omega), nI_clamp (by omega), nI_clamp (by omega)]) ?_
                                  exact W.iret (v := aFind T n (nI gp) (nI ms) (nI sk)) hx hb hr (fun t9 ht9 hW9 => ⟨⟨(nI f, C, Q), rfl, ⟨fun _ => ⟨f, rfl, hcnt, by rw [nI_clamp (by omega), nI_clamp (by omega), nI_clamp (by omega)]; exact ⟨(atV_m1 (by omega)).mp c_241, hQ⟩⟩, fun q => absurd hyes q⟩, by rw [ht9]; exact hP, hD⟩, hS.F ht9⟩) hS.2.2 dX6_find_356
                                · have hlt : dpCh T gp ms sk n (dpC T gp ms sk n) f < n := Classical.not_not.mp (fun q => c_241 ((atV_m1 (by omega)).mpr q))
                                  have hfl := dpCh_ge f (fun i hi => (hQ i hi).1)
                                  have hl : lv_has ls 9 [(0, .ref (ad 0)), (1, .int (nI gp)), (2, .int (nI ms)), (3, .int (nI sk)), (5, .int (fnV T gp ms sk n)), (6, .int (nI (dpCh T gp ms sk n (dpC T gp ms sk n) f)))] := Eq.mp (congrArg (fun z9 : Int32 => lv_has ls 9 [(0, .ref (ad 0)), (1, .int (nI gp)), (2, .int (nI ms)), (3, .int (nI sk)), (5, .int (fnV T gp ms sk n)), (6, .int z9)]) (show atV n (dpCh T gp ms sk n (dpC T gp ms sk n) f) = nI (dpCh T gp ms sk n (dpC T gp ms sk n) f) from atV_yes hlt)) hl
                                  refine lv_aload_n hx hb dX6_find_244 rfl (lv_at hl 0 rfl) ?_
                                  refine va_get (D := G.1) (ci := 6) (v := .ref (ad 18)) (C := RX6) (T := TX6) (N := 36) hx hb hts inX6 hown hK.1 hP 0 rfl rfl 17 (by decide) fl56 (fun _ h9 => h9) rfl dX6_find_245 ?_
                                  refine lv_aload_n hx hb dX6_find_248 rfl (lv_at hl 0 rfl) ?_
                                  refine va_get (D := G.1) (ci := 6) (v := .int (nI f)) (C := RX6) (T := TX6) (N := 36) hx hb hts inX6 hown hK.1 hP 0 rfl rfl 16 (by decide) fl151 (fun _ h9 => h9) rfl dX6_find_249 ?_
                                  refine lv_iload hx hb dX6_find_252 (lv_at hl 5 rfl) ?_
                                  refine x_iast hx hb hK.1 hP hD hS 16 0 (n := 60) (f := Q) rfl rfl (k := f) (by omega) (by omega) dX6_find_254 (MW G ad (va_up F 16 (nI f)) (va_up (va_up R 15 C) 17 (upd Q f (nI (dpCh T gp ms sk n (dpC T gp ms sk n) f))))) rfl (fun H locs hP hD hS => ?_)
                                  refine lv_aload_n hx hb dX6_find_255 rfl (lv_at hl 0 rfl) ?_
                                  refine lv_dup hx hb dX6_find_256 rfl ?_
                                  refine va_get (D := G.1) (ci := 6) (v := .int (nI f)) (C := RX6) (T := TX6) (N := 36) hx hb hts inX6 hown hK.1 hP 0 rfl rfl 16 (by decide) fl151 (fun _ h9 => h9) rfl dX6_find_257 ?_
                                  refine lv_iconst (v := nI 1) hx hb dX6_find_260 (by decide) ?_
                                  refine x_iadd (r := f + 1) hx hb dX6_find_261 (rfl) ?_
                                  refine va_put (D := G.1) (ci := 6) (v := .int (nI (f + 1))) (ty := .int) (C := RX6) (T := TX6) (N := 36) hx hb hts inX6 tyX6 tyX6_ok nmX6 hown hK.1 hP hD hS 0 rfl rfl 16 (by decide) fl151 (fun _ h9 => h9) rfl (by decide +kernel) rfl rfl (Nat.le_of_ble_eq_true rfl) dX6_find_262 (fun H locs hP hD hS => ?_)
                                  have hP : va_P G.1 vwCl (MW G ad (va_up F 16 (nI (f + 1))) (va_up (va_up R 15 C) 17 (upd Q f (nI (dpCh T gp ms sk n (dpC T gp ms sk n) f))))) H := hP
                                  have hD : va_D _ (MW G ad (va_up F 16 (nI (f + 1))) (va_up (va_up R 15 C) 17 (upd Q f (nI (dpCh T gp ms sk n (dpC T gp ms sk n) f))))) := hD
                                  refine lv_iconst (v := (-1)) hx hb dX6_find_265 (by decide) ?_
                                  refine x_top (y := nxV (dpP T gp ms sk (dpC T gp ms sk n) (dpCh T gp ms sk n (dpC T gp ms sk n) f)) (dpCh T gp ms sk n (dpC T gp ms sk n) f + 1) 0) (nxV_0) ?_
                                  refine lv_istore (lv' := [(7, .int (nxV (dpP T gp ms sk (dpC T gp ms sk n) (dpCh T gp ms sk n (dpC T gp ms sk n) f)) (dpCh T gp ms sk n (dpC T gp ms sk n) f + 1) 0)), (0, .ref (ad 0)), (1, .int (nI gp)), (2, .int (nI ms)), (3, .int (nI sk)), (5, .int (fnV T gp ms sk n)), (6, .int (nI (dpCh T gp ms sk n (dpC T gp ms sk n) f)))]) hx hb dX6_find_266 hl (by decide) rfl (fun ls hl => ?_)
                                  refine lv_iload hx hb dX6_find_268 (lv_at hl 6 rfl) ?_
                                  refine lv_iconst (v := nI 1) hx hb dX6_find_270 (by decide) ?_
                                  refine x_iadd (r := dpCh T gp ms sk n (dpC T gp ms sk n) f + 1) hx hb dX6_find_271 (rfl) ?_
                                  refine lv_istore (lv' := [(8, .int (nI (dpCh T gp ms sk n (dpC T gp ms sk n) f + 1))), (7, .int (nxV (dpP T gp ms sk (dpC T gp ms sk n) (dpCh T gp ms sk n (dpC T gp ms sk n) f)) (dpCh T gp ms sk n (dpC T gp ms sk n) f + 1) 0)), (0, .ref (ad 0)), (1, .int (nI gp)), (2, .int (nI ms)), (3, .int (nI sk)), (5, .int (fnV T gp ms sk n)), (6, .int (nI (dpCh T gp ms sk n (dpC T gp ms sk n) f)))]) hx hb dX6_find_272 hl (by decide) rfl (fun ls hl => ?_)
                                  have lp274 : ∀ (nn : Nat) (d : Nat), n - (dpCh T gp ms sk n (dpC T gp ms sk n) f + 1 + d) < nn → (dpCh T gp ms sk n (dpC T gp ms sk n) f + 1 + d ≤ n) → ∀ (H : Heap) (locs : List Loc), va_P G.1 vwCl (MW G ad (va_up F 16 (nI (f + 1))) (va_up (va_up R 15 C) 17 (upd Q f (nI (dpCh T gp ms sk n (dpC T gp ms sk n) f))))) H → va_D (va_A (MW G ad F R) s.heap.size) (MW G ad (va_up F 16 (nI (f + 1))) (va_up (va_up R 15 C) 17 (upd Q f (nI (dpCh T gp ms sk n (dpC T gp ms sk n) f))))) → va_S (va_A (MW G ad F R) s.heap.size) s.heap H locs → ∀ ls : Array Slot, lv_has ls 9 [(0, .ref (ad 0)), (1, .int (nI gp)), (2, .int (nI ms)), (3, .int (nI sk)), (5, .int (fnV T gp ms sk n)), (6, .int (nI (dpCh T gp ms sk n (dpC T gp ms sk n) f))), (7, .int (nxV (dpP T gp ms sk (dpC T gp ms sk n) (dpCh T gp ms sk n (dpC T gp ms sk n) f)) (dpCh T gp ms sk n (dpC T gp ms sk n) f + 1) d)), (8, .int (nI (dpCh T gp ms sk n (dpC T gp ms sk n) f + 1 + d)))] → mx_WE l wsX6_find 2 43 0 0 G p e s m (([.ref (ad 0), .int (nI gp), .int (nI ms), .int (nI sk)] : List Value).toArray) below meth c (MW G ad F R) (fun _ : Int32 × (Nat → Int32) × (Nat → Int32) => some (.int (aFind T n (nI gp) (nI ms) (nI sk)))) (fun u : Int32 × (Nat → Int32) × (Nat → Int32) => (okFind (nI gp) (nI ms) (nI sk) n → ∃ cnt, u.1 = nI cnt ∧ cnt ≤ 60 ∧ isFound T (nI gp).toNatClampNeg (nI ms).toNatClampNeg (nI sk).toNatClampNeg n cnt u.2.2) ∧ (¬ okFind (nI gp) (nI ms) (nI sk) n → u.1 = F 16 ∧ u.2.2 = R 17)) (fun u : Int32 × (Nat → Int32) × (Nat → Int32) => MW G ad (va_up F 16 u.1) (va_up (va_up R 15 u.2.1) 17 u.2.2)) H locs 0 0 (F0 m 274 ls []) := by
                                    intro nn
                                    induction nn with
                                    | zero => intro d hmu; exact absurd hmu (Nat.not_lt_zero _)
                                    | succ nn ih274 =>
                                      intro d hmu hd H locs hP hD hS ls hl
                                      refine lv_iload hx hb dX6_find_274 (lv_at hl 7 rfl) ?_
                                      refine lv_aload_n hx hb dX6_find_276 rfl (lv_at hl 0 rfl) ?_
                                      refine va_get (D := G.1) (ci := 6) (v := .int (F 13)) (C := RX6) (T := TX6) (N := 36) hx hb hts inX6 hown hK.1 hP 0 rfl rfl 13 (by decide) fl141 (fun _ h9 => h9) rfl dX6_find_277 ?_
                                      refine x_top (y := nI n) (hF) ?_
                                      refine x_icmp_ge (tgt := 347) hx hb (by omega) (by omega) dX6_find_280 (by decide) (fun c_280 => ?_) (fun c_280 => ?_)
                                      · have hl : lv_has ls 9 [(0, .ref (ad 0)), (1, .int (nI gp)), (2, .int (nI ms)), (3, .int (nI sk)), (5, .int (fnV T gp ms sk n)), (6, .int (nI (dpCh T gp ms sk n (dpC T gp ms sk n) f))), (7, .int (atV n (dpCh T gp ms sk n (dpC T gp ms sk n) (f + 1)))), (8, .int (nI (dpCh T gp ms sk n (dpC T gp ms sk n) f + 1 + d)))] := Eq.mp (congrArg (fun z9 : Int32 => lv_has ls 9 [(0, .ref (ad 0)), (1, .int (nI gp)), (2, .int (nI ms)), (3, .int (nI sk)), (5, .int (fnV T gp ms sk n)), (6, .int (nI (dpCh T gp ms sk n (dpC T gp ms sk n) f))), (7, .int z9), (8, .int (nI (dpCh T gp ms sk n (dpC T gp ms sk n) f + 1 + d)))]) (show nxV (dpP T gp ms sk (dpC T gp ms sk n) (dpCh T gp ms sk n (dpC T gp ms sk n) f)) (dpCh T gp ms sk n (dpC T gp ms sk n) f + 1) d = atV n (dpCh T gp ms sk n (dpC T gp ms sk n) (f + 1)) from nxV_end (by omega))) hl
                                        refine lv_iload hx hb dX6_find_347 (lv_at hl 6 rfl) ?_
                                        refine lv_istore (lv' := [(6, .int (atV n (dpCh T gp ms sk n (dpC T gp ms sk n) (f + 1)))), (0, .ref (ad 0)), (1, .int (nI gp)), (2, .int (nI ms)), (3, .int (nI sk)), (5, .int (fnV T gp ms sk n)), (7, .int (atV n (dpCh T gp ms sk n (dpC T gp ms sk n) (f + 1)))), (8, .int (nI (dpCh T gp ms sk n (dpC T gp ms sk n) f + 1 + d)))]) hx hb dX6_find_349 hl (by decide) rfl (fun ls hl => ?_)
                                        refine lv_goto (tgt := 238) hx hb dX6_find_351 (by decide) ?_
                                        exact ih238 (f + 1) (upd Q f (nI (dpCh T gp ms sk n (dpC T gp ms sk n) f))) (by have h9 := dpN_lt T gp ms sk n (dpC T gp ms sk n) hlt; have h8 : dpCh T gp ms sk n (dpC T gp ms sk n) (f + 1) = dpN T gp ms sk n (dpC T gp ms sk n) (dpCh T gp ms sk n (dpC T gp ms sk n) f) := rfl; omega) (chain_step hQ hlt) _ _ hP hD hS _ (lv_sub hl [1, 2, 3, 4, 5, 0] rfl)
                                      · refine lv_iload hx hb dX6_find_283 (lv_at hl 6 rfl) ?_
                                        refine lv_iconst (v := (-1)) hx hb dX6_find_285 (by decide) ?_
                                        refine lv_icmp_ne (tgt := 347) hx hb dX6_find_286 (by decide) (fun c_286 => ?_) (fun c_286 => ?_)
                                        · have hl : lv_has ls 9 [(0, .ref (ad 0)), (1, .int (nI gp)), (2, .int (nI ms)), (3, .int (nI sk)), (5, .int (fnV T gp ms sk n)), (6, .int (nI (dpCh T gp ms sk n (dpC T gp ms sk n) f))), (7, .int (atV n (dpCh T gp ms sk n (dpC T gp ms sk n) (f + 1)))), (8, .int (nI (dpCh T gp ms sk n (dpC T gp ms sk n) f + 1 + d)))] := Eq.mp (congrArg (fun z9 : Int32 => lv_has ls 9 [(0, .ref (ad 0)), (1, .int (nI gp)), (2, .int (nI ms)), (3, .int (nI sk)), (5, .int (fnV T gp ms sk n)), (6, .int (nI (dpCh T gp ms sk n (dpC T gp ms sk n) f))), (7, .int z9), (8, .int (nI (dpCh T gp ms sk n (dpC T gp ms sk n) f + 1 + d)))]) (show nxV (dpP T gp ms sk (dpC T gp ms sk n) (dpCh T gp ms sk n (dpC T gp ms sk n) f)) (dpCh T gp ms sk n (dpC T gp ms sk n) f + 1) d = atV n (dpCh T gp ms sk n (dpC T gp ms sk n) (f + 1)) from nxV_out (by omega) (by omega) c_286)) hl
                                          refine lv_iload hx hb dX6_find_347 (lv_at hl 6 rfl) ?_
                                          refine lv_istore (lv' := [(6, .int (atV n (dpCh T gp ms sk n (dpC T gp ms sk n) (f + 1)))), (0, .ref (ad 0)), (1, .int (nI gp)), (2, .int (nI ms)), (3, .int (nI sk)), (5, .int (fnV T gp ms sk n)), (7, .int (atV n (dpCh T gp ms sk n (dpC T gp ms sk n) (f + 1)))), (8, .int (nI (dpCh T gp ms sk n (dpC T gp ms sk n) f + 1 + d)))]) hx hb dX6_find_349 hl (by decide) rfl (fun ls hl => ?_)
                                          refine lv_goto (tgt := 238) hx hb dX6_find_351 (by decide) ?_
                                          exact ih238 (f + 1) (upd Q f (nI (dpCh T gp ms sk n (dpC T gp ms sk n) f))) (by have h9 := dpN_lt T gp ms sk n (dpC T gp ms sk n) hlt; have h8 : dpCh T gp ms sk n (dpC T gp ms sk n) (f + 1) = dpN T gp ms sk n (dpC T gp ms sk n) (dpCh T gp ms sk n (dpC T gp ms sk n) f) := rfl; omega) (chain_step hQ hlt) _ _ hP hD hS _ (lv_sub hl [1, 2, 3, 4, 5, 0] rfl)
                                        · have hT1 := hT (dpCh T gp ms sk n (dpC T gp ms sk n) f + 1 + d) (by omega)
                                          have hT2 := hTm (dpCh T gp ms sk n (dpC T gp ms sk n) f + 1 + d) (dpCh T gp ms sk n (dpC T gp ms sk n) f) (by omega) (by omega)
                                          refine lv_aload_n hx hb dX6_find_289 rfl (lv_at hl 0 rfl) ?_
                                          refine va_get (D := G.1) (ci := 6) (v := .ref (ad 15)) (C := RX6) (T := TX6) (N := 36) hx hb hts inX6 hown hK.1 hP 0 rfl rfl 14 (by decide) fl50 (fun _ h9 => h9) rfl dX6_find_290 ?_
                                          refine lv_iload hx hb dX6_find_293 (lv_at hl 7 rfl) ?_
                                          refine x_iald hx hb hK.1 hP 14 0 (n := 60) (f := R 14) rfl rfl (k := dpCh T gp ms sk n (dpC T gp ms sk n) f + 1 + d) (by omega) (by omega) dX6_find_295 ?_
                                          refine x_top (y := nI (T (dpCh T gp ms sk n (dpC T gp ms sk n) f + 1 + d))) ((hT (dpCh T gp ms sk n (dpC T gp ms sk n) f + 1 + d) (by omega)).1) ?_
                                          refine lv_aload_n hx hb dX6_find_296 rfl (lv_at hl 0 rfl) ?_
                                          refine va_get (D := G.1) (ci := 6) (v := .ref (ad 15)) (C := RX6) (T := TX6) (N := 36) hx hb hts inX6 hown hK.1 hP 0 rfl rfl 14 (by decide) fl50 (fun _ h9 => h9) rfl dX6_find_297 ?_
                                          refine lv_iload hx hb dX6_find_300 (lv_at hl 5 rfl) ?_
                                          refine x_iald hx hb hK.1 hP 14 0 (n := 60) (f := R 14) rfl rfl (k := dpCh T gp ms sk n (dpC T gp ms sk n) f) (by omega) (by omega) dX6_find_302 ?_
                                          refine x_top (y := nI (T (dpCh T gp ms sk n (dpC T gp ms sk n) f))) ((hT (dpCh T gp ms sk n (dpC T gp ms sk n) f) (by omega)).1) ?_
                                          refine x_isub (r := T (dpCh T gp ms sk n (dpC T gp ms sk n) f + 1 + d) - T (dpCh T gp ms sk n (dpC T gp ms sk n) f)) hx hb dX6_find_303 (by omega) ?_
                                          refine lv_iload_n hx hb dX6_find_304 rfl (lv_at hl 1 rfl) ?_
                                          refine lv_iload_n hx hb dX6_find_305 rfl (lv_at hl 2 rfl) ?_
                                          refine mx_callRO (v := .int (gapV (T (dpCh T gp ms sk n (dpC T gp ms sk n) f + 1 + d) - T (dpCh T gp ms sk n (dpC T gp ms sk n) f)) gp ms)) (va_runS (As := [.int (nI (T (dpCh T gp ms sk n (dpC T gp ms sk n) f + 1 + d) - T (dpCh T gp ms sk n (dpC T gp ms sk n) f))), .int (nI gp), .int (nI ms)]) (rest := []) ⟨hx, hb, hml, hown, hts⟩ (c_X6_apart l G (T (dpCh T gp ms sk n (dpC T gp ms sk n) f + 1 + d) - T (dpCh T gp ms sk n (dpC T gp ms sk n) f)) gp ms (by omega) (by omega) (by omega)) (va_cwS 3 hts gX6_find_X6_apart rfl rfl rfl (by decide +kernel) ⟨Nat.le_of_ble_eq_true rfl, Nat.le_of_ble_eq_true rfl⟩) (mx_preS hK trivial) rfl rfl hl.1 rfl (lv_room (Nat.le_of_ble_eq_true rfl)) dX6_find_306 ⟨Nat.zero_le _, Nat.zero_le _⟩) ?_
                                          refine lv_iload_n hx hb dX6_find_309 rfl (lv_at hl 3 rfl) ?_
                                          refine lv_iload hx hb dX6_find_310 (lv_at hl 7 rfl) ?_
                                          refine lv_iload hx hb dX6_find_312 (lv_at hl 5 rfl) ?_
                                          refine x_isub (r := dpCh T gp ms sk n (dpC T gp ms sk n) f + 1 + d - dpCh T gp ms sk n (dpC T gp ms sk n) f) hx hb dX6_find_314 (by omega) ?_
                                          refine lv_iconst (v := nI 1) hx hb dX6_find_315 (by decide) ?_
                                          refine x_isub (r := dpCh T gp ms sk n (dpC T gp ms sk n) f + 1 + d - dpCh T gp ms sk n (dpC T gp ms sk n) f - 1) hx hb dX6_find_316 (by omega) ?_
                                          refine x_imul (r := sk * (dpCh T gp ms sk n (dpC T gp ms sk n) f + 1 + d - dpCh T gp ms sk n (dpC T gp ms sk n) f - 1)) hx hb dX6_find_317 (rfl) ?_
                                          refine lv_iadd hx hb dX6_find_318 ?_
                                          refine lv_aload_n hx hb dX6_find_319 rfl (lv_at hl 0 rfl) ?_
                                          refine va_get (D := G.1) (ci := 6) (v := .ref (ad 16)) (C := RX6) (T := TX6) (N := 36) hx hb hts inX6 hown hK.1 hP 0 rfl rfl 15 (by decide) fl53 (fun _ h9 => h9) rfl dX6_find_320 ?_
                                          refine lv_iload hx hb dX6_find_323 (lv_at hl 7 rfl) ?_
                                          refine x_iald hx hb hK.1 hP 15 0 (n := 61) (f := C) rfl rfl (k := dpCh T gp ms sk n (dpC T gp ms sk n) f + 1 + d) (by omega) (by omega) dX6_find_325 ?_
                                          refine x_top (y := (dpC T gp ms sk n) (dpCh T gp ms sk n (dpC T gp ms sk n) f + 1 + d)) (hC0 _ (by omega)) ?_
                                          refine lv_iadd hx hb dX6_find_326 ?_
                                          refine x_top (y := dpV T gp ms sk (dpC T gp ms sk n) (dpCh T gp ms sk n (dpC T gp ms sk n) f) (dpCh T gp ms sk n (dpC T gp ms sk n) f + 1 + d)) (rfl) ?_
                                          refine lv_aload_n hx hb dX6_find_327 rfl (lv_at hl 0 rfl) ?_
                                          refine va_get (D := G.1) (ci := 6) (v := .ref (ad 16)) (C := RX6) (T := TX6) (N := 36) hx hb hts inX6 hown hK.1 hP 0 rfl rfl 15 (by decide) fl53 (fun _ h9 => h9) rfl dX6_find_328 ?_
                                          refine lv_iload hx hb dX6_find_331 (lv_at hl 5 rfl) ?_
                                          refine x_iald hx hb hK.1 hP 15 0 (n := 61) (f := C) rfl rfl (k := dpCh T gp ms sk n (dpC T gp ms sk n) f) (by omega) (by omega) dX6_find_333 ?_
                                          refine x_top (y := (dpC T gp ms sk n) (dpCh T gp ms sk n (dpC T gp ms sk n) f)) (hC0 _ (by omega)) ?_
                                          refine lv_icmp_ne (tgt := 341) hx hb dX6_find_334 (by decide) (fun c_334 => ?_) (fun c_334 => ?_)
                                          · have hl : lv_has ls 9 [(0, .ref (ad 0)), (1, .int (nI gp)), (2, .int (nI ms)), (3, .int (nI sk)), (5, .int (fnV T gp ms sk n)), (6, .int (nI (dpCh T gp ms sk n (dpC T gp ms sk n) f))), (7, .int (nxV (dpP T gp ms sk (dpC T gp ms sk n) (dpCh T gp ms sk n (dpC T gp ms sk n) f)) (dpCh T gp ms sk n (dpC T gp ms sk n) f + 1) (d + 1))), (8, .int (nI (dpCh T gp ms sk n (dpC T gp ms sk n) f + 1 + d)))] := Eq.mp (congrArg (fun z9 : Int32 => lv_has ls 9 [(0, .ref (ad 0)), (1, .int (nI gp)), (2, .int (nI ms)), (3, .int (nI sk)), (5, .int (fnV T gp ms sk n)), (6, .int (nI (dpCh T gp ms sk n (dpC T gp ms sk n) f))), (7, .int z9), (8, .int (nI (dpCh T gp ms sk n (dpC T gp ms sk n) f + 1 + d)))]) (show nxV (dpP T gp ms sk (dpC T gp ms sk n) (dpCh T gp ms sk n (dpC T gp ms sk n) f)) (dpCh T gp ms sk n (dpC T gp ms sk n) f + 1) d = nxV (dpP T gp ms sk (dpC T gp ms sk n) (dpCh T gp ms sk n (dpC T gp ms sk n) f)) (dpCh T gp ms sk n (dpC T gp ms sk n) f + 1) (d + 1) from nxV_stay (by omega) c_286 c_334)) hl
                                            refine x_iinc (lv' := [(8, .int (nI (dpCh T gp ms sk n (dpC T gp ms sk n) f + 1 + d + 1))), (0, .ref (ad 0)), (1, .int (nI gp)), (2, .int (nI ms)), (3, .int (nI sk)), (5, .int (fnV T gp ms sk n)), (6, .int (nI (dpCh T gp ms sk n (dpC T gp ms sk n) f))), (7, .int (nxV (dpP T gp ms sk (dpC T gp ms sk n) (dpCh T gp ms sk n (dpC T gp ms sk n) f)) (dpCh T gp ms sk n (dpC T gp ms sk n) f + 1) (d + 1)))]) hx hb dX6_find_341 hl (k := 7) rfl (x_inc1 _) (by decide) rfl (fun ls hl => ?_)
                                            refine lv_goto (tgt := 274) hx hb dX6_find_344 (by decide) ?_
                                            exact ih274 (d + 1) (by omega) (by omega) _ _ hP hD hS _ (lv_sub hl [1, 2, 3, 4, 5, 6, 7, 0] rfl)
                                          · refine lv_iload hx hb dX6_find_337 (lv_at hl 7 rfl) ?_
                                            refine lv_istore (lv' := [(7, .int (nI (dpCh T gp ms sk n (dpC T gp ms sk n) f + 1 + d))), (0, .ref (ad 0)), (1, .int (nI gp)), (2, .int (nI ms)), (3, .int (nI sk)), (5, .int (fnV T gp ms sk n)), (6, .int (nI (dpCh T gp ms sk n (dpC T gp ms sk n) f))), (8, .int (nI (dpCh T gp ms sk n (dpC T gp ms sk n) f + 1 + d)))]) hx hb dX6_find_339 hl (by decide) rfl (fun ls hl => ?_)
                                            have hl : lv_has ls 9 [(7, .int (nxV (dpP T gp ms sk (dpC T gp ms sk n) (dpCh T gp ms sk n (dpC T gp ms sk n) f)) (dpCh T gp ms sk n (dpC T gp ms sk n) f + 1) (d + 1))), (0, .ref (ad 0)), (1, .int (nI gp)), (2, .int (nI ms)), (3, .int (nI sk)), (5, .int (fnV T gp ms sk n)), (6, .int (nI (dpCh T gp ms sk n (dpC T gp ms sk n) f))), (8, .int (nI (dpCh T gp ms sk n (dpC T gp ms sk n) f + 1 + d)))] := Eq.mp (congrArg (fun z9 : Int32 => lv_has ls 9 [(7, .int z9), (0, .ref (ad 0)), (1, .int (nI gp)), (2, .int (nI ms)), (3, .int (nI sk)), (5, .int (fnV T gp ms sk n)), (6, .int (nI (dpCh T gp ms sk n (dpC T gp ms sk n) f))), (8, .int (nI (dpCh T gp ms sk n (dpC T gp ms sk n) f + 1 + d)))]) (show nI (dpCh T gp ms sk n (dpC T gp ms sk n) f + 1 + d) = nxV (dpP T gp ms sk (dpC T gp ms sk n) (dpCh T gp ms sk n (dpC T gp ms sk n) f)) (dpCh T gp ms sk n (dpC T gp ms sk n) f + 1) (d + 1) from nxV_hit (by omega) c_286 c_334)) hl
                                            refine x_iinc (lv' := [(8, .int (nI (dpCh T gp ms sk n (dpC T gp ms sk n) f + 1 + d + 1))), (7, .int (nxV (dpP T gp ms sk (dpC T gp ms sk n) (dpCh T gp ms sk n (dpC T gp ms sk n) f)) (dpCh T gp ms sk n (dpC T gp ms sk n) f + 1) (d + 1))), (0, .ref (ad 0)), (1, .int (nI gp)), (2, .int (nI ms)), (3, .int (nI sk)), (5, .int (fnV T gp ms sk n)), (6, .int (nI (dpCh T gp ms sk n (dpC T gp ms sk n) f)))]) hx hb dX6_find_341 hl (k := 7) rfl (x_inc1 _) (by decide) rfl (fun ls hl => ?_)
                                            refine lv_goto (tgt := 274) hx hb dX6_find_344 (by decide) ?_
                                            exact ih274 (d + 1) (by omega) (by omega) _ _ hP hD hS _ (lv_sub hl [2, 3, 4, 5, 6, 7, 1, 0] rfl)
                                  exact lp274 (n - (dpCh T gp ms sk n (dpC T gp ms sk n) f + 1 + 0) + 1) 0 (Nat.lt_succ_self _) (by omega) _ _ hP hD hS _ (lv_sub hl [2, 3, 4, 5, 6, 7, 1, 0] rfl)
                            exact lp238 (n - dpCh T gp ms sk n (dpC T gp ms sk n) 0 + 1) 0 (R 17) (Nat.lt_succ_self _) (lt_0) _ _ hP hD hS _ (lv_sub hl [2, 3, 4, 5, 1, 0] rfl)
                          · have hA := dpA_le sk (dpC T gp ms sk n) d
                            refine lv_iload_n hx hb dX6_find_178 rfl (lv_at hl 3 rfl) ?_
                            refine lv_iload hx hb dX6_find_179 (lv_at hl 5 rfl) ?_
                            refine x_imul (r := sk * (d + 1)) hx hb dX6_find_181 (rfl) ?_
                            refine lv_aload_n hx hb dX6_find_182 rfl (lv_at hl 0 rfl) ?_
                            refine va_get (D := G.1) (ci := 6) (v := .ref (ad 16)) (C := RX6) (T := TX6) (N := 36) hx hb hts inX6 hown hK.1 hP 0 rfl rfl 15 (by decide) fl53 (fun _ h9 => h9) rfl dX6_find_183 ?_
                            refine lv_iload hx hb dX6_find_186 (lv_at hl 5 rfl) ?_
                            refine x_iald hx hb hK.1 hP 15 0 (n := 61) (f := C) rfl rfl (k := d + 1) (by omega) (by omega) dX6_find_188 ?_
                            refine x_top (y := (dpC T gp ms sk n) (d + 1)) (hC0 _ (by omega)) ?_
                            refine lv_iadd hx hb dX6_find_189 ?_
                            refine lv_iload_n hx hb dX6_find_190 rfl (lv_at hl 3 rfl) ?_
                            refine lv_iload hx hb dX6_find_191 (lv_at hl 4 rfl) ?_
                            refine x_imul (r := sk * dpA sk (dpC T gp ms sk n) d) hx hb dX6_find_193 (rfl) ?_
                            refine lv_aload_n hx hb dX6_find_194 rfl (lv_at hl 0 rfl) ?_
                            refine va_get (D := G.1) (ci := 6) (v := .ref (ad 16)) (C := RX6) (T := TX6) (N := 36) hx hb hts inX6 hown hK.1 hP 0 rfl rfl 15 (by decide) fl53 (fun _ h9 => h9) rfl dX6_find_195 ?_
                            refine lv_iload hx hb dX6_find_198 (lv_at hl 4 rfl) ?_
                            refine x_iald hx hb hK.1 hP 15 0 (n := 61) (f := C) rfl rfl (k := dpA sk (dpC T gp ms sk n) d) (by omega) (by omega) dX6_find_200 ?_
                            refine x_top (y := (dpC T gp ms sk n) (dpA sk (dpC T gp ms sk n) d)) (hC0 _ (by omega)) ?_
                            refine lv_iadd hx hb dX6_find_201 ?_
                            refine lv_icmp_ge (tgt := 209) hx hb dX6_find_202 (by decide) (fun c_202 => ?_) (fun c_202 => ?_)
                            · have hl : lv_has ls 9 [(0, .ref (ad 0)), (1, .int (nI gp)), (2, .int (nI ms)), (3, .int (nI sk)), (4, .int (nI (dpA sk (dpC T gp ms sk n) (d + 1)))), (5, .int (nI (d + 1)))] := Eq.mp (congrArg (fun z9 : Int32 => lv_has ls 9 [(0, .ref (ad 0)), (1, .int (nI gp)), (2, .int (nI ms)), (3, .int (nI sk)), (4, .int z9), (5, .int (nI (d + 1)))]) (show nI (dpA sk (dpC T gp ms sk n) d) = nI (dpA sk (dpC T gp ms sk n) (d + 1)) from (congrArg nI (if_neg (Int32.not_lt.mpr c_202))).symm)) hl
                              refine x_iinc (lv' := [(5, .int (nI (d + 1 + 1))), (0, .ref (ad 0)), (1, .int (nI gp)), (2, .int (nI ms)), (3, .int (nI sk)), (4, .int (nI (dpA sk (dpC T gp ms sk n) (d + 1))))]) hx hb dX6_find_209 hl (k := 5) rfl (x_inc1 _) (by decide) rfl (fun ls hl => ?_)
                              refine lv_goto (tgt := 169) hx hb dX6_find_212 (by decide) ?_
                              exact ih169 (d + 1) (by omega) (by omega) _ _ hP hD hS _ (lv_sub hl [1, 2, 3, 4, 5, 0] rfl)
                            · refine lv_iload hx hb dX6_find_205 (lv_at hl 5 rfl) ?_
                              refine lv_istore (lv' := [(4, .int (nI (d + 1))), (0, .ref (ad 0)), (1, .int (nI gp)), (2, .int (nI ms)), (3, .int (nI sk)), (5, .int (nI (d + 1)))]) hx hb dX6_find_207 hl (by decide) rfl (fun ls hl => ?_)
                              have hl : lv_has ls 9 [(4, .int (nI (dpA sk (dpC T gp ms sk n) (d + 1)))), (0, .ref (ad 0)), (1, .int (nI gp)), (2, .int (nI ms)), (3, .int (nI sk)), (5, .int (nI (d + 1)))] := Eq.mp (congrArg (fun z9 : Int32 => lv_has ls 9 [(4, .int z9), (0, .ref (ad 0)), (1, .int (nI gp)), (2, .int (nI ms)), (3, .int (nI sk)), (5, .int (nI (d + 1)))]) (show nI (d + 1) = nI (dpA sk (dpC T gp ms sk n) (d + 1)) from (congrArg nI (if_pos (Int32.not_le.mp c_202))).symm)) hl
                              refine x_iinc (lv' := [(5, .int (nI (d + 1 + 1))), (4, .int (nI (dpA sk (dpC T gp ms sk n) (d + 1)))), (0, .ref (ad 0)), (1, .int (nI gp)), (2, .int (nI ms)), (3, .int (nI sk))]) hx hb dX6_find_209 hl (k := 5) rfl (x_inc1 _) (by decide) rfl (fun ls hl => ?_)
                              refine lv_goto (tgt := 169) hx hb dX6_find_212 (by decide) ?_
                              exact ih169 (d + 1) (by omega) (by omega) _ _ hP hD hS _ (lv_sub hl [2, 3, 4, 5, 1, 0] rfl)
                      exact lp169 (n - 0 + 1) 0 (Nat.lt_succ_self _) (by omega) _ _ hP hD hS _ (lv_sub hl [2, 3, 4, 5, 1, 0] rfl)
                    · obtain ⟨k, rfl⟩ : ∃ k, r = k + 1 := ⟨r - 1, by have := mt (pr_neg (r := r) (by omega)).mpr c_54; omega⟩
                      have hl : lv_has ls 9 [(0, .ref (ad 0)), (1, .int (nI gp)), (2, .int (nI ms)), (3, .int (nI sk)), (4, .int (nI k))] := Eq.mp (congrArg (fun z9 : Int32 => lv_has ls 9 [(0, .ref (ad 0)), (1, .int (nI gp)), (2, .int (nI ms)), (3, .int (nI sk)), (4, .int z9)]) (show pr (k + 1) = nI k from pr_succ k)) hl
                      refine lv_aload_n hx hb dX6_find_57 rfl (lv_at hl 0 rfl) ?_
                      refine va_get (D := G.1) (ci := 6) (v := .ref (ad 16)) (C := RX6) (T := TX6) (N := 36) hx hb hts inX6 hown hK.1 hP 0 rfl rfl 15 (by decide) fl53 (fun _ h9 => h9) rfl dX6_find_58 ?_
                      refine lv_iload hx hb dX6_find_61 (lv_at hl 4 rfl) ?_
                      refine lv_iload_n hx hb dX6_find_63 rfl (lv_at hl 3 rfl) ?_
                      refine lv_aload_n hx hb dX6_find_64 rfl (lv_at hl 0 rfl) ?_
                      refine va_get (D := G.1) (ci := 6) (v := .int (F 13)) (C := RX6) (T := TX6) (N := 36) hx hb hts inX6 hown hK.1 hP 0 rfl rfl 13 (by decide) fl141 (fun _ h9 => h9) rfl dX6_find_65 ?_
                      refine x_top (y := nI n) (hF) ?_
                      refine lv_iconst (v := nI 1) hx hb dX6_find_68 (by decide) ?_
                      refine x_isub (r := n - 1) hx hb dX6_find_69 (by omega) ?_
                      refine lv_iload hx hb dX6_find_70 (lv_at hl 4 rfl) ?_
                      refine x_isub (r := n - 1 - k) hx hb dX6_find_72 (by omega) ?_
                      refine x_imul (r := sk * (n - 1 - k)) hx hb dX6_find_73 (rfl) ?_
                      refine x_iast hx hb hK.1 hP hD hS 15 0 (n := 61) (f := C) rfl rfl (k := k) (by omega) (by omega) dX6_find_74 (MW G ad F (va_up R 15 (upd C k (nI (sk * (n - 1 - k)))))) rfl (fun H locs hP hD hS => ?_)
                      refine lv_iload hx hb dX6_find_75 (lv_at hl 4 rfl) ?_
                      refine lv_iconst (v := nI 1) hx hb dX6_find_77 (by decide) ?_
                      refine x_iadd (r := k + 1) hx hb dX6_find_78 (rfl) ?_
                      refine lv_istore (lv' := [(5, .int (nI (k + 1))), (0, .ref (ad 0)), (1, .int (nI gp)), (2, .int (nI ms)), (3, .int (nI sk)), (4, .int (nI k))]) hx hb dX6_find_79 hl (by decide) rfl (fun ls hl => ?_)
                      have lp81 : ∀ (nn : Nat) (d : Nat) (C2 : Nat → Int32), n - (k + 1 + d) < nn → (k + 1 + d ≤ n) → (C2 k = dpS T gp ms sk n (dpC T gp ms sk n) k d) → (∀ q, k < q → q < n → C2 q = (dpC T gp ms sk n) q) → ∀ (H : Heap) (locs : List Loc), va_P G.1 vwCl (MW G ad F (va_up R 15 C2)) H → va_D (va_A (MW G ad F R) s.heap.size) (MW G ad F (va_up R 15 C2)) → va_S (va_A (MW G ad F R) s.heap.size) s.heap H locs → ∀ ls : Array Slot, lv_has ls 9 [(0, .ref (ad 0)), (1, .int (nI gp)), (2, .int (nI ms)), (3, .int (nI sk)), (4, .int (nI k)), (5, .int (nI (k + 1 + d)))] → mx_WE l wsX6_find 2 43 0 0 G p e s m (([.ref (ad 0), .int (nI gp), .int (nI ms), .int (nI sk)] : List Value).toArray) below meth c (MW G ad F R) (fun _ : Int32 × (Nat → Int32) × (Nat → Int32) => some (.int (aFind T n (nI gp) (nI ms) (nI sk)))) (fun u : Int32 × (Nat → Int32) × (Nat → Int32) => (okFind (nI gp) (nI ms) (nI sk) n → ∃ cnt, u.1 = nI cnt ∧ cnt ≤ 60 ∧ isFound T (nI gp).toNatClampNeg (nI ms).toNatClampNeg (nI sk).toNatClampNeg n cnt u.2.2) ∧ (¬ okFind (nI gp) (nI ms) (nI sk) n → u.1 = F 16 ∧ u.2.2 = R 17)) (fun u : Int32 × (Nat → Int32) × (Nat → Int32) => MW G ad (va_up F 16 u.1) (va_up (va_up R 15 u.2.1) 17 u.2.2)) H locs 0 0 (F0 m 81 ls []) := by
                        intro nn
                        induction nn with
                        | zero => intro d C2 hmu; exact absurd hmu (Nat.not_lt_zero _)
                        | succ nn ih81 =>
                          intro d C2 hmu hd hCk hCr H locs hP hD hS ls hl
                          refine lv_iload hx hb dX6_find_81 (lv_at hl 5 rfl) ?_
                          refine lv_aload_n hx hb dX6_find_83 rfl (lv_at hl 0 rfl) ?_
                          refine va_get (D := G.1) (ci := 6) (v := .int (F 13)) (C := RX6) (T := TX6) (N := 36) hx hb hts inX6 hown hK.1 hP 0 rfl rfl 13 (by decide) fl141 (fun _ h9 => h9) rfl dX6_find_84 ?_
                          refine x_top (y := nI n) (hF) ?_
                          refine x_icmp_ge (tgt := 157) hx hb (by omega) (by omega) dX6_find_87 (by decide) (fun c_87 => ?_) (fun c_87 => ?_)
                          · refine lv_iinc (v := pr k) (lv' := [(4, .int (pr k)), (0, .ref (ad 0)), (1, .int (nI gp)), (2, .int (nI ms)), (3, .int (nI sk)), (5, .int (nI (k + 1 + d)))]) hx hb dX6_find_157 hl (k := 4) rfl rfl (by decide) rfl (fun ls hl => ?_)
                            refine lv_goto (tgt := 52) hx hb dX6_find_160 (by decide) ?_
                            exact ih52 k C2 (by omega) (by omega) (fun q h1 h2 => by rcases Nat.lt_or_ge k q with z | z; exact hCr q z h2; rw [show q = k by omega, hCk, show d = n - 1 - k by omega]; exact (dpC_eq (by omega)).symm) _ _ hP hD hS _ (lv_sub hl [1, 2, 3, 4, 0] rfl)
                          · have hT1 := hT (k + 1 + d) (by omega)
                            have hT2 := hTm (k + 1 + d) k (by omega) (by omega)
                            refine lv_aload_n hx hb dX6_find_90 rfl (lv_at hl 0 rfl) ?_
                            refine va_get (D := G.1) (ci := 6) (v := .ref (ad 15)) (C := RX6) (T := TX6) (N := 36) hx hb hts inX6 hown hK.1 hP 0 rfl rfl 14 (by decide) fl50 (fun _ h9 => h9) rfl dX6_find_91 ?_
                            refine lv_iload hx hb dX6_find_94 (lv_at hl 5 rfl) ?_
                            refine x_iald hx hb hK.1 hP 14 0 (n := 60) (f := R 14) rfl rfl (k := k + 1 + d) (by omega) (by omega) dX6_find_96 ?_
                            refine x_top (y := nI (T (k + 1 + d))) ((hT (k + 1 + d) (by omega)).1) ?_
                            refine lv_aload_n hx hb dX6_find_97 rfl (lv_at hl 0 rfl) ?_
                            refine va_get (D := G.1) (ci := 6) (v := .ref (ad 15)) (C := RX6) (T := TX6) (N := 36) hx hb hts inX6 hown hK.1 hP 0 rfl rfl 14 (by decide) fl50 (fun _ h9 => h9) rfl dX6_find_98 ?_
                            refine lv_iload hx hb dX6_find_101 (lv_at hl 4 rfl) ?_
                            refine x_iald hx hb hK.1 hP 14 0 (n := 60) (f := R 14) rfl rfl (k := k) (by omega) (by omega) dX6_find_103 ?_
                            refine x_top (y := nI (T k)) ((hT k (by omega)).1) ?_
                            refine x_isub (r := T (k + 1 + d) - T k) hx hb dX6_find_104 (by omega) ?_
                            refine lv_iload_n hx hb dX6_find_105 rfl (lv_at hl 1 rfl) ?_
                            refine lv_iload_n hx hb dX6_find_106 rfl (lv_at hl 2 rfl) ?_
                            refine mx_callRO (v := .int (gapV (T (k + 1 + d) - T k) gp ms)) (va_runS (As := [.int (nI (T (k + 1 + d) - T k)), .int (nI gp), .int (nI ms)]) (rest := []) ⟨hx, hb, hml, hown, hts⟩ (c_X6_apart l G (T (k + 1 + d) - T k) gp ms (by omega) (by omega) (by omega)) (va_cwS 3 hts gX6_find_X6_apart rfl rfl rfl (by decide +kernel) ⟨Nat.le_of_ble_eq_true rfl, Nat.le_of_ble_eq_true rfl⟩) (mx_preS hK trivial) rfl rfl hl.1 rfl (lv_room (Nat.le_of_ble_eq_true rfl)) dX6_find_107 ⟨Nat.zero_le _, Nat.zero_le _⟩) ?_
                            refine lv_iload_n hx hb dX6_find_110 rfl (lv_at hl 3 rfl) ?_
                            refine lv_iload hx hb dX6_find_111 (lv_at hl 5 rfl) ?_
                            refine lv_iload hx hb dX6_find_113 (lv_at hl 4 rfl) ?_
                            refine x_isub (r := k + 1 + d - k) hx hb dX6_find_115 (by omega) ?_
                            refine lv_iconst (v := nI 1) hx hb dX6_find_116 (by decide) ?_
                            refine x_isub (r := k + 1 + d - k - 1) hx hb dX6_find_117 (by omega) ?_
                            refine x_imul (r := sk * (k + 1 + d - k - 1)) hx hb dX6_find_118 (rfl) ?_
                            refine lv_iadd hx hb dX6_find_119 ?_
                            refine lv_aload_n hx hb dX6_find_120 rfl (lv_at hl 0 rfl) ?_
                            refine va_get (D := G.1) (ci := 6) (v := .ref (ad 16)) (C := RX6) (T := TX6) (N := 36) hx hb hts inX6 hown hK.1 hP 0 rfl rfl 15 (by decide) fl53 (fun _ h9 => h9) rfl dX6_find_121 ?_
                            refine lv_iload hx hb dX6_find_124 (lv_at hl 5 rfl) ?_
                            refine x_iald hx hb hK.1 hP 15 0 (n := 61) (f := C2) rfl rfl (k := k + 1 + d) (by omega) (by omega) dX6_find_126 ?_
                            refine x_top (y := (dpC T gp ms sk n) (k + 1 + d)) (hCr _ (by omega) (by omega)) ?_
                            refine lv_iadd hx hb dX6_find_127 ?_
                            refine x_top (y := dpV T gp ms sk (dpC T gp ms sk n) k (k + 1 + d)) (rfl) ?_
                            refine lv_istore (lv' := [(6, .int (dpV T gp ms sk (dpC T gp ms sk n) k (k + 1 + d))), (0, .ref (ad 0)), (1, .int (nI gp)), (2, .int (nI ms)), (3, .int (nI sk)), (4, .int (nI k)), (5, .int (nI (k + 1 + d)))]) hx hb dX6_find_128 hl (by decide) rfl (fun ls hl => ?_)
                            refine lv_iload hx hb dX6_find_130 (lv_at hl 0 rfl) ?_
                            refine lv_aload_n hx hb dX6_find_132 rfl (lv_at hl 1 rfl) ?_
                            refine va_get (D := G.1) (ci := 6) (v := .ref (ad 16)) (C := RX6) (T := TX6) (N := 36) hx hb hts inX6 hown hK.1 hP 0 rfl rfl 15 (by decide) fl53 (fun _ h9 => h9) rfl dX6_find_133 ?_
                            refine lv_iload hx hb dX6_find_136 (lv_at hl 5 rfl) ?_
                            refine x_iald hx hb hK.1 hP 15 0 (n := 61) (f := C2) rfl rfl (k := k) (by omega) (by omega) dX6_find_138 ?_
                            refine x_top (y := dpS T gp ms sk n (dpC T gp ms sk n) k d) (hCk) ?_
                            refine lv_icmp_ge (tgt := 151) hx hb dX6_find_139 (by decide) (fun c_139 => ?_) (fun c_139 => ?_)
                            · refine x_iinc (lv' := [(5, .int (nI (k + 1 + d + 1))), (6, .int (dpV T gp ms sk (dpC T gp ms sk n) k (k + 1 + d))), (0, .ref (ad 0)), (1, .int (nI gp)), (2, .int (nI ms)), (3, .int (nI sk)), (4, .int (nI k))]) hx hb dX6_find_151 hl (k := 6) rfl (x_inc1 _) (by decide) rfl (fun ls hl => ?_)
                              refine lv_goto (tgt := 81) hx hb dX6_find_154 (by decide) ?_
                              exact ih81 (d + 1) C2 (by omega) (by omega) (hCk.trans (if_neg (Int32.not_lt.mpr c_139)).symm) (hCr) _ _ hP hD hS _ (lv_sub hl [2, 3, 4, 5, 6, 0] rfl)
                            · refine lv_aload_n hx hb dX6_find_142 rfl (lv_at hl 1 rfl) ?_
                              refine va_get (D := G.1) (ci := 6) (v := .ref (ad 16)) (C := RX6) (T := TX6) (N := 36) hx hb hts inX6 hown hK.1 hP 0 rfl rfl 15 (by decide) fl53 (fun _ h9 => h9) rfl dX6_find_143 ?_
                              refine lv_iload hx hb dX6_find_146 (lv_at hl 5 rfl) ?_
                              refine lv_iload hx hb dX6_find_148 (lv_at hl 0 rfl) ?_
                              refine x_iast hx hb hK.1 hP hD hS 15 0 (n := 61) (f := C2) rfl rfl (k := k) (by omega) (by omega) dX6_find_150 (MW G ad F (va_up R 15 (upd C2 k (dpV T gp ms sk (dpC T gp ms sk n) k (k + 1 + d))))) rfl (fun H locs hP hD hS => ?_)
                              refine x_iinc (lv' := [(5, .int (nI (k + 1 + d + 1))), (6, .int (dpV T gp ms sk (dpC T gp ms sk n) k (k + 1 + d))), (0, .ref (ad 0)), (1, .int (nI gp)), (2, .int (nI ms)), (3, .int (nI sk)), (4, .int (nI k))]) hx hb dX6_find_151 hl (k := 6) rfl (x_inc1 _) (by decide) rfl (fun ls hl => ?_)
                              refine lv_goto (tgt := 81) hx hb dX6_find_154 (by decide) ?_
                              exact ih81 (d + 1) (upd C2 k (dpV T gp ms sk (dpC T gp ms sk n) k (k + 1 + d))) (by omega) (by omega) (by unfold upd; rw [if_pos rfl]; exact (if_pos (Int32.not_le.mp c_139)).symm) (fun q h1 h2 => by unfold upd; rw [if_neg (by omega)]; exact hCr q h1 h2) _ _ hP hD hS _ (lv_sub hl [2, 3, 4, 5, 6, 0] rfl)
                      exact lp81 (n - (k + 1 + 0) + 1) 0 (upd C k (nI (sk * (n - 1 - k)))) (Nat.lt_succ_self _) (by omega) (by unfold upd; rw [if_pos rfl]; rfl) (fun q h1 h2 => by unfold upd; rw [if_neg (by omega)]; exact hC q (by omega) h2) _ _ hP hD hS _ (lv_sub hl [1, 2, 3, 4, 5, 0] rfl)
                exact lp52 (n + 1) n (R 15) (Nat.lt_succ_self _) (by omega) (fun q h1 h2 => absurd h2 (by omega)) _ _ hP hD hS _ (lv_sub hl [1, 2, 3, 4, 0] rfl)
              · have hno : ¬ (okFind gap miss skip n) := fun q => q.2.2.2 c_39
                refine lv_iconst (v := (-1)) hx hb dX6_find_42 (by decide) ?_
                refine x_top (y := aFind T n gap miss skip) (by unfold aFind; rw [if_neg hno]) ?_
                exact W.iret (v := aFind T n gap miss skip) hx hb hr (fun t9 ht9 hW9 => ⟨⟨(F 16, R 15, R 17), rfl, ⟨fun q => absurd q hno, fun _ => ⟨rfl, rfl⟩⟩, by rw [ht9]; exact hP, hD⟩, hS.F ht9⟩) hS.2.2 dX6_find_43
