set_option maxHeartbeats 4000000 in
set_option maxRecDepth 100000 in
theorem c_X6_forgets (l : Launch) (G : mx_G) (ad : Nat → Nat) (F : Nat → Int32) (R : Nat → Nat → Int32) (j : Nat) (hs : j < 12) (sz : Nat) : mx_EF l yX6_forgets wsX6_forgets 0 0 0 0 G [.ref (ad 0), .int (nI j)] sz (MW G ad F R) (fun _ : Nat → Int32 => none) (fun M : Nat → Int32 => ∀ i, i < 144 → M i = clrM (R 12) j i) (fun M : Nat → Int32 => MW G ad F (va_up R 12 M)) := by
  refine Met.ofW (cc := cX6_forgets) (maxL := 3) (ret := none) (by decide) rfl ?_
  intro p e s m args below meth c s₁ BB hml hv
  obtain ⟨rfl, ⟨hsz, hP, hD0⟩, hK⟩ := hv
  have hx := BB.exec
  have hb := BB.bytes
  have hr := BB.returns
  have hts := atoms_spec (ws := wsX6_forgets) BB.pre
  have hown : s.vm.findClass RX6 = some m.cls := findClass_of_methodNamed BB.named
  have hlocks := BB.notSynchronized
  subst hsz
  have hD := hD0.self (sz := s.heap.size)
  have hA : ∀ q : Nat, s.heap.size ≤ q → va_A (MW G ad F R) s.heap.size q := fun q h => Or.inr h
  have hS : va_S (va_A (MW G ad F R) s.heap.size) s.heap s.heap [] := va_S.rf
  have fl47 := hts (.fieldLink RX6 47 "MixDeskModel" "musts" "[I") (by decide +kernel)
  have inX6 : ∀ w ∈ wsX60, w ∈ wsX6_forgets := by decide +kernel
  have hl := lv_entry ([.ref (ad 0), .int (nI j)]) (n := 3) (Nat.le_of_ble_eq_true rfl)
  rw [lg_entry_eq]
  generalize (lg_sl ([.ref (ad 0), .int (nI j)]) ++ List.replicate (3 - (lg_sl ([.ref (ad 0), .int (nI j)])).length) Slot.unset).toArray = ls at hl ⊢
  have hl : lv_has ls 3 [(0, .ref (ad 0)), (1, .int (nI j))] := hl
  refine lv_iconst (v := nI 0) hx hb dX6_forgets_0 (by decide) ?_
  refine lv_istore_n (lv' := [(2, .int (nI 0)), (0, .ref (ad 0)), (1, .int (nI j))]) hx hb dX6_forgets_1 rfl hl (by decide) rfl (fun ls hl => ?_)
  have lp2 : ∀ (nn : Nat) (k : Nat) (M : Nat → Int32), 12 - k < nn → (k ≤ 12) → (∀ i, i < 144 → M i = if (i / 12 = j ∧ i % 12 < k) ∨ (i % 12 = j ∧ i / 12 < k) then nI 0 else R 12 i) → ∀ (H : Heap) (locs : List Loc), va_P G.1 vwCl (MW G ad F (va_up R 12 M)) H → va_D (va_A (MW G ad F R) s.heap.size) (MW G ad F (va_up R 12 M)) → va_S (va_A (MW G ad F R) s.heap.size) s.heap H locs → ∀ ls : Array Slot, lv_has ls 3 [(0, .ref (ad 0)), (1, .int (nI j)), (2, .int (nI k))] → mx_WE l wsX6_forgets 0 0 0 0 G p e s m (([.ref (ad 0), .int (nI j)] : List Value).toArray) below meth c (MW G ad F R) (fun _ : Nat → Int32 => none) (fun M : Nat → Int32 => ∀ i, i < 144 → M i = clrM (R 12) j i) (fun M : Nat → Int32 => MW G ad F (va_up R 12 M)) H locs 0 0 (F0 m 2 ls []) := by
    intro nn
    induction nn with
    | zero => intro k M hmu; exact absurd hmu (Nat.not_lt_zero _)
    | succ nn ih2 =>
      intro k M hmu hk hM H locs hP hD hS ls hl
      refine lv_iload_n hx hb dX6_forgets_2 rfl (lv_at hl 2 rfl) ?_
      refine lv_bipush (v := nI 12) hx hb dX6_forgets_3 (by decide) ?_
      refine x_icmp_ge (tgt := 38) hx hb (by omega) (by omega) dX6_forgets_5 (by decide) (fun c_5 => ?_) (fun c_5 => ?_)
      · exact W.vret hx hb hr (fun t9 ht9 hW9 => ⟨⟨M, rfl, fun i hi => by rw [hM i hi]; exact forg_end (show k = 12 by omega) hi, by rw [ht9]; exact hP, hD⟩, hS.F ht9⟩) hS.2.2 dX6_forgets_38
      · refine lv_aload_n hx hb dX6_forgets_8 rfl (lv_at hl 0 rfl) ?_
        refine va_get (D := G.1) (ci := 6) (v := .ref (ad 13)) (C := RX6) (T := TX6) (N := 36) hx hb hts inX6 hown hK.1 hP 0 rfl rfl 12 (by decide) fl47 (fun _ h9 => h9) rfl dX6_forgets_9 ?_
        refine lv_bipush (v := nI 12) hx hb dX6_forgets_12 (by decide) ?_
        refine lv_iload_n hx hb dX6_forgets_14 rfl (lv_at hl 1 rfl) ?_
        refine x_imul (r := 12 * j) hx hb dX6_forgets_15 (rfl) ?_
        refine lv_iload_n hx hb dX6_forgets_16 rfl (lv_at hl 2 rfl) ?_
        refine x_iadd (r := 12 * j + k) hx hb dX6_forgets_17 (rfl) ?_
        refine lv_iconst (v := nI 0) hx hb dX6_forgets_18 (by decide) ?_
        refine x_iast hx hb hK.1 hP hD hS 13 0 (n := 144) (f := M) rfl rfl (k := 12 * j + k) (by omega) (by omega) dX6_forgets_19 (MW G ad F (va_up R 12 (upd M (12 * j + k) (nI 0)))) rfl (fun H locs hP hD hS => ?_)
        refine lv_aload_n hx hb dX6_forgets_20 rfl (lv_at hl 0 rfl) ?_
        refine va_get (D := G.1) (ci := 6) (v := .ref (ad 13)) (C := RX6) (T := TX6) (N := 36) hx hb hts inX6 hown hK.1 hP 0 rfl rfl 12 (by decide) fl47 (fun _ h9 => h9) rfl dX6_forgets_21 ?_
        refine lv_bipush (v := nI 12) hx hb dX6_forgets_24 (by decide) ?_
        refine lv_iload_n hx hb dX6_forgets_26 rfl (lv_at hl 2 rfl) ?_
        refine x_imul (r := 12 * k) hx hb dX6_forgets_27 (rfl) ?_
        refine lv_iload_n hx hb dX6_forgets_28 rfl (lv_at hl 1 rfl) ?_
        refine x_iadd (r := 12 * k + j) hx hb dX6_forgets_29 (rfl) ?_
        refine lv_iconst (v := nI 0) hx hb dX6_forgets_30 (by decide) ?_
        refine x_iast hx hb hK.1 hP hD hS 13 0 (n := 144) (f := upd M (12 * j + k) (nI 0)) rfl rfl (k := 12 * k + j) (by omega) (by omega) dX6_forgets_31 (MW G ad F (va_up R 12 (upd (upd M (12 * j + k) (nI 0)) (12 * k + j) (nI 0)))) rfl (fun H locs hP hD hS => ?_)
        refine x_iinc (lv' := [(2, .int (nI (k + 1))), (0, .ref (ad 0)), (1, .int (nI j))]) hx hb dX6_forgets_32 hl (k := 2) rfl (x_inc1 _) (by decide) rfl (fun ls hl => ?_)
        refine lv_goto (tgt := 2) hx hb dX6_forgets_35 (by decide) ?_
        exact ih2 (k + 1) (upd (upd M (12 * j + k) (nI 0)) (12 * k + j) (nI 0)) (by omega) (by omega) (forg_step hs (by omega) hM) _ _ hP hD hS _ (lv_sub hl [1, 2, 0] rfl)
  exact lp2 (12 - 0 + 1) 0 (R 12) (Nat.lt_succ_self _) (by omega) (fun i hi => by rw [if_neg (by omega)]) _ _ hP hD hS _ (lv_sub hl [1, 2, 0] rfl)

set_option maxHeartbeats 4000000 in
set_option maxRecDepth 100000 in
theorem c_X6_about (l : Launch) (G : mx_G) (ad : Nat → Nat) (F : Nat → Int32) (R : Nat → Nat → Int32) (so : So) (x k h ph : Int32) (hall : moAll R so) (sz : Nat) : mx_EF l yX6_about wsX6_about 1 21 0 0 G [.ref (ad 0), .int x, .int k, .int h, .int ph] sz (MW G ad F R) (fun _ : Nat → Nat → Int32 => some (.int (sAns so x (pAbout k h ph)))) (fun U : Nat → Nat → Int32 => moAll U (sUpd so x (pAbout k h ph) (fAbout k h ph)) ∧ ∀ i, 12 ≤ i → U i = R i) (fun U : Nat → Nat → Int32 => MW G ad F U) := by
  refine Met.ofW (cc := cX6_about) (maxL := 5) (ret := (some .boolean)) (by decide) rfl ?_
  intro p e s m args below meth c s₁ BB hml hv
  obtain ⟨rfl, ⟨hsz, hP, hD0⟩, hK⟩ := hv
  have hx := BB.exec
  have hb := BB.bytes
  have hr := BB.returns
  have hts := atoms_spec (ws := wsX6_about) BB.pre
  have hown : s.vm.findClass RX6 = some m.cls := findClass_of_methodNamed BB.named
  have hlocks := BB.notSynchronized
  subst hsz
  have hD := hD0.self (sz := s.heap.size)
  have hA : ∀ q : Nat, s.heap.size ≤ q → va_A (MW G ad F R) s.heap.size q := fun q h => Or.inr h
  have hS : va_S (va_A (MW G ad F R) s.heap.size) s.heap s.heap [] := va_S.rf
  have fl26 := hts (.fieldLink RX6 26 "MixDeskModel" "key" "[I") (by decide +kernel)
  have fl29 := hts (.fieldLink RX6 29 "MixDeskModel" "heat" "[I") (by decide +kernel)
  have fl32 := hts (.fieldLink RX6 32 "MixDeskModel" "phrase" "[I") (by decide +kernel)
  have inX6 : ∀ w ∈ wsX60, w ∈ wsX6_about := by decide +kernel
  have hl := lv_entry ([.ref (ad 0), .int x, .int k, .int h, .int ph]) (n := 5) (Nat.le_of_ble_eq_true rfl)
  rw [lg_entry_eq]
  generalize (lg_sl ([.ref (ad 0), .int x, .int k, .int h, .int ph]) ++ List.replicate (5 - (lg_sl ([.ref (ad 0), .int x, .int k, .int h, .int ph])).length) Slot.unset).toArray = ls at hl ⊢
  have hl : lv_has ls 5 [(0, .ref (ad 0)), (1, .int x), (2, .int k), (3, .int h), (4, .int ph)] := hl
  refine lv_aload_n hx hb dX6_about_0 rfl (lv_at hl 0 rfl) ?_
  refine lv_iload_n hx hb dX6_about_1 rfl (lv_at hl 1 rfl) ?_
  refine mx_callRO (v := .int (isSongV R x)) (va_runV (As := [.int x]) (rest := []) ⟨hx, hb, hml, hown, hts⟩ (c_X6_isSong l G ad F R x) (cwV 1 hts gX6_about_X6_isSong rfl rfl rfl (by decide +kernel) ⟨Nat.le_of_ble_eq_true rfl, Nat.le_of_ble_eq_true rfl⟩) (mx_preV hK hP (va_recv hK.1 hP (ci := 6) (q0 := 0) rfl rfl)) rfl rfl hl.1 rfl (lv_room (Nat.le_of_ble_eq_true rfl)) dX6_about_2 ⟨Nat.zero_le _, Nat.zero_le _⟩) ?_
  refine lv_if_eq (tgt := 41) hx hb dX6_about_5 (by decide) (fun c_5 => ?_) (fun c_5 => ?_)
  · refine lv_iconst (v := nI 0) hx hb dX6_about_41 (by decide) ?_
    refine x_top (y := sAns so x (pAbout k h ph)) (sAns_none (song_no hall c_5)) ?_
    exact W.zret (v := sAns so x (pAbout k h ph)) hx hb hr (sAns_n) (fun t9 ht9 hW9 => ⟨⟨R, rfl, ⟨by rw [sUpd_none (song_no hall c_5)]; exact hall, fun _ _ => rfl⟩, by rw [ht9]; exact hP, hD⟩, hS.F ht9⟩) hS.2.2 dX6_about_42
  · obtain ⟨j, σ, rfl, hs, hso, hσ, hth, hm, ok⟩ := song_of hall c_5
    obtain ⟨m1, m2, m3, m4, m5, m6, m7, m8, m9, m10, m11⟩ := id hm
    obtain ⟨hB2, hB64, hAE, hEB, hT1, hT4, hPB, hP1, hP16, hC, hst, hmo⟩ := id ok
    refine lv_iload_n hx hb dX6_about_8 rfl (lv_at hl 2 rfl) ?_
    refine lv_if_lt (tgt := 41) hx hb dX6_about_9 (by decide) (fun c_9 => ?_) (fun c_9 => ?_)
    · have hno : ¬ (pAbout k h ph) σ = true := nd (fun q => q.1.1 c_9)
      refine lv_iconst (v := nI 0) hx hb dX6_about_41 (by decide) ?_
      refine x_top (y := sAns so (nI j) (pAbout k h ph)) (sAns_no hσ hno) ?_
      exact W.zret (v := sAns so (nI j) (pAbout k h ph)) hx hb hr (sAns_n) (fun t9 ht9 hW9 => ⟨⟨R, rfl, ⟨by rw [sUpd_no hσ hno]; exact hall, fun _ _ => rfl⟩, by rw [ht9]; exact hP, hD⟩, hS.F ht9⟩) hS.2.2 dX6_about_42
    · refine lv_iload_n hx hb dX6_about_12 rfl (lv_at hl 2 rfl) ?_
      refine lv_bipush (v := nI 23) hx hb dX6_about_13 (by decide) ?_
      refine lv_icmp_gt (tgt := 41) hx hb dX6_about_15 (by decide) (fun c_15 => ?_) (fun c_15 => ?_)
      · have hno : ¬ (pAbout k h ph) σ = true := nd (fun q => q.1.2 c_15)
        refine lv_iconst (v := nI 0) hx hb dX6_about_41 (by decide) ?_
        refine x_top (y := sAns so (nI j) (pAbout k h ph)) (sAns_no hσ hno) ?_
        exact W.zret (v := sAns so (nI j) (pAbout k h ph)) hx hb hr (sAns_n) (fun t9 ht9 hW9 => ⟨⟨R, rfl, ⟨by rw [sUpd_no hσ hno]; exact hall, fun _ _ => rfl⟩, by rw [ht9]; exact hP, hD⟩, hS.F ht9⟩) hS.2.2 dX6_about_42
      · refine lv_iload_n hx hb dX6_about_18 rfl (lv_at hl 3 rfl) ?_
        refine lv_if_lt (tgt := 41) hx hb dX6_about_19 (by decide) (fun c_19 => ?_) (fun c_19 => ?_)
        · have hno : ¬ (pAbout k h ph) σ = true := nd (fun q => q.2.1.1 c_19)
          refine lv_iconst (v := nI 0) hx hb dX6_about_41 (by decide) ?_
          refine x_top (y := sAns so (nI j) (pAbout k h ph)) (sAns_no hσ hno) ?_
          exact W.zret (v := sAns so (nI j) (pAbout k h ph)) hx hb hr (sAns_n) (fun t9 ht9 hW9 => ⟨⟨R, rfl, ⟨by rw [sUpd_no hσ hno]; exact hall, fun _ _ => rfl⟩, by rw [ht9]; exact hP, hD⟩, hS.F ht9⟩) hS.2.2 dX6_about_42
        · refine lv_iload_n hx hb dX6_about_22 rfl (lv_at hl 3 rfl) ?_
          refine lv_bipush (v := nI 9) hx hb dX6_about_23 (by decide) ?_
          refine lv_icmp_gt (tgt := 41) hx hb dX6_about_25 (by decide) (fun c_25 => ?_) (fun c_25 => ?_)
          · have hno : ¬ (pAbout k h ph) σ = true := nd (fun q => q.2.1.2 c_25)
            refine lv_iconst (v := nI 0) hx hb dX6_about_41 (by decide) ?_
            refine x_top (y := sAns so (nI j) (pAbout k h ph)) (sAns_no hσ hno) ?_
            exact W.zret (v := sAns so (nI j) (pAbout k h ph)) hx hb hr (sAns_n) (fun t9 ht9 hW9 => ⟨⟨R, rfl, ⟨by rw [sUpd_no hσ hno]; exact hall, fun _ _ => rfl⟩, by rw [ht9]; exact hP, hD⟩, hS.F ht9⟩) hS.2.2 dX6_about_42
          · refine lv_iload hx hb dX6_about_28 (lv_at hl 4 rfl) ?_
            refine lv_iconst (v := nI 1) hx hb dX6_about_30 (by decide) ?_
            refine lv_icmp_lt (tgt := 41) hx hb dX6_about_31 (by decide) (fun c_31 => ?_) (fun c_31 => ?_)
            · have hno : ¬ (pAbout k h ph) σ = true := nd (fun q => q.2.2.1 c_31)
              refine lv_iconst (v := nI 0) hx hb dX6_about_41 (by decide) ?_
              refine x_top (y := sAns so (nI j) (pAbout k h ph)) (sAns_no hσ hno) ?_
              exact W.zret (v := sAns so (nI j) (pAbout k h ph)) hx hb hr (sAns_n) (fun t9 ht9 hW9 => ⟨⟨R, rfl, ⟨by rw [sUpd_no hσ hno]; exact hall, fun _ _ => rfl⟩, by rw [ht9]; exact hP, hD⟩, hS.F ht9⟩) hS.2.2 dX6_about_42
            · refine lv_iload hx hb dX6_about_34 (lv_at hl 4 rfl) ?_
              refine lv_bipush (v := nI 16) hx hb dX6_about_36 (by decide) ?_
              refine lv_icmp_le (tgt := 43) hx hb dX6_about_38 (by decide) (fun c_38 => ?_) (fun c_38 => ?_)
              · have hyes : (pAbout k h ph) σ = true := decide_eq_true (⟨⟨c_9, c_15⟩, ⟨c_19, c_25⟩, c_31, Int32.not_lt.mpr c_38⟩)
                refine lv_aload_n hx hb dX6_about_43 rfl (lv_at hl 0 rfl) ?_
                refine va_get (D := G.1) (ci := 6) (v := .ref (ad 6)) (C := RX6) (T := TX6) (N := 36) hx hb hts inX6 hown hK.1 hP 0 rfl rfl 5 (by decide) fl26 (fun _ h9 => h9) rfl dX6_about_44 ?_
                refine lv_iload_n hx hb dX6_about_47 rfl (lv_at hl 1 rfl) ?_
                refine lv_iload_n hx hb dX6_about_48 rfl (lv_at hl 2 rfl) ?_
                refine x_iast hx hb hK.1 hP hD hS 6 0 (n := 12) (f := R 5) rfl rfl (k := j) (by omega) (by omega) dX6_about_49 (MW G ad F (va_up R 5 (upd (R 5) j k))) rfl (fun H locs hP hD hS => ?_)
                refine lv_aload_n hx hb dX6_about_50 rfl (lv_at hl 0 rfl) ?_
                refine va_get (D := G.1) (ci := 6) (v := .ref (ad 7)) (C := RX6) (T := TX6) (N := 36) hx hb hts inX6 hown hK.1 hP 0 rfl rfl 6 (by decide) fl29 (fun _ h9 => h9) rfl dX6_about_51 ?_
                refine lv_iload_n hx hb dX6_about_54 rfl (lv_at hl 1 rfl) ?_
                refine lv_iload_n hx hb dX6_about_55 rfl (lv_at hl 3 rfl) ?_
                refine x_iast hx hb hK.1 hP hD hS 7 0 (n := 12) (f := R 6) rfl rfl (k := j) (by omega) (by omega) dX6_about_56 (MW G ad F (va_up (va_up R 5 (upd (R 5) j k)) 6 (upd (R 6) j h))) rfl (fun H locs hP hD hS => ?_)
                refine lv_aload_n hx hb dX6_about_57 rfl (lv_at hl 0 rfl) ?_
                refine va_get (D := G.1) (ci := 6) (v := .ref (ad 8)) (C := RX6) (T := TX6) (N := 36) hx hb hts inX6 hown hK.1 hP 0 rfl rfl 7 (by decide) fl32 (fun _ h9 => h9) rfl dX6_about_58 ?_
                refine lv_iload_n hx hb dX6_about_61 rfl (lv_at hl 1 rfl) ?_
                refine lv_iload hx hb dX6_about_62 (lv_at hl 4 rfl) ?_
                refine x_iast hx hb hK.1 hP hD hS 8 0 (n := 12) (f := R 7) rfl rfl (k := j) (by omega) (by omega) dX6_about_64 (MW G ad F (va_up (va_up (va_up R 5 (upd (R 5) j k)) 6 (upd (R 6) j h)) 7 (upd (R 7) j ph))) rfl (fun H locs hP hD hS => ?_)
                refine lv_iconst (v := nI 1) hx hb dX6_about_65 (by decide) ?_
                refine x_top (y := sAns so (nI j) (pAbout k h ph)) (sAns_yes hσ hyes) ?_
                exact W.zret (v := sAns so (nI j) (pAbout k h ph)) hx hb hr (sAns_n) (fun t9 ht9 hW9 => ⟨⟨va_up (va_up (va_up R 5 (upd (R 5) j k)) 6 (upd (R 6) j h)) 7 (upd (R 7) j ph), rfl, ⟨by rw [sUpd_yes hs hσ hyes]; exact about_mo2 hall hth hm ok hyes, fun i hi => by simp only [va_up]; (repeat rw [if_neg (by omega)])⟩, by rw [ht9]; exact hP, hD⟩, hS.F ht9⟩) hS.2.2 dX6_about_66
              · have hno : ¬ (pAbout k h ph) σ = true := nd (fun q => q.2.2.2 (Int32.not_le.mp c_38))
                refine lv_iconst (v := nI 0) hx hb dX6_about_41 (by decide) ?_
                refine x_top (y := sAns so (nI j) (pAbout k h ph)) (sAns_no hσ hno) ?_
                exact W.zret (v := sAns so (nI j) (pAbout k h ph)) hx hb hr (sAns_n) (fun t9 ht9 hW9 => ⟨⟨R, rfl, ⟨by rw [sUpd_no hσ hno]; exact hall, fun _ _ => rfl⟩, by rw [ht9]; exact hP, hD⟩, hS.F ht9⟩) hS.2.2 dX6_about_42

set_option maxHeartbeats 4000000 in
set_option maxRecDepth 100000 in
theorem c_X6_bar (l : Launch) (G : mx_G) (ad : Nat → Nat) (F : Nat → Int32) (R : Nat → Nat → Int32) (so : So) (x b n : Int32) (hall : moAll R so) (sz : Nat) : mx_EF l yX6_bar wsX6_bar 1 21 0 0 G [.ref (ad 0), .int x, .int b, .int n] sz (MW G ad F R) (fun _ : Nat → Nat → Int32 => some (.int (sAns so x (pBar b n)))) (fun U : Nat → Nat → Int32 => moAll U (sUpd so x (pBar b n) (fBar b n)) ∧ ∀ i, 12 ≤ i → U i = R i) (fun U : Nat → Nat → Int32 => MW G ad F U) := by
  refine Met.ofW (cc := cX6_bar) (maxL := 4) (ret := (some .boolean)) (by decide) rfl ?_
  intro p e s m args below meth c s₁ BB hml hv
  obtain ⟨rfl, ⟨hsz, hP, hD0⟩, hK⟩ := hv
  have hx := BB.exec
  have hb := BB.bytes
  have hr := BB.returns
  have hts := atoms_spec (ws := wsX6_bar) BB.pre
  have hown : s.vm.findClass RX6 = some m.cls := findClass_of_methodNamed BB.named
  have hlocks := BB.notSynchronized
  subst hsz
  have hD := hD0.self (sz := s.heap.size)
  have hA : ∀ q : Nat, s.heap.size ≤ q → va_A (MW G ad F R) s.heap.size q := fun q h => Or.inr h
  have hS : va_S (va_A (MW G ad F R) s.heap.size) s.heap s.heap [] := va_S.rf
  have fl17 := hts (.fieldLink RX6 17 "MixDeskModel" "bars" "[I") (by decide +kernel)
  have fl35 := hts (.fieldLink RX6 35 "MixDeskModel" "beats" "[I") (by decide +kernel)
  have inX6 : ∀ w ∈ wsX60, w ∈ wsX6_bar := by decide +kernel
  have hl := lv_entry ([.ref (ad 0), .int x, .int b, .int n]) (n := 4) (Nat.le_of_ble_eq_true rfl)
  rw [lg_entry_eq]
  generalize (lg_sl ([.ref (ad 0), .int x, .int b, .int n]) ++ List.replicate (4 - (lg_sl ([.ref (ad 0), .int x, .int b, .int n])).length) Slot.unset).toArray = ls at hl ⊢
  have hl : lv_has ls 4 [(0, .ref (ad 0)), (1, .int x), (2, .int b), (3, .int n)] := hl
  refine lv_aload_n hx hb dX6_bar_0 rfl (lv_at hl 0 rfl) ?_
  refine lv_iload_n hx hb dX6_bar_1 rfl (lv_at hl 1 rfl) ?_
  refine mx_callRO (v := .int (isSongV R x)) (va_runV (As := [.int x]) (rest := []) ⟨hx, hb, hml, hown, hts⟩ (c_X6_isSong l G ad F R x) (cwV 1 hts gX6_bar_X6_isSong rfl rfl rfl (by decide +kernel) ⟨Nat.le_of_ble_eq_true rfl, Nat.le_of_ble_eq_true rfl⟩) (mx_preV hK hP (va_recv hK.1 hP (ci := 6) (q0 := 0) rfl rfl)) rfl rfl hl.1 rfl (lv_room (Nat.le_of_ble_eq_true rfl)) dX6_bar_2 ⟨Nat.zero_le _, Nat.zero_le _⟩) ?_
  refine lv_if_eq (tgt := 32) hx hb dX6_bar_5 (by decide) (fun c_5 => ?_) (fun c_5 => ?_)
  · refine lv_iconst (v := nI 0) hx hb dX6_bar_32 (by decide) ?_
    refine x_top (y := sAns so x (pBar b n)) (sAns_none (song_no hall c_5)) ?_
    exact W.zret (v := sAns so x (pBar b n)) hx hb hr (sAns_n) (fun t9 ht9 hW9 => ⟨⟨R, rfl, ⟨by rw [sUpd_none (song_no hall c_5)]; exact hall, fun _ _ => rfl⟩, by rw [ht9]; exact hP, hD⟩, hS.F ht9⟩) hS.2.2 dX6_bar_33
  · obtain ⟨j, σ, rfl, hs, hso, hσ, hth, hm, ok⟩ := song_of hall c_5
    obtain ⟨m1, m2, m3, m4, m5, m6, m7, m8, m9, m10, m11⟩ := id hm
    obtain ⟨hB2, hB64, hAE, hEB, hT1, hT4, hPB, hP1, hP16, hC, hst, hmo⟩ := id ok
    refine lv_iload_n hx hb dX6_bar_8 rfl (lv_at hl 2 rfl) ?_
    refine lv_if_lt (tgt := 32) hx hb dX6_bar_9 (by decide) (fun c_9 => ?_) (fun c_9 => ?_)
    · have hno : ¬ (pBar b n) σ = true := nd (fun q => q.1.1 c_9)
      refine lv_iconst (v := nI 0) hx hb dX6_bar_32 (by decide) ?_
      refine x_top (y := sAns so (nI j) (pBar b n)) (sAns_no hσ hno) ?_
      exact W.zret (v := sAns so (nI j) (pBar b n)) hx hb hr (sAns_n) (fun t9 ht9 hW9 => ⟨⟨R, rfl, ⟨by rw [sUpd_no hσ hno]; exact hall, fun _ _ => rfl⟩, by rw [ht9]; exact hP, hD⟩, hS.F ht9⟩) hS.2.2 dX6_bar_33
    · refine lv_iload_n hx hb dX6_bar_12 rfl (lv_at hl 2 rfl) ?_
      refine lv_aload_n hx hb dX6_bar_13 rfl (lv_at hl 0 rfl) ?_
      refine va_get (D := G.1) (ci := 6) (v := .ref (ad 3)) (C := RX6) (T := TX6) (N := 36) hx hb hts inX6 hown hK.1 hP 0 rfl rfl 2 (by decide) fl17 (fun _ h9 => h9) rfl dX6_bar_14 ?_
      refine lv_iload_n hx hb dX6_bar_17 rfl (lv_at hl 1 rfl) ?_
      refine x_iald hx hb hK.1 hP 3 0 (n := 12) (f := R 2) rfl rfl (k := j) (by omega) (by omega) dX6_bar_18 ?_
      refine x_top (y := nI (gB σ)) (m2) ?_
      refine lv_icmp_ge (tgt := 32) hx hb dX6_bar_19 (by decide) (fun c_19 => ?_) (fun c_19 => ?_)
      · have hno : ¬ (pBar b n) σ = true := nd (fun q => q.1.2 c_19)
        refine lv_iconst (v := nI 0) hx hb dX6_bar_32 (by decide) ?_
        refine x_top (y := sAns so (nI j) (pBar b n)) (sAns_no hσ hno) ?_
        exact W.zret (v := sAns so (nI j) (pBar b n)) hx hb hr (sAns_n) (fun t9 ht9 hW9 => ⟨⟨R, rfl, ⟨by rw [sUpd_no hσ hno]; exact hall, fun _ _ => rfl⟩, by rw [ht9]; exact hP, hD⟩, hS.F ht9⟩) hS.2.2 dX6_bar_33
      · refine lv_iload_n hx hb dX6_bar_22 rfl (lv_at hl 3 rfl) ?_
        refine lv_iconst (v := nI 1) hx hb dX6_bar_23 (by decide) ?_
        refine lv_icmp_lt (tgt := 32) hx hb dX6_bar_24 (by decide) (fun c_24 => ?_) (fun c_24 => ?_)
        · have hno : ¬ (pBar b n) σ = true := nd (fun q => q.2.1 c_24)
          refine lv_iconst (v := nI 0) hx hb dX6_bar_32 (by decide) ?_
          refine x_top (y := sAns so (nI j) (pBar b n)) (sAns_no hσ hno) ?_
          exact W.zret (v := sAns so (nI j) (pBar b n)) hx hb hr (sAns_n) (fun t9 ht9 hW9 => ⟨⟨R, rfl, ⟨by rw [sUpd_no hσ hno]; exact hall, fun _ _ => rfl⟩, by rw [ht9]; exact hP, hD⟩, hS.F ht9⟩) hS.2.2 dX6_bar_33
        · refine lv_iload_n hx hb dX6_bar_27 rfl (lv_at hl 3 rfl) ?_
          refine lv_iconst (v := nI 4) hx hb dX6_bar_28 (by decide) ?_
          refine lv_icmp_le (tgt := 34) hx hb dX6_bar_29 (by decide) (fun c_29 => ?_) (fun c_29 => ?_)
          · have hyes : (pBar b n) σ = true := decide_eq_true (⟨⟨c_9, c_19⟩, c_24, Int32.not_lt.mpr c_29⟩)
            refine lv_aload_n hx hb dX6_bar_34 rfl (lv_at hl 0 rfl) ?_
            obtain ⟨i, hi, rfl⟩ := lt_of (by omega) c_9 c_19
            refine va_get (D := G.1) (ci := 6) (v := .ref (ad 9)) (C := RX6) (T := TX6) (N := 36) hx hb hts inX6 hown hK.1 hP 0 rfl rfl 8 (by decide) fl35 (fun _ h9 => h9) rfl dX6_bar_35 ?_
            refine lv_bipush (v := nI 64) hx hb dX6_bar_38 (by decide) ?_
            refine lv_iload_n hx hb dX6_bar_40 rfl (lv_at hl 1 rfl) ?_
            refine x_imul (r := 64 * j) hx hb dX6_bar_41 (rfl) ?_
            refine lv_iload_n hx hb dX6_bar_42 rfl (lv_at hl 2 rfl) ?_
            refine x_iadd (r := 64 * j + i) hx hb dX6_bar_43 (rfl) ?_
            refine lv_iload_n hx hb dX6_bar_44 rfl (lv_at hl 3 rfl) ?_
            refine x_iast hx hb hK.1 hP hD hS 9 0 (n := 768) (f := R 8) rfl rfl (k := 64 * j + i) (by omega) (by omega) dX6_bar_45 (MW G ad F (va_up R 8 (upd (R 8) (64 * j + i) n))) rfl (fun H locs hP hD hS => ?_)
            refine lv_iconst (v := nI 1) hx hb dX6_bar_46 (by decide) ?_
            refine x_top (y := sAns so (nI j) (pBar (nI i) n)) (sAns_yes hσ hyes) ?_
            exact W.zret (v := sAns so (nI j) (pBar (nI i) n)) hx hb hr (sAns_n) (fun t9 ht9 hW9 => ⟨⟨va_up R 8 (upd (R 8) (64 * j + i) n), rfl, ⟨by rw [sUpd_yes hs hσ hyes]; exact bar_mo hall hs hth hm ok (by omega) hyes, fun i hi => by simp only [va_up]; (repeat rw [if_neg (by omega)])⟩, by rw [ht9]; exact hP, hD⟩, hS.F ht9⟩) hS.2.2 dX6_bar_47
          · have hno : ¬ (pBar b n) σ = true := nd (fun q => q.2.2 (Int32.not_le.mp c_29))
            refine lv_iconst (v := nI 0) hx hb dX6_bar_32 (by decide) ?_
            refine x_top (y := sAns so (nI j) (pBar b n)) (sAns_no hσ hno) ?_
            exact W.zret (v := sAns so (nI j) (pBar b n)) hx hb hr (sAns_n) (fun t9 ht9 hW9 => ⟨⟨R, rfl, ⟨by rw [sUpd_no hσ hno]; exact hall, fun _ _ => rfl⟩, by rw [ht9]; exact hP, hD⟩, hS.F ht9⟩) hS.2.2 dX6_bar_33

set_option maxHeartbeats 4000000 in
set_option maxRecDepth 100000 in
theorem c_X6_loop (l : Launch) (G : mx_G) (ad : Nat → Nat) (F : Nat → Int32) (R : Nat → Nat → Int32) (so : So) (x a b n : Int32) (hall : moAll R so) (sz : Nat) : mx_EF l yX6_loop wsX6_loop 1 21 0 0 G [.ref (ad 0), .int x, .int a, .int b, .int n] sz (MW G ad F R) (fun _ : Nat → Nat → Int32 => some (.int (sAns so x (pLoop a b n)))) (fun U : Nat → Nat → Int32 => moAll U (sUpd so x (pLoop a b n) (fLoop a b n)) ∧ ∀ i, 12 ≤ i → U i = R i) (fun U : Nat → Nat → Int32 => MW G ad F U) := by
  refine Met.ofW (cc := cX6_loop) (maxL := 5) (ret := (some .boolean)) (by decide) rfl ?_
  intro p e s m args below meth c s₁ BB hml hv
  obtain ⟨rfl, ⟨hsz, hP, hD0⟩, hK⟩ := hv
  have hx := BB.exec
  have hb := BB.bytes
  have hr := BB.returns
  have hts := atoms_spec (ws := wsX6_loop) BB.pre
  have hown : s.vm.findClass RX6 = some m.cls := findClass_of_methodNamed BB.named
  have hlocks := BB.notSynchronized
  subst hsz
  have hD := hD0.self (sz := s.heap.size)
  have hA : ∀ q : Nat, s.heap.size ≤ q → va_A (MW G ad F R) s.heap.size q := fun q h => Or.inr h
  have hS : va_S (va_A (MW G ad F R) s.heap.size) s.heap s.heap [] := va_S.rf
  have fl17 := hts (.fieldLink RX6 17 "MixDeskModel" "bars" "[I") (by decide +kernel)
  have fl38 := hts (.fieldLink RX6 38 "MixDeskModel" "loopFrom" "[I") (by decide +kernel)
  have fl41 := hts (.fieldLink RX6 41 "MixDeskModel" "loopTo" "[I") (by decide +kernel)
  have fl44 := hts (.fieldLink RX6 44 "MixDeskModel" "loops" "[I") (by decide +kernel)
  have inX6 : ∀ w ∈ wsX60, w ∈ wsX6_loop := by decide +kernel
  have hl := lv_entry ([.ref (ad 0), .int x, .int a, .int b, .int n]) (n := 5) (Nat.le_of_ble_eq_true rfl)
  rw [lg_entry_eq]
  generalize (lg_sl ([.ref (ad 0), .int x, .int a, .int b, .int n]) ++ List.replicate (5 - (lg_sl ([.ref (ad 0), .int x, .int a, .int b, .int n])).length) Slot.unset).toArray = ls at hl ⊢
  have hl : lv_has ls 5 [(0, .ref (ad 0)), (1, .int x), (2, .int a), (3, .int b), (4, .int n)] := hl
  refine lv_aload_n hx hb dX6_loop_0 rfl (lv_at hl 0 rfl) ?_
  refine lv_iload_n hx hb dX6_loop_1 rfl (lv_at hl 1 rfl) ?_
  refine mx_callRO (v := .int (isSongV R x)) (va_runV (As := [.int x]) (rest := []) ⟨hx, hb, hml, hown, hts⟩ (c_X6_isSong l G ad F R x) (cwV 1 hts gX6_loop_X6_isSong rfl rfl rfl (by decide +kernel) ⟨Nat.le_of_ble_eq_true rfl, Nat.le_of_ble_eq_true rfl⟩) (mx_preV hK hP (va_recv hK.1 hP (ci := 6) (q0 := 0) rfl rfl)) rfl rfl hl.1 rfl (lv_room (Nat.le_of_ble_eq_true rfl)) dX6_loop_2 ⟨Nat.zero_le _, Nat.zero_le _⟩) ?_
  refine lv_if_eq (tgt := 61) hx hb dX6_loop_5 (by decide) (fun c_5 => ?_) (fun c_5 => ?_)
  · refine lv_iconst (v := nI 0) hx hb dX6_loop_61 (by decide) ?_
    refine x_top (y := sAns so x (pLoop a b n)) (sAns_none (song_no hall c_5)) ?_
    exact W.zret (v := sAns so x (pLoop a b n)) hx hb hr (sAns_n) (fun t9 ht9 hW9 => ⟨⟨R, rfl, ⟨by rw [sUpd_none (song_no hall c_5)]; exact hall, fun _ _ => rfl⟩, by rw [ht9]; exact hP, hD⟩, hS.F ht9⟩) hS.2.2 dX6_loop_62
  · obtain ⟨j, σ, rfl, hs, hso, hσ, hth, hm, ok⟩ := song_of hall c_5
    obtain ⟨m1, m2, m3, m4, m5, m6, m7, m8, m9, m10, m11⟩ := id hm
    obtain ⟨hB2, hB64, hAE, hEB, hT1, hT4, hPB, hP1, hP16, hC, hst, hmo⟩ := id ok
    refine lv_iload_n hx hb dX6_loop_8 rfl (lv_at hl 2 rfl) ?_
    refine lv_if_lt (tgt := 61) hx hb dX6_loop_9 (by decide) (fun c_9 => ?_) (fun c_9 => ?_)
    · have hno : ¬ (pLoop a b n) σ = true := nd (fun q => q.1.1 c_9)
      refine lv_iconst (v := nI 0) hx hb dX6_loop_61 (by decide) ?_
      refine x_top (y := sAns so (nI j) (pLoop a b n)) (sAns_no hσ hno) ?_
      exact W.zret (v := sAns so (nI j) (pLoop a b n)) hx hb hr (sAns_n) (fun t9 ht9 hW9 => ⟨⟨R, rfl, ⟨by rw [sUpd_no hσ hno]; exact hall, fun _ _ => rfl⟩, by rw [ht9]; exact hP, hD⟩, hS.F ht9⟩) hS.2.2 dX6_loop_62
    · refine lv_iload_n hx hb dX6_loop_12 rfl (lv_at hl 2 rfl) ?_
      refine lv_iload_n hx hb dX6_loop_13 rfl (lv_at hl 3 rfl) ?_
      refine lv_icmp_gt (tgt := 61) hx hb dX6_loop_14 (by decide) (fun c_14 => ?_) (fun c_14 => ?_)
      · have hno : ¬ (pLoop a b n) σ = true := nd (fun q => q.1.2.1 c_14)
        refine lv_iconst (v := nI 0) hx hb dX6_loop_61 (by decide) ?_
        refine x_top (y := sAns so (nI j) (pLoop a b n)) (sAns_no hσ hno) ?_
        exact W.zret (v := sAns so (nI j) (pLoop a b n)) hx hb hr (sAns_n) (fun t9 ht9 hW9 => ⟨⟨R, rfl, ⟨by rw [sUpd_no hσ hno]; exact hall, fun _ _ => rfl⟩, by rw [ht9]; exact hP, hD⟩, hS.F ht9⟩) hS.2.2 dX6_loop_62
      · refine lv_iload_n hx hb dX6_loop_17 rfl (lv_at hl 3 rfl) ?_
        refine lv_aload_n hx hb dX6_loop_18 rfl (lv_at hl 0 rfl) ?_
        refine va_get (D := G.1) (ci := 6) (v := .ref (ad 3)) (C := RX6) (T := TX6) (N := 36) hx hb hts inX6 hown hK.1 hP 0 rfl rfl 2 (by decide) fl17 (fun _ h9 => h9) rfl dX6_loop_19 ?_
        refine lv_iload_n hx hb dX6_loop_22 rfl (lv_at hl 1 rfl) ?_
        refine x_iald hx hb hK.1 hP 3 0 (n := 12) (f := R 2) rfl rfl (k := j) (by omega) (by omega) dX6_loop_23 ?_
        refine x_top (y := nI (gB σ)) (m2) ?_
        refine lv_icmp_ge (tgt := 61) hx hb dX6_loop_24 (by decide) (fun c_24 => ?_) (fun c_24 => ?_)
        · have hno : ¬ (pLoop a b n) σ = true := nd (fun q => q.1.2.2 c_24)
          refine lv_iconst (v := nI 0) hx hb dX6_loop_61 (by decide) ?_
          refine x_top (y := sAns so (nI j) (pLoop a b n)) (sAns_no hσ hno) ?_
          exact W.zret (v := sAns so (nI j) (pLoop a b n)) hx hb hr (sAns_n) (fun t9 ht9 hW9 => ⟨⟨R, rfl, ⟨by rw [sUpd_no hσ hno]; exact hall, fun _ _ => rfl⟩, by rw [ht9]; exact hP, hD⟩, hS.F ht9⟩) hS.2.2 dX6_loop_62
        · refine lv_iload hx hb dX6_loop_27 (lv_at hl 4 rfl) ?_
          refine lv_iconst (v := nI 1) hx hb dX6_loop_29 (by decide) ?_
          refine lv_icmp_lt (tgt := 61) hx hb dX6_loop_30 (by decide) (fun c_30 => ?_) (fun c_30 => ?_)
          · have hno : ¬ (pLoop a b n) σ = true := nd (fun q => q.2.1.1 c_30)
            refine lv_iconst (v := nI 0) hx hb dX6_loop_61 (by decide) ?_
            refine x_top (y := sAns so (nI j) (pLoop a b n)) (sAns_no hσ hno) ?_
            exact W.zret (v := sAns so (nI j) (pLoop a b n)) hx hb hr (sAns_n) (fun t9 ht9 hW9 => ⟨⟨R, rfl, ⟨by rw [sUpd_no hσ hno]; exact hall, fun _ _ => rfl⟩, by rw [ht9]; exact hP, hD⟩, hS.F ht9⟩) hS.2.2 dX6_loop_62
          · refine lv_iload hx hb dX6_loop_33 (lv_at hl 4 rfl) ?_
            refine lv_iconst (v := nI 4) hx hb dX6_loop_35 (by decide) ?_
            refine lv_icmp_gt (tgt := 61) hx hb dX6_loop_36 (by decide) (fun c_36 => ?_) (fun c_36 => ?_)
            · have hno : ¬ (pLoop a b n) σ = true := nd (fun q => q.2.1.2 c_36)
              refine lv_iconst (v := nI 0) hx hb dX6_loop_61 (by decide) ?_
              refine x_top (y := sAns so (nI j) (pLoop a b n)) (sAns_no hσ hno) ?_
              exact W.zret (v := sAns so (nI j) (pLoop a b n)) hx hb hr (sAns_n) (fun t9 ht9 hW9 => ⟨⟨R, rfl, ⟨by rw [sUpd_no hσ hno]; exact hall, fun _ _ => rfl⟩, by rw [ht9]; exact hP, hD⟩, hS.F ht9⟩) hS.2.2 dX6_loop_62
            · refine lv_aload_n hx hb dX6_loop_39 rfl (lv_at hl 0 rfl) ?_
              refine va_get (D := G.1) (ci := 6) (v := .ref (ad 3)) (C := RX6) (T := TX6) (N := 36) hx hb hts inX6 hown hK.1 hP 0 rfl rfl 2 (by decide) fl17 (fun _ h9 => h9) rfl dX6_loop_40 ?_
              refine lv_iload_n hx hb dX6_loop_43 rfl (lv_at hl 1 rfl) ?_
              refine x_iald hx hb hK.1 hP 3 0 (n := 12) (f := R 2) rfl rfl (k := j) (by omega) (by omega) dX6_loop_44 ?_
              refine x_top (y := nI (gB σ)) (m2) ?_
              refine lv_iload hx hb dX6_loop_45 (lv_at hl 4 rfl) ?_
              refine lv_iconst (v := nI 1) hx hb dX6_loop_47 (by decide) ?_
              refine lv_isub hx hb dX6_loop_48 ?_
              refine lv_iload_n hx hb dX6_loop_49 rfl (lv_at hl 3 rfl) ?_
              refine lv_iload_n hx hb dX6_loop_50 rfl (lv_at hl 2 rfl) ?_
              refine lv_isub hx hb dX6_loop_51 ?_
              refine lv_iconst (v := nI 1) hx hb dX6_loop_52 (by decide) ?_
              refine lv_iadd hx hb dX6_loop_53 ?_
              refine lv_imul hx hb dX6_loop_54 ?_
              refine lv_iadd hx hb dX6_loop_55 ?_
              refine lv_bipush (v := nI 64) hx hb dX6_loop_56 (by decide) ?_
              refine lv_icmp_le (tgt := 63) hx hb dX6_loop_58 (by decide) (fun c_58 => ?_) (fun c_58 => ?_)
              · have hyes : (pLoop a b n) σ = true := decide_eq_true (⟨⟨c_9, c_14, c_24⟩, ⟨c_30, c_36⟩, c_58⟩)
                refine lv_aload_n hx hb dX6_loop_63 rfl (lv_at hl 0 rfl) ?_
                refine va_get (D := G.1) (ci := 6) (v := .ref (ad 10)) (C := RX6) (T := TX6) (N := 36) hx hb hts inX6 hown hK.1 hP 0 rfl rfl 9 (by decide) fl38 (fun _ h9 => h9) rfl dX6_loop_64 ?_
                refine lv_iload_n hx hb dX6_loop_67 rfl (lv_at hl 1 rfl) ?_
                refine lv_iload_n hx hb dX6_loop_68 rfl (lv_at hl 2 rfl) ?_
                refine x_iast hx hb hK.1 hP hD hS 10 0 (n := 12) (f := R 9) rfl rfl (k := j) (by omega) (by omega) dX6_loop_69 (MW G ad F (va_up R 9 (upd (R 9) j a))) rfl (fun H locs hP hD hS => ?_)
                refine lv_aload_n hx hb dX6_loop_70 rfl (lv_at hl 0 rfl) ?_
                refine va_get (D := G.1) (ci := 6) (v := .ref (ad 11)) (C := RX6) (T := TX6) (N := 36) hx hb hts inX6 hown hK.1 hP 0 rfl rfl 10 (by decide) fl41 (fun _ h9 => h9) rfl dX6_loop_71 ?_
                refine lv_iload_n hx hb dX6_loop_74 rfl (lv_at hl 1 rfl) ?_
                refine lv_iload_n hx hb dX6_loop_75 rfl (lv_at hl 3 rfl) ?_
                refine x_iast hx hb hK.1 hP hD hS 11 0 (n := 12) (f := R 10) rfl rfl (k := j) (by omega) (by omega) dX6_loop_76 (MW G ad F (va_up (va_up R 9 (upd (R 9) j a)) 10 (upd (R 10) j b))) rfl (fun H locs hP hD hS => ?_)
                refine lv_aload_n hx hb dX6_loop_77 rfl (lv_at hl 0 rfl) ?_
                refine va_get (D := G.1) (ci := 6) (v := .ref (ad 12)) (C := RX6) (T := TX6) (N := 36) hx hb hts inX6 hown hK.1 hP 0 rfl rfl 11 (by decide) fl44 (fun _ h9 => h9) rfl dX6_loop_78 ?_
                refine lv_iload_n hx hb dX6_loop_81 rfl (lv_at hl 1 rfl) ?_
                refine lv_iload hx hb dX6_loop_82 (lv_at hl 4 rfl) ?_
                refine x_iast hx hb hK.1 hP hD hS 12 0 (n := 12) (f := R 11) rfl rfl (k := j) (by omega) (by omega) dX6_loop_84 (MW G ad F (va_up (va_up (va_up R 9 (upd (R 9) j a)) 10 (upd (R 10) j b)) 11 (upd (R 11) j n))) rfl (fun H locs hP hD hS => ?_)
                refine lv_iconst (v := nI 1) hx hb dX6_loop_85 (by decide) ?_
                refine x_top (y := sAns so (nI j) (pLoop a b n)) (sAns_yes hσ hyes) ?_
                exact W.zret (v := sAns so (nI j) (pLoop a b n)) hx hb hr (sAns_n) (fun t9 ht9 hW9 => ⟨⟨va_up (va_up (va_up R 9 (upd (R 9) j a)) 10 (upd (R 10) j b)) 11 (upd (R 11) j n), rfl, ⟨by rw [sUpd_yes hs hσ hyes]; exact loop_mo hall hth hm ok hyes, fun i hi => by simp only [va_up]; (repeat rw [if_neg (by omega)])⟩, by rw [ht9]; exact hP, hD⟩, hS.F ht9⟩) hS.2.2 dX6_loop_86
              · have hno : ¬ (pLoop a b n) σ = true := nd (fun q => c_58 q.2.2)
                refine lv_iconst (v := nI 0) hx hb dX6_loop_61 (by decide) ?_
                refine x_top (y := sAns so (nI j) (pLoop a b n)) (sAns_no hσ hno) ?_
                exact W.zret (v := sAns so (nI j) (pLoop a b n)) hx hb hr (sAns_n) (fun t9 ht9 hW9 => ⟨⟨R, rfl, ⟨by rw [sUpd_no hσ hno]; exact hall, fun _ _ => rfl⟩, by rw [ht9]; exact hP, hD⟩, hS.F ht9⟩) hS.2.2 dX6_loop_62
