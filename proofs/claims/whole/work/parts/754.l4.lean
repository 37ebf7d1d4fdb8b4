set_option maxHeartbeats 4000000 in
set_option maxRecDepth 100000 in
theorem lw_c_join {p : Program} {e : Env} {s : State} {m : MethodId} {below : List Frame} {meth : Method} {c : Code} (l : Launch) {b L : Nat} {xs : Nat → Int32} (C0 : lw_At p s m meth c b L xs) (G : mx_G) (hK : mx_K G s) (hL : L ≤ 3584) (m12 k : Nat) (hm12 : m12 = 12) (hk : 7 * k + 7 ≤ L) (ih : lwGo p l e s m b below meth c G m12 (k + 1)) (aD : Nat → Nat) (SD : Nat → Option Nat) (WI : Nat → Int32) (aK : Nat → Nat) (FK : Nat → Int32) (RK : Nat → Nat → Int32) (aJ : Nat → Nat) (FJ : Nat → Int32) (RJ : Nat → Nat → Int32) (aT : Nat → Nat) (FT : Nat → Int32) (RT : Nat → Nat → Int32) (aN : Nat → Nat) (FN : Nat → Int32) (RN : Nat → Nat → Int32) (SR : Nat → Option Nat) (ra rl : Nat) (so : So) (aS : Nat → Nat → Nat) (FS : Nat → Nat → Int32) (RS : Nat → Nat → Nat → Int32) (ad : Nat → Nat) (F : Nat → Int32) (R : Nat → Nat → Int32) (hI : lwInv so SD WI FK RK FJ RJ FT RT FN RN rl aS FS RS F R) (H : Heap) (locs : List Loc) (hP : va_P G.1 vwCl (([(aD 0, .inr (5, [.ref (aD 1), .ref (aD 2), .ref (aK 0), .ref (aJ 0), .ref (aT 0), .ref (aN 0)]))]) ++ (([(aD 1, .inl (G.2.2.2, 12, .inr (.inr (.inr (.inr (SD))))))]) ++ (([(aD 2, .inl (G.2.1, 144, .inl (WI)))]) ++ ((KW G aK FK RK) ++ ((JW G aJ FJ RJ) ++ ((TW G aT FT RT) ++ ((NW G aN FN RN SR ra rl) ++ ((MW G ad F R) ++ (pool G so aS FS RS m12))))))))) H) (hD : va_D (fun q : Nat => s.heap.size ≤ q) (([(aD 0, .inr (5, [.ref (aD 1), .ref (aD 2), .ref (aK 0), .ref (aJ 0), .ref (aT 0), .ref (aN 0)]))]) ++ (([(aD 1, .inl (G.2.2.2, 12, .inr (.inr (.inr (.inr (SD))))))]) ++ (([(aD 2, .inl (G.2.1, 144, .inl (WI)))]) ++ ((KW G aK FK RK) ++ ((JW G aJ FJ RJ) ++ ((TW G aT FT RT) ++ ((NW G aN FN RN SR ra rl) ++ ((MW G ad F R) ++ (pool G so aS FS RS m12)))))))))) (hS : va_S (fun q : Nat => s.heap.size ≤ q) s.heap H locs) (ls : Array Slot) (hl : lv_has ls 4 [(0, .ref b), (1, .ref (aD 0)), (2, .ref (ad 0)), (3, .int (nI (7 * k)))]) : W p l e room_1 s m #[Value.ref b] below meth c H locs (100 + 9 * k) (70000 + 855 * k + 2 * rl) (lw_Z below #[Value.ref b] s) (F0 m 644 ls []) := by
  obtain ⟨hx, hb, hr, hml, hown0, hts0, hX, hbl, hlocks, hgv⟩ := id C0
  have hown : s.vm.findClass RL = some m.cls := hown0
  have hts : ∀ w ∈ wsL_law, w.before #[Value.ref b] s = true := fun w h => hts0 w (wsL_law_in w h)
  have hA : ∀ q : Nat, s.heap.size ≤ q → (fun q : Nat => s.heap.size ≤ q) q := fun _ h => h
  have hbA : ¬ (fun q : Nat => s.heap.size ≤ q) b := Nat.not_le.mpr hbl
  have hk5 : k ≤ 511 := by omega
  have hrl5 := rl_le hI.2.2.2.2.2.2.2.2.2.2
  obtain ⟨hcE1, hcE2, hcE3, hcs9⟩ := id hI.2.2.2.2.2.2.1
  refine lv_aload_n hx hb dL_law_644 rfl (lv_at hl 1 rfl) ?_
  refine lv_aload_n hx hb dL_law_645 rfl (lv_at hl 0 rfl) ?_
  refine lv_iload_n hx hb dL_law_646 rfl (lv_at hl 3 rfl) ?_
  refine lv_iconst (v := nI 1) hx hb dL_law_647 (by decide) ?_
  refine x_iadd (r := 7 * k + 1) hx hb dL_law_648 (rfl) ?_
  refine x_sld hx hb hX hbl hbA hS (k := 7 * k + 1) (by omega) (by omega) dL_law_649 ?_
  refine lv_aload_n hx hb dL_law_650 rfl (lv_at hl 0 rfl) ?_
  refine lv_iload_n hx hb dL_law_651 rfl (lv_at hl 3 rfl) ?_
  refine lv_iconst (v := nI 2) hx hb dL_law_652 (by decide) ?_
  refine x_iadd (r := 7 * k + 2) hx hb dL_law_653 (rfl) ?_
  refine x_sld hx hb hX hbl hbA hS (k := 7 * k + 2) (by omega) (by omega) dL_law_654 ?_
  refine lv_aload_n hx hb dL_law_655 rfl (lv_at hl 0 rfl) ?_
  refine lv_iload_n hx hb dL_law_656 rfl (lv_at hl 3 rfl) ?_
  refine lv_iconst (v := nI 3) hx hb dL_law_657 (by decide) ?_
  refine x_iadd (r := 7 * k + 3) hx hb dL_law_658 (rfl) ?_
  refine x_sld hx hb hX hbl hbA hS (k := 7 * k + 3) (by omega) (by omega) dL_law_659 ?_
  refine lv_aload_n hx hb dL_law_660 rfl (lv_at hl 0 rfl) ?_
  refine lv_iload_n hx hb dL_law_661 rfl (lv_at hl 3 rfl) ?_
  refine lv_iconst (v := nI 4) hx hb dL_law_662 (by decide) ?_
  refine x_iadd (r := 7 * k + 4) hx hb dL_law_663 (rfl) ?_
  refine x_sld hx hb hX hbl hbA hS (k := 7 * k + 4) (by omega) (by omega) dL_law_664 ?_
  refine lv_aload_n hx hb dL_law_665 rfl (lv_at hl 0 rfl) ?_
  refine lv_iload_n hx hb dL_law_666 rfl (lv_at hl 3 rfl) ?_
  refine lv_iconst (v := nI 5) hx hb dL_law_667 (by decide) ?_
  refine x_iadd (r := 7 * k + 5) hx hb dL_law_668 (rfl) ?_
  refine x_sld hx hb hX hbl hbA hS (k := 7 * k + 5) (by omega) (by omega) dL_law_669 ?_
  refine lv_aload_n hx hb dL_law_670 rfl (lv_at hl 0 rfl) ?_
  refine lv_iload_n hx hb dL_law_671 rfl (lv_at hl 3 rfl) ?_
  refine lv_bipush (v := nI 6) hx hb dL_law_672 (by decide) ?_
  refine x_iadd (r := 7 * k + 6) hx hb dL_law_674 (rfl) ?_
  refine x_sld hx hb hX hbl hbA hS (k := 7 * k + 6) (by omega) (by omega) dL_law_675 ?_
  refine lv_if_eq (tgt := 683) hx hb dL_law_676 (by decide) (fun c_676 => ?_) (fun c_676 => ?_)
  · refine lv_iconst (v := nI 0) hx hb dL_law_683 (by decide) ?_
    refine mx_callEi (va_runV (As := [.int (xs (7 * k + 1)), .int (xs (7 * k + 2)), .int (xs (7 * k + 3)), .int (xs (7 * k + 4)), .int (xs (7 * k + 5)), .int (nI 0)]) (rest := []) ⟨hx, hb, hml, hown, hts⟩ (c_X5_join l G aD SD WI aK FK RK aJ FJ RJ aT FT RT aN FN RN SR ra rl m12 so aS FS RS (xs (7 * k + 1)) (xs (7 * k + 2)) (xs (7 * k + 3)) (xs (7 * k + 4)) (xs (7 * k + 5)) (nI 0) hm12 hI.1 _) (cwV 6 hts gL_law_X5_join rfl rfl rfl (by decide +kernel) ⟨Nat.le_of_ble_eq_true rfl, Nat.le_of_ble_eq_true rfl⟩) (mx_preV hK ⟨rfl, mx_cut hP hD (a := ([(aD 0, .inr (5, [.ref (aD 1), .ref (aD 2), .ref (aK 0), .ref (aJ 0), .ref (aT 0), .ref (aN 0)]))]) ++ (([(aD 1, .inl (G.2.2.2, 12, .inr (.inr (.inr (.inr (SD))))))]) ++ (([(aD 2, .inl (G.2.1, 144, .inl (WI)))]) ++ ((KW G aK FK RK) ++ ((JW G aJ FJ RJ) ++ ((TW G aT FT RT) ++ ((NW G aN FN RN SR ra rl) ++ (pool G so aS FS RS m12)))))))) (b := MW G ad F R) (mx_perm (fun n9 hn9 => by simp only [hn9, List.append_nil] <;> omega))⟩ (va_recv hK.1 hP (ci := 5) (q0 := 0) rfl rfl)) rfl rfl hl.1 rfl (lv_room (Nat.le_of_ble_eq_true rfl)) dL_law_684 ⟨by show _ ≤ 771161; omega, by show _ ≤ 6788764; omega⟩) hP hD hS hA (((mx_perm (fun n9 hn9 => by simp only [hn9, List.append_nil] <;> omega)) : List.Perm _ ((([(aD 0, .inr (5, [.ref (aD 1), .ref (aD 2), .ref (aK 0), .ref (aJ 0), .ref (aT 0), .ref (aN 0)]))]) ++ (([(aD 1, .inl (G.2.2.2, 12, .inr (.inr (.inr (.inr (SD))))))]) ++ (([(aD 2, .inl (G.2.1, 144, .inl (WI)))]) ++ ((KW G aK FK RK) ++ ((JW G aJ FJ RJ) ++ ((TW G aT FT RT) ++ ((NW G aN FN RN SR ra rl) ++ (pool G so aS FS RS m12)))))))) ++ (MW G ad F R)))) (fun u H locs hu hP hD hS => ?_)
    have hP : va_P G.1 vwCl ((([(aD 0, .inr (5, [.ref (aD 1), .ref (aD 2), .ref (aK 0), .ref (aJ 0), .ref (aT 0), .ref (aN 0)]))]) ++ (([(aD 1, .inl (G.2.2.2, 12, .inr (.inr (.inr (.inr (SD))))))]) ++ (([(aD 2, .inl (G.2.1, 144, .inl (WI)))]) ++ ((KW G aK FK RK) ++ ((JW G aJ FJ RJ) ++ ((TW G aT u.1 u.2) ++ ((NW G aN FN RN SR ra rl) ++ (pool G so aS FS RS m12)))))))) ++ (MW G ad F R)) H := hP
    have hD : va_D _ ((([(aD 0, .inr (5, [.ref (aD 1), .ref (aD 2), .ref (aK 0), .ref (aJ 0), .ref (aT 0), .ref (aN 0)]))]) ++ (([(aD 1, .inl (G.2.2.2, 12, .inr (.inr (.inr (.inr (SD))))))]) ++ (([(aD 2, .inl (G.2.1, 144, .inl (WI)))]) ++ ((KW G aK FK RK) ++ ((JW G aJ FJ RJ) ++ ((TW G aT u.1 u.2) ++ ((NW G aN FN RN SR ra rl) ++ (pool G so aS FS RS m12)))))))) ++ (MW G ad F R)) := hD
    have hP : va_P G.1 vwCl (([(aD 0, .inr (5, [.ref (aD 1), .ref (aD 2), .ref (aK 0), .ref (aJ 0), .ref (aT 0), .ref (aN 0)]))]) ++ (([(aD 1, .inl (G.2.2.2, 12, .inr (.inr (.inr (.inr (SD))))))]) ++ (([(aD 2, .inl (G.2.1, 144, .inl (WI)))]) ++ ((KW G aK FK RK) ++ ((JW G aJ FJ RJ) ++ ((TW G aT u.1 u.2) ++ ((NW G aN FN RN SR ra rl) ++ ((MW G ad F R) ++ (pool G so aS FS RS m12))))))))) H := mx_Pperm hP (mx_perm (fun n9 hn9 => by simp only [hn9, List.append_nil] <;> omega))
    have hD : va_D _ (([(aD 0, .inr (5, [.ref (aD 1), .ref (aD 2), .ref (aK 0), .ref (aJ 0), .ref (aT 0), .ref (aN 0)]))]) ++ (([(aD 1, .inl (G.2.2.2, 12, .inr (.inr (.inr (.inr (SD))))))]) ++ (([(aD 2, .inl (G.2.1, 144, .inl (WI)))]) ++ ((KW G aK FK RK) ++ ((JW G aJ FJ RJ) ++ ((TW G aT u.1 u.2) ++ ((NW G aN FN RN SR ra rl) ++ ((MW G ad F R) ++ (pool G so aS FS RS m12))))))))) := mx_Dperm hD (mx_perm (fun n9 hn9 => by simp only [hn9, List.append_nil] <;> omega))
    refine lv_aload_n hx hb dL_law_687 rfl (lv_at hl 2 rfl) ?_
    refine lv_aload_n hx hb dL_law_688 rfl (lv_at hl 0 rfl) ?_
    refine lv_iload_n hx hb dL_law_689 rfl (lv_at hl 3 rfl) ?_
    refine lv_iconst (v := nI 1) hx hb dL_law_690 (by decide) ?_
    refine x_iadd (r := 7 * k + 1) hx hb dL_law_691 (rfl) ?_
    refine x_sld hx hb hX hbl hbA hS (k := 7 * k + 1) (by omega) (by omega) dL_law_692 ?_
    refine lv_aload_n hx hb dL_law_693 rfl (lv_at hl 0 rfl) ?_
    refine lv_iload_n hx hb dL_law_694 rfl (lv_at hl 3 rfl) ?_
    refine lv_iconst (v := nI 2) hx hb dL_law_695 (by decide) ?_
    refine x_iadd (r := 7 * k + 2) hx hb dL_law_696 (rfl) ?_
    refine x_sld hx hb hX hbl hbA hS (k := 7 * k + 2) (by omega) (by omega) dL_law_697 ?_
    refine lv_aload_n hx hb dL_law_698 rfl (lv_at hl 0 rfl) ?_
    refine lv_iload_n hx hb dL_law_699 rfl (lv_at hl 3 rfl) ?_
    refine lv_iconst (v := nI 3) hx hb dL_law_700 (by decide) ?_
    refine x_iadd (r := 7 * k + 3) hx hb dL_law_701 (rfl) ?_
    refine x_sld hx hb hX hbl hbA hS (k := 7 * k + 3) (by omega) (by omega) dL_law_702 ?_
    refine lv_aload_n hx hb dL_law_703 rfl (lv_at hl 0 rfl) ?_
    refine lv_iload_n hx hb dL_law_704 rfl (lv_at hl 3 rfl) ?_
    refine lv_iconst (v := nI 4) hx hb dL_law_705 (by decide) ?_
    refine x_iadd (r := 7 * k + 4) hx hb dL_law_706 (rfl) ?_
    refine x_sld hx hb hX hbl hbA hS (k := 7 * k + 4) (by omega) (by omega) dL_law_707 ?_
    refine lv_aload_n hx hb dL_law_708 rfl (lv_at hl 0 rfl) ?_
    refine lv_iload_n hx hb dL_law_709 rfl (lv_at hl 3 rfl) ?_
    refine lv_iconst (v := nI 5) hx hb dL_law_710 (by decide) ?_
    refine x_iadd (r := 7 * k + 5) hx hb dL_law_711 (rfl) ?_
    refine x_sld hx hb hX hbl hbA hS (k := 7 * k + 5) (by omega) (by omega) dL_law_712 ?_
    refine lv_aload_n hx hb dL_law_713 rfl (lv_at hl 0 rfl) ?_
    refine lv_iload_n hx hb dL_law_714 rfl (lv_at hl 3 rfl) ?_
    refine lv_bipush (v := nI 6) hx hb dL_law_715 (by decide) ?_
    refine x_iadd (r := 7 * k + 6) hx hb dL_law_717 (rfl) ?_
    refine x_sld hx hb hX hbl hbA hS (k := 7 * k + 6) (by omega) (by omega) dL_law_718 ?_
    refine lv_if_eq (tgt := 726) hx hb dL_law_719 (by decide) (fun c_719 => ?_) (fun c_719 => absurd c_719 (fun q => q c_676))
    refine lv_iconst (v := nI 0) hx hb dL_law_726 (by decide) ?_
    refine mx_callEi (va_runV (As := [.int (xs (7 * k + 1)), .int (xs (7 * k + 2)), .int (xs (7 * k + 3)), .int (xs (7 * k + 4)), .int (xs (7 * k + 5)), .int (nI 0)]) (rest := [.int (aJoin (FJ 0) (FJ 1) (FJ 2) (jArg so (xs (7 * k + 1)) (xs (7 * k + 2)) (xs (7 * k + 3)) (xs (7 * k + 4)) (xs (7 * k + 5))) (nI 0))]) ⟨hx, hb, hml, hown, hts⟩ (c_X6_join l G ad F R so (xs (7 * k + 1)) (xs (7 * k + 2)) (xs (7 * k + 3)) (xs (7 * k + 4)) (xs (7 * k + 5)) (nI 0) hI.2.1 _) (cwV 6 hts gL_law_X6_join rfl rfl rfl (by decide +kernel) ⟨Nat.le_of_ble_eq_true rfl, Nat.le_of_ble_eq_true rfl⟩) (mx_preV hK ⟨rfl, mx_cut hP hD (a := MW G ad F R) (b := ([(aD 0, .inr (5, [.ref (aD 1), .ref (aD 2), .ref (aK 0), .ref (aJ 0), .ref (aT 0), .ref (aN 0)]))]) ++ (([(aD 1, .inl (G.2.2.2, 12, .inr (.inr (.inr (.inr (SD))))))]) ++ (([(aD 2, .inl (G.2.1, 144, .inl (WI)))]) ++ ((KW G aK FK RK) ++ ((JW G aJ FJ RJ) ++ ((TW G aT u.1 u.2) ++ ((NW G aN FN RN SR ra rl) ++ (pool G so aS FS RS m12)))))))) (mx_perm (fun n9 hn9 => by simp only [hn9, List.append_nil] <;> omega))⟩ (va_recv hK.1 hP (ci := 6) (q0 := 24) rfl rfl)) rfl rfl hl.1 rfl (lv_room (Nat.le_of_ble_eq_true rfl)) dL_law_727 ⟨by show _ ≤ 771161; omega, by show _ ≤ 6788764; omega⟩) hP hD hS hA (((mx_perm (fun n9 hn9 => by simp only [hn9, List.append_nil] <;> omega)) : List.Perm _ ((MW G ad F R) ++ (([(aD 0, .inr (5, [.ref (aD 1), .ref (aD 2), .ref (aK 0), .ref (aJ 0), .ref (aT 0), .ref (aN 0)]))]) ++ (([(aD 1, .inl (G.2.2.2, 12, .inr (.inr (.inr (.inr (SD))))))]) ++ (([(aD 2, .inl (G.2.1, 144, .inl (WI)))]) ++ ((KW G aK FK RK) ++ ((JW G aJ FJ RJ) ++ ((TW G aT u.1 u.2) ++ ((NW G aN FN RN SR ra rl) ++ (pool G so aS FS RS m12))))))))))) (fun v H locs hv hP hD hS => ?_)
    have hP : va_P G.1 vwCl ((MW G ad v.1 v.2) ++ (([(aD 0, .inr (5, [.ref (aD 1), .ref (aD 2), .ref (aK 0), .ref (aJ 0), .ref (aT 0), .ref (aN 0)]))]) ++ (([(aD 1, .inl (G.2.2.2, 12, .inr (.inr (.inr (.inr (SD))))))]) ++ (([(aD 2, .inl (G.2.1, 144, .inl (WI)))]) ++ ((KW G aK FK RK) ++ ((JW G aJ FJ RJ) ++ ((TW G aT u.1 u.2) ++ ((NW G aN FN RN SR ra rl) ++ (pool G so aS FS RS m12))))))))) H := hP
    have hD : va_D _ ((MW G ad v.1 v.2) ++ (([(aD 0, .inr (5, [.ref (aD 1), .ref (aD 2), .ref (aK 0), .ref (aJ 0), .ref (aT 0), .ref (aN 0)]))]) ++ (([(aD 1, .inl (G.2.2.2, 12, .inr (.inr (.inr (.inr (SD))))))]) ++ (([(aD 2, .inl (G.2.1, 144, .inl (WI)))]) ++ ((KW G aK FK RK) ++ ((JW G aJ FJ RJ) ++ ((TW G aT u.1 u.2) ++ ((NW G aN FN RN SR ra rl) ++ (pool G so aS FS RS m12))))))))) := hD
    have hP : va_P G.1 vwCl (([(aD 0, .inr (5, [.ref (aD 1), .ref (aD 2), .ref (aK 0), .ref (aJ 0), .ref (aT 0), .ref (aN 0)]))]) ++ (([(aD 1, .inl (G.2.2.2, 12, .inr (.inr (.inr (.inr (SD))))))]) ++ (([(aD 2, .inl (G.2.1, 144, .inl (WI)))]) ++ ((KW G aK FK RK) ++ ((JW G aJ FJ RJ) ++ ((TW G aT u.1 u.2) ++ ((NW G aN FN RN SR ra rl) ++ ((MW G ad v.1 v.2) ++ (pool G so aS FS RS m12))))))))) H := mx_Pperm hP (mx_perm (fun n9 hn9 => by simp only [hn9, List.append_nil] <;> omega))
    have hD : va_D _ (([(aD 0, .inr (5, [.ref (aD 1), .ref (aD 2), .ref (aK 0), .ref (aJ 0), .ref (aT 0), .ref (aN 0)]))]) ++ (([(aD 1, .inl (G.2.2.2, 12, .inr (.inr (.inr (.inr (SD))))))]) ++ (([(aD 2, .inl (G.2.1, 144, .inl (WI)))]) ++ ((KW G aK FK RK) ++ ((JW G aJ FJ RJ) ++ ((TW G aT u.1 u.2) ++ ((NW G aN FN RN SR ra rl) ++ ((MW G ad v.1 v.2) ++ (pool G so aS FS RS m12))))))))) := mx_Dperm hD (mx_perm (fun n9 hn9 => by simp only [hn9, List.append_nil] <;> omega))
    refine lv_icmp_eq (tgt := 943) hx hb dL_law_730 (by decide) (fun c_730 => ?_) (fun c_730 => absurd c_730 (fun q => q (by rw [hcE1, hcE2, hcE3])))
    refine x_iinc (lv' := [(3, .int (nI (7 * (k + 1)))), (0, .ref b), (1, .ref (aD 0)), (2, .ref (ad 0))]) hx hb dL_law_943 hl (k := 3) rfl (inc7 k) (by decide) rfl (fun ls hl => ?_)
    refine lv_goto (tgt := 18) hx hb dL_law_946 (by decide) ?_
    refine W.widen (k := 100 + 9 * (k + 1)) (n := 70000 + 855 * (k + 1) + 2 * rl) (by omega) (by omega) ?_
    exact ih aD SD WI aK FK RK aJ FJ RJ aT u.1 u.2 aN FN RN SR ra rl so aS FS RS ad v.1 v.2 (inv_join hI hu hv) _ _ hP hD hS _ (lv_sub hl [1, 2, 3, 0] rfl)
  · refine lv_iconst (v := nI 1) hx hb dL_law_679 (by decide) ?_
    refine lv_goto (tgt := 684) hx hb dL_law_680 (by decide) ?_
    refine mx_callEi (va_runV (As := [.int (xs (7 * k + 1)), .int (xs (7 * k + 2)), .int (xs (7 * k + 3)), .int (xs (7 * k + 4)), .int (xs (7 * k + 5)), .int (nI 1)]) (rest := []) ⟨hx, hb, hml, hown, hts⟩ (c_X5_join l G aD SD WI aK FK RK aJ FJ RJ aT FT RT aN FN RN SR ra rl m12 so aS FS RS (xs (7 * k + 1)) (xs (7 * k + 2)) (xs (7 * k + 3)) (xs (7 * k + 4)) (xs (7 * k + 5)) (nI 1) hm12 hI.1 _) (cwV 6 hts gL_law_X5_join rfl rfl rfl (by decide +kernel) ⟨Nat.le_of_ble_eq_true rfl, Nat.le_of_ble_eq_true rfl⟩) (mx_preV hK ⟨rfl, mx_cut hP hD (a := ([(aD 0, .inr (5, [.ref (aD 1), .ref (aD 2), .ref (aK 0), .ref (aJ 0), .ref (aT 0), .ref (aN 0)]))]) ++ (([(aD 1, .inl (G.2.2.2, 12, .inr (.inr (.inr (.inr (SD))))))]) ++ (([(aD 2, .inl (G.2.1, 144, .inl (WI)))]) ++ ((KW G aK FK RK) ++ ((JW G aJ FJ RJ) ++ ((TW G aT FT RT) ++ ((NW G aN FN RN SR ra rl) ++ (pool G so aS FS RS m12)))))))) (b := MW G ad F R) (mx_perm (fun n9 hn9 => by simp only [hn9, List.append_nil] <;> omega))⟩ (va_recv hK.1 hP (ci := 5) (q0 := 0) rfl rfl)) rfl rfl hl.1 rfl (lv_room (Nat.le_of_ble_eq_true rfl)) dL_law_684 ⟨by show _ ≤ 771161; omega, by show _ ≤ 6788764; omega⟩) hP hD hS hA (((mx_perm (fun n9 hn9 => by simp only [hn9, List.append_nil] <;> omega)) : List.Perm _ ((([(aD 0, .inr (5, [.ref (aD 1), .ref (aD 2), .ref (aK 0), .ref (aJ 0), .ref (aT 0), .ref (aN 0)]))]) ++ (([(aD 1, .inl (G.2.2.2, 12, .inr (.inr (.inr (.inr (SD))))))]) ++ (([(aD 2, .inl (G.2.1, 144, .inl (WI)))]) ++ ((KW G aK FK RK) ++ ((JW G aJ FJ RJ) ++ ((TW G aT FT RT) ++ ((NW G aN FN RN SR ra rl) ++ (pool G so aS FS RS m12)))))))) ++ (MW G ad F R)))) (fun u H locs hu hP hD hS => ?_)
    have hP : va_P G.1 vwCl ((([(aD 0, .inr (5, [.ref (aD 1), .ref (aD 2), .ref (aK 0), .ref (aJ 0), .ref (aT 0), .ref (aN 0)]))]) ++ (([(aD 1, .inl (G.2.2.2, 12, .inr (.inr (.inr (.inr (SD))))))]) ++ (([(aD 2, .inl (G.2.1, 144, .inl (WI)))]) ++ ((KW G aK FK RK) ++ ((JW G aJ FJ RJ) ++ ((TW G aT u.1 u.2) ++ ((NW G aN FN RN SR ra rl) ++ (pool G so aS FS RS m12)))))))) ++ (MW G ad F R)) H := hP
    have hD : va_D _ ((([(aD 0, .inr (5, [.ref (aD 1), .ref (aD 2), .ref (aK 0), .ref (aJ 0), .ref (aT 0), .ref (aN 0)]))]) ++ (([(aD 1, .inl (G.2.2.2, 12, .inr (.inr (.inr (.inr (SD))))))]) ++ (([(aD 2, .inl (G.2.1, 144, .inl (WI)))]) ++ ((KW G aK FK RK) ++ ((JW G aJ FJ RJ) ++ ((TW G aT u.1 u.2) ++ ((NW G aN FN RN SR ra rl) ++ (pool G so aS FS RS m12)))))))) ++ (MW G ad F R)) := hD
    have hP : va_P G.1 vwCl (([(aD 0, .inr (5, [.ref (aD 1), .ref (aD 2), .ref (aK 0), .ref (aJ 0), .ref (aT 0), .ref (aN 0)]))]) ++ (([(aD 1, .inl (G.2.2.2, 12, .inr (.inr (.inr (.inr (SD))))))]) ++ (([(aD 2, .inl (G.2.1, 144, .inl (WI)))]) ++ ((KW G aK FK RK) ++ ((JW G aJ FJ RJ) ++ ((TW G aT u.1 u.2) ++ ((NW G aN FN RN SR ra rl) ++ ((MW G ad F R) ++ (pool G so aS FS RS m12))))))))) H := mx_Pperm hP (mx_perm (fun n9 hn9 => by simp only [hn9, List.append_nil] <;> omega))
    have hD : va_D _ (([(aD 0, .inr (5, [.ref (aD 1), .ref (aD 2), .ref (aK 0), .ref (aJ 0), .ref (aT 0), .ref (aN 0)]))]) ++ (([(aD 1, .inl (G.2.2.2, 12, .inr (.inr (.inr (.inr (SD))))))]) ++ (([(aD 2, .inl (G.2.1, 144, .inl (WI)))]) ++ ((KW G aK FK RK) ++ ((JW G aJ FJ RJ) ++ ((TW G aT u.1 u.2) ++ ((NW G aN FN RN SR ra rl) ++ ((MW G ad F R) ++ (pool G so aS FS RS m12))))))))) := mx_Dperm hD (mx_perm (fun n9 hn9 => by simp only [hn9, List.append_nil] <;> omega))
    refine lv_aload_n hx hb dL_law_687 rfl (lv_at hl 2 rfl) ?_
    refine lv_aload_n hx hb dL_law_688 rfl (lv_at hl 0 rfl) ?_
    refine lv_iload_n hx hb dL_law_689 rfl (lv_at hl 3 rfl) ?_
    refine lv_iconst (v := nI 1) hx hb dL_law_690 (by decide) ?_
    refine x_iadd (r := 7 * k + 1) hx hb dL_law_691 (rfl) ?_
    refine x_sld hx hb hX hbl hbA hS (k := 7 * k + 1) (by omega) (by omega) dL_law_692 ?_
    refine lv_aload_n hx hb dL_law_693 rfl (lv_at hl 0 rfl) ?_
    refine lv_iload_n hx hb dL_law_694 rfl (lv_at hl 3 rfl) ?_
    refine lv_iconst (v := nI 2) hx hb dL_law_695 (by decide) ?_
    refine x_iadd (r := 7 * k + 2) hx hb dL_law_696 (rfl) ?_
    refine x_sld hx hb hX hbl hbA hS (k := 7 * k + 2) (by omega) (by omega) dL_law_697 ?_
    refine lv_aload_n hx hb dL_law_698 rfl (lv_at hl 0 rfl) ?_
    refine lv_iload_n hx hb dL_law_699 rfl (lv_at hl 3 rfl) ?_
    refine lv_iconst (v := nI 3) hx hb dL_law_700 (by decide) ?_
    refine x_iadd (r := 7 * k + 3) hx hb dL_law_701 (rfl) ?_
    refine x_sld hx hb hX hbl hbA hS (k := 7 * k + 3) (by omega) (by omega) dL_law_702 ?_
    refine lv_aload_n hx hb dL_law_703 rfl (lv_at hl 0 rfl) ?_
    refine lv_iload_n hx hb dL_law_704 rfl (lv_at hl 3 rfl) ?_
    refine lv_iconst (v := nI 4) hx hb dL_law_705 (by decide) ?_
    refine x_iadd (r := 7 * k + 4) hx hb dL_law_706 (rfl) ?_
    refine x_sld hx hb hX hbl hbA hS (k := 7 * k + 4) (by omega) (by omega) dL_law_707 ?_
    refine lv_aload_n hx hb dL_law_708 rfl (lv_at hl 0 rfl) ?_
    refine lv_iload_n hx hb dL_law_709 rfl (lv_at hl 3 rfl) ?_
    refine lv_iconst (v := nI 5) hx hb dL_law_710 (by decide) ?_
    refine x_iadd (r := 7 * k + 5) hx hb dL_law_711 (rfl) ?_
    refine x_sld hx hb hX hbl hbA hS (k := 7 * k + 5) (by omega) (by omega) dL_law_712 ?_
    refine lv_aload_n hx hb dL_law_713 rfl (lv_at hl 0 rfl) ?_
    refine lv_iload_n hx hb dL_law_714 rfl (lv_at hl 3 rfl) ?_
    refine lv_bipush (v := nI 6) hx hb dL_law_715 (by decide) ?_
    refine x_iadd (r := 7 * k + 6) hx hb dL_law_717 (rfl) ?_
    refine x_sld hx hb hX hbl hbA hS (k := 7 * k + 6) (by omega) (by omega) dL_law_718 ?_
    refine lv_if_eq (tgt := 726) hx hb dL_law_719 (by decide) (fun c_719 => absurd c_719 (c_676)) (fun c_719 => ?_)
    refine lv_iconst (v := nI 1) hx hb dL_law_722 (by decide) ?_
    refine lv_goto (tgt := 727) hx hb dL_law_723 (by decide) ?_
    refine mx_callEi (va_runV (As := [.int (xs (7 * k + 1)), .int (xs (7 * k + 2)), .int (xs (7 * k + 3)), .int (xs (7 * k + 4)), .int (xs (7 * k + 5)), .int (nI 1)]) (rest := [.int (aJoin (FJ 0) (FJ 1) (FJ 2) (jArg so (xs (7 * k + 1)) (xs (7 * k + 2)) (xs (7 * k + 3)) (xs (7 * k + 4)) (xs (7 * k + 5))) (nI 1))]) ⟨hx, hb, hml, hown, hts⟩ (c_X6_join l G ad F R so (xs (7 * k + 1)) (xs (7 * k + 2)) (xs (7 * k + 3)) (xs (7 * k + 4)) (xs (7 * k + 5)) (nI 1) hI.2.1 _) (cwV 6 hts gL_law_X6_join rfl rfl rfl (by decide +kernel) ⟨Nat.le_of_ble_eq_true rfl, Nat.le_of_ble_eq_true rfl⟩) (mx_preV hK ⟨rfl, mx_cut hP hD (a := MW G ad F R) (b := ([(aD 0, .inr (5, [.ref (aD 1), .ref (aD 2), .ref (aK 0), .ref (aJ 0), .ref (aT 0), .ref (aN 0)]))]) ++ (([(aD 1, .inl (G.2.2.2, 12, .inr (.inr (.inr (.inr (SD))))))]) ++ (([(aD 2, .inl (G.2.1, 144, .inl (WI)))]) ++ ((KW G aK FK RK) ++ ((JW G aJ FJ RJ) ++ ((TW G aT u.1 u.2) ++ ((NW G aN FN RN SR ra rl) ++ (pool G so aS FS RS m12)))))))) (mx_perm (fun n9 hn9 => by simp only [hn9, List.append_nil] <;> omega))⟩ (va_recv hK.1 hP (ci := 6) (q0 := 24) rfl rfl)) rfl rfl hl.1 rfl (lv_room (Nat.le_of_ble_eq_true rfl)) dL_law_727 ⟨by show _ ≤ 771161; omega, by show _ ≤ 6788764; omega⟩) hP hD hS hA (((mx_perm (fun n9 hn9 => by simp only [hn9, List.append_nil] <;> omega)) : List.Perm _ ((MW G ad F R) ++ (([(aD 0, .inr (5, [.ref (aD 1), .ref (aD 2), .ref (aK 0), .ref (aJ 0), .ref (aT 0), .ref (aN 0)]))]) ++ (([(aD 1, .inl (G.2.2.2, 12, .inr (.inr (.inr (.inr (SD))))))]) ++ (([(aD 2, .inl (G.2.1, 144, .inl (WI)))]) ++ ((KW G aK FK RK) ++ ((JW G aJ FJ RJ) ++ ((TW G aT u.1 u.2) ++ ((NW G aN FN RN SR ra rl) ++ (pool G so aS FS RS m12))))))))))) (fun v H locs hv hP hD hS => ?_)
    have hP : va_P G.1 vwCl ((MW G ad v.1 v.2) ++ (([(aD 0, .inr (5, [.ref (aD 1), .ref (aD 2), .ref (aK 0), .ref (aJ 0), .ref (aT 0), .ref (aN 0)]))]) ++ (([(aD 1, .inl (G.2.2.2, 12, .inr (.inr (.inr (.inr (SD))))))]) ++ (([(aD 2, .inl (G.2.1, 144, .inl (WI)))]) ++ ((KW G aK FK RK) ++ ((JW G aJ FJ RJ) ++ ((TW G aT u.1 u.2) ++ ((NW G aN FN RN SR ra rl) ++ (pool G so aS FS RS m12))))))))) H := hP
    have hD : va_D _ ((MW G ad v.1 v.2) ++ (([(aD 0, .inr (5, [.ref (aD 1), .ref (aD 2), .ref (aK 0), .ref (aJ 0), .ref (aT 0), .ref (aN 0)]))]) ++ (([(aD 1, .inl (G.2.2.2, 12, .inr (.inr (.inr (.inr (SD))))))]) ++ (([(aD 2, .inl (G.2.1, 144, .inl (WI)))]) ++ ((KW G aK FK RK) ++ ((JW G aJ FJ RJ) ++ ((TW G aT u.1 u.2) ++ ((NW G aN FN RN SR ra rl) ++ (pool G so aS FS RS m12))))))))) := hD
    have hP : va_P G.1 vwCl (([(aD 0, .inr (5, [.ref (aD 1), .ref (aD 2), .ref (aK 0), .ref (aJ 0), .ref (aT 0), .ref (aN 0)]))]) ++ (([(aD 1, .inl (G.2.2.2, 12, .inr (.inr (.inr (.inr (SD))))))]) ++ (([(aD 2, .inl (G.2.1, 144, .inl (WI)))]) ++ ((KW G aK FK RK) ++ ((JW G aJ FJ RJ) ++ ((TW G aT u.1 u.2) ++ ((NW G aN FN RN SR ra rl) ++ ((MW G ad v.1 v.2) ++ (pool G so aS FS RS m12))))))))) H := mx_Pperm hP (mx_perm (fun n9 hn9 => by simp only [hn9, List.append_nil] <;> omega))
    have hD : va_D _ (([(aD 0, .inr (5, [.ref (aD 1), .ref (aD 2), .ref (aK 0), .ref (aJ 0), .ref (aT 0), .ref (aN 0)]))]) ++ (([(aD 1, .inl (G.2.2.2, 12, .inr (.inr (.inr (.inr (SD))))))]) ++ (([(aD 2, .inl (G.2.1, 144, .inl (WI)))]) ++ ((KW G aK FK RK) ++ ((JW G aJ FJ RJ) ++ ((TW G aT u.1 u.2) ++ ((NW G aN FN RN SR ra rl) ++ ((MW G ad v.1 v.2) ++ (pool G so aS FS RS m12))))))))) := mx_Dperm hD (mx_perm (fun n9 hn9 => by simp only [hn9, List.append_nil] <;> omega))
    refine lv_icmp_eq (tgt := 943) hx hb dL_law_730 (by decide) (fun c_730 => ?_) (fun c_730 => absurd c_730 (fun q => q (by rw [hcE1, hcE2, hcE3])))
    refine x_iinc (lv' := [(3, .int (nI (7 * (k + 1)))), (0, .ref b), (1, .ref (aD 0)), (2, .ref (ad 0))]) hx hb dL_law_943 hl (k := 3) rfl (inc7 k) (by decide) rfl (fun ls hl => ?_)
    refine lv_goto (tgt := 18) hx hb dL_law_946 (by decide) ?_
    refine W.widen (k := 100 + 9 * (k + 1)) (n := 70000 + 855 * (k + 1) + 2 * rl) (by omega) (by omega) ?_
    exact ih aD SD WI aK FK RK aJ FJ RJ aT u.1 u.2 aN FN RN SR ra rl so aS FS RS ad v.1 v.2 (inv_join hI hu hv) _ _ hP hD hS _ (lv_sub hl [1, 2, 3, 0] rfl)

set_option maxHeartbeats 4000000 in
set_option maxRecDepth 100000 in
theorem lw_c_meets {p : Program} {e : Env} {s : State} {m : MethodId} {below : List Frame} {meth : Method} {c : Code} (l : Launch) {b L : Nat} {xs : Nat → Int32} (C0 : lw_At p s m meth c b L xs) (G : mx_G) (hK : mx_K G s) (hL : L ≤ 3584) (m12 k : Nat) (hm12 : m12 = 12) (hk : 7 * k + 7 ≤ L) (ih : lwGo p l e s m b below meth c G m12 (k + 1)) (aD : Nat → Nat) (SD : Nat → Option Nat) (WI : Nat → Int32) (aK : Nat → Nat) (FK : Nat → Int32) (RK : Nat → Nat → Int32) (aJ : Nat → Nat) (FJ : Nat → Int32) (RJ : Nat → Nat → Int32) (aT : Nat → Nat) (FT : Nat → Int32) (RT : Nat → Nat → Int32) (aN : Nat → Nat) (FN : Nat → Int32) (RN : Nat → Nat → Int32) (SR : Nat → Option Nat) (ra rl : Nat) (so : So) (aS : Nat → Nat → Nat) (FS : Nat → Nat → Int32) (RS : Nat → Nat → Nat → Int32) (ad : Nat → Nat) (F : Nat → Int32) (R : Nat → Nat → Int32) (hI : lwInv so SD WI FK RK FJ RJ FT RT FN RN rl aS FS RS F R) (H : Heap) (locs : List Loc) (hP : va_P G.1 vwCl (([(aD 0, .inr (5, [.ref (aD 1), .ref (aD 2), .ref (aK 0), .ref (aJ 0), .ref (aT 0), .ref (aN 0)]))]) ++ (([(aD 1, .inl (G.2.2.2, 12, .inr (.inr (.inr (.inr (SD))))))]) ++ (([(aD 2, .inl (G.2.1, 144, .inl (WI)))]) ++ ((KW G aK FK RK) ++ ((JW G aJ FJ RJ) ++ ((TW G aT FT RT) ++ ((NW G aN FN RN SR ra rl) ++ ((MW G ad F R) ++ (pool G so aS FS RS m12))))))))) H) (hD : va_D (fun q : Nat => s.heap.size ≤ q) (([(aD 0, .inr (5, [.ref (aD 1), .ref (aD 2), .ref (aK 0), .ref (aJ 0), .ref (aT 0), .ref (aN 0)]))]) ++ (([(aD 1, .inl (G.2.2.2, 12, .inr (.inr (.inr (.inr (SD))))))]) ++ (([(aD 2, .inl (G.2.1, 144, .inl (WI)))]) ++ ((KW G aK FK RK) ++ ((JW G aJ FJ RJ) ++ ((TW G aT FT RT) ++ ((NW G aN FN RN SR ra rl) ++ ((MW G ad F R) ++ (pool G so aS FS RS m12)))))))))) (hS : va_S (fun q : Nat => s.heap.size ≤ q) s.heap H locs) (ls : Array Slot) (hl : lv_has ls 4 [(0, .ref b), (1, .ref (aD 0)), (2, .ref (ad 0)), (3, .int (nI (7 * k)))]) : W p l e room_1 s m #[Value.ref b] below meth c H locs (100 + 9 * k) (70000 + 855 * k + 2 * rl) (lw_Z below #[Value.ref b] s) (F0 m 735 ls []) := by
  obtain ⟨hx, hb, hr, hml, hown0, hts0, hX, hbl, hlocks, hgv⟩ := id C0
  have hown : s.vm.findClass RL = some m.cls := hown0
  have hts : ∀ w ∈ wsL_law, w.before #[Value.ref b] s = true := fun w h => hts0 w (wsL_law_in w h)
  have hA : ∀ q : Nat, s.heap.size ≤ q → (fun q : Nat => s.heap.size ≤ q) q := fun _ h => h
  have hbA : ¬ (fun q : Nat => s.heap.size ≤ q) b := Nat.not_le.mpr hbl
  have hk5 : k ≤ 511 := by omega
  have hrl5 := rl_le hI.2.2.2.2.2.2.2.2.2.2
  obtain ⟨M9, hk9, hf9, hM9, hme9⟩ := id hI.2.2.2.2.2.2.2.2.1
  refine lv_aload_n hx hb dL_law_735 rfl (lv_at hl 1 rfl) ?_
  refine lv_aload_n hx hb dL_law_736 rfl (lv_at hl 0 rfl) ?_
  refine lv_iload_n hx hb dL_law_737 rfl (lv_at hl 3 rfl) ?_
  refine lv_iconst (v := nI 1) hx hb dL_law_738 (by decide) ?_
  refine x_iadd (r := 7 * k + 1) hx hb dL_law_739 (rfl) ?_
  refine x_sld hx hb hX hbl hbA hS (k := 7 * k + 1) (by omega) (by omega) dL_law_740 ?_
  refine lv_aload_n hx hb dL_law_741 rfl (lv_at hl 0 rfl) ?_
  refine lv_iload_n hx hb dL_law_742 rfl (lv_at hl 3 rfl) ?_
  refine lv_iconst (v := nI 2) hx hb dL_law_743 (by decide) ?_
  refine x_iadd (r := 7 * k + 2) hx hb dL_law_744 (rfl) ?_
  refine x_sld hx hb hX hbl hbA hS (k := 7 * k + 2) (by omega) (by omega) dL_law_745 ?_
  refine mx_callRO (v := .int (aMeets M9 (R 28) (R 29) (xs (7 * k + 1)) (xs (7 * k + 2)))) (va_runV (As := [.int (xs (7 * k + 1)), .int (xs (7 * k + 2))]) (rest := []) ⟨hx, hb, hml, hown, hts⟩ (c_X5_meets l G aD SD WI aK FK RK aJ FJ RJ aT FT RT aN FN RN SR ra rl m12 so aS FS RS M9 (R 28) (R 29) (xs (7 * k + 1)) (xs (7 * k + 2)) hk9 hM9 hme9) (cwV 2 hts gL_law_X5_meets rfl rfl rfl (by decide +kernel) ⟨Nat.le_of_ble_eq_true rfl, Nat.le_of_ble_eq_true rfl⟩) (mx_preV hK (mx_Psub hP (fun q9 => fun h => (List.mem_append.mp h).elim (fun h => List.mem_append_left _ h) (fun h => (List.mem_append.mp h).elim (fun h => List.mem_append_right _ (List.mem_append_left _ h)) (fun h => (List.mem_append.mp h).elim (fun h => List.mem_append_right _ (List.mem_append_right _ (List.mem_append_left _ h))) (fun h => (List.mem_append.mp h).elim (fun h => List.mem_append_right _ (List.mem_append_right _ (List.mem_append_right _ (List.mem_append_left _ h)))) (fun h => (List.mem_append.mp h).elim (fun h => List.mem_append_right _ (List.mem_append_right _ (List.mem_append_right _ (List.mem_append_right _ (List.mem_append_left _ h))))) (fun h => (List.mem_append.mp h).elim (fun h => List.mem_append_right _ (List.mem_append_right _ (List.mem_append_right _ (List.mem_append_right _ (List.mem_append_right _ (List.mem_append_left _ h)))))) (fun h => (List.mem_append.mp h).elim (fun h => List.mem_append_right _ (List.mem_append_right _ (List.mem_append_right _ (List.mem_append_right _ (List.mem_append_right _ (List.mem_append_right _ (List.mem_append_left _ h))))))) (fun h => List.mem_append_right _ (List.mem_append_right _ (List.mem_append_right _ (List.mem_append_right _ (List.mem_append_right _ (List.mem_append_right _ (List.mem_append_right _ (List.mem_append_right _ (h))))))))))))))))) (va_recv hK.1 hP (ci := 5) (q0 := 0) rfl rfl)) rfl rfl hl.1 rfl (lv_room (Nat.le_of_ble_eq_true rfl)) dL_law_746 ⟨by show _ ≤ 771161; omega, by show _ ≤ 6788764; omega⟩) ?_
  refine lv_aload_n hx hb dL_law_749 rfl (lv_at hl 2 rfl) ?_
  refine lv_aload_n hx hb dL_law_750 rfl (lv_at hl 0 rfl) ?_
  refine lv_iload_n hx hb dL_law_751 rfl (lv_at hl 3 rfl) ?_
  refine lv_iconst (v := nI 1) hx hb dL_law_752 (by decide) ?_
  refine x_iadd (r := 7 * k + 1) hx hb dL_law_753 (rfl) ?_
  refine x_sld hx hb hX hbl hbA hS (k := 7 * k + 1) (by omega) (by omega) dL_law_754 ?_
  refine lv_aload_n hx hb dL_law_755 rfl (lv_at hl 0 rfl) ?_
  refine lv_iload_n hx hb dL_law_756 rfl (lv_at hl 3 rfl) ?_
  refine lv_iconst (v := nI 2) hx hb dL_law_757 (by decide) ?_
  refine x_iadd (r := 7 * k + 2) hx hb dL_law_758 (rfl) ?_
  refine x_sld hx hb hX hbl hbA hS (k := 7 * k + 2) (by omega) (by omega) dL_law_759 ?_
  refine mx_callRO (v := .int (aMeets M9 (R 28) (R 29) (xs (7 * k + 1)) (xs (7 * k + 2)))) (va_runV (As := [.int (xs (7 * k + 1)), .int (xs (7 * k + 2))]) (rest := [.int (aMeets M9 (R 28) (R 29) (xs (7 * k + 1)) (xs (7 * k + 2)))]) ⟨hx, hb, hml, hown, hts⟩ (c_X6_meets l G ad F R M9 (xs (7 * k + 1)) (xs (7 * k + 2)) hf9 hM9) (cwV 2 hts gL_law_X6_meets rfl rfl rfl (by decide +kernel) ⟨Nat.le_of_ble_eq_true rfl, Nat.le_of_ble_eq_true rfl⟩) (mx_preV hK (mx_Psub hP (fun q9 => fun h => List.mem_append_right _ (List.mem_append_right _ (List.mem_append_right _ (List.mem_append_right _ (List.mem_append_right _ (List.mem_append_right _ (List.mem_append_right _ (List.mem_append_left _ h))))))))) (va_recv hK.1 hP (ci := 6) (q0 := 24) rfl rfl)) rfl rfl hl.1 rfl (lv_room (Nat.le_of_ble_eq_true rfl)) dL_law_760 ⟨by show _ ≤ 771161; omega, by show _ ≤ 6788764; omega⟩) ?_
  refine lv_icmp_eq (tgt := 943) hx hb dL_law_763 (by decide) (fun c_763 => ?_) (fun c_763 => absurd c_763 (fun q => q (rfl)))
  refine x_iinc (lv' := [(3, .int (nI (7 * (k + 1)))), (0, .ref b), (1, .ref (aD 0)), (2, .ref (ad 0))]) hx hb dL_law_943 hl (k := 3) rfl (inc7 k) (by decide) rfl (fun ls hl => ?_)
  refine lv_goto (tgt := 18) hx hb dL_law_946 (by decide) ?_
  refine W.widen (k := 100 + 9 * (k + 1)) (n := 70000 + 855 * (k + 1) + 2 * rl) (by omega) (by omega) ?_
  exact ih aD SD WI aK FK RK aJ FJ RJ aT FT RT aN FN RN SR ra rl so aS FS RS ad F R hI _ _ hP hD hS _ (lv_sub hl [1, 2, 3, 0] rfl)

set_option maxHeartbeats 4000000 in
set_option maxRecDepth 100000 in
theorem lw_c_best {p : Program} {e : Env} {s : State} {m : MethodId} {below : List Frame} {meth : Method} {c : Code} (l : Launch) {b L : Nat} {xs : Nat → Int32} (C0 : lw_At p s m meth c b L xs) (G : mx_G) (hK : mx_K G s) (hL : L ≤ 3584) (m12 k : Nat) (hm12 : m12 = 12) (hk : 7 * k + 7 ≤ L) (ih : lwGo p l e s m b below meth c G m12 (k + 1)) (aD : Nat → Nat) (SD : Nat → Option Nat) (WI : Nat → Int32) (aK : Nat → Nat) (FK : Nat → Int32) (RK : Nat → Nat → Int32) (aJ : Nat → Nat) (FJ : Nat → Int32) (RJ : Nat → Nat → Int32) (aT : Nat → Nat) (FT : Nat → Int32) (RT : Nat → Nat → Int32) (aN : Nat → Nat) (FN : Nat → Int32) (RN : Nat → Nat → Int32) (SR : Nat → Option Nat) (ra rl : Nat) (so : So) (aS : Nat → Nat → Nat) (FS : Nat → Nat → Int32) (RS : Nat → Nat → Nat → Int32) (ad : Nat → Nat) (F : Nat → Int32) (R : Nat → Nat → Int32) (hI : lwInv so SD WI FK RK FJ RJ FT RT FN RN rl aS FS RS F R) (H : Heap) (locs : List Loc) (hP : va_P G.1 vwCl (([(aD 0, .inr (5, [.ref (aD 1), .ref (aD 2), .ref (aK 0), .ref (aJ 0), .ref (aT 0), .ref (aN 0)]))]) ++ (([(aD 1, .inl (G.2.2.2, 12, .inr (.inr (.inr (.inr (SD))))))]) ++ (([(aD 2, .inl (G.2.1, 144, .inl (WI)))]) ++ ((KW G aK FK RK) ++ ((JW G aJ FJ RJ) ++ ((TW G aT FT RT) ++ ((NW G aN FN RN SR ra rl) ++ ((MW G ad F R) ++ (pool G so aS FS RS m12))))))))) H) (hD : va_D (fun q : Nat => s.heap.size ≤ q) (([(aD 0, .inr (5, [.ref (aD 1), .ref (aD 2), .ref (aK 0), .ref (aJ 0), .ref (aT 0), .ref (aN 0)]))]) ++ (([(aD 1, .inl (G.2.2.2, 12, .inr (.inr (.inr (.inr (SD))))))]) ++ (([(aD 2, .inl (G.2.1, 144, .inl (WI)))]) ++ ((KW G aK FK RK) ++ ((JW G aJ FJ RJ) ++ ((TW G aT FT RT) ++ ((NW G aN FN RN SR ra rl) ++ ((MW G ad F R) ++ (pool G so aS FS RS m12)))))))))) (hS : va_S (fun q : Nat => s.heap.size ≤ q) s.heap H locs) (ls : Array Slot) (hl : lv_has ls 4 [(0, .ref b), (1, .ref (aD 0)), (2, .ref (ad 0)), (3, .int (nI (7 * k)))]) : W p l e room_1 s m #[Value.ref b] below meth c H locs (100 + 9 * k) (70000 + 855 * k + 2 * rl) (lw_Z below #[Value.ref b] s) (F0 m 768 ls []) := by
  obtain ⟨hx, hb, hr, hml, hown0, hts0, hX, hbl, hlocks, hgv⟩ := id C0
  have hown : s.vm.findClass RL = some m.cls := hown0
  have hts : ∀ w ∈ wsL_law, w.before #[Value.ref b] s = true := fun w h => hts0 w (wsL_law_in w h)
  have hA : ∀ q : Nat, s.heap.size ≤ q → (fun q : Nat => s.heap.size ≤ q) q := fun _ h => h
  have hbA : ¬ (fun q : Nat => s.heap.size ≤ q) b := Nat.not_le.mpr hbl
  have hk5 : k ≤ 511 := by omega
  have hrl5 := rl_le hI.2.2.2.2.2.2.2.2.2.2
  obtain ⟨hcE1, hcE2, hcE3, hcs9⟩ := id hI.2.2.2.2.2.2.1
  refine lv_aload_n hx hb dL_law_768 rfl (lv_at hl 1 rfl) ?_
  refine lv_aload_n hx hb dL_law_769 rfl (lv_at hl 0 rfl) ?_
  refine lv_iload_n hx hb dL_law_770 rfl (lv_at hl 3 rfl) ?_
  refine lv_iconst (v := nI 1) hx hb dL_law_771 (by decide) ?_
  refine x_iadd (r := 7 * k + 1) hx hb dL_law_772 (rfl) ?_
  refine x_sld hx hb hX hbl hbA hS (k := 7 * k + 1) (by omega) (by omega) dL_law_773 ?_
  refine lv_aload_n hx hb dL_law_774 rfl (lv_at hl 0 rfl) ?_
  refine lv_iload_n hx hb dL_law_775 rfl (lv_at hl 3 rfl) ?_
  refine lv_iconst (v := nI 2) hx hb dL_law_776 (by decide) ?_
  refine x_iadd (r := 7 * k + 2) hx hb dL_law_777 (rfl) ?_
  refine x_sld hx hb hX hbl hbA hS (k := 7 * k + 2) (by omega) (by omega) dL_law_778 ?_
  refine lv_aload_n hx hb dL_law_779 rfl (lv_at hl 0 rfl) ?_
  refine lv_iload_n hx hb dL_law_780 rfl (lv_at hl 3 rfl) ?_
  refine lv_iconst (v := nI 3) hx hb dL_law_781 (by decide) ?_
  refine x_iadd (r := 7 * k + 3) hx hb dL_law_782 (rfl) ?_
  refine x_sld hx hb hX hbl hbA hS (k := 7 * k + 3) (by omega) (by omega) dL_law_783 ?_
  refine lv_aload_n hx hb dL_law_784 rfl (lv_at hl 0 rfl) ?_
  refine lv_iload_n hx hb dL_law_785 rfl (lv_at hl 3 rfl) ?_
  refine lv_iconst (v := nI 4) hx hb dL_law_786 (by decide) ?_
  refine x_iadd (r := 7 * k + 4) hx hb dL_law_787 (rfl) ?_
  refine x_sld hx hb hX hbl hbA hS (k := 7 * k + 4) (by omega) (by omega) dL_law_788 ?_
  refine mx_callEi (va_runV (As := [.int (xs (7 * k + 1)), .int (xs (7 * k + 2)), .int (xs (7 * k + 3)), .int (xs (7 * k + 4))]) (rest := []) ⟨hx, hb, hml, hown, hts⟩ (c_X5_best l G aD SD WI aK FK RK aJ FJ RJ aT FT RT aN FN RN SR ra rl m12 so aS FS RS (xs (7 * k + 1)) (xs (7 * k + 2)) (xs (7 * k + 3)) (xs (7 * k + 4)) hm12 hI.1 hcs9 hI.2.2.1 hI.2.2.2.2.2.2.2.1 _) (cwV 4 hts gL_law_X5_best rfl rfl rfl (by decide +kernel) ⟨Nat.le_of_ble_eq_true rfl, Nat.le_of_ble_eq_true rfl⟩) (mx_preV hK ⟨rfl, mx_cut hP hD (a := ([(aD 0, .inr (5, [.ref (aD 1), .ref (aD 2), .ref (aK 0), .ref (aJ 0), .ref (aT 0), .ref (aN 0)]))]) ++ (([(aD 1, .inl (G.2.2.2, 12, .inr (.inr (.inr (.inr (SD))))))]) ++ (([(aD 2, .inl (G.2.1, 144, .inl (WI)))]) ++ ((KW G aK FK RK) ++ ((JW G aJ FJ RJ) ++ ((TW G aT FT RT) ++ ((NW G aN FN RN SR ra rl) ++ (pool G so aS FS RS m12)))))))) (b := MW G ad F R) (mx_perm (fun n9 hn9 => by simp only [hn9, List.append_nil] <;> omega))⟩ (va_recv hK.1 hP (ci := 5) (q0 := 0) rfl rfl)) rfl rfl hl.1 rfl (lv_room (Nat.le_of_ble_eq_true rfl)) dL_law_789 ⟨by show _ ≤ 771161; omega, by show _ ≤ 6788764; omega⟩) hP hD hS hA (((mx_perm (fun n9 hn9 => by simp only [hn9, List.append_nil] <;> omega)) : List.Perm _ ((([(aD 0, .inr (5, [.ref (aD 1), .ref (aD 2), .ref (aK 0), .ref (aJ 0), .ref (aT 0), .ref (aN 0)]))]) ++ (([(aD 1, .inl (G.2.2.2, 12, .inr (.inr (.inr (.inr (SD))))))]) ++ (([(aD 2, .inl (G.2.1, 144, .inl (WI)))]) ++ ((KW G aK FK RK) ++ ((JW G aJ FJ RJ) ++ ((TW G aT FT RT) ++ ((NW G aN FN RN SR ra rl) ++ (pool G so aS FS RS m12)))))))) ++ (MW G ad F R)))) (fun u H locs hu hP hD hS => ?_)
  have hP : va_P G.1 vwCl ((([(aD 0, .inr (5, [.ref (aD 1), .ref (aD 2), .ref (aK 0), .ref (aJ 0), .ref (aT 0), .ref (aN 0)]))]) ++ (([(aD 1, .inl (G.2.2.2, 12, .inr (.inr (.inr (.inr (SD))))))]) ++ (([(aD 2, .inl (G.2.1, 144, .inl (WI)))]) ++ ((KW G aK FK RK) ++ ((JW G aJ FJ (va_up (va_up (va_up (va_up (va_up RJ 3 u.1) 4 u.2.1) 5 u.2.2.1) 6 u.2.2.2.1) 7 u.2.2.2.2)) ++ ((TW G aT FT RT) ++ ((NW G aN FN RN SR ra rl) ++ (pool G so aS FS RS m12)))))))) ++ (MW G ad F R)) H := hP
  have hD : va_D _ ((([(aD 0, .inr (5, [.ref (aD 1), .ref (aD 2), .ref (aK 0), .ref (aJ 0), .ref (aT 0), .ref (aN 0)]))]) ++ (([(aD 1, .inl (G.2.2.2, 12, .inr (.inr (.inr (.inr (SD))))))]) ++ (([(aD 2, .inl (G.2.1, 144, .inl (WI)))]) ++ ((KW G aK FK RK) ++ ((JW G aJ FJ (va_up (va_up (va_up (va_up (va_up RJ 3 u.1) 4 u.2.1) 5 u.2.2.1) 6 u.2.2.2.1) 7 u.2.2.2.2)) ++ ((TW G aT FT RT) ++ ((NW G aN FN RN SR ra rl) ++ (pool G so aS FS RS m12)))))))) ++ (MW G ad F R)) := hD
  have hP : va_P G.1 vwCl (([(aD 0, .inr (5, [.ref (aD 1), .ref (aD 2), .ref (aK 0), .ref (aJ 0), .ref (aT 0), .ref (aN 0)]))]) ++ (([(aD 1, .inl (G.2.2.2, 12, .inr (.inr (.inr (.inr (SD))))))]) ++ (([(aD 2, .inl (G.2.1, 144, .inl (WI)))]) ++ ((KW G aK FK RK) ++ ((JW G aJ FJ (va_up (va_up (va_up (va_up (va_up RJ 3 u.1) 4 u.2.1) 5 u.2.2.1) 6 u.2.2.2.1) 7 u.2.2.2.2)) ++ ((TW G aT FT RT) ++ ((NW G aN FN RN SR ra rl) ++ ((MW G ad F R) ++ (pool G so aS FS RS m12))))))))) H := mx_Pperm hP (mx_perm (fun n9 hn9 => by simp only [hn9, List.append_nil] <;> omega))
  have hD : va_D _ (([(aD 0, .inr (5, [.ref (aD 1), .ref (aD 2), .ref (aK 0), .ref (aJ 0), .ref (aT 0), .ref (aN 0)]))]) ++ (([(aD 1, .inl (G.2.2.2, 12, .inr (.inr (.inr (.inr (SD))))))]) ++ (([(aD 2, .inl (G.2.1, 144, .inl (WI)))]) ++ ((KW G aK FK RK) ++ ((JW G aJ FJ (va_up (va_up (va_up (va_up (va_up RJ 3 u.1) 4 u.2.1) 5 u.2.2.1) 6 u.2.2.2.1) 7 u.2.2.2.2)) ++ ((TW G aT FT RT) ++ ((NW G aN FN RN SR ra rl) ++ ((MW G ad F R) ++ (pool G so aS FS RS m12))))))))) := mx_Dperm hD (mx_perm (fun n9 hn9 => by simp only [hn9, List.append_nil] <;> omega))
  refine lv_aload_n hx hb dL_law_792 rfl (lv_at hl 2 rfl) ?_
  refine lv_aload_n hx hb dL_law_793 rfl (lv_at hl 0 rfl) ?_
  refine lv_iload_n hx hb dL_law_794 rfl (lv_at hl 3 rfl) ?_
  refine lv_iconst (v := nI 1) hx hb dL_law_795 (by decide) ?_
  refine x_iadd (r := 7 * k + 1) hx hb dL_law_796 (rfl) ?_
  refine x_sld hx hb hX hbl hbA hS (k := 7 * k + 1) (by omega) (by omega) dL_law_797 ?_
  refine lv_aload_n hx hb dL_law_798 rfl (lv_at hl 0 rfl) ?_
  refine lv_iload_n hx hb dL_law_799 rfl (lv_at hl 3 rfl) ?_
  refine lv_iconst (v := nI 2) hx hb dL_law_800 (by decide) ?_
  refine x_iadd (r := 7 * k + 2) hx hb dL_law_801 (rfl) ?_
  refine x_sld hx hb hX hbl hbA hS (k := 7 * k + 2) (by omega) (by omega) dL_law_802 ?_
  refine lv_aload_n hx hb dL_law_803 rfl (lv_at hl 0 rfl) ?_
  refine lv_iload_n hx hb dL_law_804 rfl (lv_at hl 3 rfl) ?_
  refine lv_iconst (v := nI 3) hx hb dL_law_805 (by decide) ?_
  refine x_iadd (r := 7 * k + 3) hx hb dL_law_806 (rfl) ?_
  refine x_sld hx hb hX hbl hbA hS (k := 7 * k + 3) (by omega) (by omega) dL_law_807 ?_
  refine lv_aload_n hx hb dL_law_808 rfl (lv_at hl 0 rfl) ?_
  refine lv_iload_n hx hb dL_law_809 rfl (lv_at hl 3 rfl) ?_
  refine lv_iconst (v := nI 4) hx hb dL_law_810 (by decide) ?_
  refine x_iadd (r := 7 * k + 4) hx hb dL_law_811 (rfl) ?_
  refine x_sld hx hb hX hbl hbA hS (k := 7 * k + 4) (by omega) (by omega) dL_law_812 ?_
  refine mx_callEi (va_runV (As := [.int (xs (7 * k + 1)), .int (xs (7 * k + 2)), .int (xs (7 * k + 3)), .int (xs (7 * k + 4))]) (rest := [.int (aBest (FJ 0) (FJ 1) (FJ 2) (bArg so (xs (7 * k + 1)) (xs (7 * k + 2)) (xs (7 * k + 3)) (xs (7 * k + 4))) (xs (7 * k + 4)))]) ⟨hx, hb, hml, hown, hts⟩ (c_X6_best l G ad F R so (xs (7 * k + 1)) (xs (7 * k + 2)) (xs (7 * k + 3)) (xs (7 * k + 4)) hI.2.1 _) (cwV 4 hts gL_law_X6_best rfl rfl rfl (by decide +kernel) ⟨Nat.le_of_ble_eq_true rfl, Nat.le_of_ble_eq_true rfl⟩) (mx_preV hK ⟨rfl, mx_cut hP hD (a := MW G ad F R) (b := ([(aD 0, .inr (5, [.ref (aD 1), .ref (aD 2), .ref (aK 0), .ref (aJ 0), .ref (aT 0), .ref (aN 0)]))]) ++ (([(aD 1, .inl (G.2.2.2, 12, .inr (.inr (.inr (.inr (SD))))))]) ++ (([(aD 2, .inl (G.2.1, 144, .inl (WI)))]) ++ ((KW G aK FK RK) ++ ((JW G aJ FJ (va_up (va_up (va_up (va_up (va_up RJ 3 u.1) 4 u.2.1) 5 u.2.2.1) 6 u.2.2.2.1) 7 u.2.2.2.2)) ++ ((TW G aT FT RT) ++ ((NW G aN FN RN SR ra rl) ++ (pool G so aS FS RS m12)))))))) (mx_perm (fun n9 hn9 => by simp only [hn9, List.append_nil] <;> omega))⟩ (va_recv hK.1 hP (ci := 6) (q0 := 24) rfl rfl)) rfl rfl hl.1 rfl (lv_room (Nat.le_of_ble_eq_true rfl)) dL_law_813 ⟨by show _ ≤ 771161; omega, by show _ ≤ 6788764; omega⟩) hP hD hS hA (((mx_perm (fun n9 hn9 => by simp only [hn9, List.append_nil] <;> omega)) : List.Perm _ ((MW G ad F R) ++ (([(aD 0, .inr (5, [.ref (aD 1), .ref (aD 2), .ref (aK 0), .ref (aJ 0), .ref (aT 0), .ref (aN 0)]))]) ++ (([(aD 1, .inl (G.2.2.2, 12, .inr (.inr (.inr (.inr (SD))))))]) ++ (([(aD 2, .inl (G.2.1, 144, .inl (WI)))]) ++ ((KW G aK FK RK) ++ ((JW G aJ FJ (va_up (va_up (va_up (va_up (va_up RJ 3 u.1) 4 u.2.1) 5 u.2.2.1) 6 u.2.2.2.1) 7 u.2.2.2.2)) ++ ((TW G aT FT RT) ++ ((NW G aN FN RN SR ra rl) ++ (pool G so aS FS RS m12))))))))))) (fun v H locs hv hP hD hS => ?_)
  have hP : va_P G.1 vwCl ((MW G ad v.1 v.2) ++ (([(aD 0, .inr (5, [.ref (aD 1), .ref (aD 2), .ref (aK 0), .ref (aJ 0), .ref (aT 0), .ref (aN 0)]))]) ++ (([(aD 1, .inl (G.2.2.2, 12, .inr (.inr (.inr (.inr (SD))))))]) ++ (([(aD 2, .inl (G.2.1, 144, .inl (WI)))]) ++ ((KW G aK FK RK) ++ ((JW G aJ FJ (va_up (va_up (va_up (va_up (va_up RJ 3 u.1) 4 u.2.1) 5 u.2.2.1) 6 u.2.2.2.1) 7 u.2.2.2.2)) ++ ((TW G aT FT RT) ++ ((NW G aN FN RN SR ra rl) ++ (pool G so aS FS RS m12))))))))) H := hP
  have hD : va_D _ ((MW G ad v.1 v.2) ++ (([(aD 0, .inr (5, [.ref (aD 1), .ref (aD 2), .ref (aK 0), .ref (aJ 0), .ref (aT 0), .ref (aN 0)]))]) ++ (([(aD 1, .inl (G.2.2.2, 12, .inr (.inr (.inr (.inr (SD))))))]) ++ (([(aD 2, .inl (G.2.1, 144, .inl (WI)))]) ++ ((KW G aK FK RK) ++ ((JW G aJ FJ (va_up (va_up (va_up (va_up (va_up RJ 3 u.1) 4 u.2.1) 5 u.2.2.1) 6 u.2.2.2.1) 7 u.2.2.2.2)) ++ ((TW G aT FT RT) ++ ((NW G aN FN RN SR ra rl) ++ (pool G so aS FS RS m12))))))))) := hD
  have hP : va_P G.1 vwCl (([(aD 0, .inr (5, [.ref (aD 1), .ref (aD 2), .ref (aK 0), .ref (aJ 0), .ref (aT 0), .ref (aN 0)]))]) ++ (([(aD 1, .inl (G.2.2.2, 12, .inr (.inr (.inr (.inr (SD))))))]) ++ (([(aD 2, .inl (G.2.1, 144, .inl (WI)))]) ++ ((KW G aK FK RK) ++ ((JW G aJ FJ (va_up (va_up (va_up (va_up (va_up RJ 3 u.1) 4 u.2.1) 5 u.2.2.1) 6 u.2.2.2.1) 7 u.2.2.2.2)) ++ ((TW G aT FT RT) ++ ((NW G aN FN RN SR ra rl) ++ ((MW G ad v.1 v.2) ++ (pool G so aS FS RS m12))))))))) H := mx_Pperm hP (mx_perm (fun n9 hn9 => by simp only [hn9, List.append_nil] <;> omega))
  have hD : va_D _ (([(aD 0, .inr (5, [.ref (aD 1), .ref (aD 2), .ref (aK 0), .ref (aJ 0), .ref (aT 0), .ref (aN 0)]))]) ++ (([(aD 1, .inl (G.2.2.2, 12, .inr (.inr (.inr (.inr (SD))))))]) ++ (([(aD 2, .inl (G.2.1, 144, .inl (WI)))]) ++ ((KW G aK FK RK) ++ ((JW G aJ FJ (va_up (va_up (va_up (va_up (va_up RJ 3 u.1) 4 u.2.1) 5 u.2.2.1) 6 u.2.2.2.1) 7 u.2.2.2.2)) ++ ((TW G aT FT RT) ++ ((NW G aN FN RN SR ra rl) ++ ((MW G ad v.1 v.2) ++ (pool G so aS FS RS m12))))))))) := mx_Dperm hD (mx_perm (fun n9 hn9 => by simp only [hn9, List.append_nil] <;> omega))
  refine lv_icmp_eq (tgt := 943) hx hb dL_law_816 (by decide) (fun c_816 => ?_) (fun c_816 => absurd c_816 (fun q => q (by rw [hcE1, hcE2, hcE3])))
  refine x_iinc (lv' := [(3, .int (nI (7 * (k + 1)))), (0, .ref b), (1, .ref (aD 0)), (2, .ref (ad 0))]) hx hb dL_law_943 hl (k := 3) rfl (inc7 k) (by decide) rfl (fun ls hl => ?_)
  refine lv_goto (tgt := 18) hx hb dL_law_946 (by decide) ?_
  refine W.widen (k := 100 + 9 * (k + 1)) (n := 70000 + 855 * (k + 1) + 2 * rl) (by omega) (by omega) ?_
  exact ih aD SD WI aK FK RK aJ FJ (va_up (va_up (va_up (va_up (va_up RJ 3 u.1) 4 u.2.1) 5 u.2.2.1) 6 u.2.2.2.1) 7 u.2.2.2.2) aT FT RT aN FN RN SR ra rl so aS FS RS ad v.1 v.2 (inv_best hI hu hv) _ _ hP hD hS _ (lv_sub hl [1, 2, 3, 0] rfl)
