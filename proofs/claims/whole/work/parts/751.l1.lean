set_option maxHeartbeats 4000000 in
set_option maxRecDepth 100000 in
theorem lw_c_song {p : Program} {e : Env} {s : State} {m : MethodId} {below : List Frame} {meth : Method} {c : Code} (l : Launch) {b L : Nat} {xs : Nat → Int32} (C0 : lw_At p s m meth c b L xs) (G : mx_G) (hK : mx_K G s) (hL : L ≤ 3584) (m12 k : Nat) (hm12 : m12 = 12) (hk : 7 * k + 7 ≤ L) (ih : lwGo p l e s m b below meth c G m12 (k + 1)) (aD : Nat → Nat) (SD : Nat → Option Nat) (WI : Nat → Int32) (aK : Nat → Nat) (FK : Nat → Int32) (RK : Nat → Nat → Int32) (aJ : Nat → Nat) (FJ : Nat → Int32) (RJ : Nat → Nat → Int32) (aT : Nat → Nat) (FT : Nat → Int32) (RT : Nat → Nat → Int32) (aN : Nat → Nat) (FN : Nat → Int32) (RN : Nat → Nat → Int32) (SR : Nat → Option Nat) (ra rl : Nat) (so : So) (aS : Nat → Nat → Nat) (FS : Nat → Nat → Int32) (RS : Nat → Nat → Nat → Int32) (ad : Nat → Nat) (F : Nat → Int32) (R : Nat → Nat → Int32) (hI : lwInv so SD WI FK RK FJ RJ FT RT FN RN rl aS FS RS F R) (H : Heap) (locs : List Loc) (hP : va_P G.1 vwCl (([(aD 0, .inr (5, [.ref (aD 1), .ref (aD 2), .ref (aK 0), .ref (aJ 0), .ref (aT 0), .ref (aN 0)]))]) ++ (([(aD 1, .inl (G.2.2.2, 12, .inr (.inr (.inr (.inr (SD))))))]) ++ (([(aD 2, .inl (G.2.1, 144, .inl (WI)))]) ++ ((KW G aK FK RK) ++ ((JW G aJ FJ RJ) ++ ((TW G aT FT RT) ++ ((NW G aN FN RN SR ra rl) ++ ((MW G ad F R) ++ (pool G so aS FS RS m12))))))))) H) (hD : va_D (fun q : Nat => s.heap.size ≤ q) (([(aD 0, .inr (5, [.ref (aD 1), .ref (aD 2), .ref (aK 0), .ref (aJ 0), .ref (aT 0), .ref (aN 0)]))]) ++ (([(aD 1, .inl (G.2.2.2, 12, .inr (.inr (.inr (.inr (SD))))))]) ++ (([(aD 2, .inl (G.2.1, 144, .inl (WI)))]) ++ ((KW G aK FK RK) ++ ((JW G aJ FJ RJ) ++ ((TW G aT FT RT) ++ ((NW G aN FN RN SR ra rl) ++ ((MW G ad F R) ++ (pool G so aS FS RS m12)))))))))) (hS : va_S (fun q : Nat => s.heap.size ≤ q) s.heap H locs) (ls : Array Slot) (hl : lv_has ls 4 [(0, .ref b), (1, .ref (aD 0)), (2, .ref (ad 0)), (3, .int (nI (7 * k)))]) : W p l e room_1 s m #[Value.ref b] below meth c H locs (100 + 9 * k) (70000 + 855 * k + 2 * rl) (lw_Z below #[Value.ref b] s) (F0 m 132 ls []) := by
  obtain ⟨hx, hb, hr, hml, hown0, hts0, hX, hbl, hlocks, hgv⟩ := id C0
  have hown : s.vm.findClass RL = some m.cls := hown0
  have hts : ∀ w ∈ wsL_law, w.before #[Value.ref b] s = true := fun w h => hts0 w (wsL_law_in w h)
  have hA : ∀ q : Nat, s.heap.size ≤ q → (fun q : Nat => s.heap.size ≤ q) q := fun _ h => h
  have hbA : ¬ (fun q : Nat => s.heap.size ≤ q) b := Nat.not_le.mpr hbl
  have hk5 : k ≤ 511 := by omega
  have hrl5 := rl_le hI.2.2.2.2.2.2.2.2.2.2
  refine lv_aload_n hx hb dL_law_132 rfl (lv_at hl 1 rfl) ?_
  refine lv_aload_n hx hb dL_law_133 rfl (lv_at hl 0 rfl) ?_
  refine lv_iload_n hx hb dL_law_134 rfl (lv_at hl 3 rfl) ?_
  refine lv_iconst (v := nI 1) hx hb dL_law_135 (by decide) ?_
  refine x_iadd (r := 7 * k + 1) hx hb dL_law_136 (rfl) ?_
  refine x_sld hx hb hX hbl hbA hS (k := 7 * k + 1) (by omega) (by omega) dL_law_137 ?_
  refine lv_aload_n hx hb dL_law_138 rfl (lv_at hl 0 rfl) ?_
  refine lv_iload_n hx hb dL_law_139 rfl (lv_at hl 3 rfl) ?_
  refine lv_iconst (v := nI 2) hx hb dL_law_140 (by decide) ?_
  refine x_iadd (r := 7 * k + 2) hx hb dL_law_141 (rfl) ?_
  refine x_sld hx hb hX hbl hbA hS (k := 7 * k + 2) (by omega) (by omega) dL_law_142 ?_
  refine lv_aload_n hx hb dL_law_143 rfl (lv_at hl 0 rfl) ?_
  refine lv_iload_n hx hb dL_law_144 rfl (lv_at hl 3 rfl) ?_
  refine lv_iconst (v := nI 3) hx hb dL_law_145 (by decide) ?_
  refine x_iadd (r := 7 * k + 3) hx hb dL_law_146 (rfl) ?_
  refine x_sld hx hb hX hbl hbA hS (k := 7 * k + 3) (by omega) (by omega) dL_law_147 ?_
  refine lv_aload_n hx hb dL_law_148 rfl (lv_at hl 0 rfl) ?_
  refine lv_iload_n hx hb dL_law_149 rfl (lv_at hl 3 rfl) ?_
  refine lv_iconst (v := nI 4) hx hb dL_law_150 (by decide) ?_
  refine x_iadd (r := 7 * k + 4) hx hb dL_law_151 (rfl) ?_
  refine x_sld hx hb hX hbl hbA hS (k := 7 * k + 4) (by omega) (by omega) dL_law_152 ?_
  refine lv_aload_n hx hb dL_law_153 rfl (lv_at hl 0 rfl) ?_
  refine lv_iload_n hx hb dL_law_154 rfl (lv_at hl 3 rfl) ?_
  refine lv_iconst (v := nI 5) hx hb dL_law_155 (by decide) ?_
  refine x_iadd (r := 7 * k + 5) hx hb dL_law_156 (rfl) ?_
  refine x_sld hx hb hX hbl hbA hS (k := 7 * k + 5) (by omega) (by omega) dL_law_157 ?_
  refine mx_callEi (va_runV (As := [.int (xs (7 * k + 1)), .int (xs (7 * k + 2)), .int (xs (7 * k + 3)), .int (xs (7 * k + 4)), .int (xs (7 * k + 5))]) (rest := []) ⟨hx, hb, hml, hown, hts⟩ (c_X5_song l G aD SD WI aK FK RK aJ FJ RJ aT FT RT aN FN RN SR ra rl m12 so aS FS RS (xs (7 * k + 1)) (xs (7 * k + 2)) (xs (7 * k + 3)) (xs (7 * k + 4)) (xs (7 * k + 5)) hm12 hI.1 _) (cwV 5 hts gL_law_X5_song rfl rfl rfl (by decide +kernel) ⟨Nat.le_of_ble_eq_true rfl, Nat.le_of_ble_eq_true rfl⟩) (mx_preV hK ⟨rfl, mx_cut hP hD (a := ([(aD 0, .inr (5, [.ref (aD 1), .ref (aD 2), .ref (aK 0), .ref (aJ 0), .ref (aT 0), .ref (aN 0)]))]) ++ (([(aD 1, .inl (G.2.2.2, 12, .inr (.inr (.inr (.inr (SD))))))]) ++ (([(aD 2, .inl (G.2.1, 144, .inl (WI)))]) ++ ((KW G aK FK RK) ++ ((JW G aJ FJ RJ) ++ ((TW G aT FT RT) ++ ((NW G aN FN RN SR ra rl) ++ (pool G so aS FS RS m12)))))))) (b := MW G ad F R) (mx_perm (fun n9 hn9 => by simp only [hn9, List.append_nil] <;> omega))⟩ (va_recv hK.1 hP (ci := 5) (q0 := 0) rfl rfl)) rfl rfl hl.1 rfl (lv_room (Nat.le_of_ble_eq_true rfl)) dL_law_158 ⟨by show _ ≤ 771161; omega, by show _ ≤ 6788764; omega⟩) hP hD hS hA (((mx_perm (fun n9 hn9 => by simp only [hn9, List.append_nil] <;> omega)) : List.Perm _ ((([(aD 0, .inr (5, [.ref (aD 1), .ref (aD 2), .ref (aK 0), .ref (aJ 0), .ref (aT 0), .ref (aN 0)]))]) ++ (([(aD 1, .inl (G.2.2.2, 12, .inr (.inr (.inr (.inr (SD))))))]) ++ (([(aD 2, .inl (G.2.1, 144, .inl (WI)))]) ++ ((KW G aK FK RK) ++ ((JW G aJ FJ RJ) ++ ((TW G aT FT RT) ++ ((NW G aN FN RN SR ra rl) ++ (pool G so aS FS RS m12)))))))) ++ (MW G ad F R)))) (fun u H locs hu hP hD hS => ?_)
  have hP : va_P G.1 vwCl ((([(aD 0, .inr (5, [.ref (aD 1), .ref (aD 2), .ref (aK 0), .ref (aJ 0), .ref (aT 0), .ref (aN 0)]))]) ++ (([(aD 1, .inl (G.2.2.2, 12, .inr (.inr (.inr (.inr (u.2.1))))))]) ++ (([(aD 2, .inl (G.2.1, 144, .inl (u.2.2.1)))]) ++ ((KW G aK FK RK) ++ ((JW G aJ FJ (va_up RJ 3 u.2.2.2.1)) ++ ((TW G aT FT RT) ++ ((NW G aN FN RN SR ra rl) ++ (pool G u.1 u.2.2.2.2.1 u.2.2.2.2.2.1 u.2.2.2.2.2.2 m12)))))))) ++ (MW G ad F R)) H := hP
  have hD : va_D _ ((([(aD 0, .inr (5, [.ref (aD 1), .ref (aD 2), .ref (aK 0), .ref (aJ 0), .ref (aT 0), .ref (aN 0)]))]) ++ (([(aD 1, .inl (G.2.2.2, 12, .inr (.inr (.inr (.inr (u.2.1))))))]) ++ (([(aD 2, .inl (G.2.1, 144, .inl (u.2.2.1)))]) ++ ((KW G aK FK RK) ++ ((JW G aJ FJ (va_up RJ 3 u.2.2.2.1)) ++ ((TW G aT FT RT) ++ ((NW G aN FN RN SR ra rl) ++ (pool G u.1 u.2.2.2.2.1 u.2.2.2.2.2.1 u.2.2.2.2.2.2 m12)))))))) ++ (MW G ad F R)) := hD
  have hP : va_P G.1 vwCl (([(aD 0, .inr (5, [.ref (aD 1), .ref (aD 2), .ref (aK 0), .ref (aJ 0), .ref (aT 0), .ref (aN 0)]))]) ++ (([(aD 1, .inl (G.2.2.2, 12, .inr (.inr (.inr (.inr (u.2.1))))))]) ++ (([(aD 2, .inl (G.2.1, 144, .inl (u.2.2.1)))]) ++ ((KW G aK FK RK) ++ ((JW G aJ FJ (va_up RJ 3 u.2.2.2.1)) ++ ((TW G aT FT RT) ++ ((NW G aN FN RN SR ra rl) ++ ((MW G ad F R) ++ (pool G u.1 u.2.2.2.2.1 u.2.2.2.2.2.1 u.2.2.2.2.2.2 m12))))))))) H := mx_Pperm hP (mx_perm (fun n9 hn9 => by simp only [hn9, List.append_nil] <;> omega))
  have hD : va_D _ (([(aD 0, .inr (5, [.ref (aD 1), .ref (aD 2), .ref (aK 0), .ref (aJ 0), .ref (aT 0), .ref (aN 0)]))]) ++ (([(aD 1, .inl (G.2.2.2, 12, .inr (.inr (.inr (.inr (u.2.1))))))]) ++ (([(aD 2, .inl (G.2.1, 144, .inl (u.2.2.1)))]) ++ ((KW G aK FK RK) ++ ((JW G aJ FJ (va_up RJ 3 u.2.2.2.1)) ++ ((TW G aT FT RT) ++ ((NW G aN FN RN SR ra rl) ++ ((MW G ad F R) ++ (pool G u.1 u.2.2.2.2.1 u.2.2.2.2.2.1 u.2.2.2.2.2.2 m12))))))))) := mx_Dperm hD (mx_perm (fun n9 hn9 => by simp only [hn9, List.append_nil] <;> omega))
  refine lv_aload_n hx hb dL_law_161 rfl (lv_at hl 2 rfl) ?_
  refine lv_aload_n hx hb dL_law_162 rfl (lv_at hl 0 rfl) ?_
  refine lv_iload_n hx hb dL_law_163 rfl (lv_at hl 3 rfl) ?_
  refine lv_iconst (v := nI 1) hx hb dL_law_164 (by decide) ?_
  refine x_iadd (r := 7 * k + 1) hx hb dL_law_165 (rfl) ?_
  refine x_sld hx hb hX hbl hbA hS (k := 7 * k + 1) (by omega) (by omega) dL_law_166 ?_
  refine lv_aload_n hx hb dL_law_167 rfl (lv_at hl 0 rfl) ?_
  refine lv_iload_n hx hb dL_law_168 rfl (lv_at hl 3 rfl) ?_
  refine lv_iconst (v := nI 2) hx hb dL_law_169 (by decide) ?_
  refine x_iadd (r := 7 * k + 2) hx hb dL_law_170 (rfl) ?_
  refine x_sld hx hb hX hbl hbA hS (k := 7 * k + 2) (by omega) (by omega) dL_law_171 ?_
  refine lv_aload_n hx hb dL_law_172 rfl (lv_at hl 0 rfl) ?_
  refine lv_iload_n hx hb dL_law_173 rfl (lv_at hl 3 rfl) ?_
  refine lv_iconst (v := nI 3) hx hb dL_law_174 (by decide) ?_
  refine x_iadd (r := 7 * k + 3) hx hb dL_law_175 (rfl) ?_
  refine x_sld hx hb hX hbl hbA hS (k := 7 * k + 3) (by omega) (by omega) dL_law_176 ?_
  refine lv_aload_n hx hb dL_law_177 rfl (lv_at hl 0 rfl) ?_
  refine lv_iload_n hx hb dL_law_178 rfl (lv_at hl 3 rfl) ?_
  refine lv_iconst (v := nI 4) hx hb dL_law_179 (by decide) ?_
  refine x_iadd (r := 7 * k + 4) hx hb dL_law_180 (rfl) ?_
  refine x_sld hx hb hX hbl hbA hS (k := 7 * k + 4) (by omega) (by omega) dL_law_181 ?_
  refine lv_aload_n hx hb dL_law_182 rfl (lv_at hl 0 rfl) ?_
  refine lv_iload_n hx hb dL_law_183 rfl (lv_at hl 3 rfl) ?_
  refine lv_iconst (v := nI 5) hx hb dL_law_184 (by decide) ?_
  refine x_iadd (r := 7 * k + 5) hx hb dL_law_185 (rfl) ?_
  refine x_sld hx hb hX hbl hbA hS (k := 7 * k + 5) (by omega) (by omega) dL_law_186 ?_
  refine mx_callEi (va_runV (As := [.int (xs (7 * k + 1)), .int (xs (7 * k + 2)), .int (xs (7 * k + 3)), .int (xs (7 * k + 4)), .int (xs (7 * k + 5))]) (rest := [.int (b2i (okIn (xs (7 * k + 1)) ∧ okSong (xs (7 * k + 2)) (xs (7 * k + 3)) (xs (7 * k + 4)) (xs (7 * k + 5))))]) ⟨hx, hb, hml, hown, hts⟩ (c_X6_song l G ad F R so (xs (7 * k + 1)) (xs (7 * k + 2)) (xs (7 * k + 3)) (xs (7 * k + 4)) (xs (7 * k + 5)) hI.2.1 _) (cwV 5 hts gL_law_X6_song rfl rfl rfl (by decide +kernel) ⟨Nat.le_of_ble_eq_true rfl, Nat.le_of_ble_eq_true rfl⟩) (mx_preV hK ⟨rfl, mx_cut hP hD (a := MW G ad F R) (b := ([(aD 0, .inr (5, [.ref (aD 1), .ref (aD 2), .ref (aK 0), .ref (aJ 0), .ref (aT 0), .ref (aN 0)]))]) ++ (([(aD 1, .inl (G.2.2.2, 12, .inr (.inr (.inr (.inr (u.2.1))))))]) ++ (([(aD 2, .inl (G.2.1, 144, .inl (u.2.2.1)))]) ++ ((KW G aK FK RK) ++ ((JW G aJ FJ (va_up RJ 3 u.2.2.2.1)) ++ ((TW G aT FT RT) ++ ((NW G aN FN RN SR ra rl) ++ (pool G u.1 u.2.2.2.2.1 u.2.2.2.2.2.1 u.2.2.2.2.2.2 m12)))))))) (mx_perm (fun n9 hn9 => by simp only [hn9, List.append_nil] <;> omega))⟩ (va_recv hK.1 hP (ci := 6) (q0 := 24) rfl rfl)) rfl rfl hl.1 rfl (lv_room (Nat.le_of_ble_eq_true rfl)) dL_law_187 ⟨by show _ ≤ 771161; omega, by show _ ≤ 6788764; omega⟩) hP hD hS hA (((mx_perm (fun n9 hn9 => by simp only [hn9, List.append_nil] <;> omega)) : List.Perm _ ((MW G ad F R) ++ (([(aD 0, .inr (5, [.ref (aD 1), .ref (aD 2), .ref (aK 0), .ref (aJ 0), .ref (aT 0), .ref (aN 0)]))]) ++ (([(aD 1, .inl (G.2.2.2, 12, .inr (.inr (.inr (.inr (u.2.1))))))]) ++ (([(aD 2, .inl (G.2.1, 144, .inl (u.2.2.1)))]) ++ ((KW G aK FK RK) ++ ((JW G aJ FJ (va_up RJ 3 u.2.2.2.1)) ++ ((TW G aT FT RT) ++ ((NW G aN FN RN SR ra rl) ++ (pool G u.1 u.2.2.2.2.1 u.2.2.2.2.2.1 u.2.2.2.2.2.2 m12))))))))))) (fun v H locs hv hP hD hS => ?_)
  have hP : va_P G.1 vwCl ((MW G ad F v) ++ (([(aD 0, .inr (5, [.ref (aD 1), .ref (aD 2), .ref (aK 0), .ref (aJ 0), .ref (aT 0), .ref (aN 0)]))]) ++ (([(aD 1, .inl (G.2.2.2, 12, .inr (.inr (.inr (.inr (u.2.1))))))]) ++ (([(aD 2, .inl (G.2.1, 144, .inl (u.2.2.1)))]) ++ ((KW G aK FK RK) ++ ((JW G aJ FJ (va_up RJ 3 u.2.2.2.1)) ++ ((TW G aT FT RT) ++ ((NW G aN FN RN SR ra rl) ++ (pool G u.1 u.2.2.2.2.1 u.2.2.2.2.2.1 u.2.2.2.2.2.2 m12))))))))) H := hP
  have hD : va_D _ ((MW G ad F v) ++ (([(aD 0, .inr (5, [.ref (aD 1), .ref (aD 2), .ref (aK 0), .ref (aJ 0), .ref (aT 0), .ref (aN 0)]))]) ++ (([(aD 1, .inl (G.2.2.2, 12, .inr (.inr (.inr (.inr (u.2.1))))))]) ++ (([(aD 2, .inl (G.2.1, 144, .inl (u.2.2.1)))]) ++ ((KW G aK FK RK) ++ ((JW G aJ FJ (va_up RJ 3 u.2.2.2.1)) ++ ((TW G aT FT RT) ++ ((NW G aN FN RN SR ra rl) ++ (pool G u.1 u.2.2.2.2.1 u.2.2.2.2.2.1 u.2.2.2.2.2.2 m12))))))))) := hD
  have hP : va_P G.1 vwCl (([(aD 0, .inr (5, [.ref (aD 1), .ref (aD 2), .ref (aK 0), .ref (aJ 0), .ref (aT 0), .ref (aN 0)]))]) ++ (([(aD 1, .inl (G.2.2.2, 12, .inr (.inr (.inr (.inr (u.2.1))))))]) ++ (([(aD 2, .inl (G.2.1, 144, .inl (u.2.2.1)))]) ++ ((KW G aK FK RK) ++ ((JW G aJ FJ (va_up RJ 3 u.2.2.2.1)) ++ ((TW G aT FT RT) ++ ((NW G aN FN RN SR ra rl) ++ ((MW G ad F v) ++ (pool G u.1 u.2.2.2.2.1 u.2.2.2.2.2.1 u.2.2.2.2.2.2 m12))))))))) H := mx_Pperm hP (mx_perm (fun n9 hn9 => by simp only [hn9, List.append_nil] <;> omega))
  have hD : va_D _ (([(aD 0, .inr (5, [.ref (aD 1), .ref (aD 2), .ref (aK 0), .ref (aJ 0), .ref (aT 0), .ref (aN 0)]))]) ++ (([(aD 1, .inl (G.2.2.2, 12, .inr (.inr (.inr (.inr (u.2.1))))))]) ++ (([(aD 2, .inl (G.2.1, 144, .inl (u.2.2.1)))]) ++ ((KW G aK FK RK) ++ ((JW G aJ FJ (va_up RJ 3 u.2.2.2.1)) ++ ((TW G aT FT RT) ++ ((NW G aN FN RN SR ra rl) ++ ((MW G ad F v) ++ (pool G u.1 u.2.2.2.2.1 u.2.2.2.2.2.1 u.2.2.2.2.2.2 m12))))))))) := mx_Dperm hD (mx_perm (fun n9 hn9 => by simp only [hn9, List.append_nil] <;> omega))
  refine lv_icmp_eq (tgt := 943) hx hb dL_law_190 (by decide) (fun c_190 => ?_) (fun c_190 => absurd c_190 (fun q => q (rfl)))
  refine x_iinc (lv' := [(3, .int (nI (7 * (k + 1)))), (0, .ref b), (1, .ref (aD 0)), (2, .ref (ad 0))]) hx hb dL_law_943 hl (k := 3) rfl (inc7 k) (by decide) rfl (fun ls hl => ?_)
  refine lv_goto (tgt := 18) hx hb dL_law_946 (by decide) ?_
  refine W.widen (k := 100 + 9 * (k + 1)) (n := 70000 + 855 * (k + 1) + 2 * rl) (by omega) (by omega) ?_
  exact ih aD u.2.1 u.2.2.1 aK FK RK aJ FJ (va_up RJ 3 u.2.2.2.1) aT FT RT aN FN RN SR ra rl u.1 u.2.2.2.2.1 u.2.2.2.2.2.1 u.2.2.2.2.2.2 ad F v (inv_up hI hu.2.1 (by rw [hu.1]; exact hv.1) (by rw [hu.1]; exact ky_song hI.2.2.1) (by rw [hu.1]; exact (wish_song hI.2.2.2.1 hu.2.2.1 hv.2.1)) hu.2.2.2 hv.2.2) _ _ hP hD hS _ (lv_sub hl [1, 2, 3, 0] rfl)

set_option maxHeartbeats 4000000 in
set_option maxRecDepth 100000 in
theorem lw_c_about {p : Program} {e : Env} {s : State} {m : MethodId} {below : List Frame} {meth : Method} {c : Code} (l : Launch) {b L : Nat} {xs : Nat → Int32} (C0 : lw_At p s m meth c b L xs) (G : mx_G) (hK : mx_K G s) (hL : L ≤ 3584) (m12 k : Nat) (hm12 : m12 = 12) (hk : 7 * k + 7 ≤ L) (ih : lwGo p l e s m b below meth c G m12 (k + 1)) (aD : Nat → Nat) (SD : Nat → Option Nat) (WI : Nat → Int32) (aK : Nat → Nat) (FK : Nat → Int32) (RK : Nat → Nat → Int32) (aJ : Nat → Nat) (FJ : Nat → Int32) (RJ : Nat → Nat → Int32) (aT : Nat → Nat) (FT : Nat → Int32) (RT : Nat → Nat → Int32) (aN : Nat → Nat) (FN : Nat → Int32) (RN : Nat → Nat → Int32) (SR : Nat → Option Nat) (ra rl : Nat) (so : So) (aS : Nat → Nat → Nat) (FS : Nat → Nat → Int32) (RS : Nat → Nat → Nat → Int32) (ad : Nat → Nat) (F : Nat → Int32) (R : Nat → Nat → Int32) (hI : lwInv so SD WI FK RK FJ RJ FT RT FN RN rl aS FS RS F R) (H : Heap) (locs : List Loc) (hP : va_P G.1 vwCl (([(aD 0, .inr (5, [.ref (aD 1), .ref (aD 2), .ref (aK 0), .ref (aJ 0), .ref (aT 0), .ref (aN 0)]))]) ++ (([(aD 1, .inl (G.2.2.2, 12, .inr (.inr (.inr (.inr (SD))))))]) ++ (([(aD 2, .inl (G.2.1, 144, .inl (WI)))]) ++ ((KW G aK FK RK) ++ ((JW G aJ FJ RJ) ++ ((TW G aT FT RT) ++ ((NW G aN FN RN SR ra rl) ++ ((MW G ad F R) ++ (pool G so aS FS RS m12))))))))) H) (hD : va_D (fun q : Nat => s.heap.size ≤ q) (([(aD 0, .inr (5, [.ref (aD 1), .ref (aD 2), .ref (aK 0), .ref (aJ 0), .ref (aT 0), .ref (aN 0)]))]) ++ (([(aD 1, .inl (G.2.2.2, 12, .inr (.inr (.inr (.inr (SD))))))]) ++ (([(aD 2, .inl (G.2.1, 144, .inl (WI)))]) ++ ((KW G aK FK RK) ++ ((JW G aJ FJ RJ) ++ ((TW G aT FT RT) ++ ((NW G aN FN RN SR ra rl) ++ ((MW G ad F R) ++ (pool G so aS FS RS m12)))))))))) (hS : va_S (fun q : Nat => s.heap.size ≤ q) s.heap H locs) (ls : Array Slot) (hl : lv_has ls 4 [(0, .ref b), (1, .ref (aD 0)), (2, .ref (ad 0)), (3, .int (nI (7 * k)))]) : W p l e room_1 s m #[Value.ref b] below meth c H locs (100 + 9 * k) (70000 + 855 * k + 2 * rl) (lw_Z below #[Value.ref b] s) (F0 m 195 ls []) := by
  obtain ⟨hx, hb, hr, hml, hown0, hts0, hX, hbl, hlocks, hgv⟩ := id C0
  have hown : s.vm.findClass RL = some m.cls := hown0
  have hts : ∀ w ∈ wsL_law, w.before #[Value.ref b] s = true := fun w h => hts0 w (wsL_law_in w h)
  have hA : ∀ q : Nat, s.heap.size ≤ q → (fun q : Nat => s.heap.size ≤ q) q := fun _ h => h
  have hbA : ¬ (fun q : Nat => s.heap.size ≤ q) b := Nat.not_le.mpr hbl
  have hk5 : k ≤ 511 := by omega
  have hrl5 := rl_le hI.2.2.2.2.2.2.2.2.2.2
  refine lv_aload_n hx hb dL_law_195 rfl (lv_at hl 1 rfl) ?_
  refine lv_aload_n hx hb dL_law_196 rfl (lv_at hl 0 rfl) ?_
  refine lv_iload_n hx hb dL_law_197 rfl (lv_at hl 3 rfl) ?_
  refine lv_iconst (v := nI 1) hx hb dL_law_198 (by decide) ?_
  refine x_iadd (r := 7 * k + 1) hx hb dL_law_199 (rfl) ?_
  refine x_sld hx hb hX hbl hbA hS (k := 7 * k + 1) (by omega) (by omega) dL_law_200 ?_
  refine lv_aload_n hx hb dL_law_201 rfl (lv_at hl 0 rfl) ?_
  refine lv_iload_n hx hb dL_law_202 rfl (lv_at hl 3 rfl) ?_
  refine lv_iconst (v := nI 2) hx hb dL_law_203 (by decide) ?_
  refine x_iadd (r := 7 * k + 2) hx hb dL_law_204 (rfl) ?_
  refine x_sld hx hb hX hbl hbA hS (k := 7 * k + 2) (by omega) (by omega) dL_law_205 ?_
  refine lv_aload_n hx hb dL_law_206 rfl (lv_at hl 0 rfl) ?_
  refine lv_iload_n hx hb dL_law_207 rfl (lv_at hl 3 rfl) ?_
  refine lv_iconst (v := nI 3) hx hb dL_law_208 (by decide) ?_
  refine x_iadd (r := 7 * k + 3) hx hb dL_law_209 (rfl) ?_
  refine x_sld hx hb hX hbl hbA hS (k := 7 * k + 3) (by omega) (by omega) dL_law_210 ?_
  refine lv_aload_n hx hb dL_law_211 rfl (lv_at hl 0 rfl) ?_
  refine lv_iload_n hx hb dL_law_212 rfl (lv_at hl 3 rfl) ?_
  refine lv_iconst (v := nI 4) hx hb dL_law_213 (by decide) ?_
  refine x_iadd (r := 7 * k + 4) hx hb dL_law_214 (rfl) ?_
  refine x_sld hx hb hX hbl hbA hS (k := 7 * k + 4) (by omega) (by omega) dL_law_215 ?_
  refine mx_callEi (va_runV (As := [.int (xs (7 * k + 1)), .int (xs (7 * k + 2)), .int (xs (7 * k + 3)), .int (xs (7 * k + 4))]) (rest := []) ⟨hx, hb, hml, hown, hts⟩ (c_X5_about l G aD SD WI aK FK RK aJ FJ RJ aT FT RT aN FN RN SR ra rl m12 so aS FS RS (xs (7 * k + 1)) (xs (7 * k + 2)) (xs (7 * k + 3)) (xs (7 * k + 4)) hm12 hI.1 _) (cwV 4 hts gL_law_X5_about rfl rfl rfl (by decide +kernel) ⟨Nat.le_of_ble_eq_true rfl, Nat.le_of_ble_eq_true rfl⟩) (mx_preV hK ⟨rfl, mx_cut hP hD (a := ([(aD 0, .inr (5, [.ref (aD 1), .ref (aD 2), .ref (aK 0), .ref (aJ 0), .ref (aT 0), .ref (aN 0)]))]) ++ (([(aD 1, .inl (G.2.2.2, 12, .inr (.inr (.inr (.inr (SD))))))]) ++ (([(aD 2, .inl (G.2.1, 144, .inl (WI)))]) ++ ((KW G aK FK RK) ++ ((JW G aJ FJ RJ) ++ ((TW G aT FT RT) ++ ((NW G aN FN RN SR ra rl) ++ (pool G so aS FS RS m12)))))))) (b := MW G ad F R) (mx_perm (fun n9 hn9 => by simp only [hn9, List.append_nil] <;> omega))⟩ (va_recv hK.1 hP (ci := 5) (q0 := 0) rfl rfl)) rfl rfl hl.1 rfl (lv_room (Nat.le_of_ble_eq_true rfl)) dL_law_216 ⟨by show _ ≤ 771161; omega, by show _ ≤ 6788764; omega⟩) hP hD hS hA (((mx_perm (fun n9 hn9 => by simp only [hn9, List.append_nil] <;> omega)) : List.Perm _ ((([(aD 0, .inr (5, [.ref (aD 1), .ref (aD 2), .ref (aK 0), .ref (aJ 0), .ref (aT 0), .ref (aN 0)]))]) ++ (([(aD 1, .inl (G.2.2.2, 12, .inr (.inr (.inr (.inr (SD))))))]) ++ (([(aD 2, .inl (G.2.1, 144, .inl (WI)))]) ++ ((KW G aK FK RK) ++ ((JW G aJ FJ RJ) ++ ((TW G aT FT RT) ++ ((NW G aN FN RN SR ra rl) ++ (pool G so aS FS RS m12)))))))) ++ (MW G ad F R)))) (fun u H locs hu hP hD hS => ?_)
  have hP : va_P G.1 vwCl ((([(aD 0, .inr (5, [.ref (aD 1), .ref (aD 2), .ref (aK 0), .ref (aJ 0), .ref (aT 0), .ref (aN 0)]))]) ++ (([(aD 1, .inl (G.2.2.2, 12, .inr (.inr (.inr (.inr (u.2.1))))))]) ++ (([(aD 2, .inl (G.2.1, 144, .inl (u.2.2.1)))]) ++ ((KW G aK FK RK) ++ ((JW G aJ FJ (va_up RJ 3 u.2.2.2.1)) ++ ((TW G aT FT RT) ++ ((NW G aN FN RN SR ra rl) ++ (pool G u.1 u.2.2.2.2.1 u.2.2.2.2.2.1 u.2.2.2.2.2.2 m12)))))))) ++ (MW G ad F R)) H := hP
  have hD : va_D _ ((([(aD 0, .inr (5, [.ref (aD 1), .ref (aD 2), .ref (aK 0), .ref (aJ 0), .ref (aT 0), .ref (aN 0)]))]) ++ (([(aD 1, .inl (G.2.2.2, 12, .inr (.inr (.inr (.inr (u.2.1))))))]) ++ (([(aD 2, .inl (G.2.1, 144, .inl (u.2.2.1)))]) ++ ((KW G aK FK RK) ++ ((JW G aJ FJ (va_up RJ 3 u.2.2.2.1)) ++ ((TW G aT FT RT) ++ ((NW G aN FN RN SR ra rl) ++ (pool G u.1 u.2.2.2.2.1 u.2.2.2.2.2.1 u.2.2.2.2.2.2 m12)))))))) ++ (MW G ad F R)) := hD
  have hP : va_P G.1 vwCl (([(aD 0, .inr (5, [.ref (aD 1), .ref (aD 2), .ref (aK 0), .ref (aJ 0), .ref (aT 0), .ref (aN 0)]))]) ++ (([(aD 1, .inl (G.2.2.2, 12, .inr (.inr (.inr (.inr (u.2.1))))))]) ++ (([(aD 2, .inl (G.2.1, 144, .inl (u.2.2.1)))]) ++ ((KW G aK FK RK) ++ ((JW G aJ FJ (va_up RJ 3 u.2.2.2.1)) ++ ((TW G aT FT RT) ++ ((NW G aN FN RN SR ra rl) ++ ((MW G ad F R) ++ (pool G u.1 u.2.2.2.2.1 u.2.2.2.2.2.1 u.2.2.2.2.2.2 m12))))))))) H := mx_Pperm hP (mx_perm (fun n9 hn9 => by simp only [hn9, List.append_nil] <;> omega))
  have hD : va_D _ (([(aD 0, .inr (5, [.ref (aD 1), .ref (aD 2), .ref (aK 0), .ref (aJ 0), .ref (aT 0), .ref (aN 0)]))]) ++ (([(aD 1, .inl (G.2.2.2, 12, .inr (.inr (.inr (.inr (u.2.1))))))]) ++ (([(aD 2, .inl (G.2.1, 144, .inl (u.2.2.1)))]) ++ ((KW G aK FK RK) ++ ((JW G aJ FJ (va_up RJ 3 u.2.2.2.1)) ++ ((TW G aT FT RT) ++ ((NW G aN FN RN SR ra rl) ++ ((MW G ad F R) ++ (pool G u.1 u.2.2.2.2.1 u.2.2.2.2.2.1 u.2.2.2.2.2.2 m12))))))))) := mx_Dperm hD (mx_perm (fun n9 hn9 => by simp only [hn9, List.append_nil] <;> omega))
  refine lv_aload_n hx hb dL_law_219 rfl (lv_at hl 2 rfl) ?_
  refine lv_aload_n hx hb dL_law_220 rfl (lv_at hl 0 rfl) ?_
  refine lv_iload_n hx hb dL_law_221 rfl (lv_at hl 3 rfl) ?_
  refine lv_iconst (v := nI 1) hx hb dL_law_222 (by decide) ?_
  refine x_iadd (r := 7 * k + 1) hx hb dL_law_223 (rfl) ?_
  refine x_sld hx hb hX hbl hbA hS (k := 7 * k + 1) (by omega) (by omega) dL_law_224 ?_
  refine lv_aload_n hx hb dL_law_225 rfl (lv_at hl 0 rfl) ?_
  refine lv_iload_n hx hb dL_law_226 rfl (lv_at hl 3 rfl) ?_
  refine lv_iconst (v := nI 2) hx hb dL_law_227 (by decide) ?_
  refine x_iadd (r := 7 * k + 2) hx hb dL_law_228 (rfl) ?_
  refine x_sld hx hb hX hbl hbA hS (k := 7 * k + 2) (by omega) (by omega) dL_law_229 ?_
  refine lv_aload_n hx hb dL_law_230 rfl (lv_at hl 0 rfl) ?_
  refine lv_iload_n hx hb dL_law_231 rfl (lv_at hl 3 rfl) ?_
  refine lv_iconst (v := nI 3) hx hb dL_law_232 (by decide) ?_
  refine x_iadd (r := 7 * k + 3) hx hb dL_law_233 (rfl) ?_
  refine x_sld hx hb hX hbl hbA hS (k := 7 * k + 3) (by omega) (by omega) dL_law_234 ?_
  refine lv_aload_n hx hb dL_law_235 rfl (lv_at hl 0 rfl) ?_
  refine lv_iload_n hx hb dL_law_236 rfl (lv_at hl 3 rfl) ?_
  refine lv_iconst (v := nI 4) hx hb dL_law_237 (by decide) ?_
  refine x_iadd (r := 7 * k + 4) hx hb dL_law_238 (rfl) ?_
  refine x_sld hx hb hX hbl hbA hS (k := 7 * k + 4) (by omega) (by omega) dL_law_239 ?_
  refine mx_callEi (va_runV (As := [.int (xs (7 * k + 1)), .int (xs (7 * k + 2)), .int (xs (7 * k + 3)), .int (xs (7 * k + 4))]) (rest := [.int (sAns so (xs (7 * k + 1)) (pAbout (xs (7 * k + 2)) (xs (7 * k + 3)) (xs (7 * k + 4))))]) ⟨hx, hb, hml, hown, hts⟩ (c_X6_about l G ad F R so (xs (7 * k + 1)) (xs (7 * k + 2)) (xs (7 * k + 3)) (xs (7 * k + 4)) hI.2.1 _) (cwV 4 hts gL_law_X6_about rfl rfl rfl (by decide +kernel) ⟨Nat.le_of_ble_eq_true rfl, Nat.le_of_ble_eq_true rfl⟩) (mx_preV hK ⟨rfl, mx_cut hP hD (a := MW G ad F R) (b := ([(aD 0, .inr (5, [.ref (aD 1), .ref (aD 2), .ref (aK 0), .ref (aJ 0), .ref (aT 0), .ref (aN 0)]))]) ++ (([(aD 1, .inl (G.2.2.2, 12, .inr (.inr (.inr (.inr (u.2.1))))))]) ++ (([(aD 2, .inl (G.2.1, 144, .inl (u.2.2.1)))]) ++ ((KW G aK FK RK) ++ ((JW G aJ FJ (va_up RJ 3 u.2.2.2.1)) ++ ((TW G aT FT RT) ++ ((NW G aN FN RN SR ra rl) ++ (pool G u.1 u.2.2.2.2.1 u.2.2.2.2.2.1 u.2.2.2.2.2.2 m12)))))))) (mx_perm (fun n9 hn9 => by simp only [hn9, List.append_nil] <;> omega))⟩ (va_recv hK.1 hP (ci := 6) (q0 := 24) rfl rfl)) rfl rfl hl.1 rfl (lv_room (Nat.le_of_ble_eq_true rfl)) dL_law_240 ⟨by show _ ≤ 771161; omega, by show _ ≤ 6788764; omega⟩) hP hD hS hA (((mx_perm (fun n9 hn9 => by simp only [hn9, List.append_nil] <;> omega)) : List.Perm _ ((MW G ad F R) ++ (([(aD 0, .inr (5, [.ref (aD 1), .ref (aD 2), .ref (aK 0), .ref (aJ 0), .ref (aT 0), .ref (aN 0)]))]) ++ (([(aD 1, .inl (G.2.2.2, 12, .inr (.inr (.inr (.inr (u.2.1))))))]) ++ (([(aD 2, .inl (G.2.1, 144, .inl (u.2.2.1)))]) ++ ((KW G aK FK RK) ++ ((JW G aJ FJ (va_up RJ 3 u.2.2.2.1)) ++ ((TW G aT FT RT) ++ ((NW G aN FN RN SR ra rl) ++ (pool G u.1 u.2.2.2.2.1 u.2.2.2.2.2.1 u.2.2.2.2.2.2 m12))))))))))) (fun v H locs hv hP hD hS => ?_)
  have hP : va_P G.1 vwCl ((MW G ad F v) ++ (([(aD 0, .inr (5, [.ref (aD 1), .ref (aD 2), .ref (aK 0), .ref (aJ 0), .ref (aT 0), .ref (aN 0)]))]) ++ (([(aD 1, .inl (G.2.2.2, 12, .inr (.inr (.inr (.inr (u.2.1))))))]) ++ (([(aD 2, .inl (G.2.1, 144, .inl (u.2.2.1)))]) ++ ((KW G aK FK RK) ++ ((JW G aJ FJ (va_up RJ 3 u.2.2.2.1)) ++ ((TW G aT FT RT) ++ ((NW G aN FN RN SR ra rl) ++ (pool G u.1 u.2.2.2.2.1 u.2.2.2.2.2.1 u.2.2.2.2.2.2 m12))))))))) H := hP
  have hD : va_D _ ((MW G ad F v) ++ (([(aD 0, .inr (5, [.ref (aD 1), .ref (aD 2), .ref (aK 0), .ref (aJ 0), .ref (aT 0), .ref (aN 0)]))]) ++ (([(aD 1, .inl (G.2.2.2, 12, .inr (.inr (.inr (.inr (u.2.1))))))]) ++ (([(aD 2, .inl (G.2.1, 144, .inl (u.2.2.1)))]) ++ ((KW G aK FK RK) ++ ((JW G aJ FJ (va_up RJ 3 u.2.2.2.1)) ++ ((TW G aT FT RT) ++ ((NW G aN FN RN SR ra rl) ++ (pool G u.1 u.2.2.2.2.1 u.2.2.2.2.2.1 u.2.2.2.2.2.2 m12))))))))) := hD
  have hP : va_P G.1 vwCl (([(aD 0, .inr (5, [.ref (aD 1), .ref (aD 2), .ref (aK 0), .ref (aJ 0), .ref (aT 0), .ref (aN 0)]))]) ++ (([(aD 1, .inl (G.2.2.2, 12, .inr (.inr (.inr (.inr (u.2.1))))))]) ++ (([(aD 2, .inl (G.2.1, 144, .inl (u.2.2.1)))]) ++ ((KW G aK FK RK) ++ ((JW G aJ FJ (va_up RJ 3 u.2.2.2.1)) ++ ((TW G aT FT RT) ++ ((NW G aN FN RN SR ra rl) ++ ((MW G ad F v) ++ (pool G u.1 u.2.2.2.2.1 u.2.2.2.2.2.1 u.2.2.2.2.2.2 m12))))))))) H := mx_Pperm hP (mx_perm (fun n9 hn9 => by simp only [hn9, List.append_nil] <;> omega))
  have hD : va_D _ (([(aD 0, .inr (5, [.ref (aD 1), .ref (aD 2), .ref (aK 0), .ref (aJ 0), .ref (aT 0), .ref (aN 0)]))]) ++ (([(aD 1, .inl (G.2.2.2, 12, .inr (.inr (.inr (.inr (u.2.1))))))]) ++ (([(aD 2, .inl (G.2.1, 144, .inl (u.2.2.1)))]) ++ ((KW G aK FK RK) ++ ((JW G aJ FJ (va_up RJ 3 u.2.2.2.1)) ++ ((TW G aT FT RT) ++ ((NW G aN FN RN SR ra rl) ++ ((MW G ad F v) ++ (pool G u.1 u.2.2.2.2.1 u.2.2.2.2.2.1 u.2.2.2.2.2.2 m12))))))))) := mx_Dperm hD (mx_perm (fun n9 hn9 => by simp only [hn9, List.append_nil] <;> omega))
  refine lv_icmp_eq (tgt := 943) hx hb dL_law_243 (by decide) (fun c_243 => ?_) (fun c_243 => absurd c_243 (fun q => q (rfl)))
  refine x_iinc (lv' := [(3, .int (nI (7 * (k + 1)))), (0, .ref b), (1, .ref (aD 0)), (2, .ref (ad 0))]) hx hb dL_law_943 hl (k := 3) rfl (inc7 k) (by decide) rfl (fun ls hl => ?_)
  refine lv_goto (tgt := 18) hx hb dL_law_946 (by decide) ?_
  refine W.widen (k := 100 + 9 * (k + 1)) (n := 70000 + 855 * (k + 1) + 2 * rl) (by omega) (by omega) ?_
  exact ih aD u.2.1 u.2.2.1 aK FK RK aJ FJ (va_up RJ 3 u.2.2.2.1) aT FT RT aN FN RN SR ra rl u.1 u.2.2.2.2.1 u.2.2.2.2.2.1 u.2.2.2.2.2.2 ad F v (inv_up hI hu.2.1 (by rw [hu.1]; exact hv.1) (by rw [hu.1]; exact ky_about hI.2.2.1) (by rw [hu.1]; exact (wish_upd hI.2.2.2.1 hu.2.2.1 (hv.2 12 (by omega)) (fun _ => rfl))) hu.2.2.2 (fun i hi => hv.2 i (by omega))) _ _ hP hD hS _ (lv_sub hl [1, 2, 3, 0] rfl)

set_option maxHeartbeats 4000000 in
set_option maxRecDepth 100000 in
theorem lw_c_bar {p : Program} {e : Env} {s : State} {m : MethodId} {below : List Frame} {meth : Method} {c : Code} (l : Launch) {b L : Nat} {xs : Nat → Int32} (C0 : lw_At p s m meth c b L xs) (G : mx_G) (hK : mx_K G s) (hL : L ≤ 3584) (m12 k : Nat) (hm12 : m12 = 12) (hk : 7 * k + 7 ≤ L) (ih : lwGo p l e s m b below meth c G m12 (k + 1)) (aD : Nat → Nat) (SD : Nat → Option Nat) (WI : Nat → Int32) (aK : Nat → Nat) (FK : Nat → Int32) (RK : Nat → Nat → Int32) (aJ : Nat → Nat) (FJ : Nat → Int32) (RJ : Nat → Nat → Int32) (aT : Nat → Nat) (FT : Nat → Int32) (RT : Nat → Nat → Int32) (aN : Nat → Nat) (FN : Nat → Int32) (RN : Nat → Nat → Int32) (SR : Nat → Option Nat) (ra rl : Nat) (so : So) (aS : Nat → Nat → Nat) (FS : Nat → Nat → Int32) (RS : Nat → Nat → Nat → Int32) (ad : Nat → Nat) (F : Nat → Int32) (R : Nat → Nat → Int32) (hI : lwInv so SD WI FK RK FJ RJ FT RT FN RN rl aS FS RS F R) (H : Heap) (locs : List Loc) (hP : va_P G.1 vwCl (([(aD 0, .inr (5, [.ref (aD 1), .ref (aD 2), .ref (aK 0), .ref (aJ 0), .ref (aT 0), .ref (aN 0)]))]) ++ (([(aD 1, .inl (G.2.2.2, 12, .inr (.inr (.inr (.inr (SD))))))]) ++ (([(aD 2, .inl (G.2.1, 144, .inl (WI)))]) ++ ((KW G aK FK RK) ++ ((JW G aJ FJ RJ) ++ ((TW G aT FT RT) ++ ((NW G aN FN RN SR ra rl) ++ ((MW G ad F R) ++ (pool G so aS FS RS m12))))))))) H) (hD : va_D (fun q : Nat => s.heap.size ≤ q) (([(aD 0, .inr (5, [.ref (aD 1), .ref (aD 2), .ref (aK 0), .ref (aJ 0), .ref (aT 0), .ref (aN 0)]))]) ++ (([(aD 1, .inl (G.2.2.2, 12, .inr (.inr (.inr (.inr (SD))))))]) ++ (([(aD 2, .inl (G.2.1, 144, .inl (WI)))]) ++ ((KW G aK FK RK) ++ ((JW G aJ FJ RJ) ++ ((TW G aT FT RT) ++ ((NW G aN FN RN SR ra rl) ++ ((MW G ad F R) ++ (pool G so aS FS RS m12)))))))))) (hS : va_S (fun q : Nat => s.heap.size ≤ q) s.heap H locs) (ls : Array Slot) (hl : lv_has ls 4 [(0, .ref b), (1, .ref (aD 0)), (2, .ref (ad 0)), (3, .int (nI (7 * k)))]) : W p l e room_1 s m #[Value.ref b] below meth c H locs (100 + 9 * k) (70000 + 855 * k + 2 * rl) (lw_Z below #[Value.ref b] s) (F0 m 248 ls []) := by
  obtain ⟨hx, hb, hr, hml, hown0, hts0, hX, hbl, hlocks, hgv⟩ := id C0
  have hown : s.vm.findClass RL = some m.cls := hown0
  have hts : ∀ w ∈ wsL_law, w.before #[Value.ref b] s = true := fun w h => hts0 w (wsL_law_in w h)
  have hA : ∀ q : Nat, s.heap.size ≤ q → (fun q : Nat => s.heap.size ≤ q) q := fun _ h => h
  have hbA : ¬ (fun q : Nat => s.heap.size ≤ q) b := Nat.not_le.mpr hbl
  have hk5 : k ≤ 511 := by omega
  have hrl5 := rl_le hI.2.2.2.2.2.2.2.2.2.2
  refine lv_aload_n hx hb dL_law_248 rfl (lv_at hl 1 rfl) ?_
  refine lv_aload_n hx hb dL_law_249 rfl (lv_at hl 0 rfl) ?_
  refine lv_iload_n hx hb dL_law_250 rfl (lv_at hl 3 rfl) ?_
  refine lv_iconst (v := nI 1) hx hb dL_law_251 (by decide) ?_
  refine x_iadd (r := 7 * k + 1) hx hb dL_law_252 (rfl) ?_
  refine x_sld hx hb hX hbl hbA hS (k := 7 * k + 1) (by omega) (by omega) dL_law_253 ?_
  refine lv_aload_n hx hb dL_law_254 rfl (lv_at hl 0 rfl) ?_
  refine lv_iload_n hx hb dL_law_255 rfl (lv_at hl 3 rfl) ?_
  refine lv_iconst (v := nI 2) hx hb dL_law_256 (by decide) ?_
  refine x_iadd (r := 7 * k + 2) hx hb dL_law_257 (rfl) ?_
  refine x_sld hx hb hX hbl hbA hS (k := 7 * k + 2) (by omega) (by omega) dL_law_258 ?_
  refine lv_aload_n hx hb dL_law_259 rfl (lv_at hl 0 rfl) ?_
  refine lv_iload_n hx hb dL_law_260 rfl (lv_at hl 3 rfl) ?_
  refine lv_iconst (v := nI 3) hx hb dL_law_261 (by decide) ?_
  refine x_iadd (r := 7 * k + 3) hx hb dL_law_262 (rfl) ?_
  refine x_sld hx hb hX hbl hbA hS (k := 7 * k + 3) (by omega) (by omega) dL_law_263 ?_
  refine mx_callEi (va_runV (As := [.int (xs (7 * k + 1)), .int (xs (7 * k + 2)), .int (xs (7 * k + 3))]) (rest := []) ⟨hx, hb, hml, hown, hts⟩ (c_X5_bar l G aD SD WI aK FK RK aJ FJ RJ aT FT RT aN FN RN SR ra rl m12 so aS FS RS (xs (7 * k + 1)) (xs (7 * k + 2)) (xs (7 * k + 3)) hm12 hI.1 _) (cwV 3 hts gL_law_X5_bar rfl rfl rfl (by decide +kernel) ⟨Nat.le_of_ble_eq_true rfl, Nat.le_of_ble_eq_true rfl⟩) (mx_preV hK ⟨rfl, mx_cut hP hD (a := ([(aD 0, .inr (5, [.ref (aD 1), .ref (aD 2), .ref (aK 0), .ref (aJ 0), .ref (aT 0), .ref (aN 0)]))]) ++ (([(aD 1, .inl (G.2.2.2, 12, .inr (.inr (.inr (.inr (SD))))))]) ++ (([(aD 2, .inl (G.2.1, 144, .inl (WI)))]) ++ ((KW G aK FK RK) ++ ((JW G aJ FJ RJ) ++ ((TW G aT FT RT) ++ ((NW G aN FN RN SR ra rl) ++ (pool G so aS FS RS m12)))))))) (b := MW G ad F R) (mx_perm (fun n9 hn9 => by simp only [hn9, List.append_nil] <;> omega))⟩ (va_recv hK.1 hP (ci := 5) (q0 := 0) rfl rfl)) rfl rfl hl.1 rfl (lv_room (Nat.le_of_ble_eq_true rfl)) dL_law_264 ⟨by show _ ≤ 771161; omega, by show _ ≤ 6788764; omega⟩) hP hD hS hA (((mx_perm (fun n9 hn9 => by simp only [hn9, List.append_nil] <;> omega)) : List.Perm _ ((([(aD 0, .inr (5, [.ref (aD 1), .ref (aD 2), .ref (aK 0), .ref (aJ 0), .ref (aT 0), .ref (aN 0)]))]) ++ (([(aD 1, .inl (G.2.2.2, 12, .inr (.inr (.inr (.inr (SD))))))]) ++ (([(aD 2, .inl (G.2.1, 144, .inl (WI)))]) ++ ((KW G aK FK RK) ++ ((JW G aJ FJ RJ) ++ ((TW G aT FT RT) ++ ((NW G aN FN RN SR ra rl) ++ (pool G so aS FS RS m12)))))))) ++ (MW G ad F R)))) (fun u H locs hu hP hD hS => ?_)
  have hP : va_P G.1 vwCl ((([(aD 0, .inr (5, [.ref (aD 1), .ref (aD 2), .ref (aK 0), .ref (aJ 0), .ref (aT 0), .ref (aN 0)]))]) ++ (([(aD 1, .inl (G.2.2.2, 12, .inr (.inr (.inr (.inr (u.2.1))))))]) ++ (([(aD 2, .inl (G.2.1, 144, .inl (u.2.2.1)))]) ++ ((KW G aK FK RK) ++ ((JW G aJ FJ (va_up RJ 3 u.2.2.2.1)) ++ ((TW G aT FT RT) ++ ((NW G aN FN RN SR ra rl) ++ (pool G u.1 u.2.2.2.2.1 u.2.2.2.2.2.1 u.2.2.2.2.2.2 m12)))))))) ++ (MW G ad F R)) H := hP
  have hD : va_D _ ((([(aD 0, .inr (5, [.ref (aD 1), .ref (aD 2), .ref (aK 0), .ref (aJ 0), .ref (aT 0), .ref (aN 0)]))]) ++ (([(aD 1, .inl (G.2.2.2, 12, .inr (.inr (.inr (.inr (u.2.1))))))]) ++ (([(aD 2, .inl (G.2.1, 144, .inl (u.2.2.1)))]) ++ ((KW G aK FK RK) ++ ((JW G aJ FJ (va_up RJ 3 u.2.2.2.1)) ++ ((TW G aT FT RT) ++ ((NW G aN FN RN SR ra rl) ++ (pool G u.1 u.2.2.2.2.1 u.2.2.2.2.2.1 u.2.2.2.2.2.2 m12)))))))) ++ (MW G ad F R)) := hD
  have hP : va_P G.1 vwCl (([(aD 0, .inr (5, [.ref (aD 1), .ref (aD 2), .ref (aK 0), .ref (aJ 0), .ref (aT 0), .ref (aN 0)]))]) ++ (([(aD 1, .inl (G.2.2.2, 12, .inr (.inr (.inr (.inr (u.2.1))))))]) ++ (([(aD 2, .inl (G.2.1, 144, .inl (u.2.2.1)))]) ++ ((KW G aK FK RK) ++ ((JW G aJ FJ (va_up RJ 3 u.2.2.2.1)) ++ ((TW G aT FT RT) ++ ((NW G aN FN RN SR ra rl) ++ ((MW G ad F R) ++ (pool G u.1 u.2.2.2.2.1 u.2.2.2.2.2.1 u.2.2.2.2.2.2 m12))))))))) H := mx_Pperm hP (mx_perm (fun n9 hn9 => by simp only [hn9, List.append_nil] <;> omega))
  have hD : va_D _ (([(aD 0, .inr (5, [.ref (aD 1), .ref (aD 2), .ref (aK 0), .ref (aJ 0), .ref (aT 0), .ref (aN 0)]))]) ++ (([(aD 1, .inl (G.2.2.2, 12, .inr (.inr (.inr (.inr (u.2.1))))))]) ++ (([(aD 2, .inl (G.2.1, 144, .inl (u.2.2.1)))]) ++ ((KW G aK FK RK) ++ ((JW G aJ FJ (va_up RJ 3 u.2.2.2.1)) ++ ((TW G aT FT RT) ++ ((NW G aN FN RN SR ra rl) ++ ((MW G ad F R) ++ (pool G u.1 u.2.2.2.2.1 u.2.2.2.2.2.1 u.2.2.2.2.2.2 m12))))))))) := mx_Dperm hD (mx_perm (fun n9 hn9 => by simp only [hn9, List.append_nil] <;> omega))
  refine lv_aload_n hx hb dL_law_267 rfl (lv_at hl 2 rfl) ?_
  refine lv_aload_n hx hb dL_law_268 rfl (lv_at hl 0 rfl) ?_
  refine lv_iload_n hx hb dL_law_269 rfl (lv_at hl 3 rfl) ?_
  refine lv_iconst (v := nI 1) hx hb dL_law_270 (by decide) ?_
  refine x_iadd (r := 7 * k + 1) hx hb dL_law_271 (rfl) ?_
  refine x_sld hx hb hX hbl hbA hS (k := 7 * k + 1) (by omega) (by omega) dL_law_272 ?_
  refine lv_aload_n hx hb dL_law_273 rfl (lv_at hl 0 rfl) ?_
  refine lv_iload_n hx hb dL_law_274 rfl (lv_at hl 3 rfl) ?_
  refine lv_iconst (v := nI 2) hx hb dL_law_275 (by decide) ?_
  refine x_iadd (r := 7 * k + 2) hx hb dL_law_276 (rfl) ?_
  refine x_sld hx hb hX hbl hbA hS (k := 7 * k + 2) (by omega) (by omega) dL_law_277 ?_
  refine lv_aload_n hx hb dL_law_278 rfl (lv_at hl 0 rfl) ?_
  refine lv_iload_n hx hb dL_law_279 rfl (lv_at hl 3 rfl) ?_
  refine lv_iconst (v := nI 3) hx hb dL_law_280 (by decide) ?_
  refine x_iadd (r := 7 * k + 3) hx hb dL_law_281 (rfl) ?_
  refine x_sld hx hb hX hbl hbA hS (k := 7 * k + 3) (by omega) (by omega) dL_law_282 ?_
  refine mx_callEi (va_runV (As := [.int (xs (7 * k + 1)), .int (xs (7 * k + 2)), .int (xs (7 * k + 3))]) (rest := [.int (sAns so (xs (7 * k + 1)) (pBar (xs (7 * k + 2)) (xs (7 * k + 3))))]) ⟨hx, hb, hml, hown, hts⟩ (c_X6_bar l G ad F R so (xs (7 * k + 1)) (xs (7 * k + 2)) (xs (7 * k + 3)) hI.2.1 _) (cwV 3 hts gL_law_X6_bar rfl rfl rfl (by decide +kernel) ⟨Nat.le_of_ble_eq_true rfl, Nat.le_of_ble_eq_true rfl⟩) (mx_preV hK ⟨rfl, mx_cut hP hD (a := MW G ad F R) (b := ([(aD 0, .inr (5, [.ref (aD 1), .ref (aD 2), .ref (aK 0), .ref (aJ 0), .ref (aT 0), .ref (aN 0)]))]) ++ (([(aD 1, .inl (G.2.2.2, 12, .inr (.inr (.inr (.inr (u.2.1))))))]) ++ (([(aD 2, .inl (G.2.1, 144, .inl (u.2.2.1)))]) ++ ((KW G aK FK RK) ++ ((JW G aJ FJ (va_up RJ 3 u.2.2.2.1)) ++ ((TW G aT FT RT) ++ ((NW G aN FN RN SR ra rl) ++ (pool G u.1 u.2.2.2.2.1 u.2.2.2.2.2.1 u.2.2.2.2.2.2 m12)))))))) (mx_perm (fun n9 hn9 => by simp only [hn9, List.append_nil] <;> omega))⟩ (va_recv hK.1 hP (ci := 6) (q0 := 24) rfl rfl)) rfl rfl hl.1 rfl (lv_room (Nat.le_of_ble_eq_true rfl)) dL_law_283 ⟨by show _ ≤ 771161; omega, by show _ ≤ 6788764; omega⟩) hP hD hS hA (((mx_perm (fun n9 hn9 => by simp only [hn9, List.append_nil] <;> omega)) : List.Perm _ ((MW G ad F R) ++ (([(aD 0, .inr (5, [.ref (aD 1), .ref (aD 2), .ref (aK 0), .ref (aJ 0), .ref (aT 0), .ref (aN 0)]))]) ++ (([(aD 1, .inl (G.2.2.2, 12, .inr (.inr (.inr (.inr (u.2.1))))))]) ++ (([(aD 2, .inl (G.2.1, 144, .inl (u.2.2.1)))]) ++ ((KW G aK FK RK) ++ ((JW G aJ FJ (va_up RJ 3 u.2.2.2.1)) ++ ((TW G aT FT RT) ++ ((NW G aN FN RN SR ra rl) ++ (pool G u.1 u.2.2.2.2.1 u.2.2.2.2.2.1 u.2.2.2.2.2.2 m12))))))))))) (fun v H locs hv hP hD hS => ?_)
  have hP : va_P G.1 vwCl ((MW G ad F v) ++ (([(aD 0, .inr (5, [.ref (aD 1), .ref (aD 2), .ref (aK 0), .ref (aJ 0), .ref (aT 0), .ref (aN 0)]))]) ++ (([(aD 1, .inl (G.2.2.2, 12, .inr (.inr (.inr (.inr (u.2.1))))))]) ++ (([(aD 2, .inl (G.2.1, 144, .inl (u.2.2.1)))]) ++ ((KW G aK FK RK) ++ ((JW G aJ FJ (va_up RJ 3 u.2.2.2.1)) ++ ((TW G aT FT RT) ++ ((NW G aN FN RN SR ra rl) ++ (pool G u.1 u.2.2.2.2.1 u.2.2.2.2.2.1 u.2.2.2.2.2.2 m12))))))))) H := hP
  have hD : va_D _ ((MW G ad F v) ++ (([(aD 0, .inr (5, [.ref (aD 1), .ref (aD 2), .ref (aK 0), .ref (aJ 0), .ref (aT 0), .ref (aN 0)]))]) ++ (([(aD 1, .inl (G.2.2.2, 12, .inr (.inr (.inr (.inr (u.2.1))))))]) ++ (([(aD 2, .inl (G.2.1, 144, .inl (u.2.2.1)))]) ++ ((KW G aK FK RK) ++ ((JW G aJ FJ (va_up RJ 3 u.2.2.2.1)) ++ ((TW G aT FT RT) ++ ((NW G aN FN RN SR ra rl) ++ (pool G u.1 u.2.2.2.2.1 u.2.2.2.2.2.1 u.2.2.2.2.2.2 m12))))))))) := hD
  have hP : va_P G.1 vwCl (([(aD 0, .inr (5, [.ref (aD 1), .ref (aD 2), .ref (aK 0), .ref (aJ 0), .ref (aT 0), .ref (aN 0)]))]) ++ (([(aD 1, .inl (G.2.2.2, 12, .inr (.inr (.inr (.inr (u.2.1))))))]) ++ (([(aD 2, .inl (G.2.1, 144, .inl (u.2.2.1)))]) ++ ((KW G aK FK RK) ++ ((JW G aJ FJ (va_up RJ 3 u.2.2.2.1)) ++ ((TW G aT FT RT) ++ ((NW G aN FN RN SR ra rl) ++ ((MW G ad F v) ++ (pool G u.1 u.2.2.2.2.1 u.2.2.2.2.2.1 u.2.2.2.2.2.2 m12))))))))) H := mx_Pperm hP (mx_perm (fun n9 hn9 => by simp only [hn9, List.append_nil] <;> omega))
  have hD : va_D _ (([(aD 0, .inr (5, [.ref (aD 1), .ref (aD 2), .ref (aK 0), .ref (aJ 0), .ref (aT 0), .ref (aN 0)]))]) ++ (([(aD 1, .inl (G.2.2.2, 12, .inr (.inr (.inr (.inr (u.2.1))))))]) ++ (([(aD 2, .inl (G.2.1, 144, .inl (u.2.2.1)))]) ++ ((KW G aK FK RK) ++ ((JW G aJ FJ (va_up RJ 3 u.2.2.2.1)) ++ ((TW G aT FT RT) ++ ((NW G aN FN RN SR ra rl) ++ ((MW G ad F v) ++ (pool G u.1 u.2.2.2.2.1 u.2.2.2.2.2.1 u.2.2.2.2.2.2 m12))))))))) := mx_Dperm hD (mx_perm (fun n9 hn9 => by simp only [hn9, List.append_nil] <;> omega))
  refine lv_icmp_eq (tgt := 943) hx hb dL_law_286 (by decide) (fun c_286 => ?_) (fun c_286 => absurd c_286 (fun q => q (rfl)))
  refine x_iinc (lv' := [(3, .int (nI (7 * (k + 1)))), (0, .ref b), (1, .ref (aD 0)), (2, .ref (ad 0))]) hx hb dL_law_943 hl (k := 3) rfl (inc7 k) (by decide) rfl (fun ls hl => ?_)
  refine lv_goto (tgt := 18) hx hb dL_law_946 (by decide) ?_
  refine W.widen (k := 100 + 9 * (k + 1)) (n := 70000 + 855 * (k + 1) + 2 * rl) (by omega) (by omega) ?_
  exact ih aD u.2.1 u.2.2.1 aK FK RK aJ FJ (va_up RJ 3 u.2.2.2.1) aT FT RT aN FN RN SR ra rl u.1 u.2.2.2.2.1 u.2.2.2.2.2.1 u.2.2.2.2.2.2 ad F v (inv_up hI hu.2.1 (by rw [hu.1]; exact hv.1) (by rw [hu.1]; exact ky_bar hI.2.2.1) (by rw [hu.1]; exact (wish_upd hI.2.2.2.1 hu.2.2.1 (hv.2 12 (by omega)) (fun _ => rfl))) hu.2.2.2 (fun i hi => hv.2 i (by omega))) _ _ hP hD hS _ (lv_sub hl [1, 2, 3, 0] rfl)
