set_option maxHeartbeats 4000000 in
set_option maxRecDepth 100000 in
theorem lw_loop {p : Program} {e : Env} {s : State} {m : MethodId} {below : List Frame} {meth : Method} {c : Code} (l : Launch) {b L : Nat} {xs : Nat → Int32} (C0 : lw_At p s m meth c b L xs) (G : mx_G) (hK : mx_K G s) (hL : L ≤ 3584) (m12 : Nat) (hm12 : m12 = 12) : ∀ (n k : Nat), 7 * k ≤ L → L - 7 * k < n → lwGo p l e s m b below meth c G m12 k := by
  intro n
  induction n with
  | zero => intro k _ h; exact absurd h (Nat.not_lt_zero _)
  | succ n ihn =>
    intro k hkL hn aD SD WI aK FK RK aJ FJ RJ aT FT RT aN FN RN SR ra rl so aS FS RS ad F R hI H locs hP hD hS ls hl
    obtain ⟨hx, hb, hr, hml, hown0, hts0, hX, hbl, hlocks, hgv⟩ := id C0
    have hown : s.vm.findClass RL = some m.cls := hown0
    have hts : ∀ w ∈ wsL_law, w.before #[Value.ref b] s = true := fun w h => hts0 w (wsL_law_in w h)
    have hA : ∀ q : Nat, s.heap.size ≤ q → (fun q : Nat => s.heap.size ≤ q) q := fun _ h => h
    have hbA : ¬ (fun q : Nat => s.heap.size ≤ q) b := Nat.not_le.mpr hbl
    have hk5 : k ≤ 512 := by omega
    have hrl5 := rl_le hI.2.2.2.2.2.2.2.2.2.2
    refine lv_iload_n hx hb dL_law_18 rfl (lv_at hl 3 rfl) ?_
    refine lv_aload_n hx hb dL_law_19 rfl (lv_at hl 0 rfl) ?_
    refine va_slen hx hb hX hbl hbA hS dL_law_20 ?_
    refine x_top (y := nI L) rfl ?_
    refine lv_bipush (v := nI 7) hx hb dL_law_21 (by decide) ?_
    refine lv_isub hx hb dL_law_23 ?_
    refine lv_icmp_gt (tgt := 949) hx hb dL_law_24 (by decide) (fun c_24 => ?_) (fun c_24 => ?_)
    · have h9 := (lw_7 hL (by omega)).mp c_24
      refine lv_iconst (v := nI 1) hx hb dL_law_949 (by decide) ?_
      refine x_top (y := 1) (by decide) ?_
      refine va_forget (fun q hq => hS.2.2 q hq) ?_
      refine W.widen (k := 771161) (n := 6788764) (by omega) (by omega) ?_
      exact lw_ret hx hb hr hlocks dL_law_950
    · have hk : 7 * k + 7 ≤ L := by have := mt (lw_7 hL (by omega)).mpr c_24; omega
      have ih := ihn (k + 1) (by omega) (by omega)
      refine lv_aload_n hx hb dL_law_27 rfl (lv_at hl 0 rfl) ?_
      refine lv_iload_n hx hb dL_law_28 rfl (lv_at hl 3 rfl) ?_
      refine x_sld hx hb hX hbl hbA hS (k := 7 * k) (by omega) (by omega) dL_law_29 ?_
      refine lv_bipush (v := nI 31) hx hb dL_law_30 (by decide) ?_
      refine lv_iand hx hb dL_law_32 ?_
      rcases sw_of 21 (by omega) ((xs (7 * k)) &&& (nI 31)) with ⟨kk, hkk, e_33⟩ | h_33
      · rcases (show kk = 0 ∨ kk = 1 ∨ kk = 2 ∨ kk = 3 ∨ kk = 4 ∨ kk = 5 ∨ kk = 6 ∨ kk = 7 ∨ kk = 8 ∨ kk = 9 ∨ kk = 10 ∨ kk = 11 ∨ kk = 12 ∨ kk = 13 ∨ kk = 14 ∨ kk = 15 ∨ kk = 16 ∨ kk = 17 ∨ kk = 18 ∨ kk = 19 ∨ kk = 20 by omega) with rfl | rfl | rfl | rfl | rfl | rfl | rfl | rfl | rfl | rfl | rfl | rfl | rfl | rfl | rfl | rfl | rfl | rfl | rfl | rfl | rfl
        · rw [e_33]
          refine lv_tableIn (x := nI 0) hx hb dL_law_33 (by decide) (by decide) (off := 99) (by decide) (tgt := 132) (by decide) ?_
          exact lw_c_song l C0 G hK hL m12 k hm12 hk ih aD SD WI aK FK RK aJ FJ RJ aT FT RT aN FN RN SR ra rl so aS FS RS ad F R hI _ _ hP hD hS _ (lv_sub hl [0, 1, 2, 3] rfl)
        · rw [e_33]
          refine lv_tableIn (x := nI 1) hx hb dL_law_33 (by decide) (by decide) (off := 162) (by decide) (tgt := 195) (by decide) ?_
          exact lw_c_about l C0 G hK hL m12 k hm12 hk ih aD SD WI aK FK RK aJ FJ RJ aT FT RT aN FN RN SR ra rl so aS FS RS ad F R hI _ _ hP hD hS _ (lv_sub hl [0, 1, 2, 3] rfl)
        · rw [e_33]
          refine lv_tableIn (x := nI 2) hx hb dL_law_33 (by decide) (by decide) (off := 215) (by decide) (tgt := 248) (by decide) ?_
          exact lw_c_bar l C0 G hK hL m12 k hm12 hk ih aD SD WI aK FK RK aJ FJ RJ aT FT RT aN FN RN SR ra rl so aS FS RS ad F R hI _ _ hP hD hS _ (lv_sub hl [0, 1, 2, 3] rfl)
        · rw [e_33]
          refine lv_tableIn (x := nI 3) hx hb dL_law_33 (by decide) (by decide) (off := 258) (by decide) (tgt := 291) (by decide) ?_
          exact lw_c_loop l C0 G hK hL m12 k hm12 hk ih aD SD WI aK FK RK aJ FJ RJ aT FT RT aN FN RN SR ra rl so aS FS RS ad F R hI _ _ hP hD hS _ (lv_sub hl [0, 1, 2, 3] rfl)
        · rw [e_33]
          refine lv_tableIn (x := nI 4) hx hb dL_law_33 (by decide) (by decide) (off := 311) (by decide) (tgt := 344) (by decide) ?_
          exact lw_c_drop l C0 G hK hL m12 k hm12 hk ih aD SD WI aK FK RK aJ FJ RJ aT FT RT aN FN RN SR ra rl so aS FS RS ad F R hI _ _ hP hD hS _ (lv_sub hl [0, 1, 2, 3] rfl)
        · rw [e_33]
          refine lv_tableIn (x := nI 5) hx hb dL_law_33 (by decide) (by decide) (off := 334) (by decide) (tgt := 367) (by decide) ?_
          exact lw_c_of l C0 G hK hL m12 k hm12 hk ih aD SD WI aK FK RK aJ FJ RJ aT FT RT aN FN RN SR ra rl so aS FS RS ad F R hI _ _ hP hD hS _ (lv_sub hl [0, 1, 2, 3] rfl)
        · rw [e_33]
          refine lv_tableIn (x := nI 6) hx hb dL_law_33 (by decide) (by decide) (off := 367) (by decide) (tgt := 400) (by decide) ?_
          exact lw_c_beat l C0 G hK hL m12 k hm12 hk ih aD SD WI aK FK RK aJ FJ RJ aT FT RT aN FN RN SR ra rl so aS FS RS ad F R hI _ _ hP hD hS _ (lv_sub hl [0, 1, 2, 3] rfl)
        · rw [e_33]
          refine lv_tableIn (x := nI 7) hx hb dL_law_33 (by decide) (by decide) (off := 400) (by decide) (tgt := 433) (by decide) ?_
          exact lw_c_played l C0 G hK hL m12 k hm12 hk ih aD SD WI aK FK RK aJ FJ RJ aT FT RT aN FN RN SR ra rl so aS FS RS ad F R hI _ _ hP hD hS _ (lv_sub hl [0, 1, 2, 3] rfl)
        · rw [e_33]
          refine lv_tableIn (x := nI 8) hx hb dL_law_33 (by decide) (by decide) (off := 443) (by decide) (tgt := 476) (by decide) ?_
          exact lw_c_length l C0 G hK hL m12 k hm12 hk ih aD SD WI aK FK RK aJ FJ RJ aT FT RT aN FN RN SR ra rl so aS FS RS ad F R hI _ _ hP hD hS _ (lv_sub hl [0, 1, 2, 3] rfl)
        · rw [e_33]
          refine lv_tableIn (x := nI 9) hx hb dL_law_33 (by decide) (by decide) (off := 466) (by decide) (tgt := 499) (by decide) ?_
          exact lw_c_stroke l C0 G hK hL m12 k hm12 hk ih aD SD WI aK FK RK aJ FJ RJ aT FT RT aN FN RN SR ra rl so aS FS RS ad F R hI _ _ hP hD hS _ (lv_sub hl [0, 1, 2, 3] rfl)
        · rw [e_33]
          refine lv_tableIn (x := nI 10) hx hb dL_law_33 (by decide) (by decide) (off := 489) (by decide) (tgt := 522) (by decide) ?_
          exact lw_c_clear l C0 G hK hL m12 k hm12 hk ih aD SD WI aK FK RK aJ FJ RJ aT FT RT aN FN RN SR ra rl so aS FS RS ad F R hI _ _ hP hD hS _ (lv_sub hl [0, 1, 2, 3] rfl)
        · rw [e_33]
          refine lv_tableIn (x := nI 11) hx hb dL_law_33 (by decide) (by decide) (off := 502) (by decide) (tgt := 535) (by decide) ?_
          exact lw_c_find l C0 G hK hL m12 k hm12 hk ih aD SD WI aK FK RK aJ FJ RJ aT FT RT aN FN RN SR ra rl so aS FS RS ad F R hI _ _ hP hD hS _ (lv_sub hl [0, 1, 2, 3] rfl)
        · rw [e_33]
          refine lv_tableIn (x := nI 12) hx hb dL_law_33 (by decide) (by decide) (off := 545) (by decide) (tgt := 578) (by decide) ?_
          exact lw_c_found l C0 G hK hL m12 k hm12 hk ih aD SD WI aK FK RK aJ FJ RJ aT FT RT aN FN RN SR ra rl so aS FS RS ad F R hI _ _ hP hD hS _ (lv_sub hl [0, 1, 2, 3] rfl)
        · rw [e_33]
          refine lv_tableIn (x := nI 13) hx hb dL_law_33 (by decide) (by decide) (off := 568) (by decide) (tgt := 601) (by decide) ?_
          exact lw_c_costs l C0 G hK hL m12 k hm12 hk ih aD SD WI aK FK RK aJ FJ RJ aT FT RT aN FN RN SR ra rl so aS FS RS ad F R hI _ _ hP hD hS _ (lv_sub hl [0, 1, 2, 3] rfl)
        · rw [e_33]
          refine lv_tableIn (x := nI 14) hx hb dL_law_33 (by decide) (by decide) (off := 611) (by decide) (tgt := 644) (by decide) ?_
          exact lw_c_join l C0 G hK hL m12 k hm12 hk ih aD SD WI aK FK RK aJ FJ RJ aT FT RT aN FN RN SR ra rl so aS FS RS ad F R hI _ _ hP hD hS _ (lv_sub hl [0, 1, 2, 3] rfl)
        · rw [e_33]
          refine lv_tableIn (x := nI 15) hx hb dL_law_33 (by decide) (by decide) (off := 702) (by decide) (tgt := 735) (by decide) ?_
          exact lw_c_meets l C0 G hK hL m12 k hm12 hk ih aD SD WI aK FK RK aJ FJ RJ aT FT RT aN FN RN SR ra rl so aS FS RS ad F R hI _ _ hP hD hS _ (lv_sub hl [0, 1, 2, 3] rfl)
        · rw [e_33]
          refine lv_tableIn (x := nI 16) hx hb dL_law_33 (by decide) (by decide) (off := 735) (by decide) (tgt := 768) (by decide) ?_
          exact lw_c_best l C0 G hK hL m12 k hm12 hk ih aD SD WI aK FK RK aJ FJ RJ aT FT RT aN FN RN SR ra rl so aS FS RS ad F R hI _ _ hP hD hS _ (lv_sub hl [0, 1, 2, 3] rfl)
        · rw [e_33]
          refine lv_tableIn (x := nI 17) hx hb dL_law_33 (by decide) (by decide) (off := 788) (by decide) (tgt := 821) (by decide) ?_
          exact lw_c_must l C0 G hK hL m12 k hm12 hk ih aD SD WI aK FK RK aJ FJ RJ aT FT RT aN FN RN SR ra rl so aS FS RS ad F R hI _ _ hP hD hS _ (lv_sub hl [0, 1, 2, 3] rfl)
        · rw [e_33]
          refine lv_tableIn (x := nI 18) hx hb dL_law_33 (by decide) (by decide) (off := 831) (by decide) (tgt := 864) (by decide) ?_
          exact lw_c_night l C0 G hK hL m12 k hm12 hk ih aD SD WI aK FK RK aJ FJ RJ aT FT RT aN FN RN SR ra rl so aS FS RS ad F R hI _ _ hP hD hS _ (lv_sub hl [0, 1, 2, 3] rfl)
        · rw [e_33]
          refine lv_tableIn (x := nI 19) hx hb dL_law_33 (by decide) (by decide) (off := 854) (by decide) (tgt := 887) (by decide) ?_
          exact lw_c_order l C0 G hK hL m12 k hm12 hk ih aD SD WI aK FK RK aJ FJ RJ aT FT RT aN FN RN SR ra rl so aS FS RS ad F R hI _ _ hP hD hS _ (lv_sub hl [0, 1, 2, 3] rfl)
        · rw [e_33]
          refine lv_tableIn (x := nI 20) hx hb dL_law_33 (by decide) (by decide) (off := 877) (by decide) (tgt := 910) (by decide) ?_
          exact lw_c_mend l C0 G hK hL m12 k hm12 hk ih aD SD WI aK FK RK aJ FJ RJ aT FT RT aN FN RN SR ra rl so aS FS RS ad F R hI _ _ hP hD hS _ (lv_sub hl [0, 1, 2, 3] rfl)
      · refine lv_tableOut (tgt := 943) hx hb dL_law_33 h_33 (by decide) ?_
        refine x_iinc (lv' := [(3, .int (nI (7 * (k + 1)))), (0, .ref b), (1, .ref (aD 0)), (2, .ref (ad 0))]) hx hb dL_law_943 hl (k := 3) rfl (inc7 k) (by decide) rfl (fun ls hl => ?_)
        refine lv_goto (tgt := 18) hx hb dL_law_946 (by decide) ?_
        refine W.widen (k := 100 + 9 * (k + 1)) (n := 70000 + 855 * (k + 1) + 2 * rl) (by omega) (by omega) ?_
        exact ih aD SD WI aK FK RK aJ FJ RJ aT FT RT aN FN RN SR ra rl so aS FS RS ad F R hI _ _ hP hD hS _ (lv_sub hl [1, 2, 3, 0] rfl)
