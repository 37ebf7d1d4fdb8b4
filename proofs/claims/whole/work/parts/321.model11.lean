set_option maxHeartbeats 4000000 in
set_option maxRecDepth 100000 in
theorem c_X6_there (l : Launch) (G : mx_G) (ad : Nat → Nat) (F : Nat → Int32) (R : Nat → Nat → Int32) : mx_RO l yX6_there wsX6_there 0 0 G [.ref (ad 0)] (fun H => va_P G.1 vwCl (MW G ad F R) H) (.int (nI (thB (R 0) 12))) := by
  refine Met.ofW (cc := cX6_there) (maxL := 3) (ret := (some .int)) (by decide) rfl ?_
  intro p e s m args below meth c s₁ BB hml hv
  obtain ⟨rfl, hP, hK⟩ := hv
  have hx := BB.exec
  have hb := BB.bytes
  have hr := BB.returns
  have hts := atoms_spec (ws := wsX6_there) BB.pre
  have hown : s.vm.findClass RX6 = some m.cls := findClass_of_methodNamed BB.named
  have hlocks := BB.notSynchronized
  have hP : va_P G.1 vwCl (MW G ad F R) s.heap := hP
  have fl7 := hts (.fieldLink RX6 7 "MixDeskModel" "isThere" "[Z") (by decide +kernel)
  have inX6 : ∀ w ∈ wsX60, w ∈ wsX6_there := by decide +kernel
  have hl := lv_entry ([.ref (ad 0)]) (n := 3) (Nat.le_of_ble_eq_true rfl)
  rw [lg_entry_eq]
  generalize (lg_sl ([.ref (ad 0)]) ++ List.replicate (3 - (lg_sl ([.ref (ad 0)])).length) Slot.unset).toArray = ls at hl ⊢
  have hl : lv_has ls 3 [(0, .ref (ad 0))] := hl
  show mx_WR l wsX6_there 0 0 p e s m (([.ref (ad 0)] : List Value).toArray) below meth c (.int (nI (thB (R 0) 12))) (F0 m 0 ls [])
  refine lv_iconst (v := nI 0) hx hb dX6_there_0 (by decide) ?_
  refine lv_istore_n (lv' := [(1, .int (nI 0)), (0, .ref (ad 0))]) hx hb dX6_there_1 rfl hl (by decide) rfl (fun ls hl => ?_)
  refine lv_iconst (v := nI 0) hx hb dX6_there_2 (by decide) ?_
  refine lv_istore_n (lv' := [(2, .int (nI 0)), (1, .int (nI 0)), (0, .ref (ad 0))]) hx hb dX6_there_3 rfl hl (by decide) rfl (fun ls hl => ?_)
  have lp4 : ∀ (nn : Nat) (i : Nat), 12 - i < nn → (i ≤ 12) → ∀ ls : Array Slot, lv_has ls 3 [(0, .ref (ad 0)), (1, .int (nI (thB (R 0) i))), (2, .int (nI i))] → mx_WR l wsX6_there 0 0 p e s m (([.ref (ad 0)] : List Value).toArray) below meth c (.int (nI (thB (R 0) 12))) (F0 m 4 ls []) := by
    intro nn
    induction nn with
    | zero => intro i hmu; exact absurd hmu (Nat.not_lt_zero _)
    | succ nn ih4 =>
      intro i hmu hi ls hl
      refine lv_iload_n hx hb dX6_there_4 rfl (lv_at hl 2 rfl) ?_
      refine lv_bipush (v := nI 12) hx hb dX6_there_5 (by decide) ?_
      refine x_icmp_ge (tgt := 31) hx hb (by omega) (by omega) dX6_there_7 (by decide) (fun c_7 => ?_) (fun c_7 => ?_)
      · refine lv_iload_n hx hb dX6_there_31 rfl (lv_at hl 1 rfl) ?_
        refine x_top (y := nI (thB (R 0) 12)) (by rw [show i = 12 by omega]) ?_
        exact W.iret (v := nI (thB (R 0) 12)) hx hb hr (fun t9 ht9 hW9 => ⟨rfl, ht9⟩) (fun _ h => by cases h) dX6_there_32
      · refine lv_aload_n hx hb dX6_there_10 rfl (lv_at hl 0 rfl) ?_
        refine va_get (D := G.1) (ci := 6) (v := .ref (ad 1)) (C := RX6) (T := TX6) (N := 36) hx hb hts inX6 hown hK.1 hP 0 rfl rfl 0 (by decide) fl7 (fun _ h9 => h9) rfl dX6_there_11 ?_
        refine lv_iload_n hx hb dX6_there_14 rfl (lv_at hl 2 rfl) ?_
        refine x_zald hx hb hK.1 hP 1 1 (n := 12) (f := R 0) rfl rfl (k := i) (by omega) (by omega) dX6_there_15 ?_
        refine lv_if_eq (tgt := 25) hx hb dX6_there_16 (by decide) (fun c_16 => ?_) (fun c_16 => ?_)
        · have hl : lv_has ls 3 [(0, .ref (ad 0)), (1, .int (nI (thB (R 0) (i + 1)))), (2, .int (nI i))] := Eq.mp (congrArg (fun z9 : Int32 => lv_has ls 3 [(0, .ref (ad 0)), (1, .int z9), (2, .int (nI i))]) (show nI (thB (R 0) i) = nI (thB (R 0) (i + 1)) from congrArg nI (if_pos c_16).symm)) hl
          refine x_iinc (lv' := [(2, .int (nI (i + 1))), (0, .ref (ad 0)), (1, .int (nI (thB (R 0) (i + 1))))]) hx hb dX6_there_25 hl (k := 2) rfl (x_inc1 _) (by decide) rfl (fun ls hl => ?_)
          refine lv_goto (tgt := 4) hx hb dX6_there_28 (by decide) ?_
          exact ih4 (i + 1) (by omega) (by omega) _ (lv_sub hl [1, 2, 0] rfl)
        · refine lv_iload_n hx hb dX6_there_19 rfl (lv_at hl 1 rfl) ?_
          refine lv_iconst (v := nI 1) hx hb dX6_there_20 (by decide) ?_
          refine lv_iload_n hx hb dX6_there_21 rfl (lv_at hl 2 rfl) ?_
          refine lv_ishl hx hb dX6_there_22 ?_
          refine x_top (y := nI (2 ^ i)) (zz_pow (by omega)) ?_
          refine lv_ior hx hb dX6_there_23 ?_
          refine x_top (y := nI (thB (R 0) i ||| 2 ^ i)) (zz_or _ _) ?_
          refine lv_istore_n (lv' := [(1, .int (nI (thB (R 0) i ||| 2 ^ i))), (0, .ref (ad 0)), (2, .int (nI i))]) hx hb dX6_there_24 rfl hl (by decide) rfl (fun ls hl => ?_)
          have hl : lv_has ls 3 [(1, .int (nI (thB (R 0) (i + 1)))), (0, .ref (ad 0)), (2, .int (nI i))] := Eq.mp (congrArg (fun z9 : Int32 => lv_has ls 3 [(1, .int z9), (0, .ref (ad 0)), (2, .int (nI i))]) (show nI (thB (R 0) i ||| 2 ^ i) = nI (thB (R 0) (i + 1)) from congrArg nI (if_neg c_16).symm)) hl
          refine x_iinc (lv' := [(2, .int (nI (i + 1))), (1, .int (nI (thB (R 0) (i + 1)))), (0, .ref (ad 0))]) hx hb dX6_there_25 hl (k := 2) rfl (x_inc1 _) (by decide) rfl (fun ls hl => ?_)
          refine lv_goto (tgt := 4) hx hb dX6_there_28 (by decide) ?_
          exact ih4 (i + 1) (by omega) (by omega) _ (lv_sub hl [2, 1, 0] rfl)
  exact lp4 (12 - 0 + 1) 0 (Nat.lt_succ_self _) (by omega) _ (lv_sub hl [2, 1, 0] rfl)

set_option maxHeartbeats 4000000 in
set_option maxRecDepth 100000 in
theorem c_X6_edges (l : Launch) (G : mx_G) (ad : Nat → Nat) (F : Nat → Int32) (R : Nat → Nat → Int32) (so : So) (n : Nat) (hall : moAll R so) (hn1 : 1 ≤ n) (hn8 : n ≤ 8) (sz : Nat) : mx_EF l yX6_edges wsX6_edges 5 123 0 0 G [.ref (ad 0), .int (nI n)] sz (MW G ad F R) (fun _ : (Nat → Int32) × (Nat → Nat → Int32) => none) (fun u9 : (Nat → Int32) × (Nat → Nat → Int32) => keepF u9.1 F ∧ keepE u9.2 R ∧ ∀ q, q < 144 → u9.2 32 q = eV so (R 12) (F 18) (F 19) (F 20) n q) (fun u9 : (Nat → Int32) × (Nat → Nat → Int32) => MW G ad u9.1 u9.2) := by
  refine Met.ofW (cc := cX6_edges) (maxL := 5) (ret := none) (by decide) rfl ?_
  intro p e s m args below meth c s₁ BB hml hv
  obtain ⟨rfl, ⟨hsz, hP, hD0⟩, hK⟩ := hv
  have hx := BB.exec
  have hb := BB.bytes
  have hr := BB.returns
  have hts := atoms_spec (ws := wsX6_edges) BB.pre
  have hown : s.vm.findClass RX6 = some m.cls := findClass_of_methodNamed BB.named
  have hlocks := BB.notSynchronized
  subst hsz
  have hD := hD0.self (sz := s.heap.size)
  have hA : ∀ q : Nat, s.heap.size ≤ q → va_A (MW G ad F R) s.heap.size q := fun q h => Or.inr h
  have hS : va_S (va_A (MW G ad F R) s.heap.size) s.heap s.heap [] := va_S.rf
  have fl47 := hts (.fieldLink RX6 47 "MixDeskModel" "musts" "[I") (by decide +kernel)
  have fl7 := hts (.fieldLink RX6 7 "MixDeskModel" "isThere" "[Z") (by decide +kernel)
  have fl93 := hts (.fieldLink RX6 93 "MixDeskModel" "edge" "[I") (by decide +kernel)
  have inX6 : ∀ w ∈ wsX60, w ∈ wsX6_edges := by decide +kernel
  have ck164 := hts (.constant RX6 164 (1000000000)) (by decide +kernel)
  have hl := lv_entry ([.ref (ad 0), .int (nI n)]) (n := 5) (Nat.le_of_ble_eq_true rfl)
  rw [lg_entry_eq]
  generalize (lg_sl ([.ref (ad 0), .int (nI n)]) ++ List.replicate (5 - (lg_sl ([.ref (ad 0), .int (nI n)])).length) Slot.unset).toArray = ls at hl ⊢
  have hl : lv_has ls 5 [(0, .ref (ad 0)), (1, .int (nI n))] := hl
  refine lv_iconst (v := nI 0) hx hb dX6_edges_0 (by decide) ?_
  refine lv_istore_n (lv' := [(2, .int (nI 0)), (0, .ref (ad 0)), (1, .int (nI n))]) hx hb dX6_edges_1 rfl hl (by decide) rfl (fun ls hl => ?_)
  have lp2 : ∀ (nn : Nat) (a : Nat) (F1 : Nat → Int32) (U : Nat → Nat → Int32) (E : Nat → Int32), 12 - a < nn → (a ≤ 12) → (keepF F1 F) → (keepE U R) → (∀ q, q < 12 * a → E q = eBase so (R 12) (F 18) (F 19) (F 20) n q) → ∀ (H : Heap) (locs : List Loc), va_P G.1 vwCl (MW G ad F1 (va_up U 32 E)) H → va_D (va_A (MW G ad F R) s.heap.size) (MW G ad F1 (va_up U 32 E)) → va_S (va_A (MW G ad F R) s.heap.size) s.heap H locs → ∀ ls : Array Slot, lv_has ls 5 [(0, .ref (ad 0)), (1, .int (nI n)), (2, .int (nI a))] → mx_WE l wsX6_edges 5 123 0 0 G p e s m (([.ref (ad 0), .int (nI n)] : List Value).toArray) below meth c (MW G ad F R) (fun _ : (Nat → Int32) × (Nat → Nat → Int32) => none) (fun u9 : (Nat → Int32) × (Nat → Nat → Int32) => keepF u9.1 F ∧ keepE u9.2 R ∧ ∀ q, q < 144 → u9.2 32 q = eV so (R 12) (F 18) (F 19) (F 20) n q) (fun u9 : (Nat → Int32) × (Nat → Nat → Int32) => MW G ad u9.1 u9.2) H locs 0 0 (F0 m 2 ls []) := by
    intro nn
    induction nn with
    | zero => intro a F1 U E hmu; exact absurd hmu (Nat.not_lt_zero _)
    | succ nn ih2 =>
      intro a F1 U E hmu ha hkF hkU hE H locs hP hD hS ls hl
      refine lv_iload_n hx hb dX6_edges_2 rfl (lv_at hl 2 rfl) ?_
      refine lv_bipush (v := nI 12) hx hb dX6_edges_3 (by decide) ?_
      refine x_icmp_ge (tgt := 97) hx hb (by omega) (by omega) dX6_edges_5 (by decide) (fun c_5 => ?_) (fun c_5 => ?_)
      · refine lv_iconst (v := nI 0) hx hb dX6_edges_97 (by decide) ?_
        refine lv_istore_n (lv' := [(2, .int (nI 0)), (0, .ref (ad 0)), (1, .int (nI n))]) hx hb dX6_edges_98 rfl hl (by decide) rfl (fun ls hl => ?_)
        have lp99 : ∀ (nn : Nat) (a : Nat) (E2 : Nat → Int32), 12 - a < nn → (a ≤ 12) → (∀ q, q < 144 → E2 q = cE (R 12) (eBase so (R 12) (F 18) (F 19) (F 20) n) (12 * a) q) → ∀ (H : Heap) (locs : List Loc), va_P G.1 vwCl (MW G ad F1 (va_up U 32 E2)) H → va_D (va_A (MW G ad F R) s.heap.size) (MW G ad F1 (va_up U 32 E2)) → va_S (va_A (MW G ad F R) s.heap.size) s.heap H locs → ∀ ls : Array Slot, lv_has ls 5 [(0, .ref (ad 0)), (1, .int (nI n)), (2, .int (nI a))] → mx_WE l wsX6_edges 5 123 0 0 G p e s m (([.ref (ad 0), .int (nI n)] : List Value).toArray) below meth c (MW G ad F R) (fun _ : (Nat → Int32) × (Nat → Nat → Int32) => none) (fun u9 : (Nat → Int32) × (Nat → Nat → Int32) => keepF u9.1 F ∧ keepE u9.2 R ∧ ∀ q, q < 144 → u9.2 32 q = eV so (R 12) (F 18) (F 19) (F 20) n q) (fun u9 : (Nat → Int32) × (Nat → Nat → Int32) => MW G ad u9.1 u9.2) H locs 0 0 (F0 m 99 ls []) := by
          intro nn
          induction nn with
          | zero => intro a E2 hmu; exact absurd hmu (Nat.not_lt_zero _)
          | succ nn ih99 =>
            intro a E2 hmu ha hE2 H locs hP hD hS ls hl
            refine lv_iload_n hx hb dX6_edges_99 rfl (lv_at hl 2 rfl) ?_
            refine lv_bipush (v := nI 12) hx hb dX6_edges_100 (by decide) ?_
            refine x_icmp_ge (tgt := 199) hx hb (by omega) (by omega) dX6_edges_102 (by decide) (fun c_102 => ?_) (fun c_102 => ?_)
            · exact W.vret hx hb hr (fun t9 ht9 hW9 => ⟨⟨(F1, va_up U 32 E2), rfl, ⟨hkF, fun i h1 h2 => by simp only [va_up]; rw [if_neg h2]; exact hkU i h1 h2, fun q hq => by show E2 q = _; rw [hE2 q hq, show a = 12 by omega]; rfl⟩, by rw [ht9]; exact hP, hD⟩, hS.F ht9⟩) hS.2.2 dX6_edges_199
            · refine lv_iconst (v := nI 0) hx hb dX6_edges_105 (by decide) ?_
              refine lv_istore_n (lv' := [(3, .int (nI 0)), (0, .ref (ad 0)), (1, .int (nI n)), (2, .int (nI a))]) hx hb dX6_edges_106 rfl hl (by decide) rfl (fun ls hl => ?_)
              have lp107 : ∀ (nn : Nat) (b : Nat) (E2 : Nat → Int32), 12 - b < nn → (b ≤ 12) → (∀ q, q < 144 → E2 q = cE (R 12) (eBase so (R 12) (F 18) (F 19) (F 20) n) (12 * a + b) q) → ∀ (H : Heap) (locs : List Loc), va_P G.1 vwCl (MW G ad F1 (va_up U 32 E2)) H → va_D (va_A (MW G ad F R) s.heap.size) (MW G ad F1 (va_up U 32 E2)) → va_S (va_A (MW G ad F R) s.heap.size) s.heap H locs → ∀ ls : Array Slot, lv_has ls 5 [(0, .ref (ad 0)), (1, .int (nI n)), (2, .int (nI a)), (3, .int (nI b))] → mx_WE l wsX6_edges 5 123 0 0 G p e s m (([.ref (ad 0), .int (nI n)] : List Value).toArray) below meth c (MW G ad F R) (fun _ : (Nat → Int32) × (Nat → Nat → Int32) => none) (fun u9 : (Nat → Int32) × (Nat → Nat → Int32) => keepF u9.1 F ∧ keepE u9.2 R ∧ ∀ q, q < 144 → u9.2 32 q = eV so (R 12) (F 18) (F 19) (F 20) n q) (fun u9 : (Nat → Int32) × (Nat → Nat → Int32) => MW G ad u9.1 u9.2) H locs 0 0 (F0 m 107 ls []) := by
                intro nn
                induction nn with
                | zero => intro b E2 hmu; exact absurd hmu (Nat.not_lt_zero _)
                | succ nn ih107 =>
                  intro b E2 hmu hb9 hE2 H locs hP hD hS ls hl
                  refine lv_iload_n hx hb dX6_edges_107 rfl (lv_at hl 3 rfl) ?_
                  refine lv_bipush (v := nI 12) hx hb dX6_edges_108 (by decide) ?_
                  refine x_icmp_ge (tgt := 193) hx hb (by omega) (by omega) dX6_edges_110 (by decide) (fun c_110 => ?_) (fun c_110 => ?_)
                  · refine x_iinc (lv' := [(2, .int (nI (a + 1))), (0, .ref (ad 0)), (1, .int (nI n)), (3, .int (nI b))]) hx hb dX6_edges_193 hl (k := 2) rfl (x_inc1 _) (by decide) rfl (fun ls hl => ?_)
                    refine lv_goto (tgt := 99) hx hb dX6_edges_196 (by decide) ?_
                    exact ih99 (a + 1) E2 (by omega) (by omega) (by rw [show 12 * (a + 1) = 12 * a + b by omega]; exact hE2) _ _ hP hD hS _ (lv_sub hl [1, 2, 0] rfl)
                  · refine lv_aload_n hx hb dX6_edges_113 rfl (lv_at hl 0 rfl) ?_
                    refine va_get (D := G.1) (ci := 6) (v := .ref (ad 13)) (C := RX6) (T := TX6) (N := 36) hx hb hts inX6 hown hK.1 hP 0 rfl rfl 12 (by decide) fl47 (fun _ h9 => h9) rfl dX6_edges_114 ?_
                    refine lv_bipush (v := nI 12) hx hb dX6_edges_117 (by decide) ?_
                    refine lv_iload_n hx hb dX6_edges_119 rfl (lv_at hl 2 rfl) ?_
                    refine x_imul (r := 12 * a) hx hb dX6_edges_120 (rfl) ?_
                    refine lv_iload_n hx hb dX6_edges_121 rfl (lv_at hl 3 rfl) ?_
                    refine x_iadd (r := 12 * a + b) hx hb dX6_edges_122 (rfl) ?_
                    refine x_iald hx hb hK.1 hP 13 0 (n := 144) (f := U 12) rfl rfl (k := 12 * a + b) (by omega) (by omega) dX6_edges_123 ?_
                    refine x_top (y := R 12 (12 * a + b)) (by rw [hkU 12 (by decide) (by decide)]) ?_
                    refine lv_iconst (v := nI 1) hx hb dX6_edges_124 (by decide) ?_
                    refine lv_icmp_eq (tgt := 131) hx hb dX6_edges_125 (by decide) (fun c_125 => ?_) (fun c_125 => ?_)
                    · refine lv_iconst (v := nI 0) hx hb dX6_edges_131 (by decide) ?_
                      refine lv_istore (lv' := [(4, .int (nI 0)), (0, .ref (ad 0)), (1, .int (nI n)), (2, .int (nI a)), (3, .int (nI b))]) hx hb dX6_edges_132 hl (by decide) rfl (fun ls hl => ?_)
                      have lp134 : ∀ (nn : Nat) (k : Nat) (E3 : Nat → Int32), 12 - k < nn → (k ≤ 12) → (∀ q, q < 144 → E3 q = if cutK a b k q then nI 1000000000 else cE (R 12) (eBase so (R 12) (F 18) (F 19) (F 20) n) (12 * a + b) q) → ∀ (H : Heap) (locs : List Loc), va_P G.1 vwCl (MW G ad F1 (va_up U 32 E3)) H → va_D (va_A (MW G ad F R) s.heap.size) (MW G ad F1 (va_up U 32 E3)) → va_S (va_A (MW G ad F R) s.heap.size) s.heap H locs → ∀ ls : Array Slot, lv_has ls 5 [(0, .ref (ad 0)), (1, .int (nI n)), (2, .int (nI a)), (3, .int (nI b)), (4, .int (nI k))] → mx_WE l wsX6_edges 5 123 0 0 G p e s m (([.ref (ad 0), .int (nI n)] : List Value).toArray) below meth c (MW G ad F R) (fun _ : (Nat → Int32) × (Nat → Nat → Int32) => none) (fun u9 : (Nat → Int32) × (Nat → Nat → Int32) => keepF u9.1 F ∧ keepE u9.2 R ∧ ∀ q, q < 144 → u9.2 32 q = eV so (R 12) (F 18) (F 19) (F 20) n q) (fun u9 : (Nat → Int32) × (Nat → Nat → Int32) => MW G ad u9.1 u9.2) H locs 0 0 (F0 m 134 ls []) := by
                        intro nn
                        induction nn with
                        | zero => intro k E3 hmu; exact absurd hmu (Nat.not_lt_zero _)
                        | succ nn ih134 =>
                          intro k E3 hmu hk9 hE3 H locs hP hD hS ls hl
                          refine lv_iload hx hb dX6_edges_134 (lv_at hl 4 rfl) ?_
                          refine lv_bipush (v := nI 12) hx hb dX6_edges_136 (by decide) ?_
                          refine x_icmp_ge (tgt := 187) hx hb (by omega) (by omega) dX6_edges_138 (by decide) (fun c_138 => ?_) (fun c_138 => ?_)
                          · refine x_iinc (lv' := [(3, .int (nI (b + 1))), (0, .ref (ad 0)), (1, .int (nI n)), (2, .int (nI a)), (4, .int (nI k))]) hx hb dX6_edges_187 hl (k := 3) rfl (x_inc1 _) (by decide) rfl (fun ls hl => ?_)
                            refine lv_goto (tgt := 107) hx hb dX6_edges_190 (by decide) ?_
                            exact ih107 (b + 1) E3 (by omega) (by omega) (cut_end (by omega) (by omega) (by omega) c_125 hE3) _ _ hP hD hS _ (lv_sub hl [1, 2, 3, 0] rfl)
                          · refine lv_iload hx hb dX6_edges_141 (lv_at hl 4 rfl) ?_
                            refine lv_iload_n hx hb dX6_edges_143 rfl (lv_at hl 3 rfl) ?_
                            refine x_icmp_eq (tgt := 161) hx hb (by omega) (by omega) dX6_edges_144 (by decide) (fun c_144 => ?_) (fun c_144 => ?_)
                            · refine lv_iload hx hb dX6_edges_161 (lv_at hl 4 rfl) ?_
                              refine lv_iload_n hx hb dX6_edges_163 rfl (lv_at hl 2 rfl) ?_
                              refine x_icmp_eq (tgt := 181) hx hb (by omega) (by omega) dX6_edges_164 (by decide) (fun c_164 => ?_) (fun c_164 => ?_)
                              · refine x_iinc (lv' := [(4, .int (nI (k + 1))), (0, .ref (ad 0)), (1, .int (nI n)), (2, .int (nI a)), (3, .int (nI b))]) hx hb dX6_edges_181 hl (k := 4) rfl (x_inc1 _) (by decide) rfl (fun ls hl => ?_)
                                refine lv_goto (tgt := 134) hx hb dX6_edges_184 (by decide) ?_
                                exact ih134 (k + 1) E3 (by omega) (by omega) (cut_s (by omega) (by omega) (by omega) hE3 (cut_0 c_144 c_164)) _ _ hP hD hS _ (lv_sub hl [1, 2, 3, 4, 0] rfl)
                              · refine lv_aload_n hx hb dX6_edges_167 rfl (lv_at hl 0 rfl) ?_
                                refine va_get (D := G.1) (ci := 6) (v := .ref (ad 33)) (C := RX6) (T := TX6) (N := 36) hx hb hts inX6 hown hK.1 hP 0 rfl rfl 32 (by decide) fl93 (fun _ h9 => h9) rfl dX6_edges_168 ?_
                                refine lv_bipush (v := nI 12) hx hb dX6_edges_171 (by decide) ?_
                                refine lv_iload hx hb dX6_edges_173 (lv_at hl 4 rfl) ?_
                                refine x_imul (r := 12 * k) hx hb dX6_edges_175 (rfl) ?_
                                refine lv_iload_n hx hb dX6_edges_176 rfl (lv_at hl 3 rfl) ?_
                                refine x_iadd (r := 12 * k + b) hx hb dX6_edges_177 (rfl) ?_
                                refine lv_ldc hx hb hown ck164 dX6_edges_178 ?_
                                refine x_top (y := nI 1000000000) (by decide) ?_
                                refine x_iast hx hb hK.1 hP hD hS 25 0 (n := 144) (f := E3) rfl rfl (k := 12 * k + b) (by omega) (by omega) dX6_edges_180 (MW G ad F1 (va_up U 32 (upd E3 (12 * k + b) (nI 1000000000)))) rfl (fun H locs hP hD hS => ?_)
                                refine x_iinc (lv' := [(4, .int (nI (k + 1))), (0, .ref (ad 0)), (1, .int (nI n)), (2, .int (nI a)), (3, .int (nI b))]) hx hb dX6_edges_181 hl (k := 4) rfl (x_inc1 _) (by decide) rfl (fun ls hl => ?_)
                                refine lv_goto (tgt := 134) hx hb dX6_edges_184 (by decide) ?_
                                exact ih134 (k + 1) (upd E3 (12 * k + b) (nI 1000000000)) (by omega) (by omega) (cut_s (by omega) (by omega) (by omega) hE3 (cut_1b c_144 c_164)) _ _ hP hD hS _ (lv_sub hl [1, 2, 3, 4, 0] rfl)
                            · refine lv_aload_n hx hb dX6_edges_147 rfl (lv_at hl 0 rfl) ?_
                              refine va_get (D := G.1) (ci := 6) (v := .ref (ad 33)) (C := RX6) (T := TX6) (N := 36) hx hb hts inX6 hown hK.1 hP 0 rfl rfl 32 (by decide) fl93 (fun _ h9 => h9) rfl dX6_edges_148 ?_
                              refine lv_bipush (v := nI 12) hx hb dX6_edges_151 (by decide) ?_
                              refine lv_iload_n hx hb dX6_edges_153 rfl (lv_at hl 2 rfl) ?_
                              refine x_imul (r := 12 * a) hx hb dX6_edges_154 (rfl) ?_
                              refine lv_iload hx hb dX6_edges_155 (lv_at hl 4 rfl) ?_
                              refine x_iadd (r := 12 * a + k) hx hb dX6_edges_157 (rfl) ?_
                              refine lv_ldc hx hb hown ck164 dX6_edges_158 ?_
                              refine x_top (y := nI 1000000000) (by decide) ?_
                              refine x_iast hx hb hK.1 hP hD hS 25 0 (n := 144) (f := E3) rfl rfl (k := 12 * a + k) (by omega) (by omega) dX6_edges_160 (MW G ad F1 (va_up U 32 (upd E3 (12 * a + k) (nI 1000000000)))) rfl (fun H locs hP hD hS => ?_)
                              refine lv_iload hx hb dX6_edges_161 (lv_at hl 4 rfl) ?_
                              refine lv_iload_n hx hb dX6_edges_163 rfl (lv_at hl 2 rfl) ?_
                              refine x_icmp_eq (tgt := 181) hx hb (by omega) (by omega) dX6_edges_164 (by decide) (fun c_164 => ?_) (fun c_164 => ?_)
                              · refine x_iinc (lv' := [(4, .int (nI (k + 1))), (0, .ref (ad 0)), (1, .int (nI n)), (2, .int (nI a)), (3, .int (nI b))]) hx hb dX6_edges_181 hl (k := 4) rfl (x_inc1 _) (by decide) rfl (fun ls hl => ?_)
                                refine lv_goto (tgt := 134) hx hb dX6_edges_184 (by decide) ?_
                                exact ih134 (k + 1) (upd E3 (12 * a + k) (nI 1000000000)) (by omega) (by omega) (cut_s (by omega) (by omega) (by omega) hE3 (cut_1a c_144 c_164)) _ _ hP hD hS _ (lv_sub hl [1, 2, 3, 4, 0] rfl)
                              · refine lv_aload_n hx hb dX6_edges_167 rfl (lv_at hl 0 rfl) ?_
                                refine va_get (D := G.1) (ci := 6) (v := .ref (ad 33)) (C := RX6) (T := TX6) (N := 36) hx hb hts inX6 hown hK.1 hP 0 rfl rfl 32 (by decide) fl93 (fun _ h9 => h9) rfl dX6_edges_168 ?_
                                refine lv_bipush (v := nI 12) hx hb dX6_edges_171 (by decide) ?_
                                refine lv_iload hx hb dX6_edges_173 (lv_at hl 4 rfl) ?_
                                refine x_imul (r := 12 * k) hx hb dX6_edges_175 (rfl) ?_
                                refine lv_iload_n hx hb dX6_edges_176 rfl (lv_at hl 3 rfl) ?_
                                refine x_iadd (r := 12 * k + b) hx hb dX6_edges_177 (rfl) ?_
                                refine lv_ldc hx hb hown ck164 dX6_edges_178 ?_
                                refine x_top (y := nI 1000000000) (by decide) ?_
                                refine x_iast hx hb hK.1 hP hD hS 25 0 (n := 144) (f := upd E3 (12 * a + k) (nI 1000000000)) rfl rfl (k := 12 * k + b) (by omega) (by omega) dX6_edges_180 (MW G ad F1 (va_up U 32 (upd (upd E3 (12 * a + k) (nI 1000000000)) (12 * k + b) (nI 1000000000)))) rfl (fun H locs hP hD hS => ?_)
                                refine x_iinc (lv' := [(4, .int (nI (k + 1))), (0, .ref (ad 0)), (1, .int (nI n)), (2, .int (nI a)), (3, .int (nI b))]) hx hb dX6_edges_181 hl (k := 4) rfl (x_inc1 _) (by decide) rfl (fun ls hl => ?_)
                                refine lv_goto (tgt := 134) hx hb dX6_edges_184 (by decide) ?_
                                exact ih134 (k + 1) (upd (upd E3 (12 * a + k) (nI 1000000000)) (12 * k + b) (nI 1000000000)) (by omega) (by omega) (cut_s (by omega) (by omega) (by omega) hE3 (cut_2 c_144 c_164)) _ _ hP hD hS _ (lv_sub hl [1, 2, 3, 4, 0] rfl)
                      exact lp134 (12 - 0 + 1) 0 E2 (Nat.lt_succ_self _) (by omega) (fun q hq => by rw [if_neg (by unfold cutK; omega)]; exact hE2 q hq) _ _ hP hD hS _ (lv_sub hl [1, 2, 3, 4, 0] rfl)
                    · refine lv_goto (tgt := 187) hx hb dX6_edges_128 (by decide) ?_
                      refine x_iinc (lv' := [(3, .int (nI (b + 1))), (0, .ref (ad 0)), (1, .int (nI n)), (2, .int (nI a))]) hx hb dX6_edges_187 hl (k := 3) rfl (x_inc1 _) (by decide) rfl (fun ls hl => ?_)
                      refine lv_goto (tgt := 107) hx hb dX6_edges_190 (by decide) ?_
                      exact ih107 (b + 1) E2 (by omega) (by omega) (cut_no c_125 hE2) _ _ hP hD hS _ (lv_sub hl [1, 2, 3, 0] rfl)
              exact lp107 (12 - 0 + 1) 0 E2 (Nat.lt_succ_self _) (by omega) (hE2) _ _ hP hD hS _ (lv_sub hl [1, 2, 3, 0] rfl)
        exact lp99 (12 - 0 + 1) 0 E (Nat.lt_succ_self _) (by omega) (fun q hq => hE q (by omega)) _ _ hP hD hS _ (lv_sub hl [1, 2, 0] rfl)
      · refine lv_iconst (v := nI 0) hx hb dX6_edges_8 (by decide) ?_
        refine lv_istore_n (lv' := [(3, .int (nI 0)), (0, .ref (ad 0)), (1, .int (nI n)), (2, .int (nI a))]) hx hb dX6_edges_9 rfl hl (by decide) rfl (fun ls hl => ?_)
        have lp10 : ∀ (nn : Nat) (b : Nat) (F1 : Nat → Int32) (U : Nat → Nat → Int32) (E : Nat → Int32), 12 - b < nn → (b ≤ 12) → (keepF F1 F) → (keepE U R) → (∀ q, q < 12 * a + b → E q = eBase so (R 12) (F 18) (F 19) (F 20) n q) → ∀ (H : Heap) (locs : List Loc), va_P G.1 vwCl (MW G ad F1 (va_up U 32 E)) H → va_D (va_A (MW G ad F R) s.heap.size) (MW G ad F1 (va_up U 32 E)) → va_S (va_A (MW G ad F R) s.heap.size) s.heap H locs → ∀ ls : Array Slot, lv_has ls 5 [(0, .ref (ad 0)), (1, .int (nI n)), (2, .int (nI a)), (3, .int (nI b))] → mx_WE l wsX6_edges 5 123 0 0 G p e s m (([.ref (ad 0), .int (nI n)] : List Value).toArray) below meth c (MW G ad F R) (fun _ : (Nat → Int32) × (Nat → Nat → Int32) => none) (fun u9 : (Nat → Int32) × (Nat → Nat → Int32) => keepF u9.1 F ∧ keepE u9.2 R ∧ ∀ q, q < 144 → u9.2 32 q = eV so (R 12) (F 18) (F 19) (F 20) n q) (fun u9 : (Nat → Int32) × (Nat → Nat → Int32) => MW G ad u9.1 u9.2) H locs 0 0 (F0 m 10 ls []) := by
          intro nn
          induction nn with
          | zero => intro b F1 U E hmu; exact absurd hmu (Nat.not_lt_zero _)
          | succ nn ih10 =>
            intro b F1 U E hmu hb9 hkF hkU hE H locs hP hD hS ls hl
            refine lv_iload_n hx hb dX6_edges_10 rfl (lv_at hl 3 rfl) ?_
            refine lv_bipush (v := nI 12) hx hb dX6_edges_11 (by decide) ?_
            refine x_icmp_ge (tgt := 91) hx hb (by omega) (by omega) dX6_edges_13 (by decide) (fun c_13 => ?_) (fun c_13 => ?_)
            · refine x_iinc (lv' := [(2, .int (nI (a + 1))), (0, .ref (ad 0)), (1, .int (nI n)), (3, .int (nI b))]) hx hb dX6_edges_91 hl (k := 2) rfl (x_inc1 _) (by decide) rfl (fun ls hl => ?_)
              refine lv_goto (tgt := 2) hx hb dX6_edges_94 (by decide) ?_
              exact ih2 (a + 1) F1 U E (by omega) (by omega) (by omega) (by omega) (fun q hq => hE q (by omega)) _ _ hP hD hS _ (lv_sub hl [1, 2, 0] rfl)
            · refine lv_aload_n hx hb dX6_edges_16 rfl (lv_at hl 0 rfl) ?_
              refine va_get (D := G.1) (ci := 6) (v := .ref (ad 33)) (C := RX6) (T := TX6) (N := 36) hx hb hts inX6 hown hK.1 hP 0 rfl rfl 32 (by decide) fl93 (fun _ h9 => h9) rfl dX6_edges_17 ?_
              refine lv_bipush (v := nI 12) hx hb dX6_edges_20 (by decide) ?_
              refine lv_iload_n hx hb dX6_edges_22 rfl (lv_at hl 2 rfl) ?_
              refine x_imul (r := 12 * a) hx hb dX6_edges_23 (rfl) ?_
              refine lv_iload_n hx hb dX6_edges_24 rfl (lv_at hl 3 rfl) ?_
              refine x_iadd (r := 12 * a + b) hx hb dX6_edges_25 (rfl) ?_
              refine lv_ldc hx hb hown ck164 dX6_edges_26 ?_
              refine x_top (y := nI 1000000000) (by decide) ?_
              refine x_iast hx hb hK.1 hP hD hS 25 0 (n := 144) (f := E) rfl rfl (k := 12 * a + b) (by omega) (by omega) dX6_edges_28 (MW G ad F1 (va_up U 32 (upd E (12 * a + b) (nI 1000000000)))) rfl (fun H locs hP hD hS => ?_)
              refine lv_iload_n hx hb dX6_edges_29 rfl (lv_at hl 2 rfl) ?_
              refine lv_iload_n hx hb dX6_edges_30 rfl (lv_at hl 3 rfl) ?_
              refine x_icmp_eq (tgt := 85) hx hb (by omega) (by omega) dX6_edges_31 (by decide) (fun c_31 => ?_) (fun c_31 => ?_)
              · refine x_iinc (lv' := [(3, .int (nI (b + 1))), (0, .ref (ad 0)), (1, .int (nI n)), (2, .int (nI a))]) hx hb dX6_edges_85 hl (k := 3) rfl (x_inc1 _) (by decide) rfl (fun ls hl => ?_)
                refine lv_goto (tgt := 10) hx hb dX6_edges_88 (by decide) ?_
                exact ih10 (b + 1) F1 U (upd E (12 * a + b) (nI 1000000000)) (by omega) (by omega) (hkF) (hkU) (flat_s hE (eB_same (by omega) c_31)) _ _ hP hD hS _ (lv_sub hl [1, 2, 3, 0] rfl)
              · refine lv_aload_n hx hb dX6_edges_34 rfl (lv_at hl 0 rfl) ?_
                refine va_get (D := G.1) (ci := 6) (v := .ref (ad 1)) (C := RX6) (T := TX6) (N := 36) hx hb hts inX6 hown hK.1 hP 0 rfl rfl 0 (by decide) fl7 (fun _ h9 => h9) rfl dX6_edges_35 ?_
                refine lv_iload_n hx hb dX6_edges_38 rfl (lv_at hl 2 rfl) ?_
                refine x_zald hx hb hK.1 hP 1 1 (n := 12) (f := U 0) rfl rfl (k := a) (by omega) (by omega) dX6_edges_39 ?_
                refine x_top (y := R 0 a) (by rw [hkU 0 (by decide) (by decide)]) ?_
                refine lv_if_eq (tgt := 85) hx hb dX6_edges_40 (by decide) (fun c_40 => ?_) (fun c_40 => ?_)
                · have hn1a := there_no hall (show a < 12 by omega) c_40
                  refine x_iinc (lv' := [(3, .int (nI (b + 1))), (0, .ref (ad 0)), (1, .int (nI n)), (2, .int (nI a))]) hx hb dX6_edges_85 hl (k := 3) rfl (x_inc1 _) (by decide) rfl (fun ls hl => ?_)
                  refine lv_goto (tgt := 10) hx hb dX6_edges_88 (by decide) ?_
                  exact ih10 (b + 1) F1 U (upd E (12 * a + b) (nI 1000000000)) (by omega) (by omega) (hkF) (hkU) (flat_s hE (eB_n1 (by omega) hn1a)) _ _ hP hD hS _ (lv_sub hl [1, 2, 3, 0] rfl)
                · obtain ⟨σ, hsa, hma, oka⟩ := there_yes hall (show a < 12 by omega) c_40
                  refine lv_aload_n hx hb dX6_edges_43 rfl (lv_at hl 0 rfl) ?_
                  refine va_get (D := G.1) (ci := 6) (v := .ref (ad 1)) (C := RX6) (T := TX6) (N := 36) hx hb hts inX6 hown hK.1 hP 0 rfl rfl 0 (by decide) fl7 (fun _ h9 => h9) rfl dX6_edges_44 ?_
                  refine lv_iload_n hx hb dX6_edges_47 rfl (lv_at hl 3 rfl) ?_
                  refine x_zald hx hb hK.1 hP 1 1 (n := 12) (f := U 0) rfl rfl (k := b) (by omega) (by omega) dX6_edges_48 ?_
                  refine x_top (y := R 0 b) (by rw [hkU 0 (by decide) (by decide)]) ?_
                  refine lv_if_eq (tgt := 85) hx hb dX6_edges_49 (by decide) (fun c_49 => ?_) (fun c_49 => ?_)
                  · have hn2a := there_no hall (show b < 12 by omega) c_49
                    refine x_iinc (lv' := [(3, .int (nI (b + 1))), (0, .ref (ad 0)), (1, .int (nI n)), (2, .int (nI a))]) hx hb dX6_edges_85 hl (k := 3) rfl (x_inc1 _) (by decide) rfl (fun ls hl => ?_)
                    refine lv_goto (tgt := 10) hx hb dX6_edges_88 (by decide) ?_
                    exact ih10 (b + 1) F1 U (upd E (12 * a + b) (nI 1000000000)) (by omega) (by omega) (hkF) (hkU) (flat_s hE (eB_n2 (by omega) hn2a)) _ _ hP hD hS _ (lv_sub hl [1, 2, 3, 0] rfl)
                  · obtain ⟨τ, hsb, hmb, okb⟩ := there_yes hall (show b < 12 by omega) c_49
                    refine lv_aload_n hx hb dX6_edges_52 rfl (lv_at hl 0 rfl) ?_
                    refine va_get (D := G.1) (ci := 6) (v := .ref (ad 13)) (C := RX6) (T := TX6) (N := 36) hx hb hts inX6 hown hK.1 hP 0 rfl rfl 12 (by decide) fl47 (fun _ h9 => h9) rfl dX6_edges_53 ?_
                    refine lv_bipush (v := nI 12) hx hb dX6_edges_56 (by decide) ?_
                    refine lv_iload_n hx hb dX6_edges_58 rfl (lv_at hl 2 rfl) ?_
                    refine x_imul (r := 12 * a) hx hb dX6_edges_59 (rfl) ?_
                    refine lv_iload_n hx hb dX6_edges_60 rfl (lv_at hl 3 rfl) ?_
                    refine x_iadd (r := 12 * a + b) hx hb dX6_edges_61 (rfl) ?_
                    refine x_iald hx hb hK.1 hP 13 0 (n := 144) (f := U 12) rfl rfl (k := 12 * a + b) (by omega) (by omega) dX6_edges_62 ?_
                    refine x_top (y := R 12 (12 * a + b)) (by rw [hkU 12 (by decide) (by decide)]) ?_
                    refine lv_iconst (v := nI 2) hx hb dX6_edges_63 (by decide) ?_
                    refine lv_icmp_eq (tgt := 85) hx hb dX6_edges_64 (by decide) (fun c_64 => ?_) (fun c_64 => ?_)
                    · refine x_iinc (lv' := [(3, .int (nI (b + 1))), (0, .ref (ad 0)), (1, .int (nI n)), (2, .int (nI a))]) hx hb dX6_edges_85 hl (k := 3) rfl (x_inc1 _) (by decide) rfl (fun ls hl => ?_)
                      refine lv_goto (tgt := 10) hx hb dX6_edges_88 (by decide) ?_
                      exact ih10 (b + 1) F1 U (upd E (12 * a + b) (nI 1000000000)) (by omega) (by omega) (hkF) (hkU) (flat_s hE (eB_2 (by omega) c_64)) _ _ hP hD hS _ (lv_sub hl [1, 2, 3, 0] rfl)
                    · have ha12 : a < 12 := by omega
                      have hb12 : b < 12 := by omega
                      have hma := moSg_eq (R1 := va_up U 32 (upd E (12 * a + b) (nI 1000000000))) hma (fun i hi => by simp only [va_up]; rw [if_neg (by omega)]; exact hkU i (by omega) (by omega))
                      have hmb := moSg_eq (R1 := va_up U 32 (upd E (12 * a + b) (nI 1000000000))) hmb (fun i hi => by simp only [va_up]; rw [if_neg (by omega)]; exact hkU i (by omega) (by omega))
                      refine lv_aload_n hx hb dX6_edges_67 rfl (lv_at hl 0 rfl) ?_
                      refine va_get (D := G.1) (ci := 6) (v := .ref (ad 33)) (C := RX6) (T := TX6) (N := 36) hx hb hts inX6 hown hK.1 hP 0 rfl rfl 32 (by decide) fl93 (fun _ h9 => h9) rfl dX6_edges_68 ?_
                      refine lv_bipush (v := nI 12) hx hb dX6_edges_71 (by decide) ?_
                      refine lv_iload_n hx hb dX6_edges_73 rfl (lv_at hl 2 rfl) ?_
                      refine x_imul (r := 12 * a) hx hb dX6_edges_74 (rfl) ?_
                      refine lv_iload_n hx hb dX6_edges_75 rfl (lv_at hl 3 rfl) ?_
                      refine x_iadd (r := 12 * a + b) hx hb dX6_edges_76 (rfl) ?_
                      refine lv_aload_n hx hb dX6_edges_77 rfl (lv_at hl 0 rfl) ?_
                      refine lv_iload_n hx hb dX6_edges_78 rfl (lv_at hl 2 rfl) ?_
                      refine lv_iload_n hx hb dX6_edges_79 rfl (lv_at hl 3 rfl) ?_
                      refine lv_iload_n hx hb dX6_edges_80 rfl (lv_at hl 1 rfl) ?_
                      refine mx_callEi (va_runV (As := [.int (nI a), .int (nI b), .int (nI n)]) (rest := [.int (nI (12 * a + b)), .ref (ad 33)]) ⟨hx, hb, hml, hown, hts⟩ (c_X6_bestOf l G ad F1 (va_up U 32 (upd E (12 * a + b) (nI 1000000000))) a b σ τ n ha12 hb12 hma hmb oka okb (by omega) (by omega) _) (cwV 3 hts gX6_edges_X6_bestOf rfl rfl rfl (by decide +kernel) ⟨Nat.le_of_ble_eq_true rfl, Nat.le_of_ble_eq_true rfl⟩) (mx_preV hK ⟨rfl, hP, mx_any hD (fun _ _ => trivial)⟩ (va_recv hK.1 hP (ci := 6) (q0 := 0) rfl rfl)) rfl rfl hl.1 rfl (lv_room (Nat.le_of_ble_eq_true rfl)) dX6_edges_81 ⟨Nat.zero_le _, Nat.zero_le _⟩) hP hD hS hA (mx_perm0) (fun u8 H locs hu8 hP hD hS => ?_)
                      rw [List.append_nil] at hP hD
                      obtain ⟨F8, U8⟩ := u8
                      obtain ⟨hkf, hkx, hbf⟩ := hu8
                      have hkf : keepF F8 F1 := hkf
                      have hkx : keepX U8 (va_up U 32 (upd E (12 * a + b) (nI 1000000000))) := hkx
                      have hbf : bestF F8 (bestT (F1 18) σ τ n) := hbf
                      have hkF8 : keepF F8 F := fun i h1 h2 => (hkf i h1 h2).trans (hkF i h1 h2)
                      have hkU8 : keepE U8 R := fun i h1 h2 => (hkx i h1).trans (by simp only [va_up]; rw [if_neg h2]; exact hkU i h1 h2)
                      have hP : va_P G.1 vwCl (MW G ad F8 U8) H := hP
                      have hD : va_D _ (MW G ad F8 U8) := hD
                      refine x_top (y := bestV (F 18) (F 19) (F 20) σ τ n) (by rw [hkF 18 (by decide) (by decide), hkF 19 (by decide) (by decide), hkF 20 (by decide) (by decide)]) ?_
                      refine x_iast hx hb hK.1 hP hD hS 25 0 (n := 144) (f := U8 32) rfl rfl (k := 12 * a + b) (by omega) (by omega) dX6_edges_84 (MW G ad F8 (va_up U8 32 (upd (U8 32) (12 * a + b) (bestV (F 18) (F 19) (F 20) σ τ n)))) rfl (fun H locs hP hD hS => ?_)
                      refine x_iinc (lv' := [(3, .int (nI (b + 1))), (0, .ref (ad 0)), (1, .int (nI n)), (2, .int (nI a))]) hx hb dX6_edges_85 hl (k := 3) rfl (x_inc1 _) (by decide) rfl (fun ls hl => ?_)
                      refine lv_goto (tgt := 10) hx hb dX6_edges_88 (by decide) ?_
                      exact ih10 (b + 1) F8 U8 (upd (U8 32) (12 * a + b) (bestV (F 18) (F 19) (F 20) σ τ n)) (by omega) (by omega) (hkF8) (hkU8) (by rw [hkx 32 (by decide)]; exact flat_2 hE (eB_y (by omega) hsa hsb c_31 c_64)) _ _ hP hD hS _ (lv_sub hl [1, 2, 3, 0] rfl)
        exact lp10 (12 - 0 + 1) 0 F1 U E (Nat.lt_succ_self _) (by omega) (hkF) (hkU) (hE) _ _ hP hD hS _ (lv_sub hl [1, 2, 3, 0] rfl)
  exact lp2 (12 - 0 + 1) 0 F R (R 32) (Nat.lt_succ_self _) (by omega) (fun _ _ _ => rfl) (fun _ _ _ => rfl) (fun q hq => absurd hq (by omega)) _ _ hP hD hS _ (lv_sub hl [1, 2, 0] rfl)

set_option maxHeartbeats 4000000 in
set_option maxRecDepth 100000 in
theorem c_X6_weighs (l : Launch) (G : mx_G) (ad : Nat → Nat) (F : Nat → Int32) (R : Nat → Nat → Int32) (Ef : Nat → Int32) (all : Nat) (hall : all < 4096) (hEf : ∀ q, q < 144 → R 32 q = Ef q) (sz : Nat) : mx_EF l yX6_weighs wsX6_weighs 1 23 0 0 G [.ref (ad 0), .int (nI all)] sz (MW G ad F R) (fun _ : Nat → Int32 => none) (fun V : Nat → Int32 => ∀ q, q ≤ all → sub q all = 0 → ∀ z, z < 12 → V (12 * q + z) = wW (eT Ef) (bdT (R 12) (nI 0)) q z) (fun V : Nat → Int32 => MW G ad F (va_up R 33 V)) := by
  refine Met.ofW (cc := cX6_weighs) (maxL := 7) (ret := none) (by decide) rfl ?_
  intro p e s m args below meth c s₁ BB hml hv
  obtain ⟨rfl, ⟨hsz, hP, hD0⟩, hK⟩ := hv
  have hx := BB.exec
  have hb := BB.bytes
  have hr := BB.returns
  have hts := atoms_spec (ws := wsX6_weighs) BB.pre
  have hown : s.vm.findClass RX6 = some m.cls := findClass_of_methodNamed BB.named
  have hlocks := BB.notSynchronized
  subst hsz
  have hD := hD0.self (sz := s.heap.size)
  have hA : ∀ q : Nat, s.heap.size ≤ q → va_A (MW G ad F R) s.heap.size q := fun q h => Or.inr h
  have hS : va_S (va_A (MW G ad F R) s.heap.size) s.heap s.heap [] := va_S.rf
  have fl93 := hts (.fieldLink RX6 93 "MixDeskModel" "edge" "[I") (by decide +kernel)
  have fl97 := hts (.fieldLink RX6 97 "MixDeskModel" "weigh" "[I") (by decide +kernel)
  have inX6 : ∀ w ∈ wsX60, w ∈ wsX6_weighs := by decide +kernel
  have ck164 := hts (.constant RX6 164 (1000000000)) (by decide +kernel)
  have hl := lv_entry ([.ref (ad 0), .int (nI all)]) (n := 7) (Nat.le_of_ble_eq_true rfl)
  rw [lg_entry_eq]
  generalize (lg_sl ([.ref (ad 0), .int (nI all)]) ++ List.replicate (7 - (lg_sl ([.ref (ad 0), .int (nI all)])).length) Slot.unset).toArray = ls at hl ⊢
  have hl : lv_has ls 7 [(0, .ref (ad 0)), (1, .int (nI all))] := hl
  refine lv_iconst (v := nI 0) hx hb dX6_weighs_0 (by decide) ?_
  refine lv_istore_n (lv' := [(2, .int (nI 0)), (0, .ref (ad 0)), (1, .int (nI all))]) hx hb dX6_weighs_1 rfl hl (by decide) rfl (fun ls hl => ?_)
  have lp2 : ∀ (nn : Nat) (l1 : Nat) (V : Nat → Int32), all + 1 - l1 < nn → (l1 ≤ all + 1) → (∀ q, q < l1 → sub q all = 0 → ∀ z, z < 12 → V (12 * q + z) = wW (eT Ef) (bdT (R 12) (nI 0)) q z) → ∀ (H : Heap) (locs : List Loc), va_P G.1 vwCl (MW G ad F (va_up R 33 V)) H → va_D (va_A (MW G ad F R) s.heap.size) (MW G ad F (va_up R 33 V)) → va_S (va_A (MW G ad F R) s.heap.size) s.heap H locs → ∀ ls : Array Slot, lv_has ls 7 [(0, .ref (ad 0)), (1, .int (nI all)), (2, .int (nI l1))] → mx_WE l wsX6_weighs 1 23 0 0 G p e s m (([.ref (ad 0), .int (nI all)] : List Value).toArray) below meth c (MW G ad F R) (fun _ : Nat → Int32 => none) (fun V : Nat → Int32 => ∀ q, q ≤ all → sub q all = 0 → ∀ z, z < 12 → V (12 * q + z) = wW (eT Ef) (bdT (R 12) (nI 0)) q z) (fun V : Nat → Int32 => MW G ad F (va_up R 33 V)) H locs 0 0 (F0 m 2 ls []) := by
    intro nn
    induction nn with
    | zero => intro l1 V hmu; exact absurd hmu (Nat.not_lt_zero _)
    | succ nn ih2 =>
      intro l1 V hmu hl1 hV H locs hP hD hS ls hl
      refine lv_iload_n hx hb dX6_weighs_2 rfl (lv_at hl 2 rfl) ?_
      refine lv_iload_n hx hb dX6_weighs_3 rfl (lv_at hl 1 rfl) ?_
      refine x_icmp_gt (tgt := 182) hx hb (by omega) (by omega) dX6_weighs_4 (by decide) (fun c_4 => ?_) (fun c_4 => ?_)
      · exact W.vret hx hb hr (fun t9 ht9 hW9 => ⟨⟨V, rfl, fun q h1 h2 z hz => hV q (by omega) h2 z hz, by rw [ht9]; exact hP, hD⟩, hS.F ht9⟩) hS.2.2 dX6_weighs_182
      · refine lv_iload_n hx hb dX6_weighs_7 rfl (lv_at hl 2 rfl) ?_
        refine lv_iload_n hx hb dX6_weighs_8 rfl (lv_at hl 1 rfl) ?_
        refine lv_iconst (v := (-1)) hx hb dX6_weighs_9 (by decide) ?_
        refine lv_ixor hx hb dX6_weighs_10 ?_
        refine lv_iand hx hb dX6_weighs_11 ?_
        refine x_top (y := nI (sub l1 all)) (zz_clr (by omega)) ?_
        refine x_if_eq (tgt := 18) hx hb (Nat.lt_of_le_of_lt sub_lt (by omega)) dX6_weighs_12 (by decide) (fun c_12 => ?_) (fun c_12 => ?_)
        · refine lv_iconst (v := nI 0) hx hb dX6_weighs_18 (by decide) ?_
          refine lv_istore_n (lv' := [(3, .int (nI 0)), (0, .ref (ad 0)), (1, .int (nI all)), (2, .int (nI l1))]) hx hb dX6_weighs_19 rfl hl (by decide) rfl (fun ls hl => ?_)
          have lp20 : ∀ (nn : Nat) (z : Nat) (V2 : Nat → Int32), 12 - z < nn → (z ≤ 12) → (∀ q, q < l1 → sub q all = 0 → ∀ z, z < 12 → V2 (12 * q + z) = wW (eT Ef) (bdT (R 12) (nI 0)) q z) → (∀ y, y < z → V2 (12 * l1 + y) = wW (eT Ef) (bdT (R 12) (nI 0)) l1 y) → ∀ (H : Heap) (locs : List Loc), va_P G.1 vwCl (MW G ad F (va_up R 33 V2)) H → va_D (va_A (MW G ad F R) s.heap.size) (MW G ad F (va_up R 33 V2)) → va_S (va_A (MW G ad F R) s.heap.size) s.heap H locs → ∀ ls : Array Slot, lv_has ls 7 [(0, .ref (ad 0)), (1, .int (nI all)), (2, .int (nI l1)), (3, .int (nI z))] → mx_WE l wsX6_weighs 1 23 0 0 G p e s m (([.ref (ad 0), .int (nI all)] : List Value).toArray) below meth c (MW G ad F R) (fun _ : Nat → Int32 => none) (fun V : Nat → Int32 => ∀ q, q ≤ all → sub q all = 0 → ∀ z, z < 12 → V (12 * q + z) = wW (eT Ef) (bdT (R 12) (nI 0)) q z) (fun V : Nat → Int32 => MW G ad F (va_up R 33 V)) H locs 0 0 (F0 m 20 ls []) := by
            intro nn
            induction nn with
            | zero => intro z V2 hmu; exact absurd hmu (Nat.not_lt_zero _)
            | succ nn ih20 =>
              intro z V2 hmu hz hV hV2 H locs hP hD hS ls hl
              refine lv_iload_n hx hb dX6_weighs_20 rfl (lv_at hl 3 rfl) ?_
              refine lv_bipush (v := nI 12) hx hb dX6_weighs_21 (by decide) ?_
              refine x_icmp_ge (tgt := 176) hx hb (by omega) (by omega) dX6_weighs_23 (by decide) (fun c_23 => ?_) (fun c_23 => ?_)
              · refine x_iinc (lv' := [(2, .int (nI (l1 + 1))), (0, .ref (ad 0)), (1, .int (nI all)), (3, .int (nI z))]) hx hb dX6_weighs_176 hl (k := 2) rfl (x_inc1 _) (by decide) rfl (fun ls hl => ?_)
                refine lv_goto (tgt := 2) hx hb dX6_weighs_179 (by decide) ?_
                exact ih2 (l1 + 1) V2 (by omega) (by omega) (wei_yes hV hV2 (show z = 12 by omega)) _ _ hP hD hS _ (lv_sub hl [1, 2, 0] rfl)
              · have lp45 : ∀ (H : Heap) (locs : List Loc), va_P G.1 vwCl (MW G ad F (va_up R 33 V2)) H → va_D (va_A (MW G ad F R) s.heap.size) (MW G ad F (va_up R 33 V2)) → va_S (va_A (MW G ad F R) s.heap.size) s.heap H locs → ∀ ls : Array Slot, lv_has ls 7 [(0, .ref (ad 0)), (1, .int (nI all)), (2, .int (nI l1)), (3, .int (nI z))] → mx_WE l wsX6_weighs 1 23 0 0 G p e s m (([.ref (ad 0), .int (nI all)] : List Value).toArray) below meth c (MW G ad F R) (fun _ : Nat → Int32 => none) (fun V : Nat → Int32 => ∀ q, q ≤ all → sub q all = 0 → ∀ z, z < 12 → V (12 * q + z) = wW (eT Ef) (bdT (R 12) (nI 0)) q z) (fun V : Nat → Int32 => MW G ad F (va_up R 33 V)) H locs 0 0 (F0 m 45 ls [.int (wS (eT Ef) (bdT (R 12) (nI 0)) (wW (eT Ef) (bdT (R 12) (nI 0))) l1 z 0)]) := by
                  intro   H locs hP hD hS ls hl
                  refine lv_istore (lv' := [(4, .int (wS (eT Ef) (bdT (R 12) (nI 0)) (wW (eT Ef) (bdT (R 12) (nI 0))) l1 z 0)), (0, .ref (ad 0)), (1, .int (nI all)), (2, .int (nI l1)), (3, .int (nI z))]) hx hb dX6_weighs_45 hl (by decide) rfl (fun ls hl => ?_)
                  refine lv_iconst (v := nI 0) hx hb dX6_weighs_47 (by decide) ?_
                  refine lv_istore (lv' := [(5, .int (nI 0)), (4, .int (wS (eT Ef) (bdT (R 12) (nI 0)) (wW (eT Ef) (bdT (R 12) (nI 0))) l1 z 0)), (0, .ref (ad 0)), (1, .int (nI all)), (2, .int (nI l1)), (3, .int (nI z))]) hx hb dX6_weighs_48 hl (by decide) rfl (fun ls hl => ?_)
                  have lp50 : ∀ (nn : Nat) (k : Nat), 12 - k < nn → (k ≤ 12) → ∀ (H : Heap) (locs : List Loc), va_P G.1 vwCl (MW G ad F (va_up R 33 V2)) H → va_D (va_A (MW G ad F R) s.heap.size) (MW G ad F (va_up R 33 V2)) → va_S (va_A (MW G ad F R) s.heap.size) s.heap H locs → ∀ ls : Array Slot, lv_has ls 7 [(0, .ref (ad 0)), (1, .int (nI all)), (2, .int (nI l1)), (3, .int (nI z)), (4, .int (wS (eT Ef) (bdT (R 12) (nI 0)) (wW (eT Ef) (bdT (R 12) (nI 0))) l1 z k)), (5, .int (nI k))] → mx_WE l wsX6_weighs 1 23 0 0 G p e s m (([.ref (ad 0), .int (nI all)] : List Value).toArray) below meth c (MW G ad F R) (fun _ : Nat → Int32 => none) (fun V : Nat → Int32 => ∀ q, q ≤ all → sub q all = 0 → ∀ z, z < 12 → V (12 * q + z) = wW (eT Ef) (bdT (R 12) (nI 0)) q z) (fun V : Nat → Int32 => MW G ad F (va_up R 33 V)) H locs 0 0 (F0 m 50 ls []) := by
                    intro nn
                    induction nn with
                    | zero => intro k hmu; exact absurd hmu (Nat.not_lt_zero _)
                    | succ nn ih50 =>
                      intro k hmu hk H locs hP hD hS ls hl
                      refine lv_iload hx hb dX6_weighs_50 (lv_at hl 5 rfl) ?_
                      refine lv_bipush (v := nI 12) hx hb dX6_weighs_52 (by decide) ?_
                      refine x_icmp_ge (tgt := 157) hx hb (by omega) (by omega) dX6_weighs_54 (by decide) (fun c_54 => ?_) (fun c_54 => ?_)
                      · have hl : lv_has ls 7 [(0, .ref (ad 0)), (1, .int (nI all)), (2, .int (nI l1)), (3, .int (nI z)), (4, .int (wW (eT Ef) (bdT (R 12) (nI 0)) l1 z)), (5, .int (nI k))] := Eq.mp (congrArg (fun z9 : Int32 => lv_has ls 7 [(0, .ref (ad 0)), (1, .int (nI all)), (2, .int (nI l1)), (3, .int (nI z)), (4, .int z9), (5, .int (nI k))]) (show wS (eT Ef) (bdT (R 12) (nI 0)) (wW (eT Ef) (bdT (R 12) (nI 0))) l1 z k = wW (eT Ef) (bdT (R 12) (nI 0)) l1 z from by rw [wW_eq (show l1 < 4096 by omega), show k = 12 by omega])) hl
                        refine lv_aload_n hx hb dX6_weighs_157 rfl (lv_at hl 0 rfl) ?_
                        refine va_get (D := G.1) (ci := 6) (v := .ref (ad 34)) (C := RX6) (T := TX6) (N := 36) hx hb hts inX6 hown hK.1 hP 0 rfl rfl 33 (by decide) fl97 (fun _ h9 => h9) rfl dX6_weighs_158 ?_
                        refine lv_bipush (v := nI 12) hx hb dX6_weighs_161 (by decide) ?_
                        refine lv_iload_n hx hb dX6_weighs_163 rfl (lv_at hl 2 rfl) ?_
                        refine x_imul (r := 12 * l1) hx hb dX6_weighs_164 (rfl) ?_
                        refine lv_iload_n hx hb dX6_weighs_165 rfl (lv_at hl 3 rfl) ?_
                        refine x_iadd (r := 12 * l1 + z) hx hb dX6_weighs_166 (rfl) ?_
                        refine lv_iload hx hb dX6_weighs_167 (lv_at hl 4 rfl) ?_
                        refine x_iast hx hb hK.1 hP hD hS 26 0 (n := 49152) (f := V2) rfl rfl (k := 12 * l1 + z) (by omega) (by omega) dX6_weighs_169 (MW G ad F (va_up R 33 (upd V2 (12 * l1 + z) (wW (eT Ef) (bdT (R 12) (nI 0)) l1 z)))) rfl (fun H locs hP hD hS => ?_)
                        refine x_iinc (lv' := [(3, .int (nI (z + 1))), (0, .ref (ad 0)), (1, .int (nI all)), (2, .int (nI l1)), (4, .int (wW (eT Ef) (bdT (R 12) (nI 0)) l1 z)), (5, .int (nI k))]) hx hb dX6_weighs_170 hl (k := 3) rfl (x_inc1 _) (by decide) rfl (fun ls hl => ?_)
                        refine lv_goto (tgt := 20) hx hb dX6_weighs_173 (by decide) ?_
                        exact ih20 (z + 1) (upd V2 (12 * l1 + z) (wW (eT Ef) (bdT (R 12) (nI 0)) l1 z)) (by omega) (by omega) (fun q h1 h2 y hy => by unfold upd; rw [if_neg (by omega)]; exact hV q h1 h2 y hy) (seg_g hV2 rfl) _ _ hP hD hS _ (lv_sub hl [1, 2, 3, 0] rfl)
                      · refine lv_iload_n hx hb dX6_weighs_57 rfl (lv_at hl 2 rfl) ?_
                        refine lv_iload hx hb dX6_weighs_58 (lv_at hl 5 rfl) ?_
                        refine lv_ishr hx hb dX6_weighs_60 ?_
                        refine x_top (y := nI (l1 / 2 ^ k)) (zz_shr (by omega) (by omega)) ?_
                        refine lv_iconst (v := nI 1) hx hb dX6_weighs_61 (by decide) ?_
                        refine lv_iand hx hb dX6_weighs_62 ?_
                        refine x_top (y := nI (l1 / 2 ^ k % 2)) (zz_bit (by omega)) ?_
                        refine x_if_eq (tgt := 151) hx hb (by omega) dX6_weighs_63 (by decide) (fun c_63 => ?_) (fun c_63 => ?_)
                        · have hl : lv_has ls 7 [(0, .ref (ad 0)), (1, .int (nI all)), (2, .int (nI l1)), (3, .int (nI z)), (4, .int (wS (eT Ef) (bdT (R 12) (nI 0)) (wW (eT Ef) (bdT (R 12) (nI 0))) l1 z (k + 1))), (5, .int (nI k))] := Eq.mp (congrArg (fun z9 : Int32 => lv_has ls 7 [(0, .ref (ad 0)), (1, .int (nI all)), (2, .int (nI l1)), (3, .int (nI z)), (4, .int z9), (5, .int (nI k))]) (show wS (eT Ef) (bdT (R 12) (nI 0)) (wW (eT Ef) (bdT (R 12) (nI 0))) l1 z k = wS (eT Ef) (bdT (R 12) (nI 0)) (wW (eT Ef) (bdT (R 12) (nI 0))) l1 z (k + 1) from wS_no (fun q => q.1 c_63))) hl
                          refine x_iinc (lv' := [(5, .int (nI (k + 1))), (0, .ref (ad 0)), (1, .int (nI all)), (2, .int (nI l1)), (3, .int (nI z)), (4, .int (wS (eT Ef) (bdT (R 12) (nI 0)) (wW (eT Ef) (bdT (R 12) (nI 0))) l1 z (k + 1)))]) hx hb dX6_weighs_151 hl (k := 5) rfl (x_inc1 _) (by decide) rfl (fun ls hl => ?_)
                          refine lv_goto (tgt := 50) hx hb dX6_weighs_154 (by decide) ?_
                          exact ih50 (k + 1) (by omega) (by omega) _ _ hP hD hS _ (lv_sub hl [1, 2, 3, 4, 5, 0] rfl)
                        · refine lv_aload_n hx hb dX6_weighs_66 rfl (lv_at hl 0 rfl) ?_
                          refine va_get (D := G.1) (ci := 6) (v := .ref (ad 33)) (C := RX6) (T := TX6) (N := 36) hx hb hts inX6 hown hK.1 hP 0 rfl rfl 32 (by decide) fl93 (fun _ h9 => h9) rfl dX6_weighs_67 ?_
                          refine lv_bipush (v := nI 12) hx hb dX6_weighs_70 (by decide) ?_
                          refine lv_iload_n hx hb dX6_weighs_72 rfl (lv_at hl 3 rfl) ?_
                          refine x_imul (r := 12 * z) hx hb dX6_weighs_73 (rfl) ?_
                          refine lv_iload hx hb dX6_weighs_74 (lv_at hl 5 rfl) ?_
                          refine x_iadd (r := 12 * z + k) hx hb dX6_weighs_76 (rfl) ?_
                          refine x_iald hx hb hK.1 hP 25 0 (n := 144) (f := R 32) rfl rfl (k := 12 * z + k) (by omega) (by omega) dX6_weighs_77 ?_
                          refine x_top (y := (eT Ef) z k) (hEf _ (by omega)) ?_
                          refine lv_ldc hx hb hown ck164 dX6_weighs_78 ?_
                          refine x_top (y := nI 1000000000) (by decide) ?_
                          refine lv_icmp_ne (tgt := 86) hx hb dX6_weighs_80 (by decide) (fun c_80 => ?_) (fun c_80 => ?_)
                          · have hrm := rm_lt (show l1 < 4096 by omega) c_63
                            have hsr := sub_rm (k := k) (show l1 < 4096 by omega) c_12
                            refine lv_aload_n hx hb dX6_weighs_86 rfl (lv_at hl 0 rfl) ?_
                            refine va_get (D := G.1) (ci := 6) (v := .ref (ad 34)) (C := RX6) (T := TX6) (N := 36) hx hb hts inX6 hown hK.1 hP 0 rfl rfl 33 (by decide) fl97 (fun _ h9 => h9) rfl dX6_weighs_87 ?_
                            refine lv_bipush (v := nI 12) hx hb dX6_weighs_90 (by decide) ?_
                            refine lv_iload_n hx hb dX6_weighs_92 rfl (lv_at hl 2 rfl) ?_
                            refine lv_iconst (v := nI 1) hx hb dX6_weighs_93 (by decide) ?_
                            refine lv_iload hx hb dX6_weighs_94 (lv_at hl 5 rfl) ?_
                            refine lv_ishl hx hb dX6_weighs_96 ?_
                            refine x_top (y := nI (2 ^ k)) (zz_pow (by omega)) ?_
                            refine lv_iconst (v := (-1)) hx hb dX6_weighs_97 (by decide) ?_
                            refine lv_ixor hx hb dX6_weighs_98 ?_
                            refine lv_iand hx hb dX6_weighs_99 ?_
                            refine x_top (y := nI (rm l1 k)) (zz_clr (by omega)) ?_
                            refine x_imul (r := 12 * rm l1 k) hx hb dX6_weighs_100 (rfl) ?_
                            refine lv_iload hx hb dX6_weighs_101 (lv_at hl 5 rfl) ?_
                            refine x_iadd (r := 12 * rm l1 k + k) hx hb dX6_weighs_103 (rfl) ?_
                            refine x_iald hx hb hK.1 hP 26 0 (n := 49152) (f := V2) rfl rfl (k := 12 * rm l1 k + k) (by omega) (by omega) dX6_weighs_104 ?_
                            refine x_top (y := wW (eT Ef) (bdT (R 12) (nI 0)) (rm l1 k) k) (hV _ hrm hsr k (by omega)) ?_
                            refine lv_istore (lv' := [(6, .int (wW (eT Ef) (bdT (R 12) (nI 0)) (rm l1 k) k)), (0, .ref (ad 0)), (1, .int (nI all)), (2, .int (nI l1)), (3, .int (nI z)), (4, .int (wS (eT Ef) (bdT (R 12) (nI 0)) (wW (eT Ef) (bdT (R 12) (nI 0))) l1 z k)), (5, .int (nI k))]) hx hb dX6_weighs_105 hl (by decide) rfl (fun ls hl => ?_)
                            refine lv_iload hx hb dX6_weighs_107 (lv_at hl 0 rfl) ?_
                            refine lv_ldc hx hb hown ck164 dX6_weighs_109 ?_
                            refine x_top (y := nI 1000000000) (by decide) ?_
                            refine lv_icmp_ge (tgt := 151) hx hb dX6_weighs_111 (by decide) (fun c_111 => ?_) (fun c_111 => ?_)
                            · have hl : lv_has ls 7 [(6, .int (wW (eT Ef) (bdT (R 12) (nI 0)) (rm l1 k) k)), (0, .ref (ad 0)), (1, .int (nI all)), (2, .int (nI l1)), (3, .int (nI z)), (4, .int (wS (eT Ef) (bdT (R 12) (nI 0)) (wW (eT Ef) (bdT (R 12) (nI 0))) l1 z (k + 1))), (5, .int (nI k))] := Eq.mp (congrArg (fun z9 : Int32 => lv_has ls 7 [(6, .int (wW (eT Ef) (bdT (R 12) (nI 0)) (rm l1 k) k)), (0, .ref (ad 0)), (1, .int (nI all)), (2, .int (nI l1)), (3, .int (nI z)), (4, .int z9), (5, .int (nI k))]) (show wS (eT Ef) (bdT (R 12) (nI 0)) (wW (eT Ef) (bdT (R 12) (nI 0))) l1 z k = wS (eT Ef) (bdT (R 12) (nI 0)) (wW (eT Ef) (bdT (R 12) (nI 0))) l1 z (k + 1) from wS_no (fun q => Int32.not_lt.mpr c_111 q.2.2.1))) hl
                              refine x_iinc (lv' := [(5, .int (nI (k + 1))), (6, .int (wW (eT Ef) (bdT (R 12) (nI 0)) (rm l1 k) k)), (0, .ref (ad 0)), (1, .int (nI all)), (2, .int (nI l1)), (3, .int (nI z)), (4, .int (wS (eT Ef) (bdT (R 12) (nI 0)) (wW (eT Ef) (bdT (R 12) (nI 0))) l1 z (k + 1)))]) hx hb dX6_weighs_151 hl (k := 6) rfl (x_inc1 _) (by decide) rfl (fun ls hl => ?_)
                              refine lv_goto (tgt := 50) hx hb dX6_weighs_154 (by decide) ?_
                              exact ih50 (k + 1) (by omega) (by omega) _ _ hP hD hS _ (lv_sub hl [2, 3, 4, 5, 6, 0] rfl)
                            · refine lv_iload hx hb dX6_weighs_114 (lv_at hl 0 rfl) ?_
                              refine lv_aload_n hx hb dX6_weighs_116 rfl (lv_at hl 1 rfl) ?_
                              refine va_get (D := G.1) (ci := 6) (v := .ref (ad 33)) (C := RX6) (T := TX6) (N := 36) hx hb hts inX6 hown hK.1 hP 0 rfl rfl 32 (by decide) fl93 (fun _ h9 => h9) rfl dX6_weighs_117 ?_
                              refine lv_bipush (v := nI 12) hx hb dX6_weighs_120 (by decide) ?_
                              refine lv_iload_n hx hb dX6_weighs_122 rfl (lv_at hl 4 rfl) ?_
                              refine x_imul (r := 12 * z) hx hb dX6_weighs_123 (rfl) ?_
                              refine lv_iload hx hb dX6_weighs_124 (lv_at hl 6 rfl) ?_
                              refine x_iadd (r := 12 * z + k) hx hb dX6_weighs_126 (rfl) ?_
                              refine x_iald hx hb hK.1 hP 25 0 (n := 144) (f := R 32) rfl rfl (k := 12 * z + k) (by omega) (by omega) dX6_weighs_127 ?_
                              refine x_top (y := (eT Ef) z k) (hEf _ (by omega)) ?_
                              refine lv_iadd hx hb dX6_weighs_128 ?_
                              refine lv_iload hx hb dX6_weighs_129 (lv_at hl 5 rfl) ?_
                              refine lv_icmp_ge (tgt := 151) hx hb dX6_weighs_131 (by decide) (fun c_131 => ?_) (fun c_131 => ?_)
                              · have hl : lv_has ls 7 [(6, .int (wW (eT Ef) (bdT (R 12) (nI 0)) (rm l1 k) k)), (0, .ref (ad 0)), (1, .int (nI all)), (2, .int (nI l1)), (3, .int (nI z)), (4, .int (wS (eT Ef) (bdT (R 12) (nI 0)) (wW (eT Ef) (bdT (R 12) (nI 0))) l1 z (k + 1))), (5, .int (nI k))] := Eq.mp (congrArg (fun z9 : Int32 => lv_has ls 7 [(6, .int (wW (eT Ef) (bdT (R 12) (nI 0)) (rm l1 k) k)), (0, .ref (ad 0)), (1, .int (nI all)), (2, .int (nI l1)), (3, .int (nI z)), (4, .int z9), (5, .int (nI k))]) (show wS (eT Ef) (bdT (R 12) (nI 0)) (wW (eT Ef) (bdT (R 12) (nI 0))) l1 z k = wS (eT Ef) (bdT (R 12) (nI 0)) (wW (eT Ef) (bdT (R 12) (nI 0))) l1 z (k + 1) from wS_no (fun q => Int32.not_lt.mpr c_131 q.2.2.2))) hl
                                refine x_iinc (lv' := [(5, .int (nI (k + 1))), (6, .int (wW (eT Ef) (bdT (R 12) (nI 0)) (rm l1 k) k)), (0, .ref (ad 0)), (1, .int (nI all)), (2, .int (nI l1)), (3, .int (nI z)), (4, .int (wS (eT Ef) (bdT (R 12) (nI 0)) (wW (eT Ef) (bdT (R 12) (nI 0))) l1 z (k + 1)))]) hx hb dX6_weighs_151 hl (k := 6) rfl (x_inc1 _) (by decide) rfl (fun ls hl => ?_)
                                refine lv_goto (tgt := 50) hx hb dX6_weighs_154 (by decide) ?_
                                exact ih50 (k + 1) (by omega) (by omega) _ _ hP hD hS _ (lv_sub hl [2, 3, 4, 5, 6, 0] rfl)
                              · refine lv_iload hx hb dX6_weighs_134 (lv_at hl 0 rfl) ?_
                                refine lv_aload_n hx hb dX6_weighs_136 rfl (lv_at hl 1 rfl) ?_
                                refine va_get (D := G.1) (ci := 6) (v := .ref (ad 33)) (C := RX6) (T := TX6) (N := 36) hx hb hts inX6 hown hK.1 hP 0 rfl rfl 32 (by decide) fl93 (fun _ h9 => h9) rfl dX6_weighs_137 ?_
                                refine lv_bipush (v := nI 12) hx hb dX6_weighs_140 (by decide) ?_
                                refine lv_iload_n hx hb dX6_weighs_142 rfl (lv_at hl 4 rfl) ?_
                                refine x_imul (r := 12 * z) hx hb dX6_weighs_143 (rfl) ?_
                                refine lv_iload hx hb dX6_weighs_144 (lv_at hl 6 rfl) ?_
                                refine x_iadd (r := 12 * z + k) hx hb dX6_weighs_146 (rfl) ?_
                                refine x_iald hx hb hK.1 hP 25 0 (n := 144) (f := R 32) rfl rfl (k := 12 * z + k) (by omega) (by omega) dX6_weighs_147 ?_
                                refine x_top (y := (eT Ef) z k) (hEf _ (by omega)) ?_
                                refine lv_iadd hx hb dX6_weighs_148 ?_
                                refine lv_istore (lv' := [(4, .int ((wW (eT Ef) (bdT (R 12) (nI 0)) (rm l1 k) k) + ((eT Ef) z k))), (6, .int (wW (eT Ef) (bdT (R 12) (nI 0)) (rm l1 k) k)), (0, .ref (ad 0)), (1, .int (nI all)), (2, .int (nI l1)), (3, .int (nI z)), (5, .int (nI k))]) hx hb dX6_weighs_149 hl (by decide) rfl (fun ls hl => ?_)
                                have hl : lv_has ls 7 [(4, .int (wS (eT Ef) (bdT (R 12) (nI 0)) (wW (eT Ef) (bdT (R 12) (nI 0))) l1 z (k + 1))), (6, .int (wW (eT Ef) (bdT (R 12) (nI 0)) (rm l1 k) k)), (0, .ref (ad 0)), (1, .int (nI all)), (2, .int (nI l1)), (3, .int (nI z)), (5, .int (nI k))] := Eq.mp (congrArg (fun z9 : Int32 => lv_has ls 7 [(4, .int z9), (6, .int (wW (eT Ef) (bdT (R 12) (nI 0)) (rm l1 k) k)), (0, .ref (ad 0)), (1, .int (nI all)), (2, .int (nI l1)), (3, .int (nI z)), (5, .int (nI k))]) (show (wW (eT Ef) (bdT (R 12) (nI 0)) (rm l1 k) k) + ((eT Ef) z k) = wS (eT Ef) (bdT (R 12) (nI 0)) (wW (eT Ef) (bdT (R 12) (nI 0))) l1 z (k + 1) from wS_yes ⟨c_63, c_80, Int32.not_le.mp c_111, Int32.not_le.mp c_131⟩)) hl
                                refine x_iinc (lv' := [(5, .int (nI (k + 1))), (4, .int (wS (eT Ef) (bdT (R 12) (nI 0)) (wW (eT Ef) (bdT (R 12) (nI 0))) l1 z (k + 1))), (6, .int (wW (eT Ef) (bdT (R 12) (nI 0)) (rm l1 k) k)), (0, .ref (ad 0)), (1, .int (nI all)), (2, .int (nI l1)), (3, .int (nI z))]) hx hb dX6_weighs_151 hl (k := 6) rfl (x_inc1 _) (by decide) rfl (fun ls hl => ?_)
                                refine lv_goto (tgt := 50) hx hb dX6_weighs_154 (by decide) ?_
                                exact ih50 (k + 1) (by omega) (by omega) _ _ hP hD hS _ (lv_sub hl [3, 4, 5, 6, 1, 0] rfl)
                          · refine lv_goto (tgt := 151) hx hb dX6_weighs_83 (by decide) ?_
                            have hl : lv_has ls 7 [(0, .ref (ad 0)), (1, .int (nI all)), (2, .int (nI l1)), (3, .int (nI z)), (4, .int (wS (eT Ef) (bdT (R 12) (nI 0)) (wW (eT Ef) (bdT (R 12) (nI 0))) l1 z (k + 1))), (5, .int (nI k))] := Eq.mp (congrArg (fun z9 : Int32 => lv_has ls 7 [(0, .ref (ad 0)), (1, .int (nI all)), (2, .int (nI l1)), (3, .int (nI z)), (4, .int z9), (5, .int (nI k))]) (show wS (eT Ef) (bdT (R 12) (nI 0)) (wW (eT Ef) (bdT (R 12) (nI 0))) l1 z k = wS (eT Ef) (bdT (R 12) (nI 0)) (wW (eT Ef) (bdT (R 12) (nI 0))) l1 z (k + 1) from wS_no (fun q => q.2.1 c_80))) hl
                            refine x_iinc (lv' := [(5, .int (nI (k + 1))), (0, .ref (ad 0)), (1, .int (nI all)), (2, .int (nI l1)), (3, .int (nI z)), (4, .int (wS (eT Ef) (bdT (R 12) (nI 0)) (wW (eT Ef) (bdT (R 12) (nI 0))) l1 z (k + 1)))]) hx hb dX6_weighs_151 hl (k := 5) rfl (x_inc1 _) (by decide) rfl (fun ls hl => ?_)
                            refine lv_goto (tgt := 50) hx hb dX6_weighs_154 (by decide) ?_
                            exact ih50 (k + 1) (by omega) (by omega) _ _ hP hD hS _ (lv_sub hl [1, 2, 3, 4, 5, 0] rfl)
                  exact lp50 (12 - 0 + 1) 0 (Nat.lt_succ_self _) (by omega) _ _ hP hD hS _ (lv_sub hl [2, 3, 4, 5, 1, 0] rfl)
                refine lv_iload_n hx hb dX6_weighs_26 rfl (lv_at hl 2 rfl) ?_
                refine x_if_ne (tgt := 43) hx hb (by omega) dX6_weighs_27 (by decide) (fun c_27 => ?_) (fun c_27 => ?_)
                · refine lv_ldc hx hb hown ck164 dX6_weighs_43 ?_
                  refine x_top (y := nI 1000000000) (by decide) ?_
                  refine x_top (y := wS (eT Ef) (bdT (R 12) (nI 0)) (wW (eT Ef) (bdT (R 12) (nI 0))) l1 z 0) (by unfold wS; rw [if_neg (fun q => c_27 q.1)]) ?_
                  exact lp45  _ _ hP hD hS _ (lv_sub hl [0, 1, 2, 3] rfl)
                · refine lv_aload_n hx hb dX6_weighs_30 rfl (lv_at hl 0 rfl) ?_
                  refine lv_iload_n hx hb dX6_weighs_31 rfl (lv_at hl 3 rfl) ?_
                  refine lv_iconst (v := nI 0) hx hb dX6_weighs_32 (by decide) ?_
                  refine mx_callRO (v := .int (boundV (R 12) z (nI 0))) (va_runV (As := [.int (nI z), .int (nI 0)]) (rest := []) ⟨hx, hb, hml, hown, hts⟩ (c_X6_isBound l G ad F (va_up R 33 V2) z (nI 0) (by omega)) (cwV 2 hts gX6_weighs_X6_isBound rfl rfl rfl (by decide +kernel) ⟨Nat.le_of_ble_eq_true rfl, Nat.le_of_ble_eq_true rfl⟩) (mx_preV hK hP (va_recv hK.1 hP (ci := 6) (q0 := 0) rfl rfl)) rfl rfl hl.1 rfl (lv_room (Nat.le_of_ble_eq_true rfl)) dX6_weighs_33 ⟨Nat.zero_le _, Nat.zero_le _⟩) ?_
                  refine lv_if_ne (tgt := 43) hx hb dX6_weighs_36 (by decide) (fun c_36 => ?_) (fun c_36 => ?_)
                  · refine lv_ldc hx hb hown ck164 dX6_weighs_43 ?_
                    refine x_top (y := nI 1000000000) (by decide) ?_
                    refine x_top (y := wS (eT Ef) (bdT (R 12) (nI 0)) (wW (eT Ef) (bdT (R 12) (nI 0))) l1 z 0) (by unfold wS; rw [if_neg (fun q => q.2 c_36)]) ?_
                    exact lp45  _ _ hP hD hS _ (lv_sub hl [0, 1, 2, 3] rfl)
                  · refine lv_iconst (v := nI 0) hx hb dX6_weighs_39 (by decide) ?_
                    refine x_top (y := wS (eT Ef) (bdT (R 12) (nI 0)) (wW (eT Ef) (bdT (R 12) (nI 0))) l1 z 0) (by unfold wS; rw [if_pos ⟨c_27, fun q => q c_36⟩]) ?_
                    refine lv_goto (tgt := 45) hx hb dX6_weighs_40 (by decide) ?_
                    exact lp45  _ _ hP hD hS _ (lv_sub hl [0, 1, 2, 3] rfl)
          exact lp20 (12 - 0 + 1) 0 V (Nat.lt_succ_self _) (by omega) (hV) (lt_0) _ _ hP hD hS _ (lv_sub hl [1, 2, 3, 0] rfl)
        · refine lv_goto (tgt := 176) hx hb dX6_weighs_15 (by decide) ?_
          refine x_iinc (lv' := [(2, .int (nI (l1 + 1))), (0, .ref (ad 0)), (1, .int (nI all))]) hx hb dX6_weighs_176 hl (k := 2) rfl (x_inc1 _) (by decide) rfl (fun ls hl => ?_)
          refine lv_goto (tgt := 2) hx hb dX6_weighs_179 (by decide) ?_
          exact ih2 (l1 + 1) V (by omega) (by omega) (wei_no hV c_12) _ _ hP hD hS _ (lv_sub hl [1, 2, 0] rfl)
  exact lp2 (all + 1 - 0 + 1) 0 (R 33) (Nat.lt_succ_self _) (by omega) (fun q hq => absurd hq (by omega)) _ _ hP hD hS _ (lv_sub hl [1, 2, 0] rfl)
