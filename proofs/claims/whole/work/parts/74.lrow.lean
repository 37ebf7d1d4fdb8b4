/-! THE CLAIM OUT OF ONE WALK OF THE LAW'S BODY. Your part is whole_start (and what it stands on); all else here is the same for every law, but numbers. -/
def R_law : String := "MixDeskLaw"
def lw_P (b : Addr) (xs : List Int32) (args : Array Value) (s : State) : Prop := args = #[.ref b] ∧ s.IntsAt b xs ∧ xs.length ≤ 3584 ∧ (Jvm.Cond.and given_1 narrow_1).before args s = true
def lw_Q (_ : Array Value) (s : State) (o : Outcome) (t : State) : Prop := o = .returned (some (.int 1)) ∧ Framed s o t [] 771161 6788764
def lw_Z (below : List Frame) (a : Array Value) (s : State) : State → Prop := fun t => ∃ o, t.status = .running ∧ Ended t below o ∧ lw_Q a s o t
/-- the law's own end, with 1 on the stack, nothing written that was there before, its room as the claim has it -/
theorem lw_ret {p : Program} {l : Launch} {e : Env} {s : State} {m : MethodId} {below : List Frame} {meth : Method} {c : Code} {b : Nat} (hx : p.tables.exec = Jvm.exec) (hb : c.code = code) (hr : meth.sig.returnType = ret) (hlocks : meth.locks = false) {pc : Nat} {H : Heap} {ls : Array Slot} (hdg : decode code pc = .ok (.ireturn, 1)) : W p l e room_1 s m #[Value.ref b] below meth c H [] 771161 6788764 (lw_Z below #[Value.ref b] s) (F0 m pc ls [.int 1]) := by
  intro T hT X
  obtain ⟨fs, hret, hrun, hended, hW, hframe⟩ := X.leave (v := some (.int 1)) (hlocks := hlocks) (fun h => by rw [hr] at h; cases h)
  have hmeth' : T.vm.method? m = some meth := X.method'
  refine ⟨T.setFrames fs, ?_, .returned (some (.int 1)), hrun, hended, rfl, ⟨_, rfl⟩, hW, hframe⟩
  jvm_step X.here [X.here.top, hx, hb, hdg, hmeth', hr, ret, narrow_b1]
  (try refine ⟨rfl, ?_⟩); (try refine ⟨rfl, ?_⟩)
  first | (intro acts; rw [hret _ acts rfl rfl rfl]) | rw [hret _ _ rfl rfl rfl]
  exact Steps.refl _
/-- what holds at the law's entry: the machine, the code, the tables' words (any of lw_tbl by 'hts w (by decide +kernel)'), the script of L ints xs at the cell b, what the Statement gives of the start (any of its parts by flat_of_before) -/
def lw_At (p : Program) (s : State) (m : MethodId) (meth : Method) (c : Code) (b L : Nat) (xs : Nat → Int32) : Prop :=
  p.tables.exec = Jvm.exec ∧ c.code = code ∧ meth.sig.returnType = ret ∧ c.maxLocals = 4 ∧ s.vm.findClass R_law = some m.cls ∧ (∀ w ∈ lw_tbl, w.before #[Value.ref b] s = true) ∧ va_X b L xs s s.heap ∧ b < s.heap.size ∧ meth.locks = false ∧ (Jvm.Cond.and given_1 narrow_1).before #[Value.ref b] s = true
section LWX
variable {p : Program} {l : Launch} {e : Env} {R : Room} {s : State} {m : MethodId} {args : Array Value} {below : List Frame} {meth : Method} {c : Code} {H : Heap} {locs : List Loc} {cells slots : Nat} {Q : State → Prop}
variable {cc : ByteArray} {pc : Nat} {ls : Array Slot} {rest : List Value} {A : Nat → Prop} {H0 : Heap}
theorem x_sld (hx : p.tables.exec = Jvm.exec) (hb : c.code = cc) {b L : Nat} {xs : Nat → Int32} (hX : va_X b L xs s H0) (hbl : b < H0.size) (hbA : ¬ A b) (hS : va_S A H0 H locs) {k : Nat} (hk : k < L) (hL : L < 2 ^ 31) (hdg : decode cc pc = .ok (.iaload, 1))
    (kk : W p l e R s m args below meth c H locs cells slots Q (F0 m (pc + 1) ls (.int (xs k) :: rest))) : W p l e R s m args below meth c H locs cells slots Q (F0 m pc ls (.int (nI k) :: .ref b :: rest)) := va_sld hx hb hX hbl hbA hS (vp_in_nI hk hL) hdg (by rw [nI_clamp (Nat.lt_trans hk hL)]; exact kk)
end LWX
theorem inc7 (k : Nat) : nI (7 * k) + Int32.ofInt 7 = nI (7 * (k + 1)) := by
  rw [show Int32.ofInt 7 = nI 7 by decide, nI_add]
  congr 1
theorem lw_tw {w : Cond} {n : Nat} (h : tables_1[n]? = some w) : w ∈ lw_tbl := List.mem_append_right _ (List.mem_of_getElem? h)
theorem lw_7 {L k : Nat} (h : L ≤ 3584) (hk : k ≤ 600) : nI L - nI 7 < nI (7 * k) ↔ L < 7 * k + 7 := by
  rw [Int32.lt_iff_toInt_lt, pk_sub_toInt (by omega) (by omega), nI_toInt (by omega)]
  omega
theorem pool_nil {G : mx_G} {aS : Nat → Nat → Nat} {FS : Nat → Nat → Int32} {RS : Nat → Nat → Nat → Int32} : ∀ m, pool G (fun _ => none) aS FS RS m = []
  | 0 => rfl
  | m + 1 => by
    show pool G (fun _ => none) aS FS RS m ++ [] = []
    rw [pool_nil m]
    rfl
/-- the classes, the rows' classes and the nest's links, as the tables give them at the law's start -/
theorem lw_known {s : State} {args : Array Value} (hts : ∀ w ∈ lw_tbl, w.before args s = true) : ∃ G : mx_G, mx_K G s := by
  obtain ⟨c0, i0, k0⟩ := u_known (C := RX0) (T := TX0) (N := 8) (n := 8) hts inX0 (hts (.instantiable RX0 8) (lw_tw (n := 47) (by decide +kernel)))
  obtain ⟨c1, i1, k1⟩ := u_known (C := RX1) (T := TX1) (N := 4) (n := 4) hts inX1 (hts (.instantiable RX1 4) (lw_tw (n := 85) (by decide +kernel)))
  obtain ⟨c2, i2, k2⟩ := u_known (C := RX2) (T := TX2) (N := 8) (n := 8) hts inX2 (hts (.instantiable RX2 8) (lw_tw (n := 104) (by decide +kernel)))
  obtain ⟨c3, i3, k3⟩ := u_known (C := RX3) (T := TX3) (N := 19) (n := 19) hts inX3 (hts (.instantiable RX3 19) (lw_tw (n := 184) (by decide +kernel)))
  obtain ⟨c4, i4, k4⟩ := u_known (C := RX4) (T := TX4) (N := 6) (n := 6) hts inX4 (hts (.instantiable RX4 6) (lw_tw (n := 21) (by decide +kernel)))
  obtain ⟨c5, i5, k5⟩ := u_known (C := RX5) (T := TX5) (N := 6) (n := 6) hts inX5 (hts (.instantiable RX5 6) (lw_tw (n := 11) (by decide +kernel)))
  obtain ⟨c6, i6, k6⟩ := u_known (C := RX6) (T := TX6) (N := 36) (n := 36) hts inX6 (hts (.instantiable RX6 36) (lw_tw (n := 543) (by decide +kernel)))
  obtain ⟨cI, kI, dI, hI1, hI2, hI3⟩ := Cond.arrayClass_spec (hts (.arrayClass .int) (lw_tw (n := 45) (by decide +kernel)))
  obtain ⟨cZ, kZ, dZ, hZ1, hZ2, hZ3⟩ := Cond.arrayClass_spec (hts (.arrayClass .boolean) (lw_tw (n := 143) (by decide +kernel)))
  have hAO := hts (.arrayOver (.object "MixDesk$Song")) (lw_tw (n := 19) (by decide +kernel))
  obtain ⟨dS, cS, kS, g1, -, g3, g4, g5⟩ := Cond.arrayOver_spec hAO
  refine ⟨((fun k => match k with | 0 => c0 | 1 => c1 | 2 => c2 | 3 => c3 | 4 => c4 | 5 => c5 | _ => c6, fun k => match k with | 0 => i0 | 1 => i1 | 2 => i2 | 3 => i3 | 4 => i4 | 5 => i5 | _ => i6), cI, cZ, cS), ⟨fun k q hq => ?_, fun k q hq => ?_⟩, ?_, va_AO.of hAO⟩
  · match k, hq with
    | 0, hq => cases hq; exact k0
    | 1, hq => cases hq; exact k1
    | 2, hq => cases hq; exact k2
    | 3, hq => cases hq; exact k3
    | 4, hq => cases hq; exact k4
    | 5, hq => cases hq; exact k5
    | 6, hq => cases hq; exact k6
    | k + 7, hq => simp [vwCl] at hq
  · match k, hq with
    | 0, hq => cases hq; exact ⟨fun n z => ⟨fun k h => (by cases h), kI, hI2, dI, hI3⟩, hI1⟩
    | 1, hq => cases hq; exact ⟨fun n z => ⟨fun k h => (by cases h), kZ, hZ2, dZ, hZ3⟩, hZ1⟩
    | 2, hq => cases hq; exact ⟨fun n z => ⟨fun k h => (by cases h), kS, g3, dS, g4⟩, kS, dS, g3, g4, g1, g5⟩
    | k + 3, hq => simp [mx_tys] at hq
  · exact List.forall_mem_cons.mpr ⟨va_Nw.of (A := args) rfl (hts _ (lw_tw (n := 22) (by decide +kernel))), List.forall_mem_cons.mpr ⟨va_Nw.of (A := args) rfl (hts _ (lw_tw (n := 86) (by decide +kernel))), List.forall_mem_cons.mpr ⟨va_Nw.of (A := args) rfl (hts _ (lw_tw (n := 105) (by decide +kernel))), List.forall_mem_cons.mpr ⟨va_Nw.of (A := args) rfl (hts _ (lw_tw (n := 319) (by decide +kernel))), List.forall_mem_cons.mpr ⟨va_Nw.of (A := args) rfl (hts _ (lw_tw (n := 361) (by decide +kernel))), List.forall_mem_cons.mpr ⟨va_Nw.of (A := args) rfl (hts _ (lw_tw (n := 423) (by decide +kernel))), List.forall_mem_cons.mpr ⟨va_Nw.of (A := args) rfl (hts _ (lw_tw (n := 428) (by decide +kernel))), List.forall_mem_cons.mpr ⟨va_Nw.of (A := args) rfl (hts _ (lw_tw (n := 438) (by decide +kernel))), List.forall_mem_cons.mpr ⟨va_Nw.of (A := args) rfl (hts _ (lw_tw (n := 439) (by decide +kernel))), List.forall_mem_cons.mpr ⟨va_Nw.of (A := args) rfl (hts _ (lw_tw (n := 453) (by decide +kernel))), fun _ h => absurd h List.not_mem_nil⟩⟩⟩⟩⟩⟩⟩⟩⟩⟩
def lwGo (p : Program) (l : Launch) (e : Env) (s : State) (m : MethodId) (b : Nat) (below : List Frame) (meth : Method) (c : Code) (G : mx_G) (m12 k : Nat) : Prop := ∀ (aD : Nat → Nat) (SD : Nat → Option Nat) (WI : Nat → Int32) (aK : Nat → Nat) (FK : Nat → Int32) (RK : Nat → Nat → Int32) (aJ : Nat → Nat) (FJ : Nat → Int32) (RJ : Nat → Nat → Int32) (aT : Nat → Nat) (FT : Nat → Int32) (RT : Nat → Nat → Int32) (aN : Nat → Nat) (FN : Nat → Int32) (RN : Nat → Nat → Int32) (SR : Nat → Option Nat) (ra rl : Nat) (so : So) (aS : Nat → Nat → Nat) (FS : Nat → Nat → Int32) (RS : Nat → Nat → Nat → Int32) (ad : Nat → Nat) (F : Nat → Int32) (R : Nat → Nat → Int32), lwInv so SD WI FK RK FJ RJ FT RT FN RN rl aS FS RS F R → ∀ (H : Heap) (locs : List Loc), va_P G.1 vwCl (([(aD 0, .inr (5, [.ref (aD 1), .ref (aD 2), .ref (aK 0), .ref (aJ 0), .ref (aT 0), .ref (aN 0)]))]) ++ (([(aD 1, .inl (G.2.2.2, 12, .inr (.inr (.inr (.inr (SD))))))]) ++ (([(aD 2, .inl (G.2.1, 144, .inl (WI)))]) ++ ((KW G aK FK RK) ++ ((JW G aJ FJ RJ) ++ ((TW G aT FT RT) ++ ((NW G aN FN RN SR ra rl) ++ ((MW G ad F R) ++ (pool G so aS FS RS m12))))))))) H → va_D (fun q : Nat => s.heap.size ≤ q) (([(aD 0, .inr (5, [.ref (aD 1), .ref (aD 2), .ref (aK 0), .ref (aJ 0), .ref (aT 0), .ref (aN 0)]))]) ++ (([(aD 1, .inl (G.2.2.2, 12, .inr (.inr (.inr (.inr (SD))))))]) ++ (([(aD 2, .inl (G.2.1, 144, .inl (WI)))]) ++ ((KW G aK FK RK) ++ ((JW G aJ FJ RJ) ++ ((TW G aT FT RT) ++ ((NW G aN FN RN SR ra rl) ++ ((MW G ad F R) ++ (pool G so aS FS RS m12))))))))) → va_S (fun q : Nat => s.heap.size ≤ q) s.heap H locs → ∀ ls : Array Slot, lv_has ls 4 [(0, .ref b), (1, .ref (aD 0)), (2, .ref (ad 0)), (3, .int (nI (7 * k)))] → W p l e room_1 s m #[Value.ref b] below meth c H locs (100 + 9 * k) (70000 + 855 * k + 2 * rl) (lw_Z below #[Value.ref b] s) (F0 m 18 ls [])
