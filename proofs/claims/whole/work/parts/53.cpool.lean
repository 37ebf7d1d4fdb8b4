/-! The songs' cells, all in one row; the night's object; rows of references -/
def NW (G : mx_G) (ad : Nat → Nat) (F : Nat → Int32) (R : Nat → Nat → Int32) (SR : Nat → Option Nat) (ra rl : Nat) : va_W := [(ad 0, .inr (2, [.ref (ad 1), .int (F 1), .ref (ad 3), .ref (ad 4), .ref ra, .int (F 5), .ref (ad 7), .int (F 7)])), (ad 1, .inl (G.2.2.2, 12, .inr (.inr (.inr (.inr SR))))), (ad 3, .inl (G.2.1, 144, .inl (R 2))), (ad 4, .inl (G.2.2.1, 12, .inl (R 3))), (ra, .inl (G.2.1, rl, .inl (R 4))), (ad 7, .inl (G.2.1, 12, .inl (R 6)))]
def pone (G : mx_G) (so : So) (aS : Nat → Nat → Nat) (FS : Nat → Nat → Int32) (RS : Nat → Nat → Nat → Int32) (j : Nat) : va_W := match so j with
  | none => []
  | some _ => SW G (aS j) (FS j) (RS j)
def pool (G : mx_G) (so : So) (aS : Nat → Nat → Nat) (FS : Nat → Nat → Int32) (RS : Nat → Nat → Nat → Int32) : Nat → va_W
  | 0 => []
  | j + 1 => pool G so aS FS RS j ++ pone G so aS FS RS j
theorem pone_n {G : mx_G} {so : So} {aS : Nat → Nat → Nat} {FS : Nat → Nat → Int32} {RS : Nat → Nat → Nat → Int32} {j : Nat} (h : so j = none) : pone G so aS FS RS j = [] := by unfold pone; rw [h]
theorem pone_s {G : mx_G} {so : So} {aS : Nat → Nat → Nat} {FS : Nat → Nat → Int32} {RS : Nat → Nat → Nat → Int32} {j : Nat} {σ : Sg} (h : so j = some σ) : pone G so aS FS RS j = SW G (aS j) (FS j) (RS j) := by unfold pone; rw [h]
theorem pool_congr {G : mx_G} {so so' : So} {aS aS' : Nat → Nat → Nat} {FS FS' : Nat → Nat → Int32} {RS RS' : Nat → Nat → Nat → Int32} : ∀ m, (∀ i, i < m → pone G so aS FS RS i = pone G so' aS' FS' RS' i) → pool G so aS FS RS m = pool G so' aS' FS' RS' m
  | 0, _ => rfl
  | m + 1, h => by
    show pool G so aS FS RS m ++ pone G so aS FS RS m = pool G so' aS' FS' RS' m ++ pone G so' aS' FS' RS' m
    rw [pool_congr m (fun i hi => h i (by omega)), h m (by omega)]
theorem pool_split {G : mx_G} {so so' : So} {aS aS' : Nat → Nat → Nat} {FS FS' : Nat → Nat → Int32} {RS RS' : Nat → Nat → Nat → Int32} {j : Nat} (h0 : so' j = none) : ∀ m, j < m → (∀ i, i < m → i ≠ j → pone G so aS FS RS i = pone G so' aS' FS' RS' i) → (pool G so aS FS RS m).Perm (pone G so aS FS RS j ++ pool G so' aS' FS' RS' m)
  | 0, hj, _ => absurd hj (Nat.not_lt_zero _)
  | m + 1, hj, h => by
    show (pool G so aS FS RS m ++ pone G so aS FS RS m).Perm (pone G so aS FS RS j ++ (pool G so' aS' FS' RS' m ++ pone G so' aS' FS' RS' m))
    by_cases e : j = m
    · subst e
      rw [pone_n h0, pool_congr j (fun i hi => h i (by omega) (by omega)), List.append_nil]
      exact List.perm_append_comm
    · rw [h m (by omega) (fun q => e q.symm)]
      have i := pool_split h0 m (by omega) (fun i hi q => h i (by omega) q)
      have i2 := i.append_right (pone G so' aS' FS' RS' m)
      rwa [List.append_assoc] at i2
theorem pool_mem {G : mx_G} {so : So} {aS : Nat → Nat → Nat} {FS : Nat → Nat → Int32} {RS : Nat → Nat → Nat → Int32} {j : Nat} {σ : Sg} (h : so j = some σ) : ∀ m, j < m → ∀ q ∈ SW G (aS j) (FS j) (RS j), q ∈ pool G so aS FS RS m
  | 0, hj, _, _ => absurd hj (Nat.not_lt_zero _)
  | m + 1, hj, q, hq => by
    show q ∈ pool G so aS FS RS m ++ pone G so aS FS RS m
    by_cases e : j = m
    · subst e; exact List.mem_append_right _ (by rw [pone_s h]; exact hq)
    · exact List.mem_append_left _ (pool_mem h m (by omega) q hq)
abbrev sobj (aS : Nat → Nat → Nat) (FS : Nat → Nat → Int32) (j : Nat) : Nat × va_E := (aS j 0, .inr (3, [.int (FS j 0), .int (FS j 1), .int (FS j 2), .int (FS j 3), .int (FS j 4), .int (FS j 5), .int (FS j 6), .int (FS j 7), .int (FS j 8), .int (FS j 9), .int (FS j 10), .int (FS j 11), .ref (aS j 13), .ref (aS j 14), .ref (aS j 15), .ref (aS j 16), .ref (aS j 17), .ref (aS j 18), .ref (aS j 19)]))
theorem pool_obj {G : mx_G} {so : So} {aS : Nat → Nat → Nat} {FS : Nat → Nat → Int32} {RS : Nat → Nat → Nat → Int32} {j m : Nat} {σ : Sg} (h : so j = some σ) (hj : j < m) : sobj aS FS j ∈ pool G so aS FS RS m := pool_mem h m hj _ (List.mem_cons_self)
section MXA
variable {p : Program} {l : Launch} {e : Env} {R : Room} {s : State} {m : MethodId} {args : Array Value} {below : List Frame} {meth : Method} {c : Code} {H : Heap} {locs : List Loc} {cells slots : Nat} {Q : State → Prop}
variable {cc : ByteArray} {pc : Nat} {ls : Array Slot} {rest : List Value} {D : va_G} {cl : List vw_C} {A : Nat → Prop} {a : Nat} {tys : List (ClassId × FieldType)} {ws : va_W} {H0 : Heap}
theorem x_topV {x y : Value} (h : x = y) (k : W p l e R s m args below meth c H locs cells slots Q (F0 m pc ls (y :: rest))) : W p l e R s m args below meth c H locs cells slots Q (F0 m pc ls (x :: rest)) := h ▸ k
theorem x_aast (hx : p.tables.exec = Jvm.exec) (hb : c.code = cc) (hK : va_K D cl tys s) (hP : va_P D cl ws H) (hD : va_D A ws) (hS : va_S A H0 H locs) (q0 t0 qk ci : Nat) {cA : ClassId} {r : vw_C} {n v : Nat} {vs : List Value} {f : Nat → Option Nat} (ha : ws[q0]? = some (a, .inl (cA, n, .inr (.inr (.inr (.inr f)))))) (ht : tys[t0]? = some (cA, .object r.1)) (hv : ws[qk]? = some (v, .inr (ci, vs))) (hc : cl[ci]? = some r) {k : Nat} (hk : k < n) (hn : n < 2 ^ 31) (hdg : decode cc pc = .ok (.aastore, 1)) (ws' : va_W) (hw : ws.set q0 (a, .inl (cA, n, .inr (.inr (.inr (.inr (va_up f k (some v))))))) = ws')
    (kk : ∀ (H1 : Heap) (locs1 : List Loc), va_P D cl ws' H1 → va_D A ws' → va_S A H0 H1 locs1 → W p l e R s m args below meth c H1 locs1 cells slots Q (F0 m (pc + 1) ls rest)) : W p l e R s m args below meth c H locs cells slots Q (F0 m pc ls (.ref v :: .int (nI k) :: .ref a :: rest)) := va_astq hx hb hK hP hD hS q0 t0 qk ci ha ht hv hc (vp_in_nI hk hn) hdg (by rw [nI_clamp (Nat.lt_trans hk hn), hw]; exact kk)
theorem x_aastN (hx : p.tables.exec = Jvm.exec) (hb : c.code = cc) (hK : va_K D cl tys s) (hP : va_P D cl ws H) (hD : va_D A ws) (hS : va_S A H0 H locs) (q0 t0 : Nat) {cA : ClassId} {C : String} {n : Nat} {f : Nat → Option Nat} (ha : ws[q0]? = some (a, .inl (cA, n, .inr (.inr (.inr (.inr f)))))) (ht : tys[t0]? = some (cA, .object C)) {k : Nat} (hk : k < n) (hn : n < 2 ^ 31) (hdg : decode cc pc = .ok (.aastore, 1)) (ws' : va_W) (hw : ws.set q0 (a, .inl (cA, n, .inr (.inr (.inr (.inr (va_up f k none)))))) = ws')
    (kk : ∀ (H1 : Heap) (locs1 : List Loc), va_P D cl ws' H1 → va_D A ws' → va_S A H0 H1 locs1 → W p l e R s m args below meth c H1 locs1 cells slots Q (F0 m (pc + 1) ls rest)) : W p l e R s m args below meth c H locs cells slots Q (F0 m pc ls (.null :: .int (nI k) :: .ref a :: rest)) := va_astqN hx hb hK hP hD hS q0 t0 ha ht (vp_in_nI hk hn) hdg (by rw [nI_clamp (Nat.lt_trans hk hn), hw]; exact kk)
end MXA
