theorem pone_up {G : mx_G} {so : So} {aS : Nat → Nat → Nat} {FS : Nat → Nat → Int32} {RS : Nat → Nat → Nat → Int32} {i j : Nat} {o : Option Sg} {a : Nat → Nat} {F : Nat → Int32} {R : Nat → Nat → Int32} (h : i ≠ j) : pone G (va_up so j o) (va_up aS j a) (va_up FS j F) (va_up RS j R) i = pone G so aS FS RS i := by
  unfold pone
  rw [va_up_ne _ _ h, va_up_ne _ _ h, va_up_ne _ _ h, va_up_ne _ _ h]
theorem pone_up0 {G : mx_G} {so : So} {aS : Nat → Nat → Nat} {FS : Nat → Nat → Int32} {RS : Nat → Nat → Nat → Int32} {i j : Nat} {o : Option Sg} (h : i ≠ j) : pone G (va_up so j o) aS FS RS i = pone G so aS FS RS i := by
  unfold pone
  rw [va_up_ne _ _ h]
theorem pool_out {G : mx_G} {so : So} {aS : Nat → Nat → Nat} {FS : Nat → Nat → Int32} {RS : Nat → Nat → Nat → Int32} {j m : Nat} {σ : Sg} (h : so j = some σ) (hj : j < m) : (pool G so aS FS RS m).Perm (SW G (aS j) (FS j) (RS j) ++ pool G (va_up so j none) aS FS RS m) := by
  have i := pool_split (G := G) (so := so) (so' := va_up so j none) (aS := aS) (aS' := aS) (FS := FS) (FS' := FS) (RS := RS) (RS' := RS) (va_up_self _ _ _) m hj (fun i _ hi => (pone_up0 hi).symm)
  rwa [pone_s h] at i
theorem pool_any {G : mx_G} {so : So} {aS : Nat → Nat → Nat} {FS : Nat → Nat → Int32} {RS : Nat → Nat → Nat → Int32} {j m : Nat} (hj : j < m) : (pool G so aS FS RS m).Perm (pone G so aS FS RS j ++ pool G (va_up so j none) aS FS RS m) := pool_split (G := G) (so := so) (so' := va_up so j none) (aS := aS) (aS' := aS) (FS := FS) (FS' := FS) (RS := RS) (RS' := RS) (va_up_self _ _ _) m hj (fun i _ hi => (pone_up0 hi).symm)
theorem pool_in {G : mx_G} {so : So} {aS : Nat → Nat → Nat} {FS : Nat → Nat → Int32} {RS : Nat → Nat → Nat → Int32} {j m : Nat} {σ : Sg} {a : Nat → Nat} {F : Nat → Int32} {R : Nat → Nat → Int32} (hj : j < m) : (SW G a F R ++ pool G (va_up so j none) aS FS RS m).Perm (pool G (va_up so j (some σ)) (va_up aS j a) (va_up FS j F) (va_up RS j R) m) := by
  have i := pool_split (G := G) (so := va_up so j (some σ)) (so' := va_up so j none) (aS := va_up aS j a) (aS' := aS) (FS := va_up FS j F) (FS' := FS) (RS := va_up RS j R) (RS' := RS) (va_up_self _ _ _) m hj (fun i _ hi => by rw [pone_up hi, pone_up0 hi])
  rw [pone_s (va_up_self _ _ _), va_up_self, va_up_self, va_up_self] at i
  exact i.symm
theorem mx_apP {a b c : va_W} (h : b.Perm c) : (a ++ b).Perm (a ++ c) := h.append_left a
theorem dOk_up {so : So} {aS : Nat → Nat → Nat} {FS : Nat → Nat → Int32} {RS : Nat → Nat → Nat → Int32} {SD SD' : Nat → Option Nat} {j : Nat} {σ : Sg} {a : Nat → Nat} {F : Nat → Int32} {R : Nat → Nat → Int32} (hd : dOk so aS FS RS SD) (h1 : SD' j = some (a 0)) (h2 : F 0 = nI j) (h3 : sgOk σ) (h4 : soAll F R σ) (h5 : ∀ i, i ≠ j → SD' i = SD i) : dOk (va_up so j (some σ)) (va_up aS j a) (va_up FS j F) (va_up RS j R) SD' := by
  intro i hi
  by_cases e : i = j
  · subst e
    rw [va_up_self, va_up_self, va_up_self, va_up_self]
    exact ⟨fun q => (by cases q), fun τ q => (by cases q; exact ⟨h1, h2, h3, h4⟩)⟩
  · rw [va_up_ne _ _ e, va_up_ne _ _ e, va_up_ne _ _ e, va_up_ne _ _ e, h5 i e]
    exact hd i hi
theorem dOk_no {so : So} {aS : Nat → Nat → Nat} {FS : Nat → Nat → Int32} {RS : Nat → Nat → Nat → Int32} {SD : Nat → Option Nat} {j : Nat} (hd : dOk so aS FS RS SD) : dOk (va_up so j none) aS FS RS (va_up SD j none) := by
  intro i hi
  by_cases e : i = j
  · subst e
    rw [va_up_self, va_up_self]
    exact ⟨fun _ => rfl, fun τ q => (by cases q)⟩
  · rw [va_up_ne _ _ e, va_up_ne _ _ e]
    exact hd i hi
theorem setSg_ok {σ : Sg} {k h : Int32} {n : Nat} (ok : sgOk σ) (h1 : 1 ≤ n) (h2 : n ≤ 16) : sgOk (setSg σ k h n) := by
  obtain ⟨q1, q2, q3, q4, q5, q6, q7, q8, q9, q10, q11, q12⟩ := ok
  exact ⟨q1, q2, q3, q4, q5, q6, q7, h1, h2, q10, q11, q12⟩
theorem setSg_so {F : Nat → Int32} {R : Nat → Nat → Int32} {σ : Sg} {k h : Int32} {n : Nat} (a : soAll F R σ) : soAll (va_up (va_up (va_up F 5 k) 6 h) 7 (nI n)) R (setSg σ k h n) := by
  obtain ⟨⟨f1, f2, f3, f4, f5, f6, f7, f8, f9, f10⟩, hC, hB, hQ⟩ := a
  refine ⟨⟨f1, f2, f3, f4, rfl, rfl, rfl, f8, f9, f10⟩, hC, hB, ?_⟩
  have e1 : gPB (setSg σ k h n) = gPB σ := rfl
  have e2 : gBar (setSg σ k h n) = gBar σ := by funext q; rfl
  have e3 : gC (setSg σ k h n) = gC σ := rfl
  have e5 : gLast (setSg σ k h n) = gLast σ := by funext q; rfl
  have e6 : gFst (setSg σ k h n) = gFst σ := by funext q; rfl
  have e7 : gBeg (setSg σ k h n) = gBeg σ := by funext q; rfl
  have e4 : ∀ d, gW (setSg σ k h n) d = gW σ d := by
    intro d
    induction d with
    | zero => rfl
    | succ d ih => unfold gW; rw [ih, e1, e2, e3]
  unfold soQ
  rw [e1, e2, e3, e5, e6, e7]
  exact ⟨hQ.1, hQ.2.1, hQ.2.2.1, fun q hq => by rw [e4]; exact hQ.2.2.2.1 q hq, hQ.2.2.2.2⟩
def barSg (σ : Sg) (b c : Nat) : Sg := (σ.1, σ.2.1, va_up σ.2.2 b c)
theorem barSg_ok {σ : Sg} {b c : Nat} (ok : sgOk σ) (h1 : 1 ≤ c) (h2 : c ≤ 4) : sgOk (barSg σ b c) := by
  obtain ⟨q1, q2, q3, q4, q5, q6, q7, q8, q9, q10, q11, q12⟩ := ok
  refine ⟨q1, q2, q3, q4, q5, q6, q7, q8, q9, fun q => ?_, q11, q12⟩
  show 1 ≤ va_up σ.2.2 b c q ∧ va_up σ.2.2 b c q ≤ 4
  unfold va_up
  split
  · omega
  · exact q10 q
theorem barSg_C {R : Nat → Nat → Int32} {σ : Sg} {b c : Nat} (h : soC R σ) : soC (va_up R 12 (upd (R 12) b (nI c))) (barSg σ b c) := by
  intro q hq
  show upd (R 12) b (nI c) q = nI (va_up σ.2.2 b c q)
  unfold upd va_up
  by_cases e : q = b
  · rw [if_pos e, if_pos e]
  · rw [if_neg e, if_neg e]; exact h q hq
def loopSg (σ : Sg) (a b n : Nat) : Sg := (va_up (va_up (va_up σ.1 1 a) 2 b) 3 n, σ.2)
theorem loopSg_ok {σ : Sg} {a b n : Nat} (ok : sgOk σ) (h1 : a ≤ b) (h2 : b < gB σ) (h3 : 1 ≤ n) (h4 : n ≤ 4) (h5 : gB σ + (n - 1) * (b - a + 1) ≤ 64) : sgOk (loopSg σ a b n) := by
  obtain ⟨q1, q2, q3, q4, q5, q6, q7, q8, q9, q10, q11, q12⟩ := ok
  exact ⟨q1, q2, h1, h2, h3, h4, h5, q8, q9, q10, q11, q12⟩
theorem loopSg_N {F : Nat → Int32} {σ : Sg} {a b n : Nat} (h : soN F σ) : soN (va_up (va_up (va_up F 8 (nI a)) 9 (nI b)) 10 (nI n)) (loopSg σ a b n) := by
  obtain ⟨f1, f2, f3, f4, f5, f6, f7, f8, f9, f10⟩ := h
  exact ⟨f1, f2, f3, f4, f5, f6, f7, rfl, rfl, rfl⟩
theorem up_same {α : Type} {f : Nat → α} {j : Nat} {a : α} (h : f j = a) : va_up f j a = f := by
  funext i
  unfold va_up
  split
  · next e => rw [e, h]
  · rfl
theorem wi_no {y : Int32} {n : Nat} (hn : n ≤ 1000) (h : wi y (nI 0) (nI n - nI 1) = 0) : ¬ (¬ y < 0 ∧ ¬ nI n ≤ y) := by
  rintro ⟨a, b⟩
  rcases wi_0 h with q | q
  · exact a q
  · have h1 := Int32.lt_iff_toInt_lt.mp q
    rw [pk_sub_toInt (by omega) (by omega)] at h1
    apply b
    rw [Int32.le_iff_toInt_le, nI_toInt (by omega)]
    omega
theorem wi_in {x : Int32} (h : wi x (nI 0) (nI 11) = 0) : ¬ okIn x := by
  rintro ⟨a, b⟩
  rcases wi_0 h with q | q
  · exact a q
  · obtain ⟨j, hj, rfl⟩ := nI_of a
    have := (nI_ltI (by omega) hj).mp q
    exact b ((nI_leI (by omega) hj).mpr (by omega))
theorem nSong_yes {so : So} {j : Nat} {k n st m : Int32} (hj : j < 12) (h : okIn (nI j) ∧ okSong k n st m) : nSong so (nI j) k n st m = va_up so j (some (newSg k n.toNatClampNeg st m)) := by
  unfold nSong; rw [if_pos h, nI_clamp (by omega)]
