/-! THE DESK: its songs, and what its methods that only read answer -/
def dOk (so : So) (aS : Nat → Nat → Nat) (FS : Nat → Nat → Int32) (RS : Nat → Nat → Nat → Int32) (SD : Nat → Option Nat) : Prop := ∀ j, j < 12 → (so j = none → SD j = none) ∧ ∀ σ, so j = some σ → SD j = some (aS j 0) ∧ FS j 0 = nI j ∧ sgOk σ ∧ soAll (FS j) (RS j) σ
def sRf (so : So) (aS : Nat → Nat → Nat) (x : Int32) : Option Nat := match sAt so x with
  | none => none
  | some _ => some (aS x.toNatClampNeg 0)
theorem sat_cases (so : So) (x : Int32) : sAt so x = none ∨ ∃ (j : Nat) (σ : Sg), x = nI j ∧ j < 12 ∧ so j = some σ ∧ sAt so (nI j) = some σ := by
  unfold sAt
  by_cases h1 : x < 0
  · exact Or.inl (if_pos h1)
  by_cases h2 : nI 12 ≤ x
  · exact Or.inl (by rw [if_neg h1, if_pos h2])
  obtain ⟨j, hj, rfl⟩ := lt_of (by omega) h1 h2
  rw [if_neg h1, if_neg h2, nI_clamp (by omega)]
  cases h : so j with
  | none => exact Or.inl rfl
  | some σ => exact Or.inr ⟨j, σ, rfl, hj, h, by rw [if_neg (nI_pos (by omega)), if_neg (fun q => absurd ((nI_leI (by omega) (by omega)).mp q) (by omega)), nI_clamp (by omega)]; exact h⟩
theorem sRf_n {so : So} {aS : Nat → Nat → Nat} {x : Int32} (h : sAt so x = none) : va_rf (sRf so aS x) = .null := by simp only [sRf, h]; rfl
theorem sRf_s {so : So} {aS : Nat → Nat → Nat} {j : Nat} {σ : Sg} (hj : j < 12) (h : sAt so (nI j) = some σ) : va_rf (sRf so aS (nI j)) = .ref (aS j 0) := by simp only [sRf, h]; rw [nI_clamp (by omega)]; rfl
theorem sAt_out {so : So} {x : Int32} (h : wi x (nI 0) (nI 11) = 0) : sAt so x = none := by
  unfold sAt
  by_cases h1 : x < 0
  · rw [if_pos h1]
  rw [if_neg h1, if_pos]
  rcases wi_0 h with q | q
  · exact absurd q h1
  · obtain ⟨j, hj, rfl⟩ := nI_of h1
    have := (nI_ltI (by omega) hj).mp q
    exact (nI_leI (by omega) hj).mpr (by omega)
theorem wi_b2i {v lo hi : Int32} : wi v lo hi = b2i (¬ v < lo ∧ ¬ hi < v) := by
  by_cases h : wi v lo hi = 0
  · rw [h]
    exact b2i_f (fun q => (wi_0 h).elim q.1 q.2)
  · have h2 := wi_1 h
    rw [← b2i_t h2]
    unfold wi at h ⊢
    rw [if_neg h2.1, if_pos (Int32.not_lt.mp h2.2)]
theorem b2i_iff {P Q : Prop} [Decidable P] [Decidable Q] (h : P ↔ Q) : b2i P = b2i Q := by
  unfold b2i
  by_cases c : P
  · rw [if_pos c, if_pos (h.mp c)]
  · rw [if_neg c, if_neg (fun q => c (h.mpr q))]
theorem mx_ap {a b c : va_W} (h : ∀ q ∈ c, q ∈ b) : ∀ q ∈ a ++ c, q ∈ a ++ b := fun q hq => (List.mem_append.mp hq).elim (fun z => List.mem_append_left _ z) (fun z => List.mem_append_right _ (h q z))
def nMst (f : Nat → Int32) (b : Nat) : Nat → Nat
  | 0 => 0
  | a + 1 => nMst f b a + (if f (a * 12 + b) = nI 1 then 1 else 0)
theorem nMst_le (f : Nat → Int32) (b : Nat) : ∀ m, nMst f b m ≤ m
  | 0 => Nat.le_refl 0
  | m + 1 => by
    have := nMst_le f b m
    unfold nMst; split <;> omega
abbrev okStep (f : Nat → Int32) (m a b : Nat) : Prop := ¬ f (a * 12 + b) = nI 2 ∧ nMst f b m = if f (a * 12 + b) = nI 1 then 1 else 0
theorem mend_nat {a b : Nat} (h : 0 < b) : ((a + b - 1) / b + 3) / 4 = (a + 4 * b - 1) / (4 * b) := by
  have e : (a + b - 1) / b + 3 = (a + b - 1 + 3 * b) / b := by rw [Nat.add_mul_div_right _ _ h]
  rw [e, Nat.div_div_eq_div_mul, Nat.mul_comm b 4]
  congr 1
  omega
theorem mby_n {st bd : Nat} (h1 : st ≤ 400) (h2 : bd ≤ 1000) : mby (nI bd) (nI st) = nI (st * bd / 1000) ∧ st * bd / 1000 ≤ 400 := by
  have h3 : st * bd ≤ 400 * 1000 := Nat.mul_le_mul h1 h2
  refine ⟨?_, by omega⟩
  unfold mby
  rw [pk_mul, pk_div (by omega) (by omega) (by omega)]
theorem mend_no {bd x st : Int32} (h : wi x (-100000) (nI 100000) = 0 ∨ wi st (nI 20) (nI 400) = 0) : aMend bd x st = (-1) := by
  unfold aMend
  by_cases c1 : x < (-100000)
  · rw [if_pos c1]
  rw [if_neg c1]
  by_cases c2 : nI 100000 < x
  · rw [if_pos c2]
  rw [if_neg c2]
  by_cases c3 : st < nI 20
  · rw [if_pos c3]
  rw [if_neg c3]
  by_cases c4 : nI 400 < st
  · rw [if_pos c4]
  rcases h with h | h
  · exact ((wi_0 h).elim c1 c2).elim
  · exact ((wi_0 h).elim c3 c4).elim
theorem mend_in {bd x st : Int32} (h1 : ¬ wi x (-100000) (nI 100000) = 0) (h2 : ¬ wi st (nI 20) (nI 400) = 0) : aMend bd x st = if x = 0 then nI 0 else if mby bd st = 0 then (-1) else ((msize x + mby bd st - nI 1) / mby bd st + nI 3) / nI 4 := by
  obtain ⟨a, b⟩ := wi_1 h1
  obtain ⟨c, d⟩ := wi_1 h2
  unfold aMend
  rw [if_neg a, if_neg b, if_neg c, if_neg d]
theorem ms_n {x : Int32} (h1 : ¬ wi x (-100000) (nI 100000) = 0) : ∃ d : Nat, d ≤ 100000 ∧ msize x = nI d := by
  obtain ⟨a, b⟩ := wi_1 h1
  have a2 := Int32.le_iff_toInt_le.mp (Int32.not_lt.mp a)
  have b2 := Int32.le_iff_toInt_le.mp (Int32.not_lt.mp b)
  have e1 : (-100000 : Int32).toInt = -100000 := by decide
  have e2 : (nI 100000).toInt = 100000 := by decide
  exact ms_b (by omega) (by omega) (by omega)
theorem mend_fin {d k : Nat} (hd : d ≤ 100000) (hk : 0 < k) (hk2 : k ≤ 400) : nI ((d + 4 * k - 1) / (4 * k)) = ((nI d + nI k - nI 1) / nI k + nI 3) / nI 4 := by
  rw [nI_add, pk_sub (by omega), pk_div (by omega) hk (by omega), nI_add]
  have : (d + k - 1) / k ≤ d + k - 1 := Nat.div_le_self _ _
  rw [pk_div (by omega) (by omega) (by omega), mend_nat hk]
theorem rf_cases (o : Option Nat) : va_rf o = .null ∨ ∃ a, va_rf o = .ref a := by
  cases o
  · exact Or.inl rfl
  · exact Or.inr ⟨_, rfl⟩
theorem sRf_SD {so : So} {aS : Nat → Nat → Nat} {FS : Nat → Nat → Int32} {RS : Nat → Nat → Nat → Int32} {SD : Nat → Option Nat} (hd : dOk so aS FS RS SD) {i : Nat} (hi : i < 12) : va_rf (SD i) = va_rf (sRf so aS (nI i)) := by
  rcases sat_cases so (nI i) with ho | ⟨j, σ, e, hj, hso, hσ⟩
  · rw [sRf_n ho]
    have : so i = none := (sAt_nI (so := so) hi).symm.trans ho
    rw [(hd i hi).1 this]; rfl
  · have e2 : i = j := (nI_eq (by omega) (by omega)).mp e
    subst e2
    rw [sRf_s hj hσ, ((hd i hi).2 σ hso).1]; rfl
theorem aBeat_no {so : So} {j : Nat} {σ : Sg} {k : Int32} (hσ : sAt so (nI j) = some σ) (h : wi k (nI 0) (nI (gFst σ (gB σ))) = 0) : aBeat so (nI j) k = (-1) := by
  simp only [aBeat, hσ]
  by_cases c : k < 0
  · rw [if_pos c]
  rw [if_neg c]
  rcases wi_0 h with q | q
  · exact absurd q c
  · rw [if_pos q]
theorem aBeat_yes {so : So} {j i : Nat} {σ : Sg} (hσ : sAt so (nI j) = some σ) (hb : gFst σ (gB σ) ≤ 1000) (h : i ≤ gFst σ (gB σ)) : aBeat so (nI j) (nI i) = gTick σ i := by
  simp only [aBeat, hσ]
  rw [if_neg (nI_pos (by omega)), if_neg (fun q => absurd ((nI_ltI (by omega) (by omega)).mp q) (by omega)), nI_clamp (by omega)]
theorem aPlayed_no {so : So} {j : Nat} {σ : Sg} {y w : Int32} (hσ : sAt so (nI j) = some σ) (hb : gPB σ ≤ 1000) (h : wi y (nI 0) (nI (gPB σ) - nI 1) = 0) : aPlayed so (nI j) y w = (-1) := by
  simp only [aPlayed, hσ]
  by_cases c : y < 0
  · rw [if_pos c]
  rw [if_neg c, if_pos]
  rcases wi_0 h with q | q
  · exact absurd q c
  · have h1 := Int32.lt_iff_toInt_lt.mp q
    rw [pk_sub_toInt (by omega) (by omega)] at h1
    rw [Int32.le_iff_toInt_le, nI_toInt (by omega)]
    omega
theorem aPlayed_in {so : So} {j i : Nat} {σ : Sg} {w : Int32} (hσ : sAt so (nI j) = some σ) (hb : gPB σ ≤ 1000) (h : i < gPB σ) : aPlayed so (nI j) (nI i) w = if w = 0 then nI (gBar σ i) else if w = nI 1 then gBeg σ i else if w = nI 2 then nI (gC σ (gBar σ i)) else (-1) := by
  simp only [aPlayed, hσ]
  rw [if_neg (nI_pos (by omega)), if_neg (fun q => absurd ((nI_leI (by omega) (by omega)).mp q) (by omega)), nI_clamp (by omega)]
theorem sw_ok {k : Int32} (h : k.toInt < 0 ∨ (3 : Int) - 1 < k.toInt) : ¬ (¬ k < 0 ∧ ¬ nI 2 < k) := by
  have h0 : (0 : Int32).toInt = 0 := by decide
  have h2 : (nI 2).toInt = 2 := by decide
  rintro ⟨a, b⟩
  rw [Int32.lt_iff_toInt_lt] at a b
  omega
