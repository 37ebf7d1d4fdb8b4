theorem whole_0 {σ : Sg} (ok : sgOk σ) {u n : Nat} (h1 : 1 ≤ n) (h : gW σ (gPB σ - u) < n) : wholeV (gBrk σ) (gPB σ) u n = 0 := Classical.not_not.mp (fun q => by have := (gW_whole ok h1).mpr q; omega)
theorem whole_1 {σ : Sg} (ok : sgOk σ) {u n : Nat} (h1 : 1 ≤ n) (h : n ≤ gW σ (gPB σ - u)) : ¬ wholeV (gBrk σ) (gPB σ) u n = 0 := (gW_whole ok h1).mp h
theorem jCost_n {bd : Int32} {σ τ : Sg} {n u w : Nat} (ok : sgOk σ) (ok2 : sgOk τ) (h1 : 1 ≤ n) (hn : n ≤ 8) : jCost bd σ τ n u w = nI 1000000000 ∨ ∃ D : Nat, D ≤ 2240000 ∧ jCost bd σ τ n u w = nI D := mcost_lt h1 hn (fun j _ => ⟨gRow_b ok _, gRow_b ok2 _⟩)
theorem bent_far {c : Int32} (h : c = nI 1000000000 ∨ ∃ D : Nat, D ≤ 2240000 ∧ c = nI D) (h2 : bentL c (nI 1073741824) = nI 1073741824) : c = nI 1000000000 := by
  rcases h with h | ⟨D, d1, d2⟩
  · exact h
  · unfold bentL at h2
    rw [d2, if_neg (fun q => absurd ((nI_eq (by omega) (by omega)).mp q) (by omega)), if_pos ((nI_ltI (by omega) (by omega)).mpr (by omega))] at h2
    exact absurd ((nI_eq (by omega) (by omega)).mp h2) (by omega)
theorem bent_fin {c : Int32} (h : c = nI 1000000000 ∨ ∃ D : Nat, D ≤ 2240000 ∧ c = nI D) (h2 : ¬ bentL c (nI 1073741824) = nI 1073741824) : bentL c (nI 1073741824) = c ∧ ¬ c = nI 1000000000 := by
  have hc : ¬ c = nI 1000000000 := fun q => h2 (by unfold bentL; rw [if_pos q])
  refine ⟨?_, hc⟩
  unfold bentL at h2 ⊢
  rw [if_neg hc] at h2 ⊢
  by_cases e : c < nI 1073741824
  · rw [if_pos e]
  · rw [if_neg e] at h2; exact absurd rfl h2
/-- the meeting that the class keeps behind a join -/
def cMeet (bd : Int32) (o : Option (Sg × Sg × Nat × Nat × Nat)) (ph : Int32) (F0 F1 : Nat → Int32) (R0 R1 : Nat → Nat → Int32) : Prop := match o with
  | none => F1 = F0 ∧ R1 = R0
  | some d => if jWay bd d ph = 0 then F1 0 = nI (4 * d.2.2.1) ∧ (∀ z, z ≤ 4 * d.2.2.1 → R1 1 z = isum (mlast (jX d) (jY d) d.2.2.1) z) ∧ ∀ z, z < 4 * d.2.2.1 → R1 2 z = mlast (jX d) (jY d) d.2.2.1 z ∧ R1 3 z = mbend (mlast (jX d) (jY d) d.2.2.1 z) (jX d z) (jY d z) else F1 = F0 ∧ R1 = R0
theorem cMeet_s {bd ph : Int32} {F0 : Nat → Int32} {R0 : Nat → Nat → Int32} {d : Sg × Sg × Nat × Nat × Nat} (h : ¬ jWay bd d ph = 0) : cMeet bd (some d) ph F0 F0 R0 R0 := by
  show (if jWay bd d ph = 0 then _ else _); rw [if_neg h]; exact ⟨rfl, rfl⟩
theorem cMeet_y {bd ph : Int32} {F0 F1 : Nat → Int32} {R0 R1 : Nat → Nat → Int32} {d : Sg × Sg × Nat × Nat × Nat} (h : jWay bd d ph = 0) (h2 : F1 0 = nI (4 * d.2.2.1) ∧ (∀ z, z ≤ 4 * d.2.2.1 → R1 1 z = isum (mlast (jX d) (jY d) d.2.2.1) z) ∧ ∀ z, z < 4 * d.2.2.1 → R1 2 z = mlast (jX d) (jY d) d.2.2.1 z ∧ R1 3 z = mbend (mlast (jX d) (jY d) d.2.2.1 z) (jX d z) (jY d z)) : cMeet bd (some d) ph F0 F1 R0 R1 := by
  show (if jWay bd d ph = 0 then _ else _); rw [if_pos h]; exact h2
/-- KEY and HEAT of a song, and what joins cost, within the document's limits -/
def keyOk (σ : Sg) : Prop := (∃ k : Nat, k < 24 ∧ gKey σ = nI k) ∧ ∃ h : Nat, h < 10 ∧ gHeat σ = nI h
def cstOk (F : Nat → Int32) : Prop := (∃ b : Nat, b ≤ 1000 ∧ F 0 = nI b) ∧ (∃ k : Nat, k ≤ 1000 ∧ F 1 = nI k) ∧ ∃ h : Nat, h ≤ 1000 ∧ F 2 = nI h
theorem kdist_b {d : Nat} (h : d ≤ 11) : ∃ e : Nat, e ≤ 11 ∧ kdist (nI d) = nI e := by
  unfold kdist
  rw [pk_sub (by omega)]
  split
  · exact ⟨d, h, rfl⟩
  · next q =>
    have : ¬ d < 12 - d := fun z => q ((nI_ltI (by omega) (by omega)).mpr z)
    exact ⟨12 - d, by omega, rfl⟩
theorem ms_sub {a b B : Nat} (ha : a ≤ B) (hb : b ≤ B) (hB : B < 2 ^ 20) : ∃ e : Nat, e ≤ B ∧ msize (nI a - nI b) = nI e := by
  have := pk_sub_toInt (a := a) (b := b) (by omega) (by omega)
  exact ms_b (by omega) (by rw [this]; omega) (by rw [this]; omega)
theorem malways_b {kc hc : Int32} {σ τ : Sg} {a b : Nat} (hk : a ≤ 1000) (hh : b ≤ 1000) (ek : kc = nI a) (eh : hc = nI b) (h1 : keyOk σ) (h2 : keyOk τ) : ∃ d : Nat, d ≤ 25000 ∧ malways kc hc σ τ = nI d := by
  obtain ⟨⟨k1, k1b, ek1⟩, g1, g1b, eg1⟩ := h1
  obtain ⟨⟨k2, k2b, ek2⟩, g2, g2b, eg2⟩ := h2
  unfold malways mkeys krem
  rw [ek, eh, ek1, ek2, eg1, eg2, pk_rem (by omega) (by omega) (by omega), pk_rem (by omega) (by omega) (by omega)]
  obtain ⟨d1, d1b, ed1⟩ := ms_sub (a := k1 % 12) (b := k2 % 12) (B := 11) (by omega) (by omega) (by omega)
  obtain ⟨d2, d2b, ed2⟩ := kdist_b d1b
  obtain ⟨d3, d3b, ed3⟩ := ms_sub (a := g1) (b := g2) (B := 9) (by omega) (by omega) (by omega)
  rw [ed1, ed2, ed3]
  have m2 : b * d3 ≤ 1000 * 9 := Nat.mul_le_mul hh d3b
  have key : ∀ e : Nat, e ≤ 1 → ∃ d : Nat, d ≤ 25000 ∧ nI a * (nI d2 + nI e) + nI b * nI d3 = nI d := fun e he => by
    have m1 : a * (d2 + e) ≤ 1000 * 12 := Nat.mul_le_mul hk (by omega)
    exact ⟨a * (d2 + e) + b * d3, by omega, by rw [nI_add, pk_mul, pk_mul, nI_add]⟩
  split
  · exact key 0 (by omega)
  · exact key 1 (by omega)
theorem bestT_n {bd : Int32} {σ τ : Sg} {n : Nat} (ok : sgOk σ) (ok2 : sgOk τ) (h1 : 1 ≤ n) (hn : n ≤ 8) : (bestT bd σ τ n).1 = nI 1000000000 ∨ ∃ D : Nat, D ≤ 2240000 ∧ (bestT bd σ τ n).1 = nI D := by
  have step : ∀ (s : Int32 × Nat × Nat) (u w : Nat), (s.1 = nI 1000000000 ∨ ∃ D : Nat, D ≤ 2240000 ∧ s.1 = nI D) → ((stepB (candJ σ τ n) (jCost bd σ τ n) u w s).1 = nI 1000000000 ∨ ∃ D : Nat, D ≤ 2240000 ∧ (stepB (candJ σ τ n) (jCost bd σ τ n) u w s).1 = nI D) := fun s u w h => by
    unfold stepB
    split
    · split
      · exact h
      · exact jCost_n ok ok2 h1 hn
    · exact h
  have row : ∀ (u m : Nat) (s : Int32 × Nat × Nat), (s.1 = nI 1000000000 ∨ ∃ D : Nat, D ≤ 2240000 ∧ s.1 = nI D) → ((rowB (candJ σ τ n) (jCost bd σ τ n) u s m).1 = nI 1000000000 ∨ ∃ D : Nat, D ≤ 2240000 ∧ (rowB (candJ σ τ n) (jCost bd σ τ n) u s m).1 = nI D) := fun u m => by
    induction m with
    | zero => intro s h; exact h
    | succ m ih => intro s h; exact step _ u m (ih s h)
  have all : ∀ (P M d : Nat), ((allB (candJ σ τ n) (jCost bd σ τ n) P M d).1 = nI 1000000000 ∨ ∃ D : Nat, D ≤ 2240000 ∧ (allB (candJ σ τ n) (jCost bd σ τ n) P M d).1 = nI D) := fun P M d => by
    induction d with
    | zero => exact Or.inl rfl
    | succ d ih => exact row _ M _ ih
  exact all _ _ _
theorem cLeast_n {F : Nat → Int32} {σ τ : Sg} {n : Nat} (ok : sgOk σ) (ok2 : sgOk τ) (h1 : 1 ≤ n) (hn : n ≤ 8) (hc : cstOk F) (k1 : keyOk σ) (k2 : keyOk τ) : ((bestT (F 0) σ τ n).1 = nI 1000000000 ∧ cLeast (F 0) (F 1) (F 2) σ τ n = nI 1073741824 ∧ bestV (F 0) (F 1) (F 2) σ τ n = nI 1000000000) ∨ (¬ (bestT (F 0) σ τ n).1 = nI 1000000000 ∧ ∃ D : Nat, D ≤ 2265000 ∧ cLeast (F 0) (F 1) (F 2) σ τ n = nI D ∧ bestV (F 0) (F 1) (F 2) σ τ n = nI D) := by
  obtain ⟨-, ⟨a, ha, ea⟩, b, hb, eb⟩ := hc
  obtain ⟨d, d1, d2⟩ := malways_b ha hb ea eb k1 k2
  unfold cLeast bestV
  by_cases e : (bestT (F 0) σ τ n).1 = nI 1000000000
  · left; rw [if_pos e, if_pos e]; exact ⟨e, rfl, rfl⟩
  · right
    refine ⟨e, ?_⟩
    rw [if_neg e, if_neg e, d2]
    rcases bestT_n (bd := F 0) ok ok2 h1 hn with q | ⟨D, q1, q2⟩
    · exact absurd q e
    · rw [q2, nI_add]; exact ⟨D + d, by omega, rfl, rfl⟩
theorem best_far {F : Nat → Int32} {so : So} {j k n : Nat} {σ τ : Sg} {w : Int32} (hσ : sAt so (nI j) = some σ) (hτ : sAt so (nI k) = some τ) (hn : n ≤ 8) (hf : bestV (F 0) (F 1) (F 2) σ τ n = nI 1000000000) : (-1) = aBest (F 0) (F 1) (F 2) (bArg so (nI j) (nI k) (nI n) w) w := by
  by_cases c : okB (nI j) (nI k) (nI n) w
  · rw [bArg_4 hσ hτ c, nI_clamp (by omega)]
    exact (if_pos hf).symm
  · rw [bArg_3 hσ hτ c]; rfl
theorem cl_never {c v : Int32} (h : ∃ D : Nat, D ≤ 2265000 ∧ c = nI D ∧ v = nI D) (h2 : c = nI 1073741824) : False := by
  obtain ⟨D, d1, d2, -⟩ := h
  rw [d2] at h2
  exact absurd ((nI_eq (by omega) (by omega)).mp h2) (by omega)
