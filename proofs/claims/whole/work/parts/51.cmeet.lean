theorem newSg_ok {k st m : Int32} {n : Nat} (h : okSong k (nI n) st m) (hn : n ≤ 64) : sgOk (newSg k n st m) := by
  obtain ⟨⟨⟨k1, k2⟩, ⟨n1, n2⟩, s1, s2⟩, p1, p2⟩ := h
  have hc2 : ¬ n < 2 := fun q => n1 ((nI_ltI (by omega) (by omega)).mpr q)
  obtain ⟨z, hz, rfl⟩ := le_of (n := 400) (by omega) (fun q => s1 (Int32.lt_trans q (by decide))) s2
  have hz2 : ¬ z < 20 := fun q => s1 ((nI_ltI (by omega) (by omega)).mpr q)
  have hzi : (nI z).toInt = (z : Int) := nI_toInt (by omega)
  have t1 : (20 : Int) ≤ (nI z).toInt := by omega
  have t2 : (nI z).toInt ≤ 400 := by omega
  refine ⟨by show 2 ≤ n; omega, hn, Nat.le_refl 0, by show 0 < n; omega, Nat.le_refl 1, by show 1 ≤ 4; omega, by show n + (1 - 1) * (0 - 0 + 1) ≤ 64; omega, by show 1 ≤ 4; omega, by show 4 ≤ 16; omega, fun b => ⟨by show 1 ≤ 4; omega, Nat.le_refl 4⟩, ⟨t1, t2⟩, ?_⟩
  obtain ⟨q, hq, rfl⟩ := le_of (n := 2) (by omega) k1 k2
  show nI q = 0 ∨ nI q = nI 1 ∧ 0 ≤ (if nI q = 0 then nI 0 else m).toInt ∧ (if nI q = 0 then nI 0 else m).toInt ≤ (nI z).toInt - 10 ∨ nI q = nI 2 ∧ -20 ≤ (if nI q = 0 then nI 0 else m).toInt ∧ (if nI q = 0 then nI 0 else m).toInt ≤ 20
  rcases (show q = 0 ∨ q = 1 ∨ q = 2 by omega) with rfl | rfl | rfl
  · exact Or.inl rfl
  · refine Or.inr (Or.inl ⟨rfl, ?_⟩)
    rw [if_neg (by decide)]
    obtain ⟨a1, a2⟩ := p1 rfl
    have h1 := Int32.le_iff_toInt_le.mp (Int32.not_lt.mp a1)
    have h2 := Int32.le_iff_toInt_le.mp (Int32.not_lt.mp a2)
    rw [pk_sub (by omega), nI_toInt (by omega)] at h2
    have h4 : (0 : Int32).toInt = 0 := by decide
    omega
  · refine Or.inr (Or.inr ⟨rfl, ?_⟩)
    rw [if_neg (by decide)]
    obtain ⟨a1, a2⟩ := p2 rfl
    have h1 := Int32.le_iff_toInt_le.mp (Int32.not_lt.mp a1)
    have h2 := Int32.le_iff_toInt_le.mp (Int32.not_lt.mp a2)
    have h3 : (nI 20).toInt = 20 := by decide
    have h4 : (-20 : Int32).toInt = -20 := by decide
    omega
/-- what the meeting keeps -/
def meOk (M : Nat) (RT : Nat → Nat → Int32) (L B : Nat → Int32) : Prop := (∀ z, z ≤ M → RT 1 z = isum L z) ∧ ∀ z, z < M → RT 2 z = L z ∧ RT 3 z = B z
theorem tell_w0 {M : Nat} {x w : Int32} {L B : Nat → Int32} (hM : M ≤ 32) (hw : w = 0) (h : wi x (nI 0) (nI M) = 0) : aMeets M L B x w = (-1) := by
  unfold aMeets
  by_cases h1 : x < 0
  · rw [if_pos h1]
  rw [if_neg h1]
  by_cases h2 : M = 0
  · rw [if_pos h2]
  rw [if_neg h2]
  rcases wi_0 h with q | q
  · exact absurd q h1
  · rw [if_pos q]
theorem tell_w1 {M : Nat} {x w : Int32} {L B : Nat → Int32} (hM : M ≤ 32) (hM0 : ¬ M = 0) (hw : ¬ w = 0) (h : wi x (nI 0) (nI (M - 1)) = 0) : aMeets M L B x w = (-1) := by
  unfold aMeets
  by_cases h1 : x < 0
  · rw [if_pos h1]
  rw [if_neg h1, if_neg hM0]
  by_cases h3 : nI M < x
  · rw [if_pos h3]
  rw [if_neg h3]
  obtain ⟨i, hi, rfl⟩ := le_of (by omega) h1 h3
  rcases wi_0 h with q | q
  · exact absurd q h1
  · have := (nI_ltI (by omega) (by omega)).mp q
    rw [if_pos ⟨by rw [show i = M by omega], hw⟩]
theorem meets_in {M i : Nat} {w : Int32} {L B : Nat → Int32} (hM : M ≤ 32) (hM0 : ¬ M = 0) (hi : i ≤ M) (hw : w = 0 ∨ i < M) : aMeets M L B (nI i) w = if w < 0 then (-1) else if nI 2 < w then (-1) else if w = nI 1 then L i else if w = nI 2 then B i else isum L i := by
  unfold aMeets
  rw [if_neg (nI_pos (by omega)), if_neg hM0, if_neg (fun q => absurd ((nI_ltI (by omega) (by omega)).mp q) (by omega)), if_neg (fun q => by
    have := (nI_eq (by omega) (by omega)).mp q.1
    rcases hw with c | c
    · exact q.2 c
    · omega), nI_clamp (by omega)]
theorem tell_out {w a b c : Int32} (h : w.toInt < 0 ∨ (3 : Int) - 1 < w.toInt) : (-1) = if w < 0 then (-1) else if nI 2 < w then (-1) else if w = nI 1 then a else if w = nI 2 then b else c := by
  have h0 : (0 : Int32).toInt = 0 := by decide
  have h2 : (nI 2).toInt = 2 := by decide
  by_cases h1 : w < 0
  · rw [if_pos h1]
  · rw [if_neg h1, if_pos (by
      rw [Int32.lt_iff_toInt_lt] at h1 ⊢
      omega)]
