theorem find_ret {T : Nat → Nat} {n gp ms sk : Nat} (h1 : 10 ≤ gp) (h2 : gp ≤ 1000) (h3 : ms ≤ 10000) (h4 : sk ≤ 10000) : (if n = 0 then (-1) else fnV T gp ms sk n) = aFind T n (nI gp) (nI ms) (nI sk) := by
  unfold aFind
  by_cases e : n = 0
  · rw [if_pos e, if_neg (fun q => q.2.2.2 e)]
  · rw [if_neg e, if_pos ⟨⟨fun q => absurd ((nI_ltI (by omega) (by omega)).mp q) (by omega), fun q => absurd ((nI_ltI (by omega) (by omega)).mp q) (by omega)⟩, ⟨nI_pos (by omega), fun q => absurd ((nI_ltI (by omega) (by omega)).mp q) (by omega)⟩, ⟨nI_pos (by omega), fun q => absurd ((nI_ltI (by omega) (by omega)).mp q) (by omega)⟩, e⟩, nI_clamp (by omega), nI_clamp (by omega), nI_clamp (by omega)]
theorem find_rno {T : Nat → Nat} {n : Nat} {a b c : Int32} (h : ¬ okFind a b c n) : (-1) = aFind T n a b c := by unfold aFind; rw [if_neg h]
theorem okFind_n {n gp ms sk : Nat} (h1 : 10 ≤ gp) (h2 : gp ≤ 1000) (h3 : ms ≤ 10000) (h4 : sk ≤ 10000) : okFind (nI gp) (nI ms) (nI sk) n ↔ ¬ n = 0 :=
  ⟨fun q => q.2.2.2, fun e => ⟨⟨fun q => absurd ((nI_ltI (by omega) (by omega)).mp q) (by omega), fun q => absurd ((nI_ltI (by omega) (by omega)).mp q) (by omega)⟩, ⟨nI_pos (by omega), fun q => absurd ((nI_ltI (by omega) (by omega)).mp q) (by omega)⟩, ⟨nI_pos (by omega), fun q => absurd ((nI_ltI (by omega) (by omega)).mp q) (by omega)⟩, e⟩⟩
theorem gap_of {x : Int32} (h : ¬ wi x (nI 10) (nI 1000) = 0) : ∃ k : Nat, 10 ≤ k ∧ k ≤ 1000 ∧ x = nI k := by
  obtain ⟨a, b⟩ := wi_1 h
  obtain ⟨k, hk, rfl⟩ := le_of (n := 1000) (by omega) (fun q => a (Int32.lt_trans q (by decide))) b
  exact ⟨k, Nat.le_of_not_lt (fun q => a ((nI_ltI (by omega) (by omega)).mpr q)), hk, rfl⟩
theorem nat_of {x : Int32} {n : Nat} (hn : n < 2 ^ 31) (h : ¬ wi x (nI 0) (nI n) = 0) : ∃ k : Nat, k ≤ n ∧ x = nI k := le_of hn (wi_1 h).1 (wi_1 h).2
theorem nat_1 {x : Int32} {n : Nat} (hn : n < 2 ^ 31) (h : ¬ wi x (nI 1) (nI n) = 0) : ∃ k : Nat, 1 ≤ k ∧ k ≤ n ∧ x = nI k := by
  obtain ⟨a, b⟩ := wi_1 h
  obtain ⟨k, hk, rfl⟩ := le_of hn (fun q => a (Int32.lt_trans q (by decide))) b
  exact ⟨k, Nat.le_of_not_lt (fun q => a ((nI_ltI (by omega) (by omega)).mpr q)), hk, rfl⟩
theorem okStep_sw {i j : Nat} (hj : j < 12) : i * 12 + j = 12 * i + j := by omega
/-- the joins that are kept are of songs that are there, as they are -/
def jOk (so : So) (bd kc hc : Int32) (LC LP LQ : Nat → Int32) : Prop := ∀ n a b, 1 ≤ n → n ≤ 8 → a < 12 → b < 12 → LC (slotN a b n) = (-1) ∨ ∃ σ τ, so a = some σ ∧ so b = some τ ∧ cellOk bd kc hc σ τ n (LC (slotN a b n)) (LP (slotN a b n)) (LQ (slotN a b n))
theorem jOk_forg {so so' : So} {bd kc hc : Int32} {LC LC' LP LQ : Nat → Int32} {s : Nat} (h : jOk so bd kc hc LC LP LQ) (hs : ∀ i, i ≠ s → so' i = so i) (hf : ∀ n a b, 1 ≤ n → n ≤ 8 → a < 12 → b < 12 → LC' (slotN a b n) = if a = s ∨ b = s then (-1) else LC (slotN a b n)) : jOk so' bd kc hc LC' LP LQ := by
  intro n a b n1 n8 ha hb
  rw [hf n a b n1 n8 ha hb]
  by_cases c : a = s ∨ b = s
  · rw [if_pos c]; exact Or.inl rfl
  · rw [if_neg c, hs a (fun q => c (Or.inl q)), hs b (fun q => c (Or.inr q))]
    exact h n a b n1 n8 ha hb
theorem jOk_new {so : So} {bd kc hc : Int32} {LC LP LQ : Nat → Int32} (h : ∀ q, q < 1152 → LC q = (-1)) : jOk so bd kc hc LC LP LQ := fun n a b _ n8 ha hb => Or.inl (h _ (slotN_lt ha hb n8))
theorem slotN_inj {a b n a' b' n' : Nat} (h1 : 1 ≤ n) (h1' : 1 ≤ n') (ha : a < 12) (hb : b < 12) (ha' : a' < 12) (hb' : b' < 12) (h : slotN a b n = slotN a' b' n') : a = a' ∧ b = b' ∧ n = n' := by
  unfold slotN at h
  omega
theorem jOk_put {so : So} {bd kc hc : Int32} {LC LP LQ LC' LP' LQ' : Nat → Int32} {a b n : Nat} {σ τ : Sg} (h : jOk so bd kc hc LC LP LQ) (ha : a < 12) (hb : b < 12) (h1 : 1 ≤ n) (hσ : so a = some σ) (hτ : so b = some τ)
    (hc1 : cellOk bd kc hc σ τ n (LC' (slotN a b n)) (LP' (slotN a b n)) (LQ' (slotN a b n))) (hk : ∀ q, q ≠ slotN a b n → LC' q = LC q ∧ LP' q = LP q ∧ LQ' q = LQ q) : jOk so bd kc hc LC' LP' LQ' := by
  intro n' a' b' n1 n8 ha' hb'
  by_cases e : slotN a' b' n' = slotN a b n
  · obtain ⟨rfl, rfl, rfl⟩ := slotN_inj n1 h1 ha' hb' ha hb e
    exact Or.inr ⟨σ, τ, hσ, hτ, hc1⟩
  · obtain ⟨e1, e2, e3⟩ := hk _ e
    rw [e1, e2, e3]
    exact h n' a' b' n1 n8 ha' hb'
theorem jOk_at {so : So} {bd kc hc : Int32} {LC LP LQ : Nat → Int32} {a b n : Nat} {σ τ : Sg} (h : jOk so bd kc hc LC LP LQ) (ha : a < 12) (hb : b < 12) (h1 : 1 ≤ n) (h8 : n ≤ 8) (hσ : so a = some σ) (hτ : so b = some τ) : LC (slotN a b n) = (-1) ∨ cellOk bd kc hc σ τ n (LC (slotN a b n)) (LP (slotN a b n)) (LQ (slotN a b n)) := by
  rcases h n a b h1 h8 ha hb with q | ⟨σ', τ', e1, e2, q⟩
  · exact Or.inl q
  · rw [hσ] at e1; rw [hτ] at e2
    cases e1; cases e2
    exact Or.inr q
