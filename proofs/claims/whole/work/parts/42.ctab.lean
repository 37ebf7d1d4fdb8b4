theorem fill_s {f : Nat → Int32} {i : Nat} {v : Int32} (h : ∀ k, k < i → f k = v) : ∀ k, k < i + 1 → upd f i v k = v := by
  intro k hk
  unfold upd
  by_cases e : k = i
  · rw [if_pos e]
  · rw [if_neg e]; exact h k (by omega)
theorem tab_s {f g : Nat → Int32} {i : Nat} {v : Int32} (h : ∀ k, k < i → f k = g k) (hv : v = g i) : ∀ k, k < i + 1 → upd f i v k = g k := by
  intro k hk
  unfold upd
  by_cases e : k = i
  · rw [if_pos e, e]; exact hv
  · rw [if_neg e]; exact h k (by omega)
theorem tick_sub {σ : Sg} {k : Nat} : gTick σ (k + 1) - gTick σ k = gLast σ k := by
  show gTick σ k + gLast σ k - gTick σ k = _
  grind
theorem gFst_mono {σ : Sg} {b : Nat} : ∀ {d : Nat}, b < d → gFst σ (b + 1) ≤ gFst σ d
  | 0, h => absurd h (by omega)
  | d + 1, h => by
    by_cases e : b = d
    · subst e; exact Nat.le_refl _
    · have := gFst_mono (σ := σ) (b := b) (d := d) (by omega)
      show _ ≤ gFst σ d + gC σ d
      omega
theorem gPB_pos {σ : Sg} (h : sgOk σ) : 2 ≤ gPB σ := by
  have := h.1
  unfold gPB
  exact Nat.le_trans this (Nat.le_add_right _ _)
theorem wf_s {σ : Sg} {z0 : Nat} {WF : Nat → Int32} {v : Nat} (h : ∀ y, z0 + 1 ≤ y → y ≤ gPB σ → WF y = nI (gW σ (gPB σ - y))) (hz : z0 < gPB σ) (hv : v = if gC σ (gBar σ z0) = 4 then gW σ (gPB σ - (z0 + 1)) + 1 else 0) : ∀ y, z0 ≤ y → y ≤ gPB σ → upd WF z0 (nI v) y = nI (gW σ (gPB σ - y)) := by
  intro y y1 y2
  unfold upd
  by_cases e : y = z0
  · rw [if_pos e, e, hv]
    obtain ⟨d, hd⟩ : ∃ d, gPB σ - z0 = d + 1 := ⟨gPB σ - z0 - 1, by omega⟩
    rw [hd, show gPB σ - (z0 + 1) = d by omega]
    show _ = nI (if gC σ (gBar σ (gPB σ - (d + 1))) = 4 then gW σ d + 1 else 0)
    rw [show gPB σ - (d + 1) = z0 by omega]
  · rw [if_neg e]; exact h y (by omega) y2
theorem la_s {σ : Sg} {q : Nat} {LA : Nat → Int32} (ho : ∀ z, z < q → ∀ i, i < gC σ (gBar σ z) → LA (4 * z + i) = gLast σ (gFst σ (gBar σ z) + i)) (hn : ∀ k, k < gC σ (gBar σ q) → LA (4 * q + k) = gLast σ (gFst σ (gBar σ q) + k)) : ∀ z, z < q + 1 → ∀ i, i < gC σ (gBar σ z) → LA (4 * z + i) = gLast σ (gFst σ (gBar σ z) + i) := by
  intro z hz i hi
  by_cases e : z = q
  · subst e; exact hn i hi
  · exact ho z (by omega) i hi
