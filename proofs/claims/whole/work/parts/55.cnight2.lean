theorem nI_ne1 {n k : Nat} (h : ¬ n / 2 ^ k % 2 = 0) : n / 2 ^ k % 2 = 1 := by
  have := Nat.mod_lt (n / 2 ^ k) (show 0 < 2 by omega)
  omega
theorem nLn_m1 {E Wf : Nat → Nat → Int32} {q z m : Nat} (h : (nLn E Wf q z m).2 = (-1)) (hm : m < 2 ^ 31 := by omega) : nI 1073741824 = (nLn E Wf q z m).1 := by
  rcases nLn_end (E := E) (Wf := Wf) (q := q) (z := z) m hm with ⟨-, a, -⟩ | ⟨x, x1, x2, -⟩
  · exact a.symm
  · rw [x2] at h
    exact absurd (h ▸ nI_pos (show x < 2 ^ 31 by omega)) (by decide)
theorem wei_n {RR g : Nat → Int32} {q cnt z : Nat} (h : ∀ k, k < z → ¬ q / 2 ^ k % 2 = 0 → RR (q * cnt + k) = g k) (hz : ¬ ¬ q / 2 ^ z % 2 = 0) : ∀ k, k < z + 1 → ¬ q / 2 ^ k % 2 = 0 → RR (q * cnt + k) = g k := by
  intro k hk hb
  by_cases e : k = z
  · subst e; exact absurd hb hz
  · exact h k (by omega) hb
theorem wei_s {RR g : Nat → Int32} {q cnt z : Nat} {v : Int32} (h : ∀ k, k < z → ¬ q / 2 ^ k % 2 = 0 → RR (q * cnt + k) = g k) (hv : v = g z) : ∀ k, k < z + 1 → ¬ q / 2 ^ k % 2 = 0 → upd RR (q * cnt + z) v (q * cnt + k) = g k := by
  intro k hk hb
  unfold upd
  by_cases e : k = z
  · rw [if_pos (by omega), e]; exact hv
  · rw [if_neg (by omega)]; exact h k (by omega) hb
theorem gath_s {so : So} {s : Nat} {σ : Sg} {SX : Nat → Option Nat} {aS : Nat → Nat → Nat} (h : ∀ i, i < (numS so s).1 → SX i = some (aS ((numS so s).2 i) 0)) (ho : so s = some σ) : ∀ i, i < (numS so (s + 1)).1 → va_up SX (numS so s).1 (some (aS s 0)) i = some (aS ((numS so (s + 1)).2 i) 0) := by
  rw [numS_yes ho]
  intro i hi
  have hi : i < (numS so s).1 + 1 := hi
  show va_up SX (numS so s).1 (some (aS s 0)) i = some (aS (va_up (numS so s).2 (numS so s).1 s i) 0)
  unfold va_up
  by_cases e : i = (numS so s).1
  · rw [if_pos e, if_pos e]
  · rw [if_neg e, if_neg e]; exact h i (by omega)
def nF0 : Nat → Int32 := fun i => if i = 5 then nI 1073741824 else nI 0
