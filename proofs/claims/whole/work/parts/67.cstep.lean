/-- what it costs to go from song a to song b of a night, as the class has it -/
def stepC (so : So) (f : Nat → Int32) (m : Nat) (bd kc hc : Int32) (n a b : Nat) : Int32 := match so a with
  | none => nI 1073741824
  | some σ => match so b with
    | none => nI 1073741824
    | some τ => if ¬ a = b ∧ okStep f m a b then cLeast bd kc hc σ τ n else nI 1073741824
theorem stepC_y {so : So} {f : Nat → Int32} {m : Nat} {bd kc hc : Int32} {n a b : Nat} {σ τ : Sg} (h1 : so a = some σ) (h2 : so b = some τ) (h3 : ¬ a = b) (h4 : okStep f m a b) : cLeast bd kc hc σ τ n = stepC so f m bd kc hc n a b := by
  unfold stepC
  simp only [h1, h2]
  rw [if_pos ⟨h3, h4⟩]
theorem stepC_n {so : So} {f : Nat → Int32} {m : Nat} {bd kc hc : Int32} {n a b : Nat} (h : ¬ (¬ a = b ∧ okStep f m a b)) : nI 1073741824 = stepC so f m bd kc hc n a b := by
  unfold stepC
  split
  · rfl
  · split
    · rfl
    · rw [if_neg h]
theorem mb_s {MB RN3 : Nat → Int32} {i : Nat} {v w : Int32} (hv : v = w) (h : MB = upd RN3 i v) : MB i = w ∧ ∀ q, q ≠ i → MB q = RN3 q := by
  subst h
  exact ⟨(if_pos rfl).trans hv, fun q hq => if_neg hq⟩
theorem st_s {ST RN2 g : Nat → Int32} {i z : Nat} {v : Int32} (h : ∀ k, k < z → ST (i * 12 + k) = g k) (hv : v = g z) : ∀ k, k < z + 1 → upd ST (i * 12 + z) v (i * 12 + k) = g k := by
  intro k hk
  unfold upd
  by_cases e : k = z
  · rw [if_pos (by omega), e]; exact hv
  · rw [if_neg (by omega)]; exact h k (by omega)
theorem st_k {ST RN2 : Nat → Int32} {i z : Nat} {v : Int32} (hz : z < 12) (h : ∀ q, (∀ k, k < 12 → ¬ q = i * 12 + k) → ST q = RN2 q) : ∀ q, (∀ k, k < 12 → ¬ q = i * 12 + k) → upd ST (i * 12 + z) v q = RN2 q := by
  intro q hq
  unfold upd
  rw [if_neg (hq z hz)]
  exact h q hq
