/-! THE BEATS: costs from behind, the first of the best, the chain -/
def pr (r : Nat) : Int32 := nI r + Int32.ofInt (-1)
theorem pr_succ (k : Nat) : pr (k + 1) = nI k := x_dec1 k
theorem pr_sub (n : Nat) : nI n - nI 1 = pr n := Int32.sub_eq_add_neg _ _
theorem pr_neg {r : Nat} (hr : r < 2 ^ 31) : pr r < 0 ↔ r = 0 := by
  constructor
  · intro h
    rcases Nat.eq_zero_or_pos r with e | e
    · exact e
    · obtain ⟨k, rfl⟩ : ∃ k, r = k + 1 := ⟨r - 1, by omega⟩
      rw [pr_succ] at h
      exact absurd h (nI_pos (by omega))
  · rintro rfl; decide
def dpV (T : Nat → Nat) (gap miss skip : Nat) (C : Nat → Int32) (k i : Nat) : Int32 := gapV (T i - T k) gap miss + nI (skip * (i - k - 1)) + C i
def dpS (T : Nat → Nat) (gap miss skip n : Nat) (C : Nat → Int32) (k : Nat) : Nat → Int32
  | 0 => nI (skip * (n - 1 - k))
  | d + 1 => if dpV T gap miss skip C k (k + 1 + d) < dpS T gap miss skip n C k d then dpV T gap miss skip C k (k + 1 + d) else dpS T gap miss skip n C k d
def dpArr (T : Nat → Nat) (gap miss skip n : Nat) : Nat → Nat → Int32
  | 0 => fun _ => nI 0
  | m + 1 => upd (dpArr T gap miss skip n m) (n - 1 - m) (dpS T gap miss skip n (dpArr T gap miss skip n m) (n - 1 - m) (n - 1 - (n - 1 - m)))
def dpC (T : Nat → Nat) (gap miss skip n : Nat) : Nat → Int32 := dpArr T gap miss skip n n
theorem dpS_congr {T : Nat → Nat} {gap miss skip n k N : Nat} {C C' : Nat → Int32} (h : ∀ i, k < i → i < N → C i = C' i) : ∀ d, k + 1 + d ≤ N → dpS T gap miss skip n C k d = dpS T gap miss skip n C' k d
  | 0, _ => rfl
  | d + 1, hd => by
    have e1 := dpS_congr (T := T) (gap := gap) (miss := miss) (skip := skip) (n := n) h d (by omega)
    have e2 : dpV T gap miss skip C k (k + 1 + d) = dpV T gap miss skip C' k (k + 1 + d) := by
      unfold dpV; rw [h (k + 1 + d) (by omega) (by omega)]
    simp only [dpS, e1, e2]
theorem dpArr_keep {T : Nat → Nat} {gap miss skip n m k : Nat} (h1 : n ≤ m + k) (h2 : k < n) : ∀ e, m + e ≤ n → dpArr T gap miss skip n (m + e) k = dpArr T gap miss skip n m k
  | 0, _ => rfl
  | e + 1, he => by
    have i := dpArr_keep (T := T) (gap := gap) (miss := miss) (skip := skip) h1 h2 e (by omega)
    show upd (dpArr T gap miss skip n (m + e)) (n - 1 - (m + e)) _ k = _
    unfold upd
    rw [if_neg (by omega)]
    exact i
theorem dpC_eq {T : Nat → Nat} {gap miss skip n k : Nat} (hk : k < n) : dpC T gap miss skip n k = dpS T gap miss skip n (dpC T gap miss skip n) k (n - 1 - k) := by
  have a := dpArr_keep (T := T) (gap := gap) (miss := miss) (skip := skip) (n := n) (m := (n - 1 - k) + 1) (k := k) (by omega) hk k (by omega)
  rw [show (n - 1 - k) + 1 + k = n by omega] at a
  unfold dpC
  rw [a]
  show upd (dpArr T gap miss skip n (n - 1 - k)) (n - 1 - (n - 1 - k)) (dpS T gap miss skip n (dpArr T gap miss skip n (n - 1 - k)) (n - 1 - (n - 1 - k)) (n - 1 - (n - 1 - (n - 1 - k)))) k = _
  rw [show n - 1 - (n - 1 - k) = k by omega]
  unfold upd
  rw [if_pos rfl]
  refine dpS_congr (N := n) (fun i h1 h2 => ?_) _ (by omega)
  have b := dpArr_keep (T := T) (gap := gap) (miss := miss) (skip := skip) (n := n) (m := n - 1 - k) (k := i) (by omega) h2 (k + 1) (by omega)
  rw [show n - 1 - k + (k + 1) = n by omega] at b
  exact b.symm
def dpA (skip : Nat) (C : Nat → Int32) : Nat → Nat
  | 0 => 0
  | d + 1 => if nI (skip * (d + 1)) + C (d + 1) < nI (skip * dpA skip C d) + C (dpA skip C d) then d + 1 else dpA skip C d
theorem dpA_le (skip : Nat) (C : Nat → Int32) : ∀ d, dpA skip C d ≤ d
  | 0 => Nat.le_refl 0
  | d + 1 => by
    have := dpA_le skip C d
    unfold dpA; split <;> omega
/-- the first of lo .. lo + d - 1 with P; lo + d without -/
def nxS (P : Nat → Prop) [∀ i, Decidable (P i)] (lo : Nat) : Nat → Nat
  | 0 => lo
  | d + 1 => if nxS P lo d < lo + d then nxS P lo d else if P (lo + d) then lo + d else lo + d + 1
theorem nxS_le (P : Nat → Prop) [∀ i, Decidable (P i)] (lo : Nat) : ∀ d, lo ≤ nxS P lo d ∧ nxS P lo d ≤ lo + d
  | 0 => ⟨Nat.le_refl _, Nat.le_refl _⟩
  | d + 1 => by
    have := nxS_le P lo d
    unfold nxS
    split
    · omega
    · split <;> omega
theorem nxS_more (P : Nat → Prop) [∀ i, Decidable (P i)] (lo d : Nat) (h : nxS P lo d < lo + d) : ∀ e, nxS P lo (d + e) = nxS P lo d
  | 0 => rfl
  | e + 1 => by
    have i := nxS_more P lo d h e
    show (if nxS P lo (d + e) < lo + (d + e) then nxS P lo (d + e) else if P (lo + (d + e)) then lo + (d + e) else lo + (d + e) + 1) = _
    rw [if_pos (by omega), i]
abbrev dpP (T : Nat → Nat) (gap miss skip : Nat) (C : Nat → Int32) (a : Nat) : Nat → Prop := fun i => dpV T gap miss skip C a i = C a
def dpN (T : Nat → Nat) (gap miss skip n : Nat) (C : Nat → Int32) (a : Nat) : Nat := nxS (dpP T gap miss skip C a) (a + 1) (n - (a + 1))
/-- the chain of what is taken, from its first on -/
def dpCh (T : Nat → Nat) (gap miss skip n : Nat) (C : Nat → Int32) : Nat → Nat
  | 0 => dpA skip C (n - 1)
  | f + 1 => dpN T gap miss skip n C (dpCh T gap miss skip n C f)
def atV (n a : Nat) : Int32 := if a < n then nI a else (-1)
theorem atV_yes {n a : Nat} (h : a < n) : atV n a = nI a := if_pos h
theorem atV_no {n a : Nat} (h : ¬ a < n) : atV n a = (-1) := if_neg h
theorem atV_m1 {n a : Nat} (hn : n < 2 ^ 31) : atV n a = (-1) ↔ ¬ a < n := by
  constructor
  · intro h q
    rw [atV_yes q] at h
    have h2 : nI a < 0 := by rw [h]; decide
    exact nI_pos (by omega) h2
  · exact atV_no
abbrev okFind (gap miss skip : Int32) (n : Nat) : Prop := (¬ gap < nI 10 ∧ ¬ nI 1000 < gap) ∧ (¬ miss < 0 ∧ ¬ nI 10000 < miss) ∧ (¬ skip < 0 ∧ ¬ nI 10000 < skip) ∧ ¬ n = 0
def fnV (T : Nat → Nat) (gap miss skip n : Nat) : Int32 := nI (skip * dpA skip (dpC T gap miss skip n) (n - 1)) + dpC T gap miss skip n (dpA skip (dpC T gap miss skip n) (n - 1))
def aFind (T : Nat → Nat) (n : Nat) (gap miss skip : Int32) : Int32 := if okFind gap miss skip n then fnV T gap.toNatClampNeg miss.toNatClampNeg skip.toNatClampNeg n else (-1)
/-- what stands in the row of what was found, its number cnt -/
def isFound (T : Nat → Nat) (gap miss skip n cnt : Nat) (Q : Nat → Int32) : Prop := ¬ dpCh T gap miss skip n (dpC T gap miss skip n) cnt < n ∧ ∀ i, i < cnt → dpCh T gap miss skip n (dpC T gap miss skip n) i < n ∧ Q i = nI (dpCh T gap miss skip n (dpC T gap miss skip n) i)
theorem dpN_lt (T : Nat → Nat) (gap miss skip n : Nat) (C : Nat → Int32) {a : Nat} (h : a < n) : a < dpN T gap miss skip n C a ∧ dpN T gap miss skip n C a ≤ n := by
  have := nxS_le (dpP T gap miss skip C a) (a + 1) (n - (a + 1))
  unfold dpN
  omega
theorem dpCh_ge {T : Nat → Nat} {gap miss skip n : Nat} {C : Nat → Int32} : ∀ f, (∀ i, i < f → dpCh T gap miss skip n C i < n) → f ≤ dpCh T gap miss skip n C f
  | 0, _ => Nat.zero_le _
  | f + 1, h => by
    have i := dpCh_ge f (fun i hi => h i (by omega))
    have j := dpN_lt T gap miss skip n C (h f (by omega))
    show f + 1 ≤ dpN T gap miss skip n C (dpCh T gap miss skip n C f)
    omega
/-- the number of what was found is one alone -/
theorem isFound_uniq {T : Nat → Nat} {gap miss skip n c1 c2 : Nat} {Q1 Q2 : Nat → Int32} (h1 : isFound T gap miss skip n c1 Q1) (h2 : isFound T gap miss skip n c2 Q2) : c1 = c2 := by
  rcases Nat.lt_trichotomy c1 c2 with c | c | c
  · exact absurd (h2.2 c1 c).1 h1.1
  · exact c
  · exact absurd (h1.2 c2 c).1 h2.1

def nxV (P : Nat → Prop) [∀ i, Decidable (P i)] (lo d : Nat) : Int32 := if nxS P lo d < lo + d then nI (nxS P lo d) else (-1)
theorem nxV_m1 {P : Nat → Prop} [∀ i, Decidable (P i)] {lo d : Nat} (hn : lo + d < 2 ^ 31) : nxV P lo d = (-1) ↔ ¬ nxS P lo d < lo + d := by
  unfold nxV
  constructor
  · intro h q
    rw [if_pos q] at h
    have h2 : nI (nxS P lo d) < 0 := by rw [h]; decide
    exact nI_pos (by omega) h2
  · intro h; rw [if_neg h]
theorem nxV_stay {P : Nat → Prop} [∀ i, Decidable (P i)] {lo d : Nat} (hn : lo + d < 2 ^ 31) (h : nxV P lo d = (-1)) (hp : ¬ P (lo + d)) : nxV P lo d = nxV P lo (d + 1) := by
  have h1 := (nxV_m1 hn).mp h
  have e : nxS P lo (d + 1) = lo + d + 1 := by
    show (if _ then _ else if _ then _ else _) = _
    rw [if_neg h1, if_neg hp]
  rw [h]
  unfold nxV
  rw [e, if_neg (by omega)]
theorem nxV_hit {P : Nat → Prop} [∀ i, Decidable (P i)] {lo d : Nat} (hn : lo + d < 2 ^ 31) (h : nxV P lo d = (-1)) (hp : P (lo + d)) : nI (lo + d) = nxV P lo (d + 1) := by
  have h1 := (nxV_m1 hn).mp h
  have e : nxS P lo (d + 1) = lo + d := by
    show (if _ then _ else if _ then _ else _) = _
    rw [if_neg h1, if_pos hp]
  unfold nxV
  rw [e, if_pos (by omega)]
theorem nxV_end {T : Nat → Nat} {gap miss skip n : Nat} {C : Nat → Int32} {a d : Nat} (h : a + 1 + d = n) : nxV (dpP T gap miss skip C a) (a + 1) d = atV n (dpN T gap miss skip n C a) := by
  unfold nxV atV dpN
  rw [show n - (a + 1) = d by omega, show a + 1 + d = n by omega]
theorem nxV_out {T : Nat → Nat} {gap miss skip n : Nat} {C : Nat → Int32} {a d : Nat} (hn : n < 2 ^ 31) (h : a + 1 + d ≤ n) (hv : ¬ nxV (dpP T gap miss skip C a) (a + 1) d = (-1)) : nxV (dpP T gap miss skip C a) (a + 1) d = atV n (dpN T gap miss skip n C a) := by
  have h1 : nxS (dpP T gap miss skip C a) (a + 1) d < a + 1 + d := Classical.not_not.mp (fun q => hv ((nxV_m1 (by omega)).mpr q))
  have h2 := nxS_more (dpP T gap miss skip C a) (a + 1) d h1 (n - (a + 1) - d)
  rw [show d + (n - (a + 1) - d) = n - (a + 1) by omega] at h2
  unfold nxV atV dpN
  rw [h2, if_pos h1, if_pos (by omega)]
theorem chain_step {ch : Nat → Nat} {n f : Nat} {Q : Nat → Int32} (h : ∀ i, i < f → ch i < n ∧ Q i = nI (ch i)) (hl : ch f < n) : ∀ i, i < f + 1 → ch i < n ∧ upd Q f (nI (ch f)) i = nI (ch i) := by
  intro i hi
  unfold upd
  by_cases e : i = f
  · subst e; exact ⟨hl, if_pos rfl⟩
  · rw [if_neg e]; exact h i (by omega)
theorem nxV_0 {P : Nat → Prop} [∀ i, Decidable (P i)] {lo : Nat} : (-1) = nxV P lo 0 := by
  show (-1) = if lo < lo + 0 then _ else _
  rw [if_neg (by omega)]
