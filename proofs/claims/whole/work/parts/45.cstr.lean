/-! THE BEATS as the class finds them -/
theorem mabs_eq (x : Int32) : mabs x = msize x := by
  unfold mabs msize
  by_cases h : 0 ≤ x
  · rw [if_pos h, if_neg (Int32.not_lt.mpr h)]
  · rw [if_neg h, if_pos (Int32.not_le.mp h), Int32.zero_sub]
theorem cq_nat {d gap : Nat} (hg : 10 ≤ gap) : (2 * d + gap - 1) / (2 * gap) = if 2 * (d - d / gap * gap) ≤ gap then d / gap else d / gap + 1 := by
  have h1 := Nat.div_add_mod d gap
  have h2 := Nat.mod_lt d (show 0 < gap by omega)
  rw [Nat.mul_comm] at h1
  generalize hP : d / gap * gap = P at h1 ⊢
  have e1 : d / gap * (2 * gap) = 2 * P := by rw [← hP]; exact Nat.mul_left_comm _ _ _
  have e2 : (d / gap + 1) * (2 * gap) = 2 * P + 2 * gap := by rw [Nat.add_mul, e1, Nat.one_mul]
  have e3 : (d / gap + 1 + 1) * (2 * gap) = 2 * P + 2 * gap + 2 * gap := by rw [Nat.add_mul, e2, Nat.one_mul]
  split
  · apply Nat.div_eq_of_lt_le <;> omega
  · apply Nat.div_eq_of_lt_le <;> omega
theorem cq_eq {d gap : Nat} (hg : 10 ≤ gap) (hd : d ≤ 1000000) : mmax (nI 1) (nI ((2 * d + gap - 1) / (2 * gap))) = nI (mq d gap) := by
  have e : (2 * d + gap - 1) / (2 * gap) = mq0 d gap := cq_nat hg
  rw [e]
  have hb : mq0 d gap < 2 ^ 31 := by
    have : d / gap ≤ d := Nat.div_le_self _ _
    unfold mq0; split <;> omega
  unfold mmax mq
  by_cases h : 1 ≤ mq0 d gap
  · rw [if_pos h]
    by_cases h2 : nI 1 < nI (mq0 d gap)
    · rw [if_pos h2]
    · rw [if_neg h2]
      have : ¬ 1 < mq0 d gap := fun q => h2 ((nI_ltI (by omega) hb).mpr q)
      rw [show mq0 d gap = 1 by omega]
  · rw [if_neg h, if_neg (fun q => h (Nat.le_of_lt ((nI_ltI (by omega) hb).mp q)))]
theorem mq_b {d gap : Nat} (hd : d ≤ 1000000) : 1 ≤ mq d gap ∧ mq d gap ≤ 1000001 := by
  have h1 : d / gap ≤ d := Nat.div_le_self _ _
  have hb : mq0 d gap ≤ 1000001 := by
    unfold mq0; split <;> omega
  unfold mq
  split <;> omega
theorem dpV_c {T : Nat → Nat} {gap miss skip : Nat} {C : Nat → Int32} {k i : Nat} : nI ((i - k - 1) * skip) + gapV (T i - T k) gap miss + C i = dpV T gap miss skip C k i := by
  unfold dpV
  rw [Nat.mul_comm]
  grind
/-- the least behind stroke k, as it is sought there: from far above, the first of equal ones stays -/
def cS (T : Nat → Nat) (gap miss skip n : Nat) (C : Nat → Int32) (k : Nat) : Nat → Int32 × Nat
  | 0 => (nI 1073741824, n)
  | d + 1 => if dpV T gap miss skip C k (k + 1 + d) < (cS T gap miss skip n C k d).1 then (dpV T gap miss skip C k (k + 1 + d), k + 1 + d) else cS T gap miss skip n C k d
theorem min_s {c e m : Int32} : (if c < (if e < m then e else m) then c else if e < m then e else m) = (if e < (if c < m then c else m) then e else if c < m then c else m) := by
  have a1 := Int32.lt_iff_toInt_lt (x := c) (y := e)
  have a2 := Int32.lt_iff_toInt_lt (x := c) (y := m)
  have a3 := Int32.lt_iff_toInt_lt (x := e) (y := m)
  have a4 := Int32.lt_iff_toInt_lt (x := e) (y := c)
  by_cases h1 : e < m
  · rw [if_pos h1]
    by_cases h2 : c < e
    · rw [if_pos h2, if_pos (Int32.lt_trans h2 h1), if_neg (Int32.lt_asymm h2)]
    · rw [if_neg h2]
      by_cases h3 : c < m
      · rw [if_pos h3]
        by_cases h4 : e < c
        · rw [if_pos h4]
        · rw [if_neg h4]; exact Int32.le_antisymm (Int32.not_lt.mp h2) (Int32.not_lt.mp h4)
      · rw [if_neg h3, if_pos h1]
  · rw [if_neg h1]
    by_cases h2 : c < m
    · rw [if_pos h2, if_neg (fun q => h1 (Int32.lt_trans q h2))]
    · rw [if_neg h2, if_neg h1]
theorem cS_min {T : Nat → Nat} {gap miss skip n k : Nat} {C : Nat → Int32} (hE : nI (skip * (n - 1 - k)) < nI 1073741824) : ∀ d, dpS T gap miss skip n C k d = if nI (skip * (n - 1 - k)) < (cS T gap miss skip n C k d).1 then nI (skip * (n - 1 - k)) else (cS T gap miss skip n C k d).1
  | 0 => (if_pos hE).symm
  | d + 1 => by
    have i := cS_min (T := T) (gap := gap) (miss := miss) (C := C) hE d
    have e : (cS T gap miss skip n C k (d + 1)).1 = if dpV T gap miss skip C k (k + 1 + d) < (cS T gap miss skip n C k d).1 then dpV T gap miss skip C k (k + 1 + d) else (cS T gap miss skip n C k d).1 := by
      show (if _ then _ else _ : Int32 × Nat).1 = _
      split <;> rfl
    rw [e]
    show (if dpV T gap miss skip C k (k + 1 + d) < dpS T gap miss skip n C k d then dpV T gap miss skip C k (k + 1 + d) else dpS T gap miss skip n C k d) = _
    rw [i]
    exact min_s
theorem cS_at {T : Nat → Nat} {gap miss skip n k : Nat} {C : Nat → Int32} : ∀ d, (∀ e, e < d → (cS T gap miss skip n C k d).1 ≤ dpV T gap miss skip C k (k + 1 + e)) ∧ ((cS T gap miss skip n C k d).1 < nI 1073741824 → ∃ e, e < d ∧ (cS T gap miss skip n C k d).2 = k + 1 + e ∧ dpV T gap miss skip C k (k + 1 + e) = (cS T gap miss skip n C k d).1 ∧ ∀ z, z < e → (cS T gap miss skip n C k d).1 < dpV T gap miss skip C k (k + 1 + z))
  | 0 => ⟨fun e h => absurd h (by omega), fun h => (Int32.lt_irrefl h).elim⟩
  | d + 1 => by
    obtain ⟨i1, i2⟩ := cS_at (T := T) (gap := gap) (miss := miss) (skip := skip) (n := n) (k := k) (C := C) d
    unfold cS
    by_cases h : dpV T gap miss skip C k (k + 1 + d) < (cS T gap miss skip n C k d).1
    · rw [if_pos h]
      refine ⟨fun e he => ?_, fun _ => ⟨d, by omega, rfl, rfl, fun z hz => Int32.lt_of_lt_of_le h (i1 z hz)⟩⟩
      by_cases c : e = d
      · subst c; exact Int32.le_refl _
      · exact Int32.le_of_lt (Int32.lt_of_lt_of_le h (i1 e (by omega)))
    · rw [if_neg h]
      refine ⟨fun e he => ?_, fun q => ?_⟩
      · by_cases c : e = d
        · subst c; exact Int32.not_lt.mp h
        · exact i1 e (by omega)
      · obtain ⟨e, e1, e2⟩ := i2 q
        exact ⟨e, by omega, e2⟩
theorem nxS_is {P : Nat → Prop} [∀ i, Decidable (P i)] {lo e : Nat} (hp : P (lo + e)) (hn : ∀ z, z < e → ¬ P (lo + z)) : ∀ d, e < d → nxS P lo d = lo + e
  | 0, h => absurd h (by omega)
  | d + 1, h => by
    have no : ∀ y, y ≤ e → nxS P lo y = lo + y := by
      intro y
      induction y with
      | zero => intro _; rfl
      | succ y ih =>
        intro hy
        have := ih (by omega)
        show (if nxS P lo y < lo + y then nxS P lo y else if P (lo + y) then lo + y else lo + y + 1) = _
        rw [this, if_neg (by omega), if_neg (hn y (by omega))]
        omega
    by_cases c : d = e
    · subst c
      show (if nxS P lo d < lo + d then nxS P lo d else if P (lo + d) then lo + d else lo + d + 1) = _
      rw [no d (Nat.le_refl _), if_neg (by omega), if_pos hp]
    · have i := nxS_is hp hn d (by omega)
      show (if nxS P lo d < lo + d then nxS P lo d else _) = _
      rw [i, if_pos (by omega)]
theorem nxS_none {P : Nat → Prop} [∀ i, Decidable (P i)] {lo : Nat} : ∀ d, (∀ z, z < d → ¬ P (lo + z)) → nxS P lo d = lo + d
  | 0, _ => rfl
  | d + 1, h => by
    have i := nxS_none d (fun z hz => h z (by omega))
    show (if nxS P lo d < lo + d then nxS P lo d else if P (lo + d) then lo + d else lo + d + 1) = _
    rw [i, if_neg (by omega), if_neg (h d (by omega))]
    omega
/-- what stands at k behind the search is what the reference has there -/
theorem cS_end {T : Nat → Nat} {gap miss skip n k d : Nat} (hk : k < n) (hd : k + 1 + d = n) (hE : nI (skip * (n - 1 - k)) < nI 1073741824) (hl : nI (skip * (n - 1 - k)) < (cS T gap miss skip n (dpC T gap miss skip n) k d).1) : nI (skip * (n - 1 - k)) = dpC T gap miss skip n k ∧ n = dpN T gap miss skip n (dpC T gap miss skip n) k := by
  have e := dpC_eq (T := T) (gap := gap) (miss := miss) (skip := skip) hk
  rw [show n - 1 - k = d by omega, cS_min (by rw [show n - 1 - k = d by omega] at hE ⊢; exact hE), if_pos hl] at e
  have e2 : dpC T gap miss skip n k = nI (skip * (n - 1 - k)) := e
  refine ⟨e2.symm, ?_⟩
  unfold dpN
  rw [show n - (k + 1) = d by omega, nxS_none d (fun z hz q => ?_)]
  · exact hd.symm
  · have q2 : dpV T gap miss skip (dpC T gap miss skip n) k (k + 1 + z) = dpC T gap miss skip n k := q
    have := (cS_at (T := T) (gap := gap) (miss := miss) (skip := skip) (n := n) (k := k) (C := dpC T gap miss skip n) d).1 z hz
    rw [q2, e2] at this
    exact Int32.not_lt.mpr this hl
theorem cS_end2 {T : Nat → Nat} {gap miss skip n k d : Nat} (hk : k < n) (hd : k + 1 + d = n) (hE : nI (skip * (n - 1 - k)) < nI 1073741824) (hl : ¬ nI (skip * (n - 1 - k)) < (cS T gap miss skip n (dpC T gap miss skip n) k d).1) : (cS T gap miss skip n (dpC T gap miss skip n) k d).1 = dpC T gap miss skip n k ∧ (cS T gap miss skip n (dpC T gap miss skip n) k d).2 = dpN T gap miss skip n (dpC T gap miss skip n) k := by
  have e := dpC_eq (T := T) (gap := gap) (miss := miss) (skip := skip) hk
  rw [show n - 1 - k = d by omega, cS_min (by rw [show n - 1 - k = d by omega] at hE ⊢; exact hE), if_neg hl] at e
  obtain ⟨z, z1, z2, z3, z4⟩ := (cS_at (T := T) (gap := gap) (miss := miss) (skip := skip) (n := n) (k := k) (C := dpC T gap miss skip n) d).2 (Int32.lt_of_le_of_lt (Int32.not_lt.mp hl) hE)
  refine ⟨e.symm, ?_⟩
  rw [z2]
  unfold dpN
  rw [show n - (k + 1) = d by omega]
  refine (nxS_is (e := z) (show dpV T gap miss skip (dpC T gap miss skip n) k (k + 1 + z) = dpC T gap miss skip n k by rw [z3, e]) (fun y hy q => ?_) d z1).symm
  have q2 : dpV T gap miss skip (dpC T gap miss skip n) k (k + 1 + y) = dpC T gap miss skip n k := q
  have := z4 y hy
  rw [q2, e] at this
  exact Int32.lt_irrefl this
theorem arow_no {n : Nat} {f : Nat → Int32} {x : Int32} (h : x < nI 0 ∨ nI n - nI 1 < x) (hn : n ≤ 1000 := by omega) : (-1) = aRow n f x := by
  unfold aRow
  rcases h with h | h
  · exact (if_pos h).symm
  · by_cases h0 : x < 0
    · exact (if_pos h0).symm
    · rw [if_neg h0, if_pos]
      have h1 := Int32.lt_iff_toInt_lt.mp h
      rw [pk_sub_toInt (by omega) (by omega)] at h1
      exact Int32.le_iff_toInt_le.mpr (by rw [nI_toInt (by omega)]; omega)
theorem arow_yes {n i : Nat} {f : Nat → Int32} (hi : i < n) (hn : n ≤ 1000 := by omega) : aRow n f (nI i) = f i := by
  unfold aRow
  rw [if_neg (nI_pos (by omega)), if_neg (fun h => absurd ((nI_leI (by omega) (by omega)).mp h) (by omega)), nI_clamp (by omega)]
theorem wi_idx {x : Int32} {n : Nat} (hn : n ≤ 1000) (h : ¬ x < nI 0 ∧ ¬ nI n - nI 1 < x) : ∃ i : Nat, i < n ∧ x = nI i := by
  obtain ⟨j, hj, rfl⟩ := nI_of h.1
  refine ⟨j, ?_, rfl⟩
  have h1 : ¬ (nI n - nI 1).toInt < (nI j).toInt := fun q => h.2 (Int32.lt_iff_toInt_lt.mpr q)
  rw [pk_sub_toInt (by omega) (by omega), nI_toInt hj] at h1
  omega
theorem keep_le {T : Nat → Nat} {gap miss skip n f i : Nat} {C : Nat → Int32} (hi : i < n) (h : i = dpCh T gap miss skip n C f) : i + 1 ≤ dpCh T gap miss skip n C (f + 1) := by
  have := dpN_lt T gap miss skip n C (a := i) hi
  show i + 1 ≤ dpN T gap miss skip n C (dpCh T gap miss skip n C f)
  rw [← h]; omega
theorem keep_le2 {T : Nat → Nat} {gap miss skip n f i : Nat} {C : Nat → Int32} (hi : i < n) (h : i = dpCh T gap miss skip n C f) : dpCh T gap miss skip n C (f + 1) ≤ n := by
  have := dpN_lt T gap miss skip n C (a := i) hi
  show dpN T gap miss skip n C (dpCh T gap miss skip n C f) ≤ n
  rw [← h]; omega
theorem keep_s {ch : Nat → Nat} {n f i : Nat} {Q : Nat → Int32} (h : ∀ z, z < f → ch z < n ∧ Q z = nI (ch z) ∧ ch z < i) (hi : i < n) (e : i = ch f) : ∀ z, z < f + 1 → ch z < n ∧ upd Q f (nI i) z = nI (ch z) ∧ ch z < i + 1 := by
  intro z hz
  unfold upd
  by_cases c : z = f
  · subst c; rw [if_pos rfl, ← e]; exact ⟨hi, rfl, by omega⟩
  · rw [if_neg c]
    obtain ⟨q1, q2, q3⟩ := h z (by omega)
    exact ⟨q1, q2, by omega⟩
theorem seek_s {f f2 g : Nat → Int32} {k n : Nat} (h1 : f2 k = g k) (h2 : ∀ q, q ≠ k → f2 q = f q) (h : ∀ q, k + 1 ≤ q → q < n → f q = g q) : ∀ q, k ≤ q → q < n → f2 q = g q := by
  intro q hq hn
  by_cases c : q = k
  · subst c; exact h1
  · rw [h2 q c]; exact h q (by omega) hn
