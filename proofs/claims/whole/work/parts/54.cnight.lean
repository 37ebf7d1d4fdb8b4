/-! THE NIGHT as the class weighs it: sets of songs that were played -/
theorem zz_pow2 {k : Nat} (hk : k < 31) : nI 1 <<< (nI k &&& 31) = nI (2 ^ k) := by
  have h2 : 2 ^ k < 2 ^ 31 := Nat.pow_lt_pow_right (by omega) hk
  have := pk_shlN (n := 1) (nI k &&& 31) k (zz_sh k (by omega)) (by omega)
  rw [this, Nat.one_mul]
def eN (f : Nat → Int32) : Nat → Nat → Int32 := fun z k => f (z * 12 + k)
def wN (cnt : Nat) (f : Nat → Int32) : Nat → Nat → Int32 := fun q k => f (q * cnt + k)
def cO (E Wf : Nat → Nat → Int32) (q z j : Nat) : Int32 := if Wf (q ||| 2 ^ j) j = nI 1073741824 then nI 1073741824 else E z j + Wf (q ||| 2 ^ j) j
def nLn (E Wf : Nat → Nat → Int32) (q z : Nat) : Nat → Int32 × Int32
  | 0 => (nI 1073741824, (-1))
  | j + 1 => if q / 2 ^ j % 2 = 0 ∧ E z j < nI 1073741824 ∧ cO E Wf q z j < (nLn E Wf q z j).1 then (cO E Wf q z j, nI j) else nLn E Wf q z j
theorem nLn_yes {E Wf : Nat → Nat → Int32} {q z j : Nat} (h : q / 2 ^ j % 2 = 0 ∧ E z j < nI 1073741824 ∧ cO E Wf q z j < (nLn E Wf q z j).1) : nLn E Wf q z (j + 1) = (cO E Wf q z j, nI j) := if_pos h
theorem nLn_no {E Wf : Nat → Nat → Int32} {q z j : Nat} (h : ¬ (q / 2 ^ j % 2 = 0 ∧ E z j < nI 1073741824 ∧ cO E Wf q z j < (nLn E Wf q z j).1)) : nLn E Wf q z (j + 1) = nLn E Wf q z j := if_neg h
theorem nLn_congr {E Wf Wg : Nat → Nat → Int32} {q z : Nat} : ∀ m, (∀ j, j < m → q / 2 ^ j % 2 = 0 → Wf (q ||| 2 ^ j) j = Wg (q ||| 2 ^ j) j) → nLn E Wf q z m = nLn E Wg q z m
  | 0, _ => rfl
  | m + 1, h => by
    have i := nLn_congr (E := E) (z := z) m (fun j hj => h j (by omega))
    unfold nLn
    rw [i]
    by_cases e : q / 2 ^ m % 2 = 0
    · have c : cO E Wf q z m = cO E Wg q z m := by unfold cO; rw [h m (by omega) e]
      rw [c]
    · rw [if_neg (fun x => e x.1), if_neg (fun x => e x.1)]
/-- what the search ends with -/
theorem nLn_end {E Wf : Nat → Nat → Int32} {q z : Nat} : ∀ m, m < 2 ^ 31 → ((nLn E Wf q z m).2 = (-1) ∧ (nLn E Wf q z m).1 = nI 1073741824 ∧ ∀ j, j < m → q / 2 ^ j % 2 = 0 → E z j < nI 1073741824 → ¬ cO E Wf q z j < nI 1073741824) ∨
    ∃ x, x < m ∧ (nLn E Wf q z m).2 = nI x ∧ q / 2 ^ x % 2 = 0 ∧ E z x < nI 1073741824 ∧ (nLn E Wf q z m).1 = cO E Wf q z x ∧ cO E Wf q z x < nI 1073741824 ∧ (∀ j, j < m → q / 2 ^ j % 2 = 0 → E z j < nI 1073741824 → cO E Wf q z x ≤ cO E Wf q z j) ∧ ∀ j, j < x → q / 2 ^ j % 2 = 0 → E z j < nI 1073741824 → cO E Wf q z x < cO E Wf q z j
  | 0, _ => Or.inl ⟨rfl, rfl, fun j hj => absurd hj (Nat.not_lt_zero _)⟩
  | m + 1, hm => by
    have i := nLn_end (E := E) (Wf := Wf) (q := q) (z := z) m (by omega)
    by_cases c : q / 2 ^ m % 2 = 0 ∧ E z m < nI 1073741824 ∧ cO E Wf q z m < (nLn E Wf q z m).1
    · rw [nLn_yes c]
      right
      obtain ⟨c1, c2, c3⟩ := c
      refine ⟨m, by omega, rfl, c1, c2, rfl, ?_, ?_, ?_⟩
      · rcases i with ⟨-, i2, -⟩ | ⟨x, -, -, -, -, i5, i6, -⟩
        · rw [i2] at c3; exact c3
        · rw [i5] at c3; exact Int32.lt_trans c3 i6
      · intro j hj h1 h2
        rcases Nat.lt_or_ge j m with h | h
        · rcases i with ⟨-, i2, i3⟩ | ⟨x, -, -, -, -, i5, i6, i7, -⟩
          · rw [i2] at c3
            exact Int32.le_trans (Int32.le_of_lt c3) (Int32.not_lt.mp (i3 j h h1 h2))
          · rw [i5] at c3
            exact Int32.le_trans (Int32.le_of_lt c3) (i7 j h h1 h2)
        · rw [show j = m by omega]; exact Int32.le_refl _
      · intro j h h1 h2
        rcases i with ⟨-, i2, i3⟩ | ⟨x, -, -, -, -, i5, i6, i7, -⟩
        · rw [i2] at c3
          exact Int32.lt_of_lt_of_le c3 (Int32.not_lt.mp (i3 j h h1 h2))
        · rw [i5] at c3
          exact Int32.lt_of_lt_of_le c3 (i7 j h h1 h2)
    · rw [nLn_no c]
      rcases i with ⟨i1, i2, i3⟩ | ⟨x, x1, i2, i3, i4, i5, i6, i7, i8⟩
      · refine Or.inl ⟨i1, i2, fun j hj h1 h2 => ?_⟩
        rcases Nat.lt_or_ge j m with h | h
        · exact i3 j h h1 h2
        · have e : j = m := by omega
          subst e
          intro q9
          exact c ⟨h1, h2, by rw [i2]; exact q9⟩
      · refine Or.inr ⟨x, by omega, i2, i3, i4, i5, i6, fun j hj h1 h2 => ?_, i8⟩
        rcases Nat.lt_or_ge j m with h | h
        · exact i7 j h h1 h2
        · have e : j = m := by omega
          subst e
          exact Int32.not_lt.mp (fun q9 => c ⟨h1, h2, by rw [i5]; exact q9⟩)
theorem or_gt {q j : Nat} (h : q / 2 ^ j % 2 = 0) : q < q ||| 2 ^ j := by
  have h1 : q ≤ q ||| 2 ^ j := Nat.left_le_or
  rcases Nat.lt_or_ge q (q ||| 2 ^ j) with c | c
  · exact c
  · have e : q ||| 2 ^ j = q := Nat.le_antisymm c h1
    have h2 := congrArg (fun x => x.testBit j) e
    simp only [Nat.testBit_or, Nat.testBit_two_pow_self, Bool.or_true] at h2
    rw [bit_tb.mp h] at h2
    exact absurd h2 (by decide)
theorem or_lt {q j cnt : Nat} (h : q < 2 ^ cnt) (hj : j < cnt) : q ||| 2 ^ j < 2 ^ cnt := Nat.or_lt_two_pow h (Nat.pow_lt_pow_right (by omega) hj)
theorem ix_lt {x k cnt rl : Nat} (hx : x < 2 ^ cnt) (hk : k < cnt) (h : 2 ^ cnt * cnt ≤ rl) : x * cnt + k < rl := by
  have : (x + 1) * cnt ≤ 2 ^ cnt * cnt := Nat.mul_le_mul_right _ hx
  rw [Nat.add_mul] at this
  omega
theorem pow_le {cnt : Nat} (h : cnt ≤ 12) : 2 ^ cnt ≤ 4096 := by
  rw [show 4096 = 2 ^ 12 by decide]; exact Nat.pow_le_pow_right (by omega) h
theorem pow_cnt {cnt : Nat} (h : cnt ≤ 12) : 2 ^ cnt * cnt ≤ 49152 := Nat.mul_le_mul (pow_le h) h
/-- the least that is still to pay, by the songs played and the last of them -/
def rA (E : Nat → Nat → Int32) (cnt full : Nat) : Nat → Nat → Nat → Int32
  | 0 => fun _ _ => nI 0
  | m + 1 => fun q k => if q + m + 1 = full then (nLn E (rA E cnt full m) q k cnt).1 else rA E cnt full m q k
def rR (E : Nat → Nat → Int32) (cnt q k : Nat) : Int32 := rA E cnt (2 ^ cnt - 1) (2 ^ cnt - 1 - q) q k
theorem rA_st {E : Nat → Nat → Int32} {cnt full q k : Nat} (hq : q ≤ full) : ∀ m, full - q ≤ m → rA E cnt full m q k = rA E cnt full (full - q) q k
  | 0, h => by rw [show full - q = 0 by omega]
  | m + 1, h => by
    by_cases e : full - q = m + 1
    · rw [e]
    · show (if q + m + 1 = full then _ else rA E cnt full m q k) = _
      rw [if_neg (by omega)]
      exact rA_st hq m (by omega)
theorem rR_eq {E : Nat → Nat → Int32} {cnt q k : Nat} (hq : q < 2 ^ cnt - 1) : rR E cnt q k = (nLn E (rR E cnt) q k cnt).1 := by
  unfold rR
  obtain ⟨m, hm⟩ : ∃ m, 2 ^ cnt - 1 - q = m + 1 := ⟨2 ^ cnt - 1 - q - 1, by omega⟩
  rw [hm]
  show (if q + m + 1 = 2 ^ cnt - 1 then _ else _) = _
  rw [if_pos (by omega)]
  rw [nLn_congr cnt (fun j hj h => ?_)]
  have h1 := or_gt h
  have h2 := or_lt (show q < 2 ^ cnt by omega) hj
  exact rA_st (by omega) m (by omega)
theorem rR_full {E : Nat → Nat → Int32} {cnt k : Nat} : rR E cnt (2 ^ cnt - 1) k = nI 0 := by
  unfold rR; rw [Nat.sub_self]; rfl
def lF (b : Nat → Int32) (Wf : Nat → Nat → Int32) : Nat → Int32 × Int32
  | 0 => (nI 1073741824, (-1))
  | i + 1 => if ¬ b i = 0 ∧ Wf (2 ^ i) i < (lF b Wf i).1 then (Wf (2 ^ i) i, nI i) else lF b Wf i
theorem lF_yes {b : Nat → Int32} {Wf : Nat → Nat → Int32} {i : Nat} (h : ¬ b i = 0 ∧ Wf (2 ^ i) i < (lF b Wf i).1) : lF b Wf (i + 1) = (Wf (2 ^ i) i, nI i) := if_pos h
theorem lF_no {b : Nat → Int32} {Wf : Nat → Nat → Int32} {i : Nat} (h : ¬ (¬ b i = 0 ∧ Wf (2 ^ i) i < (lF b Wf i).1)) : lF b Wf (i + 1) = lF b Wf i := if_neg h
theorem lF_congr {b : Nat → Int32} {Wf Wg : Nat → Nat → Int32} : ∀ m, (∀ i, i < m → Wf (2 ^ i) i = Wg (2 ^ i) i) → lF b Wf m = lF b Wg m
  | 0, _ => rfl
  | m + 1, h => by
    unfold lF
    rw [lF_congr m (fun i hi => h i (by omega)), h m (by omega)]
theorem lF_end {b : Nat → Int32} {Wf : Nat → Nat → Int32} : ∀ m, ((lF b Wf m).2 = (-1) ∧ (lF b Wf m).1 = nI 1073741824 ∧ ∀ j, j < m → ¬ b j = 0 → ¬ Wf (2 ^ j) j < nI 1073741824) ∨
    ∃ x, x < m ∧ (lF b Wf m).2 = nI x ∧ ¬ b x = 0 ∧ (lF b Wf m).1 = Wf (2 ^ x) x ∧ Wf (2 ^ x) x < nI 1073741824 ∧ (∀ j, j < m → ¬ b j = 0 → Wf (2 ^ x) x ≤ Wf (2 ^ j) j) ∧ ∀ j, j < x → ¬ b j = 0 → Wf (2 ^ x) x < Wf (2 ^ j) j
  | 0 => Or.inl ⟨rfl, rfl, fun j hj => absurd hj (Nat.not_lt_zero _)⟩
  | m + 1 => by
    have i := lF_end (b := b) (Wf := Wf) m
    by_cases c : ¬ b m = 0 ∧ Wf (2 ^ m) m < (lF b Wf m).1
    · rw [lF_yes c]
      right
      obtain ⟨c1, c3⟩ := c
      refine ⟨m, by omega, rfl, c1, rfl, ?_, ?_, ?_⟩
      · rcases i with ⟨-, i2, -⟩ | ⟨x, -, -, -, i5, i6, -⟩
        · rw [i2] at c3; exact c3
        · rw [i5] at c3; exact Int32.lt_trans c3 i6
      · intro j hj h1
        rcases Nat.lt_or_ge j m with h | h
        · rcases i with ⟨-, i2, i3⟩ | ⟨x, -, -, -, i5, i6, i7, -⟩
          · rw [i2] at c3
            exact Int32.le_trans (Int32.le_of_lt c3) (Int32.not_lt.mp (i3 j h h1))
          · rw [i5] at c3
            exact Int32.le_trans (Int32.le_of_lt c3) (i7 j h h1)
        · rw [show j = m by omega]; exact Int32.le_refl _
      · intro j h h1
        rcases i with ⟨-, i2, i3⟩ | ⟨x, -, -, -, i5, i6, i7, -⟩
        · rw [i2] at c3
          exact Int32.lt_of_lt_of_le c3 (Int32.not_lt.mp (i3 j h h1))
        · rw [i5] at c3
          exact Int32.lt_of_lt_of_le c3 (i7 j h h1)
    · rw [lF_no c]
      rcases i with ⟨i1, i2, i3⟩ | ⟨x, x1, i2, i3, i5, i6, i7, i8⟩
      · refine Or.inl ⟨i1, i2, fun j hj h1 => ?_⟩
        rcases Nat.lt_or_ge j m with h | h
        · exact i3 j h h1
        · have e : j = m := by omega
          subst e
          intro q9
          exact c ⟨h1, by rw [i2]; exact q9⟩
      · refine Or.inr ⟨x, by omega, i2, i3, i5, i6, fun j hj h1 => ?_, i8⟩
        rcases Nat.lt_or_ge j m with h | h
        · exact i7 j h h1
        · have e : j = m := by omega
          subst e
          exact Int32.not_lt.mp (fun q9 => c ⟨h1, by rw [i5]; exact q9⟩)
/-- the songs one behind another -/
def cSq (E Wf : Nat → Nat → Int32) (cnt x : Nat) : Nat → Nat × Nat
  | 0 => (2 ^ x, x)
  | i + 1 => ((cSq E Wf cnt x i).1 ||| 2 ^ (nLn E Wf (cSq E Wf cnt x i).1 (cSq E Wf cnt x i).2 cnt).2.toNatClampNeg, (nLn E Wf (cSq E Wf cnt x i).1 (cSq E Wf cnt x i).2 cnt).2.toNatClampNeg)
theorem cSq_b {E Wf : Nat → Nat → Int32} {cnt x : Nat} (hc : cnt ≤ 12) (hx : x < cnt) (hok : ∀ i, i + 1 < cnt → ¬ (nLn E Wf (cSq E Wf cnt x i).1 (cSq E Wf cnt x i).2 cnt).2 = (-1)) : ∀ i, i < cnt → (cSq E Wf cnt x i).1 < 2 ^ cnt ∧ (cSq E Wf cnt x i).2 < cnt
  | 0, _ => ⟨Nat.pow_lt_pow_right (by omega) hx, hx⟩
  | i + 1, h => by
    have ih := cSq_b hc hx hok i (by omega)
    rcases nLn_end (E := E) (Wf := Wf) (q := (cSq E Wf cnt x i).1) (z := (cSq E Wf cnt x i).2) cnt (by omega) with ⟨a, -⟩ | ⟨y, y1, y2, -⟩
    · exact absurd a (hok i h)
    · have e : (nLn E Wf (cSq E Wf cnt x i).1 (cSq E Wf cnt x i).2 cnt).2.toNatClampNeg = y := by rw [y2]; exact nI_clamp (by omega)
      show (cSq E Wf cnt x i).1 ||| 2 ^ (nLn E Wf (cSq E Wf cnt x i).1 (cSq E Wf cnt x i).2 cnt).2.toNatClampNeg < 2 ^ cnt ∧ (nLn E Wf (cSq E Wf cnt x i).1 (cSq E Wf cnt x i).2 cnt).2.toNatClampNeg < cnt
      rw [e]
      exact ⟨or_lt ih.1 y1, y1⟩
/-- the songs that are there, in their order: how many, and which -/
def numS (so : So) : Nat → Nat × (Nat → Nat)
  | 0 => (0, fun _ => 0)
  | s + 1 => if (so s).isSome = true then ((numS so s).1 + 1, va_up (numS so s).2 (numS so s).1 s) else numS so s
theorem numS_yes {so : So} {s : Nat} {σ : Sg} (h : so s = some σ) : numS so (s + 1) = ((numS so s).1 + 1, va_up (numS so s).2 (numS so s).1 s) := if_pos (by rw [h]; rfl)
theorem numS_no {so : So} {s : Nat} (h : so s = none) : numS so (s + 1) = numS so s := if_neg (by rw [h]; decide)
theorem numS_le (so : So) : ∀ s, (numS so s).1 ≤ s
  | 0 => Nat.le_refl 0
  | s + 1 => by
    have := numS_le so s
    cases h : so s
    · rw [numS_no h]; omega
    · rw [numS_yes h]; show _ + 1 ≤ _; omega
/-- each is there, they go up, none is left out -/
theorem numS_spec (so : So) : ∀ s, (∀ i, i < (numS so s).1 → (numS so s).2 i < s ∧ (so ((numS so s).2 i)).isSome = true) ∧ (∀ i k, i < k → k < (numS so s).1 → (numS so s).2 i < (numS so s).2 k) ∧ ∀ j, j < s → (so j).isSome = true → ∃ i, i < (numS so s).1 ∧ (numS so s).2 i = j
  | 0 => ⟨fun i h => absurd h (Nat.not_lt_zero _), fun i k _ h => absurd h (Nat.not_lt_zero _), fun j h => absurd h (Nat.not_lt_zero _)⟩
  | s + 1 => by
    obtain ⟨a, b, c⟩ := numS_spec so s
    cases h : so s
    · rw [numS_no h]
      refine ⟨fun i hi => ⟨by have := (a i hi).1; omega, (a i hi).2⟩, b, fun j hj h2 => ?_⟩
      by_cases e : j = s
      · rw [e, h] at h2; exact absurd h2 (by decide)
      · exact c j (by omega) h2
    · rw [numS_yes h]
      refine ⟨fun i hi => ?_, fun i k hik hk => ?_, fun j hj h2 => ?_⟩
      · have hi : i < (numS so s).1 + 1 := hi
        show va_up (numS so s).2 (numS so s).1 s i < s + 1 ∧ (so (va_up (numS so s).2 (numS so s).1 s i)).isSome = true
        unfold va_up
        by_cases e : i = (numS so s).1
        · rw [if_pos e]; exact ⟨by omega, by rw [h]; rfl⟩
        · rw [if_neg e]; exact ⟨by have := (a i (by omega)).1; omega, (a i (by omega)).2⟩
      · have hk : k < (numS so s).1 + 1 := hk
        show va_up (numS so s).2 (numS so s).1 s i < va_up (numS so s).2 (numS so s).1 s k
        unfold va_up
        rw [if_neg (show ¬ i = (numS so s).1 by omega)]
        by_cases e : k = (numS so s).1
        · rw [if_pos e]; exact (a i (by omega)).1
        · rw [if_neg e]; exact b i k hik (by omega)
      · show ∃ i, i < (numS so s).1 + 1 ∧ va_up (numS so s).2 (numS so s).1 s i = j
        by_cases e : j = s
        · exact ⟨(numS so s).1, by omega, by unfold va_up; rw [if_pos rfl, e]⟩
        · obtain ⟨i, i1, i2⟩ := c j (by omega) h2
          exact ⟨i, by omega, by unfold va_up; rw [if_neg (by omega)]; exact i2⟩
