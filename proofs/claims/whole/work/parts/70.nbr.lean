/-! THE NIGHT: what the class weighs and what the reference weighs are one -/
theorem nm0 (f : Nat → Int32) (b : Nat) : ∀ m, nMst f b m = 0 ↔ ∀ a, a < m → ¬ f (a * 12 + b) = nI 1
  | 0 => ⟨fun _ a h => absurd h (Nat.not_lt_zero _), fun _ => rfl⟩
  | m + 1 => by
    have i := nm0 f b m
    have e : nMst f b (m + 1) = nMst f b m + (if f (m * 12 + b) = nI 1 then 1 else 0) := rfl
    rw [e]
    by_cases c : f (m * 12 + b) = nI 1
    · rw [if_pos c]
      exact ⟨fun h => absurd h (by omega), fun h => absurd c (h m (by omega))⟩
    · rw [if_neg c, Nat.add_zero, i]
      exact ⟨fun h a ha => by
        by_cases e2 : a = m
        · rw [e2]; exact c
        · exact h a (by omega), fun h a ha => h a (by omega)⟩
theorem nm1 (f : Nat → Int32) (b : Nat) : ∀ m a0, a0 < m → f (a0 * 12 + b) = nI 1 → (nMst f b m = 1 ↔ ∀ a, a < m → f (a * 12 + b) = nI 1 → a = a0)
  | 0, _, h, _ => absurd h (Nat.not_lt_zero _)
  | m + 1, a0, h, h1 => by
    have e : nMst f b (m + 1) = nMst f b m + (if f (m * 12 + b) = nI 1 then 1 else 0) := rfl
    rw [e]
    by_cases e1 : a0 = m
    · have c : f (m * 12 + b) = nI 1 := by rw [← e1]; exact h1
      have z := nm0 f b m
      rw [if_pos c]
      constructor
      · intro q a ha h2
        by_cases e2 : a = m
        · rw [e2, e1]
        · exact absurd h2 (z.mp (by omega) a (by omega))
      · intro q
        have h9 := z.mpr (fun a ha h2 => by have := q a (by omega) h2; omega)
        omega
    · have i := nm1 f b m a0 (by omega) h1
      by_cases c : f (m * 12 + b) = nI 1
      · rw [if_pos c]
        constructor
        · intro q
          exact absurd h1 ((nm0 f b m).mp (by omega) a0 (by omega))
        · intro q
          have := q m (by omega) c
          omega
      · rw [if_neg c, Nat.add_zero, i]
        constructor
        · intro q a ha h2
          by_cases e2 : a = m
          · rw [e2] at h2; exact absurd h2 c
          · exact q a (by omega) h2
        · intro q a ha h2
          exact q a (by omega) h2
theorem m12c (a b : Nat) : a * 12 + b = 12 * a + b := by omega
theorem okS_iff {f : Nat → Int32} {a b m : Nat} (ha : a < m) : okStep f m a b ↔ ¬ f (a * 12 + b) = nI 2 ∧ ∀ a9, a9 < m → f (a9 * 12 + b) = nI 1 → a9 = a := by
  unfold okStep
  by_cases c : f (a * 12 + b) = nI 1
  · rw [if_pos c, nm1 f b m a ha c]
  · rw [if_neg c, nm0 f b m]
    constructor
    · rintro ⟨h1, h2⟩
      exact ⟨h1, fun a9 h3 h4 => absurd h4 (h2 a9 h3)⟩
    · rintro ⟨h1, h2⟩
      exact ⟨h1, fun a9 h3 h4 => by
        have h5 := h2 a9 h3 h4
        rw [h5] at h4
        exact c h4⟩
theorem cE_spec (mu g : Nat → Int32) (q : Nat) : ∀ m, ((∃ t, t < m ∧ mu t = nI 1 ∧ confl t q) ∧ cE mu g m q = nI 1000000000) ∨ ((∀ t, t < m → mu t = nI 1 → ¬ confl t q) ∧ cE mu g m q = g q)
  | 0 => Or.inr ⟨fun t h => absurd h (Nat.not_lt_zero _), rfl⟩
  | m + 1 => by
    have i := cE_spec mu g q m
    have e : cE mu g (m + 1) q = if mu m = nI 1 ∧ confl m q then nI 1000000000 else cE mu g m q := rfl
    rw [e]
    by_cases c : mu m = nI 1 ∧ confl m q
    · rw [if_pos c]
      exact Or.inl ⟨⟨m, by omega, c⟩, rfl⟩
    · rw [if_neg c]
      rcases i with ⟨⟨t, t1, t2⟩, i2⟩ | ⟨i1, i2⟩
      · exact Or.inl ⟨⟨t, by omega, t2⟩, i2⟩
      · refine Or.inr ⟨fun t ht h2 h3 => ?_, i2⟩
        by_cases e2 : t = m
        · rw [e2] at h2 h3; exact c ⟨h2, h3⟩
        · exact i1 t (by omega) h2 h3
abbrev edOk (mu : Nat → Int32) (a b : Nat) : Prop := ¬ mu (12 * a + b) = nI 2 ∧ (∀ a9, a9 < 12 → mu (12 * a9 + b) = nI 1 → a9 = a) ∧ ∀ b9, b9 < 12 → mu (12 * a + b9) = nI 1 → b9 = b
theorem eV_yes {so : So} {mu : Nat → Int32} {bd kc hc : Int32} {n a b : Nat} {σ τ : Sg} (ha : a < 12) (hb : b < 12) (h1 : so a = some σ) (h2 : so b = some τ) (hab : ¬ a = b) (h : edOk mu a b) : eT (eV so mu bd kc hc n) a b = bestV bd kc hc σ τ n := by
  show cE mu (eBase so mu bd kc hc n) 144 (12 * a + b) = _
  rcases cE_spec mu (eBase so mu bd kc hc n) (12 * a + b) 144 with ⟨⟨t, t1, t2, t3⟩, -⟩ | ⟨-, i2⟩
  · exfalso
    unfold confl at t3
    rcases t3 with ⟨u1, u2⟩ | ⟨u1, u2⟩
    · have k2 := h.2.2 (t % 12) (by omega) (by rw [show 12 * a + t % 12 = t by omega]; exact t2)
      omega
    · have k1 := h.2.1 (t / 12) (by omega) (by rw [show 12 * (t / 12) + b = t by omega]; exact t2)
      omega
  · exact i2.trans (eB_y hb h1 h2 hab h.1).symm
theorem eV_no {so : So} {mu : Nat → Int32} {bd kc hc : Int32} {n a b : Nat} (ha : a < 12) (hb : b < 12) (h : ¬ edOk mu a b) : eT (eV so mu bd kc hc n) a b = nI 1000000000 := by
  show cE mu (eBase so mu bd kc hc n) 144 (12 * a + b) = _
  rcases cE_spec mu (eBase so mu bd kc hc n) (12 * a + b) 144 with ⟨-, i2⟩ | ⟨i1, i2⟩
  · exact i2
  · by_cases c2 : mu (12 * a + b) = nI 2
    · exact i2.trans (eB_2 hb c2).symm
    · exfalso
      refine h ⟨c2, fun a9 h3 h4 => Classical.byContradiction (fun ne => i1 (12 * a9 + b) (by omega) h4 ?_), fun b9 h3 h4 => Classical.byContradiction (fun ne => i1 (12 * a + b9) (by omega) h4 ?_)⟩
      · unfold confl; omega
      · unfold confl; omega
/-- what a night is weighed from: the songs that are there and their numbers, wishes that speak of them alone, what joins cost -/
def nEnv (so : So) (mu : Nat → Int32) (bd kc hc : Int32) (n m cnt : Nat) (nm : Nat → Nat) (E : Nat → Nat → Int32) : Prop := m = 12 ∧ cnt ≤ 12 ∧ (∀ i, i < cnt → nm i < 12 ∧ ∃ σ, so (nm i) = some σ) ∧ (∀ i k, i < k → k < cnt → nm i < nm k) ∧ (∀ j, j < 12 → (so j).isSome = true → ∃ i, i < cnt ∧ nm i = j) ∧ (∀ a b, a < 12 → b < 12 → mu (12 * a + b) = nI 1 → (so a).isSome = true ∧ (so b).isSome = true) ∧ (∀ a b σ τ, a < 12 → b < 12 → so a = some σ → so b = some τ → (cLeast bd kc hc σ τ n = nI 1073741824 ∧ bestV bd kc hc σ τ n = nI 1000000000) ∨ ∃ D : Nat, D ≤ 2265000 ∧ cLeast bd kc hc σ τ n = nI D ∧ bestV bd kc hc σ τ n = nI D) ∧ ∀ i k, i < cnt → k < cnt → E i k = stepC so mu m bd kc hc n (nm i) (nm k)
theorem nm_inj {nm : Nat → Nat} {cnt i k : Nat} (h : ∀ i k, i < k → k < cnt → nm i < nm k) (hi : i < cnt) (hk : k < cnt) (e : nm i = nm k) : i = k := by
  rcases Nat.lt_trichotomy i k with c | c | c
  · have := h i k c hk; omega
  · exact c
  · have := h k i c hi; omega
/-- of two songs that must be side by side the second one is played at once behind the first one -/
def gd (mu : Nat → Int32) (nm : Nat → Nat) (cnt q z : Nat) : Prop := (∀ a b, a < cnt → b < cnt → mu (12 * nm a + nm b) = nI 1 → ¬ q / 2 ^ b % 2 = 0 → ¬ q / 2 ^ a % 2 = 0 ∧ ¬ a = z) ∧ ∀ a b, a < cnt → b < cnt → mu (12 * nm a + nm b) = nI 1 → ¬ q / 2 ^ a % 2 = 0 → ¬ a = z → ¬ q / 2 ^ b % 2 = 0
/-- the songs left are those that were not played -/
def rel (nm : Nat → Nat) (cnt q l : Nat) : Prop := l < 4096 ∧ ∀ s, ¬ l / 2 ^ s % 2 = 0 ↔ ∃ j, j < cnt ∧ nm j = s ∧ q / 2 ^ j % 2 = 0
def smv (B : Nat) (v w : Int32) : Prop := (v = nI 1073741824 ∧ w = nI 1000000000) ∨ ∃ D : Nat, D ≤ B ∧ v = nI D ∧ w = nI D
theorem rel_or {nm : Nat → Nat} {cnt q l j : Nat} (hmo : ∀ i k, i < k → k < cnt → nm i < nm k) (h : rel nm cnt q l) (hj : j < cnt) : rel nm cnt (q ||| 2 ^ j) (rm l (nm j)) := by
  obtain ⟨h1, h2⟩ := h
  refine ⟨Nat.lt_of_le_of_lt Nat.and_le_left h1, fun s => ?_⟩
  rw [rm_bit h1]
  by_cases e : s = nm j
  · rw [if_pos e]
    constructor
    · intro h3; exact absurd rfl h3
    · rintro ⟨i, i1, i2, i3⟩
      have e2 : i = j := nm_inj hmo i1 hj (i2.trans e)
      rw [or_bit, if_pos e2] at i3
      omega
  · rw [if_neg e, h2 s]
    constructor
    · rintro ⟨i, i1, i2, i3⟩
      exact ⟨i, i1, i2, by rw [or_bit, if_neg (fun e2 => e (by rw [← i2, e2]))]; exact i3⟩
    · rintro ⟨i, i1, i2, i3⟩
      rw [or_bit, if_neg (fun e2 => e (by rw [← i2, e2]))] at i3
      exact ⟨i, i1, i2, i3⟩
theorem cntB_all {q : Nat} : ∀ n, cntB q n = n → ∀ i, i < n → ¬ q / 2 ^ i % 2 = 0
  | 0, _, i, h => absurd h (Nat.not_lt_zero _)
  | n + 1, h, i, hi => by
    have e : cntB q (n + 1) = cntB q n + q / 2 ^ n % 2 := rfl
    have h1 := cntB_le q n
    have h2 := Nat.mod_lt (q / 2 ^ n) (show 0 < 2 by omega)
    by_cases c : i = n
    · rw [c]; omega
    · exact cntB_all n (by omega) i (by omega)
theorem cntB_ne {q : Nat} : ∀ n, cntB q n < n → ∃ i, i < n ∧ q / 2 ^ i % 2 = 0
  | 0, h => absurd h (Nat.not_lt_zero _)
  | n + 1, h => by
    have e : cntB q (n + 1) = cntB q n + q / 2 ^ n % 2 := rfl
    by_cases c : q / 2 ^ n % 2 = 0
    · exact ⟨n, by omega, c⟩
    · obtain ⟨i, i1, i2⟩ := cntB_ne (q := q) n (by omega)
      exact ⟨i, by omega, i2⟩
theorem full_eq {q cnt : Nat} (hq : q < 2 ^ cnt) (h : ∀ i, i < cnt → ¬ q / 2 ^ i % 2 = 0) : q = 2 ^ cnt - 1 := by
  apply Nat.eq_of_testBit_eq
  intro i
  rw [Nat.testBit_two_pow_sub_one]
  by_cases c : i < cnt
  · have h1 := h i c
    cases e : q.testBit i
    · exact absurd (bit_tb.mpr e) h1
    · simp [c]
  · rw [Nat.testBit_lt_two_pow (Nat.lt_of_lt_of_le hq (Nat.pow_le_pow_right (by omega) (by omega)))]
    simp [c]
theorem rel_full {nm : Nat → Nat} {cnt q l : Nat} (h : rel nm cnt q l) (ha : ∀ i, i < cnt → ¬ q / 2 ^ i % 2 = 0) : l = 0 := by
  apply Nat.eq_of_testBit_eq
  intro i
  rw [Nat.zero_testBit]
  refine bit_tb.mp (Classical.byContradiction (fun c => ?_))
  obtain ⟨j, j1, -, j3⟩ := (h.2 i).mp c
  exact ha j j1 j3
theorem wS_zero {E : Nat → Nat → Int32} {bd : Nat → Prop} [∀ s, Decidable (bd s)] {Wf : Nat → Nat → Int32} {z : Nat} : ∀ k, wS E bd Wf 0 z k = wS E bd Wf 0 z 0
  | 0 => rfl
  | k + 1 => by
    exact (wS_no (E := E) (bd := bd) (Wf := Wf) (l := 0) (z := z) (k := k) (fun h => h.1 (by rw [Nat.zero_div]))).symm.trans (wS_zero k)
theorem wS_min {E : Nat → Nat → Int32} {bd : Nat → Prop} [∀ s, Decidable (bd s)] {Wf : Nat → Nat → Int32} {l z k : Nat} (h1 : ¬ l / 2 ^ k % 2 = 0) (h2 : ¬ E z k = nI 1000000000) (h3 : Wf (rm l k) k < nI 1000000000) : ∀ m, k < m → wS E bd Wf l z m ≤ Wf (rm l k) k + E z k
  | 0, hk => absurd hk (Nat.not_lt_zero _)
  | m + 1, hk => by
    by_cases c : ¬ l / 2 ^ m % 2 = 0 ∧ ¬ E z m = nI 1000000000 ∧ Wf (rm l m) m < nI 1000000000 ∧ Wf (rm l m) m + E z m < wS E bd Wf l z m
    · rw [← wS_yes c]
      by_cases e : k = m
      · rw [e]; exact Int32.le_refl _
      · exact Int32.le_trans (Int32.le_of_lt c.2.2.2) (wS_min h1 h2 h3 m (by omega))
    · rw [← wS_no c]
      by_cases e : k = m
      · rw [e] at h1 h2 h3 ⊢
        exact Int32.not_lt.mp (fun q => c ⟨h1, h2, h3, q⟩)
      · exact wS_min h1 h2 h3 m (by omega)
theorem bd0 {mu : Nat → Int32} {z : Nat} (h : ∀ k, k < 12 → ¬ mu (12 * z + k) = nI 1) : ¬ bdT mu (nI 0) z := fun q => q (by
  have hb : ∀ k, bIx z (nI 0) k = 12 * z + k := fun k => if_pos (by decide)
  unfold boundV boundN
  rw [if_pos (fun k hk => by show ¬ mu (bIx z (nI 0) k) = nI 1; rw [hb k]; exact h k hk)]
  rfl)
theorem bd1 {mu : Nat → Int32} {z : Nat} : ¬ bdT mu (nI 1) z ↔ ∀ k, k < 12 → ¬ mu (12 * k + z) = nI 1 := by
  have hb : ∀ k, bIx z (nI 1) k = 12 * k + z := fun k => if_neg (by decide)
  show ¬ ¬ boundV mu z (nI 1) = 0 ↔ _
  unfold boundV boundN
  by_cases c : ∀ k, k < 12 → ¬ mu (bIx z (nI 1) k) = nI 1
  · rw [if_pos c]
    exact ⟨fun _ k hk => by rw [← hb k]; exact c k hk, fun _ h => h rfl⟩
  · rw [if_neg c]
    exact ⟨fun h => absurd (Classical.not_not.mp h) (by decide), fun h => absurd (fun k hk => by rw [hb k]; exact h k hk) c⟩
theorem nt_step {so : So} {mu : Nat → Int32} {bd kc hc : Int32} {n m a b : Nat} {e9 : Int32} (he : e9 = stepC so mu m bd kc hc n a b) (h : e9 < nI 1073741824) : ¬ a = b ∧ okStep mu m a b := Classical.byContradiction (fun c => by
  rw [he, ← stepC_n c] at h
  exact absurd h (by decide))
/-- behind a song that must have another one at once behind it, and has not, there is no way -/
theorem nt_dead {so : So} {mu : Nat → Int32} {bd kc hc : Int32} {n m cnt : Nat} {nm : Nat → Nat} {E : Nat → Nat → Int32} (hv : nEnv so mu bd kc hc n m cnt nm E) : ∀ (d q z : Nat), q < 2 ^ cnt → z < cnt → 2 ^ cnt - 1 - q ≤ d → (∃ a b, a < cnt ∧ b < cnt ∧ mu (12 * nm a + nm b) = nI 1 ∧ ¬ q / 2 ^ a % 2 = 0 ∧ ¬ a = z ∧ q / 2 ^ b % 2 = 0) → rR E cnt q z = nI 1073741824 := by
  obtain ⟨hm, hc12, hN, hmo, -, -, -, hE⟩ := hv
  intro d
  induction d with
  | zero =>
    rintro q z hq hz hd ⟨a, b, -, hb, -, -, -, h4⟩
    rw [show q = 2 ^ cnt - 1 by omega, full_bit hb] at h4
    exact absurd h4 (by decide)
  | succ d ih =>
    rintro q z hq hz hd ⟨a, b, ha, hb, h1, h2, h3, h4⟩
    have hf : q < 2 ^ cnt - 1 := by
      rcases Nat.lt_or_ge q (2 ^ cnt - 1) with c | c
      · exact c
      · rw [show q = 2 ^ cnt - 1 by omega, full_bit hb] at h4
        exact absurd h4 (by decide)
    rw [rR_eq hf]
    rcases nLn_end (E := E) (Wf := rR E cnt) (q := q) (z := z) cnt (by omega) with ⟨-, i2, -⟩ | ⟨x, x1, -, x3, x4, -, x6, -⟩
    · exact i2
    · exfalso
      by_cases e : x = b
      · have hs := nt_step (hE z x hz x1) x4
        have h5 := ((okS_iff (show nm z < m by have := (hN z hz).1; omega)).mp hs.2).2 (nm a) (by have := (hN a ha).1; omega) (by rw [m12c, e]; exact h1)
        exact h3 (nm_inj hmo ha hz h5)
      · have hax : ¬ a = x := fun e2 => h2 (by rw [e2]; exact x3)
        have hd9 := ih (q ||| 2 ^ x) x (or_lt hq x1) x1 (by have := or_gt x3; omega) ⟨a, b, ha, hb, h1, by rw [or_bit, if_neg hax]; exact h2, hax, by rw [or_bit, if_neg (fun e2 => e e2.symm)]; exact h4⟩
        unfold cO at x6
        rw [if_pos hd9] at x6
        exact absurd x6 (by decide)
theorem nt_cand {so : So} {mu : Nat → Int32} {bd kc hc : Int32} {n m cnt : Nat} {nm : Nat → Nat} {E : Nat → Nat → Int32} (hv : nEnv so mu bd kc hc n m cnt nm E) {q z j B : Nat} {w : Int32} (hq : q < 2 ^ cnt) (hz : z < cnt) (hqz : ¬ q / 2 ^ z % 2 = 0) (hj : j < cnt) (hqj : q / 2 ^ j % 2 = 0) (hg : gd mu nm cnt q z) (hB : B ≤ 24915000) (ih : gd mu nm cnt (q ||| 2 ^ j) j → smv B (rR E cnt (q ||| 2 ^ j) j) w) :
    (¬ (E z j < nI 1073741824 ∧ cO E (rR E cnt) q z j < nI 1073741824) ∧ ¬ (¬ eT (eV so mu bd kc hc n) (nm z) (nm j) = nI 1000000000 ∧ w < nI 1000000000)) ∨
    ∃ D : Nat, D ≤ B + 2265000 ∧ E z j < nI 1073741824 ∧ cO E (rR E cnt) q z j = nI D ∧ ¬ eT (eV so mu bd kc hc n) (nm z) (nm j) = nI 1000000000 ∧ w < nI 1000000000 ∧ w + eT (eV so mu bd kc hc n) (nm z) (nm j) = nI D ∧ gd mu nm cnt (q ||| 2 ^ j) j ∧ rR E cnt (q ||| 2 ^ j) j < nI 1073741824 := by
  obtain ⟨hm, hc12, hN, hmo, hall, hmu, hcost, hE⟩ := id hv
  obtain ⟨z12, σ, hσ⟩ := hN z hz
  obtain ⟨j12, τ, hτ⟩ := hN j hj
  have hzj : ¬ z = j := fun e => hqz (by rw [e]; exact hqj)
  have hnzj : ¬ nm z = nm j := fun e => hzj (nm_inj hmo hz hj e)
  by_cases ok : okStep mu m (nm z) (nm j)
  · have okx := (okS_iff (show nm z < m by omega)).mp ok
    by_cases col : ∀ b9, b9 < 12 → mu (12 * nm z + b9) = nI 1 → b9 = nm j
    · have eE := (hE z j hz hj).trans (stepC_y (bd := bd) (kc := kc) (hc := hc) (n := n) hσ hτ hnzj ok).symm
      have hed : edOk mu (nm z) (nm j) := ⟨by have h9 := okx.1; rw [m12c] at h9; exact h9, fun a9 h3 h4 => okx.2 a9 (by omega) (by rw [m12c]; exact h4), col⟩
      have eR := eV_yes (bd := bd) (kc := kc) (hc := hc) (n := n) z12 j12 hσ hτ hnzj hed
      rcases hcost (nm z) (nm j) σ τ z12 j12 hσ hτ with ⟨c1, c2⟩ | ⟨D1, d1, d2, d3⟩
      · left
        refine ⟨fun h => ?_, fun h => h.1 (eR.trans c2)⟩
        rw [eE, c1] at h
        exact absurd h.1 (by decide)
      · have hg2 : gd mu nm cnt (q ||| 2 ^ j) j := by
          refine ⟨fun a b ha hb h1 h2 => ?_, fun a b ha hb h1 h2 h3 => ?_⟩
          · by_cases e : b = j
            · have ea : nm a = nm z := okx.2 (nm a) (by have := (hN a ha).1; omega) (by rw [m12c, ← e]; exact h1)
              rw [nm_inj hmo ha hz ea]
              exact ⟨by rw [or_bit, if_neg hzj]; exact hqz, hzj⟩
            · rw [or_bit, if_neg e] at h2
              have h5 := hg.1 a b ha hb h1 h2
              have haj : ¬ a = j := fun e2 => h5.1 (by rw [e2]; exact hqj)
              exact ⟨by rw [or_bit, if_neg haj]; exact h5.1, haj⟩
          · rw [or_bit, if_neg h3] at h2
            by_cases e : b = j
            · rw [or_bit, if_pos e]; decide
            · rw [or_bit, if_neg e]
              by_cases e2 : a = z
              · exact absurd (nm_inj hmo hb hj (col (nm b) (hN b hb).1 (by rw [← e2]; exact h1))) e
              · exact hg.2 a b ha hb h1 h2 e2
        rcases ih hg2 with ⟨i1, i2⟩ | ⟨D2, e1, e2, e3⟩
        · left
          refine ⟨fun h => ?_, fun h => ?_⟩
          · have h2 := h.2
            unfold cO at h2
            rw [if_pos i1] at h2
            exact absurd h2 (by decide)
          · rw [i2] at h
            exact absurd h.2 (by decide)
        · right
          refine ⟨D1 + D2, by omega, ?_, ?_, ?_, ?_, ?_, hg2, ?_⟩
          · rw [eE, d2]; exact (nI_ltI (by omega) (by omega)).mpr (by omega)
          · unfold cO
            rw [if_neg (by rw [e2]; exact fun h => absurd ((nI_eq (by omega) (by omega)).mp h) (by omega)), eE, d2, e2, nI_add]
          · rw [eR, d3]; exact fun h => absurd ((nI_eq (by omega) (by omega)).mp h) (by omega)
          · rw [e3]; exact (nI_ltI (by omega) (by omega)).mpr (by omega)
          · rw [e3, eR, d3, nI_add, Nat.add_comm]
          · rw [e2]; exact (nI_ltI (by omega) (by omega)).mpr (by omega)
    · obtain ⟨b9, hb9, hm9, hne⟩ : ∃ b9, b9 < 12 ∧ mu (12 * nm z + b9) = nI 1 ∧ ¬ b9 = nm j := Classical.byContradiction (fun c => col (fun b9 h1 h2 => Classical.byContradiction (fun h3 => c ⟨b9, h1, h2, h3⟩)))
      obtain ⟨y, hy, ey⟩ := hall b9 hb9 (hmu (nm z) b9 z12 hb9 hm9).2
      subst ey
      have hqy : q / 2 ^ y % 2 = 0 := Classical.byContradiction (fun c => (hg.1 z y hz hy hm9 c).2 rfl)
      have hyj : ¬ y = j := fun e => hne (by rw [e])
      have hd9 := nt_dead hv (2 ^ cnt - 1 - (q ||| 2 ^ j)) (q ||| 2 ^ j) j (or_lt hq hj) hj (Nat.le_refl _) ⟨z, y, hz, hy, hm9, by rw [or_bit, if_neg hzj]; exact hqz, hzj, by rw [or_bit, if_neg hyj]; exact hqy⟩
      have eR := eV_no (so := so) (bd := bd) (kc := kc) (hc := hc) (n := n) z12 j12 (fun c : edOk mu (nm z) (nm j) => col c.2.2)
      left
      refine ⟨fun h => ?_, fun h => h.1 eR⟩
      have h2 := h.2
      unfold cO at h2
      rw [if_pos hd9] at h2
      exact absurd h2 (by decide)
  · have eE := (hE z j hz hj).trans (stepC_n (so := so) (bd := bd) (kc := kc) (hc := hc) (n := n) (fun c => ok c.2)).symm
    have eR := eV_no (so := so) (bd := bd) (kc := kc) (hc := hc) (n := n) z12 j12 (fun c : edOk mu (nm z) (nm j) => ok ((okS_iff (show nm z < m by omega)).mpr ⟨by rw [m12c]; exact c.1, fun a9 h3 h4 => c.2.1 a9 (by omega) (by rw [m12c] at h4; exact h4)⟩))
    left
    refine ⟨fun h => ?_, fun h => h.1 eR⟩
    rw [eE] at h
    exact absurd h.1 (by decide)
/-- the least of one side is the least of the other, and they take the same song next -/
theorem nt_min {mu : Nat → Int32} {cnt : Nat} {nm : Nat → Nat} {E X : Nat → Nat → Int32} {bq : Nat → Prop} [∀ s, Decidable (bq s)] {q l z B : Nat} (hc12 : cnt ≤ 12) (hN : ∀ i, i < cnt → nm i < 12) (hmo : ∀ i k, i < k → k < cnt → nm i < nm k) (hl0 : ¬ l = 0) (hr : rel nm cnt q l) (hB : B ≤ 27180000)
    (cand : ∀ j, j < cnt → q / 2 ^ j % 2 = 0 → (¬ (E z j < nI 1073741824 ∧ cO E (rR E cnt) q z j < nI 1073741824) ∧ ¬ (¬ X (nm z) (nm j) = nI 1000000000 ∧ wW X bq (rm l (nm j)) (nm j) < nI 1000000000)) ∨
      ∃ D : Nat, D ≤ B ∧ E z j < nI 1073741824 ∧ cO E (rR E cnt) q z j = nI D ∧ ¬ X (nm z) (nm j) = nI 1000000000 ∧ wW X bq (rm l (nm j)) (nm j) < nI 1000000000 ∧ wW X bq (rm l (nm j)) (nm j) + X (nm z) (nm j) = nI D ∧ gd mu nm cnt (q ||| 2 ^ j) j ∧ rR E cnt (q ||| 2 ^ j) j < nI 1073741824) :
    smv B (nLn E (rR E cnt) q z cnt).1 (wW X bq l (nm z)) ∧ ((nLn E (rR E cnt) q z cnt).1 < nI 1073741824 → ∃ x, x < cnt ∧ q / 2 ^ x % 2 = 0 ∧ (nLn E (rR E cnt) q z cnt).2 = nI x ∧ nP X (wW X bq) l (nm z) (nm x) ∧ (∀ k, k < nm x → ¬ nP X (wW X bq) l (nm z) k) ∧ gd mu nm cnt (q ||| 2 ^ x) x ∧ rR E cnt (q ||| 2 ^ x) x < nI 1073741824) := by
  have hW := wW_eq (E := X) (bd := bq) (z := nm z) hr.1
  rcases nLn_end (E := E) (Wf := rR E cnt) (q := q) (z := z) cnt (by omega) with ⟨i1, i2, i3⟩ | ⟨x, x1, x2, x3, x4, x5, x6, x7, x8⟩
  · constructor
    · left
      refine ⟨i2, ?_⟩
      rw [hW]
      refine Classical.byContradiction (fun ne => ?_)
      obtain ⟨k, k1, k2, k3, k4, k5⟩ := wS_at hl0 12 (lt_ne (wS_le 12) ne)
      obtain ⟨j, hj, ej, hqj⟩ := (hr.2 k).mp k2
      subst ej
      rcases cand j hj hqj with ⟨-, c2⟩ | ⟨D, d1, d2, d3, -⟩
      · exact c2 ⟨k3, k4⟩
      · exact i3 j hj hqj d2 (by rw [d3]; exact (nI_ltI (by omega) (by omega)).mpr (by omega))
    · intro h
      rw [i2] at h
      exact absurd h (by decide)
  · rcases cand x x1 x3 with ⟨c1, -⟩ | ⟨D, d1, d2, d3, d4, d5, d6, d7, d8⟩
    · exact absurd ⟨x4, x6⟩ c1
    · have hk : ¬ l / 2 ^ nm x % 2 = 0 := (hr.2 _).mpr ⟨x, x1, rfl, x3⟩
      have hle : wS X bq (wW X bq) l (nm z) 12 ≤ nI D := by
        rw [← d6]
        exact wS_min hk d4 d5 12 (hN x x1)
      have hlt : wS X bq (wW X bq) l (nm z) 12 < nI 1000000000 := Int32.lt_of_le_of_lt hle ((nI_ltI (by omega) (by omega)).mpr (by omega))
      have hww : wS X bq (wW X bq) l (nm z) 12 = nI D := by
        obtain ⟨k, k1, k2, k3, k4, k5⟩ := wS_at hl0 12 hlt
        obtain ⟨j, hj, ej, hqj⟩ := (hr.2 k).mp k2
        subst ej
        rcases cand j hj hqj with ⟨-, c2⟩ | ⟨D9, e1, e2, e3, e4, e5, e6, -⟩
        · exact absurd ⟨k3, k4⟩ c2
        · have h1 := x7 j hj hqj e2
          rw [d3, e3] at h1
          have h2 := (nI_leI (by omega) (by omega)).mp h1
          rw [e6] at k5
          rw [← k5] at hle
          have h3 := (nI_leI (by omega) (by omega)).mp hle
          rw [← k5, show D9 = D by omega]
      refine ⟨Or.inr ⟨D, d1, by rw [x5, d3], by rw [hW]; exact hww⟩, fun _ => ⟨x, x1, x3, x2, ⟨hk, d4, d5, by rw [d6, hW, hww]⟩, fun k hk2 hp => ?_, d7, d8⟩⟩
      obtain ⟨p1, p2, p3, p4⟩ := hp
      obtain ⟨j, hj, ej, hqj⟩ := (hr.2 k).mp p1
      subst ej
      have hjx : j < x := by
        rcases Nat.lt_trichotomy j x with h | h | h
        · exact h
        · rw [h] at hk2; omega
        · have := hmo x j h hj; omega
      rcases cand j hj hqj with ⟨-, c2⟩ | ⟨D9, e1, e2, e3, e4, e5, e6, -⟩
      · exact c2 ⟨p2, p3⟩
      · have h1 := x8 j hjx hqj e2
        rw [d3, e3] at h1
        rw [e6, hW, hww] at p4
        have h2 := (nI_eq (by omega) (by omega)).mp p4
        have h3 := (nI_ltI (by omega) (by omega)).mp h1
        omega
theorem nt_main {so : So} {mu : Nat → Int32} {bd kc hc : Int32} {n m cnt : Nat} {nm : Nat → Nat} {E : Nat → Nat → Int32} (hv : nEnv so mu bd kc hc n m cnt nm E) : ∀ (d q l z : Nat), q < 2 ^ cnt → z < cnt → ¬ q / 2 ^ z % 2 = 0 → cntB q cnt + d = cnt → rel nm cnt q l → gd mu nm cnt q z → smv (d * 2265000) (rR E cnt q z) (wW (eT (eV so mu bd kc hc n)) (bdT mu (nI 0)) l (nm z)) := by
  obtain ⟨hm, hc12, hN, hmo, hall, hmu, hcost, hE⟩ := id hv
  intro d
  induction d with
  | zero =>
    intro q l z hq hz hqz hd hr hg
    have hb := cntB_all (q := q) cnt (by omega)
    have hl0 : l = 0 := rel_full hr hb
    have hqf : q = 2 ^ cnt - 1 := full_eq hq hb
    right
    refine ⟨0, by omega, by rw [hqf, rR_full], ?_⟩
    rw [wW_eq hr.1, hl0, wS_zero]
    unfold wS
    refine if_pos ⟨rfl, bd0 (fun k hk hk1 => ?_)⟩
    obtain ⟨y, hy, ey⟩ := hall k hk (hmu (nm z) k (hN z hz).1 hk hk1).2
    subst ey
    exact (hg.1 z y hz hy hk1 (hb y hy)).2 rfl
  | succ d ih =>
    intro q l z hq hz hqz hd hr hg
    have hf : q < 2 ^ cnt - 1 := by
      rcases Nat.lt_or_ge q (2 ^ cnt - 1) with c | c
      · exact c
      · rw [show q = 2 ^ cnt - 1 by omega, cntB_full cnt (Nat.le_refl _)] at hd
        omega
    obtain ⟨j0, hj0, hqj0⟩ := cntB_ne (q := q) cnt (by omega)
    have hl0 : ¬ l = 0 := fun e => (hr.2 (nm j0)).mpr ⟨j0, hj0, rfl, hqj0⟩ (by rw [e, Nat.zero_div])
    rw [rR_eq hf]
    refine (nt_min (mu := mu) hc12 (fun i hi => (hN i hi).1) hmo hl0 hr (B := (d + 1) * 2265000) (by omega) (fun j hj hqj => ?_)).1
    rw [show (d + 1) * 2265000 = d * 2265000 + 2265000 by omega]
    refine nt_cand hv hq hz hqz hj hqj hg (by omega) (fun hg2 => ?_)
    exact ih (q ||| 2 ^ j) (rm l (nm j)) j (or_lt hq hj) hj (by rw [or_bit, if_pos rfl]; decide) (by rw [cntB_or hqj, if_pos hj]; omega) (rel_or hmo hr hj) hg2
theorem nB_end {W : Nat → Nat → Int32} {b1 : Nat → Prop} [∀ s, Decidable (b1 s)] {all : Nat} : ∀ m, ((nB W b1 all m).2 = 12 ∧ (nB W b1 all m).1 = nI 1000000000 ∧ ∀ z, z < m → ¬ all / 2 ^ z % 2 = 0 → ¬ b1 z → ¬ W (rm all z) z < nI 1000000000) ∨
    ∃ x, x < m ∧ (nB W b1 all m).2 = x ∧ ¬ all / 2 ^ x % 2 = 0 ∧ ¬ b1 x ∧ (nB W b1 all m).1 = W (rm all x) x ∧ W (rm all x) x < nI 1000000000 ∧ (∀ z, z < m → ¬ all / 2 ^ z % 2 = 0 → ¬ b1 z → W (rm all x) x ≤ W (rm all z) z) ∧ ∀ z, z < x → ¬ all / 2 ^ z % 2 = 0 → ¬ b1 z → W (rm all x) x < W (rm all z) z
  | 0 => Or.inl ⟨rfl, rfl, fun j hj => absurd hj (Nat.not_lt_zero _)⟩
  | m + 1 => by
    have i := nB_end (W := W) (b1 := b1) (all := all) m
    have e : nB W b1 all (m + 1) = if ¬ all / 2 ^ m % 2 = 0 ∧ ¬ b1 m ∧ W (rm all m) m < (nB W b1 all m).1 then (W (rm all m) m, m) else nB W b1 all m := rfl
    rw [e]
    by_cases c : ¬ all / 2 ^ m % 2 = 0 ∧ ¬ b1 m ∧ W (rm all m) m < (nB W b1 all m).1
    · rw [if_pos c]
      right
      obtain ⟨c1, c2, c3⟩ := c
      refine ⟨m, by omega, rfl, c1, c2, rfl, ?_, ?_, ?_⟩
      · rcases i with ⟨-, i2, -⟩ | ⟨x, -, -, -, -, i5, i6, -⟩
        · rw [i2] at c3; exact c3
        · rw [i5] at c3; exact Int32.lt_trans c3 i6
      · intro j hj h1 h2
        rcases Nat.lt_or_ge j m with h | h
        · rcases i with ⟨-, i2, i3⟩ | ⟨x, -, -, -, -, i5, i6, i7, -⟩
          · rw [i2] at c3
            exact Int32.le_trans (Int32.le_of_lt c3) (Int32.not_lt.mp (i3 j h h1 h2))
          · rw [i5] at c3
            exact Int32.le_trans (Int32.le_of_lt c3) (i7 j h h1 h2)
        · rw [show j = m by omega]; exact Int32.le_refl _
      · intro j h h1 h2
        rcases i with ⟨-, i2, i3⟩ | ⟨x, -, -, -, -, i5, i6, i7, -⟩
        · rw [i2] at c3
          exact Int32.lt_of_lt_of_le c3 (Int32.not_lt.mp (i3 j h h1 h2))
        · rw [i5] at c3
          exact Int32.lt_of_lt_of_le c3 (i7 j h h1 h2)
    · rw [if_neg c]
      rcases i with ⟨i1, i2, i3⟩ | ⟨x, x1, i2, i3, i4, i5, i6, i7, i8⟩
      · refine Or.inl ⟨i1, i2, fun j hj h1 h2 => ?_⟩
        by_cases e2 : j = m
        · rw [e2] at h1 h2 ⊢
          intro q9
          exact c ⟨h1, h2, by rw [i2]; exact q9⟩
        · exact i3 j (by omega) h1 h2
      · refine Or.inr ⟨x, by omega, i2, i3, i4, i5, i6, fun j hj h1 h2 => ?_, i8⟩
        by_cases e2 : j = m
        · rw [e2] at h1 h2 ⊢
          exact Int32.not_lt.mp (fun q9 => c ⟨h1, h2, by rw [i5]; exact q9⟩)
        · exact i7 j (by omega) h1 h2
theorem pw_bit {k i : Nat} : 2 ^ k / 2 ^ i % 2 = if i = k then 1 else 0 := by
  have h := or_bit (q := 0) (k := k) (i := i)
  rw [Nat.zero_or, Nat.zero_div] at h
  exact h
theorem pw_ne {k i : Nat} (h : ¬ 2 ^ k / 2 ^ i % 2 = 0) : i = k := Classical.byContradiction (fun c => h (by rw [pw_bit, if_neg c]))
/-- the songs that are there, as bits -/
def allB2 (nm : Nat → Nat) (cnt all : Nat) : Prop := all < 4096 ∧ ∀ s, ¬ all / 2 ^ s % 2 = 0 ↔ ∃ j, j < cnt ∧ nm j = s
theorem rel_one {nm : Nat → Nat} {cnt all i : Nat} (hmo : ∀ i k, i < k → k < cnt → nm i < nm k) (ha : allB2 nm cnt all) (hi : i < cnt) : rel nm cnt (2 ^ i) (rm all (nm i)) := by
  refine ⟨Nat.lt_of_le_of_lt Nat.and_le_left ha.1, fun s => ?_⟩
  rw [rm_bit ha.1]
  by_cases e : s = nm i
  · rw [if_pos e]
    constructor
    · intro h3; exact absurd rfl h3
    · rintro ⟨j, j1, j2, j3⟩
      rw [pw_bit, if_pos (nm_inj hmo j1 hi (j2.trans e))] at j3
      omega
  · rw [if_neg e, ha.2 s]
    constructor
    · rintro ⟨j, j1, j2⟩
      exact ⟨j, j1, j2, by rw [pw_bit, if_neg (fun e2 => e (by rw [← j2, e2]))]⟩
    · rintro ⟨j, j1, j2, -⟩
      exact ⟨j, j1, j2⟩
theorem gd_one {mu : Nat → Int32} {nm : Nat → Nat} {cnt i : Nat} (hN : ∀ i, i < cnt → nm i < 12) (h : ∀ k, k < 12 → ¬ mu (12 * k + nm i) = nI 1) : gd mu nm cnt (2 ^ i) i := by
  refine ⟨fun a b ha hb h1 h2 => ?_, fun a b ha hb h1 h2 h3 => absurd (pw_ne h2) h3⟩
  rw [pw_ne h2] at h1
  exact absurd h1 (h (nm a) (hN a ha))
/-- the first song of the night is one and the same -/
theorem nt_first {so : So} {mu b : Nat → Int32} {bd kc hc : Int32} {n m cnt all : Nat} {nm : Nat → Nat} {E : Nat → Nat → Int32} (hv : nEnv so mu bd kc hc n m cnt nm E) (ha : allB2 nm cnt all) (hb : ∀ i, i < cnt → b i = b2i (nMst mu (nm i) m = 0)) :
    ((lF b (rR E cnt) cnt).2 = (-1) ∧ (nB (wW (eT (eV so mu bd kc hc n)) (bdT mu (nI 0))) (bdT mu (nI 1)) all m).2 = 12) ∨
    ∃ x, x < cnt ∧ (lF b (rR E cnt) cnt).2 = nI x ∧ (nB (wW (eT (eV so mu bd kc hc n)) (bdT mu (nI 0))) (bdT mu (nI 1)) all m).2 = nm x ∧ (lF b (rR E cnt) cnt).1 = (nB (wW (eT (eV so mu bd kc hc n)) (bdT mu (nI 0))) (bdT mu (nI 1)) all m).1 ∧ gd mu nm cnt (2 ^ x) x ∧ rR E cnt (2 ^ x) x < nI 1073741824 := by
  obtain ⟨hm, hc12, hN, hmo, hall, hmu, hcost, hE⟩ := id hv
  have hbc : ∀ i, i < cnt → (¬ b i = 0 ↔ ¬ bdT mu (nI 1) (nm i)) := by
    intro i hi
    rw [hb i hi, b2i_0, Classical.not_not, nm0, bd1]
    exact ⟨fun h k hk => by have h9 := h k (by omega); rw [m12c] at h9; exact h9, fun h k hk => by rw [m12c]; exact h k (by omega)⟩
  have cand : ∀ i, i < cnt → ¬ b i = 0 → gd mu nm cnt (2 ^ i) i ∧ smv 24915000 (rR E cnt (2 ^ i) i) (wW (eT (eV so mu bd kc hc n)) (bdT mu (nI 0)) (rm all (nm i)) (nm i)) := by
    intro i hi h
    have hg : gd mu nm cnt (2 ^ i) i := gd_one (fun i hi => (hN i hi).1) (bd1.mp ((hbc i hi).mp h))
    refine ⟨hg, ?_⟩
    have h1 := nt_main hv (cnt - 1) (2 ^ i) (rm all (nm i)) i (Nat.pow_lt_pow_right (by omega) hi) hi (by rw [pw_bit, if_pos rfl]; decide) (by rw [cntB_pow, if_pos hi]; omega) (rel_one hmo ha hi) hg
    rcases h1 with h1 | ⟨D, d1, d2, d3⟩
    · exact Or.inl h1
    · exact Or.inr ⟨D, by omega, d2, d3⟩
  rcases lF_end (b := b) (Wf := rR E cnt) cnt with ⟨i1, i2, i3⟩ | ⟨x, x1, x2, x3, x5, x6, x7, x8⟩
  · left
    refine ⟨i1, ?_⟩
    rcases nB_end (W := wW (eT (eV so mu bd kc hc n)) (bdT mu (nI 0))) (b1 := bdT mu (nI 1)) (all := all) m with ⟨j1, -⟩ | ⟨y, y1, y2, y3, y4, y5, y6, -⟩
    · exact j1
    · exfalso
      obtain ⟨j, hj, ej⟩ := (ha.2 y).mp y3
      subst ej
      have hbj := (hbc j hj).mpr y4
      rcases (cand j hj hbj).2 with ⟨-, c2⟩ | ⟨D, d1, d2, d3⟩
      · rw [c2] at y6
        exact absurd y6 (by decide)
      · exact i3 j hj hbj (by rw [d2]; exact (nI_ltI (by omega) (by omega)).mpr (by omega))
  · right
    obtain ⟨hgx, hsx⟩ := cand x x1 x3
    have hkx : ¬ all / 2 ^ nm x % 2 = 0 := (ha.2 _).mpr ⟨x, x1, rfl⟩
    have hx12 := (hN x x1).1
    rcases hsx with ⟨s1, -⟩ | ⟨D, d1, d2, d3⟩
    · rw [s1] at x6
      exact absurd x6 (by decide)
    · rcases nB_end (W := wW (eT (eV so mu bd kc hc n)) (bdT mu (nI 0))) (b1 := bdT mu (nI 1)) (all := all) m with ⟨-, -, j3⟩ | ⟨y, y1, y2, y3, y4, y5, y6, y7, y8⟩
      · exfalso
        exact j3 (nm x) (by omega) hkx ((hbc x x1).mp x3) (by rw [d3]; exact (nI_ltI (by omega) (by omega)).mpr (by omega))
      · obtain ⟨j, hj, ej⟩ := (ha.2 y).mp y3
        subst ej
        have hbj := (hbc j hj).mpr y4
        rcases (cand j hj hbj).2 with ⟨-, c2⟩ | ⟨D9, e1, e2, e3⟩
        · rw [c2] at y6
          exact absurd y6 (by decide)
        · have h1 := x7 j hj hbj
          rw [d2, e2] at h1
          have h2 := (nI_leI (by omega) (by omega)).mp h1
          have h3 := y7 (nm x) (by omega) hkx ((hbc x x1).mp x3)
          rw [d3, e3] at h3
          have h4 := (nI_leI (by omega) (by omega)).mp h3
          have hDD : D9 = D := by omega
          have hjx : j = x := by
            rcases Nat.lt_trichotomy j x with h | h | h
            · have h5 := x8 j h hbj
              rw [d2, e2] at h5
              have h6 := (nI_ltI (by omega) (by omega)).mp h5
              omega
            · exact h
            · have h5 := y8 (nm x) (hmo x j h hj) hkx ((hbc x x1).mp x3)
              rw [d3, e3] at h5
              have h6 := (nI_ltI (by omega) (by omega)).mp h5
              omega
          refine ⟨x, x1, x2, by rw [y2, hjx], ?_, hgx, x6⟩
          rw [x5, y5, d2, e3, hDD]
theorem nxS_at {P : Nat → Prop} [∀ i, Decidable (P i)] {k m : Nat} (hk : k < m) (hp : P k) (hmin : ∀ i, i < k → ¬ P i) : nxS P 0 m = k := by
  have h1 := nxS_first (lo := 0) (Nat.zero_le k) hp m (by omega)
  have h2 := nxS_spec (P := P) (lo := 0) m (by omega)
  rcases Nat.lt_or_ge (nxS P 0 m) k with c | c
  · exact absurd h2 (hmin _ c)
  · omega
/-- and so are those behind it -/
theorem nt_seq {so : So} {mu : Nat → Int32} {bd kc hc : Int32} {n m cnt all x : Nat} {nm : Nat → Nat} {E : Nat → Nat → Int32} (hv : nEnv so mu bd kc hc n m cnt nm E) (ha : allB2 nm cnt all) (hx : x < cnt) (hgx : gd mu nm cnt (2 ^ x) x) (hrx : rR E cnt (2 ^ x) x < nI 1073741824) (hB : (nB (wW (eT (eV so mu bd kc hc n)) (bdT mu (nI 0))) (bdT mu (nI 1)) all m).2 = nm x) :
    ∀ i, i < cnt → rel nm cnt (cSq E (rR E cnt) cnt x i).1 (nS (eT (eV so mu bd kc hc n)) (wW (eT (eV so mu bd kc hc n)) (bdT mu (nI 0))) (bdT mu (nI 1)) all m i).1 ∧ nm (cSq E (rR E cnt) cnt x i).2 = (nS (eT (eV so mu bd kc hc n)) (wW (eT (eV so mu bd kc hc n)) (bdT mu (nI 0))) (bdT mu (nI 1)) all m i).2 ∧ gd mu nm cnt (cSq E (rR E cnt) cnt x i).1 (cSq E (rR E cnt) cnt x i).2 ∧ ¬ (cSq E (rR E cnt) cnt x i).1 / 2 ^ (cSq E (rR E cnt) cnt x i).2 % 2 = 0 := by
  obtain ⟨hm, hc12, hN, hmo, hall, hmu, hcost, hE⟩ := id hv
  intro i
  induction i with
  | zero =>
    intro _
    show rel nm cnt (2 ^ x) (rm all (nB (wW (eT (eV so mu bd kc hc n)) (bdT mu (nI 0))) (bdT mu (nI 1)) all m).2) ∧ nm x = (nB (wW (eT (eV so mu bd kc hc n)) (bdT mu (nI 0))) (bdT mu (nI 1)) all m).2 ∧ gd mu nm cnt (2 ^ x) x ∧ ¬ 2 ^ x / 2 ^ x % 2 = 0
    rw [hB]
    exact ⟨rel_one hmo ha hx, rfl, hgx, by rw [pw_bit, if_pos rfl]; decide⟩
  | succ i ih =>
    intro hi
    obtain ⟨r1, r2, r3, r4⟩ := ih (by omega)
    obtain ⟨a1, a2, a3, a4, a5⟩ := seq_all hc12 hx hrx i (by omega)
    obtain ⟨y, y1, y2, y3, y4, y5, y6⟩ := a5 hi
    have hf : (cSq E (rR E cnt) cnt x i).1 < 2 ^ cnt - 1 := by
      rcases Nat.lt_or_ge (cSq E (rR E cnt) cnt x i).1 (2 ^ cnt - 1) with c | c
      · exact c
      · have e : (cSq E (rR E cnt) cnt x i).1 = 2 ^ cnt - 1 := by omega
        rw [e, cntB_full cnt (Nat.le_refl _)] at a3
        omega
    have hl0 : ¬ (nS (eT (eV so mu bd kc hc n)) (wW (eT (eV so mu bd kc hc n)) (bdT mu (nI 0))) (bdT mu (nI 1)) all m i).1 = 0 := fun e => (r1.2 (nm y)).mpr ⟨y, y1, rfl, y3⟩ (by rw [e, Nat.zero_div])
    have hmin := (nt_min (mu := mu) (E := E) (X := eT (eV so mu bd kc hc n)) (bq := bdT mu (nI 0)) (z := (cSq E (rR E cnt) cnt x i).2) (B := 27180000) hc12 (fun i hi => (hN i hi).1) hmo hl0 r1 (Nat.le_refl _) (fun j hj hqj => by
      refine nt_cand (B := 24915000) hv a1 a2 r4 hj hqj r3 (Nat.le_refl _) (fun hg2 => ?_)
      have h1 := nt_main hv (cnt - (i + 2)) _ _ j (or_lt a1 hj) hj (by rw [or_bit, if_pos rfl]; decide) (by rw [cntB_or hqj, if_pos hj]; omega) (rel_or hmo r1 hj) hg2
      rcases h1 with h1 | ⟨D, d1, d2, d3⟩
      · exact Or.inl h1
      · exact Or.inr ⟨D, by omega, d2, d3⟩)).2 (by rw [← rR_eq hf]; exact a4)
    obtain ⟨x9, z1, z2, z3, z4, z5, z6, z7⟩ := hmin
    have ex : x9 = y := (nI_eq (by omega) (by omega)).mp (z3.symm.trans y2)
    subst ex
    rw [r2] at z4 z5
    have hnx := nxS_at (m := m) (by have := (hN x9 z1).1; omega) z4 z5
    have e1 : (nS (eT (eV so mu bd kc hc n)) (wW (eT (eV so mu bd kc hc n)) (bdT mu (nI 0))) (bdT mu (nI 1)) all m (i + 1)).2 = nm x9 := hnx
    have e2 : (nS (eT (eV so mu bd kc hc n)) (wW (eT (eV so mu bd kc hc n)) (bdT mu (nI 0))) (bdT mu (nI 1)) all m (i + 1)).1 = rm (nS (eT (eV so mu bd kc hc n)) (wW (eT (eV so mu bd kc hc n)) (bdT mu (nI 0))) (bdT mu (nI 1)) all m i).1 (nm x9) := congrArg (rm _) hnx
    rw [e1, e2, y4, y5]
    exact ⟨rel_or hmo r1 z1, rfl, z6, by rw [or_bit, if_pos rfl]; decide⟩
/-- THE NIGHT of the class is THE NIGHT of the reference -/
theorem nt_fin {so : So} {mu b : Nat → Int32} {bd kc hc : Int32} {n m cnt all : Nat} {nm : Nat → Nat} {E : Nat → Nat → Int32} (hv : nEnv so mu bd kc hc n m cnt nm E) (ha : allB2 nm cnt all) (hb : ∀ i, i < cnt → b i = b2i (nMst mu (nm i) m = 0)) :
    ((lF b (rR E cnt) cnt).2 = (-1) ∧ ¬ (nB (wW (eT (eV so mu bd kc hc n)) (bdT mu (nI 0))) (bdT mu (nI 1)) all m).2 < 12) ∨
    (¬ (lF b (rR E cnt) cnt).2 = (-1) ∧ (nB (wW (eT (eV so mu bd kc hc n)) (bdT mu (nI 0))) (bdT mu (nI 1)) all m).2 < 12 ∧ (lF b (rR E cnt) cnt).1 = (nB (wW (eT (eV so mu bd kc hc n)) (bdT mu (nI 0))) (bdT mu (nI 1)) all m).1 ∧
      ∀ x, (lF b (rR E cnt) cnt).2 = nI x → x < cnt → ∀ cr Q, isNight (eT (eV so mu bd kc hc n)) (wW (eT (eV so mu bd kc hc n)) (bdT mu (nI 0))) (bdT mu (nI 1)) all m cr Q → cr = cnt ∧ ∀ i, i < cnt → Q i = nI (nm (cSq E (rR E cnt) cnt x i).2)) := by
  obtain ⟨hm, hc12, hN, hmo, hall, hmu, hcost, hE⟩ := id hv
  rcases nt_first hv ha hb with ⟨h1, h2⟩ | ⟨x, h1, h2, h3, h4, h5, h6⟩
  · left
    exact ⟨h1, by rw [h2]; omega⟩
  · right
    refine ⟨fun q => ?_, by rw [h3]; exact (hN x h1).1, h4, fun x9 hx9 hx9c cr Q hQ => ?_⟩
    · rw [h2] at q
      exact absurd (q ▸ nI_pos (show x < 2 ^ 31 by omega)) (by decide)
    · have ex : x9 = x := (nI_eq (by omega) (by omega)).mp (hx9.symm.trans h2)
      subst ex
      have sq := nt_seq hv ha h1 h5 h6 h3
      obtain ⟨q1, q2, q3, q4⟩ := hQ
      have hcr : cr = cnt := by
        rcases Nat.lt_trichotomy cr cnt with c | c | c
        · exfalso
          obtain ⟨r1, -⟩ := sq (cr - 1) (by omega)
          obtain ⟨-, -, a3, -⟩ := seq_all hc12 h1 h6 (cr - 1) (by omega)
          obtain ⟨j, hj, hqj⟩ := cntB_ne (q := (cSq E (rR E cnt) cnt x9 (cr - 1)).1) cnt (by omega)
          exact (r1.2 (nm j)).mpr ⟨j, hj, rfl, hqj⟩ (by rw [q2, Nat.zero_div])
        · exact c
        · exfalso
          obtain ⟨r1, -⟩ := sq (cnt - 1) (by omega)
          obtain ⟨-, -, a3, -⟩ := seq_all hc12 h1 h6 (cnt - 1) (by omega)
          exact q3 (cnt - 1) (by omega) (rel_full r1 (cntB_all cnt (by omega)))
      refine ⟨hcr, fun i hi => ?_⟩
      rw [q4 i (by omega), (sq i hi).2.1]
