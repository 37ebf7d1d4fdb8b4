/-! THE NIGHT as the reference weighs it -/
def thB (f : Nat → Int32) : Nat → Nat
  | 0 => 0
  | i + 1 => if f i = 0 then thB f i else thB f i ||| 2 ^ i
theorem thB_lt (f : Nat → Int32) : ∀ i, thB f i < 2 ^ i
  | 0 => by show 0 < 1; omega
  | i + 1 => by
    have h := thB_lt f i
    have e : 2 ^ (i + 1) = 2 ^ i + 2 ^ i := by rw [Nat.pow_succ]; omega
    unfold thB
    split
    · omega
    · exact Nat.or_lt_two_pow (by omega) (by omega)
def eBase (so : So) (mu : Nat → Int32) (bd kc hc : Int32) (n q : Nat) : Int32 := match so (q / 12) with
  | none => nI 1000000000
  | some σ => match so (q % 12) with
    | none => nI 1000000000
    | some τ => if q / 12 = q % 12 then nI 1000000000 else if mu q = nI 2 then nI 1000000000 else bestV bd kc hc σ τ n
abbrev confl (t q : Nat) : Prop := (t / 12 = q / 12 ∧ ¬ t % 12 = q % 12) ∨ (t % 12 = q % 12 ∧ ¬ t / 12 = q / 12)
def cE (mu : Nat → Int32) (g : Nat → Int32) : Nat → Nat → Int32
  | 0 => g
  | m + 1 => fun q => if mu m = nI 1 ∧ confl m q then nI 1000000000 else cE mu g m q
def eV (so : So) (mu : Nat → Int32) (bd kc hc : Int32) (n : Nat) : Nat → Int32 := cE mu (eBase so mu bd kc hc n) 144
theorem there_no {R : Nat → Nat → Int32} {so : So} {j : Nat} (h : moAll R so) (hj : j < 12) (h0 : R 0 j = 0) : so j = none := by
  rcases h j hj with ⟨q, -⟩ | ⟨σ, -, q, -⟩
  · exact q
  · rw [q] at h0; exact absurd h0 (by decide)
theorem there_yes {R : Nat → Nat → Int32} {so : So} {j : Nat} (h : moAll R so) (hj : j < 12) (h0 : ¬ R 0 j = 0) : ∃ σ, so j = some σ ∧ moSg R j σ ∧ sgOk σ := by
  rcases h j hj with ⟨-, q⟩ | ⟨σ, q1, -, q2, q3⟩
  · rw [q] at h0; exact absurd rfl h0
  · exact ⟨σ, q1, q2, q3⟩
theorem eB_same {so : So} {mu : Nat → Int32} {bd kc hc : Int32} {n a b : Nat} (hb : b < 12) (h : a = b) : nI 1000000000 = eBase so mu bd kc hc n (12 * a + b) := by
  unfold eBase
  rw [show (12 * a + b) / 12 = a by omega, show (12 * a + b) % 12 = b by omega]
  split
  · rfl
  · split
    · rfl
    · rw [if_pos h]
theorem eB_n1 {so : So} {mu : Nat → Int32} {bd kc hc : Int32} {n a b : Nat} (hb : b < 12) (h : so a = none) : nI 1000000000 = eBase so mu bd kc hc n (12 * a + b) := by
  unfold eBase
  rw [show (12 * a + b) / 12 = a by omega, show (12 * a + b) % 12 = b by omega, h]
theorem eB_n2 {so : So} {mu : Nat → Int32} {bd kc hc : Int32} {n a b : Nat} (hb : b < 12) (h : so b = none) : nI 1000000000 = eBase so mu bd kc hc n (12 * a + b) := by
  unfold eBase
  rw [show (12 * a + b) / 12 = a by omega, show (12 * a + b) % 12 = b by omega, h]
  split <;> rfl
theorem eB_2 {so : So} {mu : Nat → Int32} {bd kc hc : Int32} {n a b : Nat} (hb : b < 12) (h : mu (12 * a + b) = nI 2) : nI 1000000000 = eBase so mu bd kc hc n (12 * a + b) := by
  unfold eBase
  rw [show (12 * a + b) / 12 = a by omega, show (12 * a + b) % 12 = b by omega]
  split
  · rfl
  · split
    · rfl
    · split
      · rfl
      · first | rfl | rw [if_pos h]
theorem eB_y {so : So} {mu : Nat → Int32} {bd kc hc : Int32} {n a b : Nat} {σ τ : Sg} (hb : b < 12) (h1 : so a = some σ) (h2 : so b = some τ) (h3 : ¬ a = b) (h4 : ¬ mu (12 * a + b) = nI 2) : bestV bd kc hc σ τ n = eBase so mu bd kc hc n (12 * a + b) := by
  unfold eBase
  rw [show (12 * a + b) / 12 = a by omega, show (12 * a + b) % 12 = b by omega, h1, h2]
  simp only
  rw [if_neg h3, if_neg h4]
theorem flat_s {E g : Nat → Int32} {m : Nat} {v : Int32} (h : ∀ q, q < m → E q = g q) (hv : v = g m) : ∀ q, q < m + 1 → upd E m v q = g q := by
  intro q hq
  unfold upd
  by_cases e : q = m
  · rw [if_pos e, e]; exact hv
  · rw [if_neg e]; exact h q (by omega)
theorem flat_2 {E g : Nat → Int32} {m : Nat} {v w : Int32} (h : ∀ q, q < m → E q = g q) (hv : v = g m) : ∀ q, q < m + 1 → upd (upd E m w) m v q = g q :=
  flat_s (fun q hq => by unfold upd; rw [if_neg (by omega)]; exact h q hq) hv
abbrev cutK (a b k q : Nat) : Prop := (q / 12 = a ∧ q % 12 < k ∧ ¬ q % 12 = b) ∨ (q % 12 = b ∧ q / 12 < k ∧ ¬ q / 12 = a)
theorem cut_s {E E2 g : Nat → Int32} {a b k : Nat} (ha : a < 12) (hb : b < 12) (hk : k < 12) (h : ∀ q, q < 144 → E q = if cutK a b k q then nI 1000000000 else g q)
    (h2 : ∀ q, q < 144 → E2 q = if (q = 12 * a + k ∧ ¬ k = b) ∨ (q = 12 * k + b ∧ ¬ k = a) then nI 1000000000 else E q) : ∀ q, q < 144 → E2 q = if cutK a b (k + 1) q then nI 1000000000 else g q := by
  intro q hq
  rw [h2 q hq]
  by_cases e : (q = 12 * a + k ∧ ¬ k = b) ∨ (q = 12 * k + b ∧ ¬ k = a)
  · rw [if_pos e, if_pos (by unfold cutK; omega)]
  · rw [if_neg e, h q hq]
    by_cases e2 : cutK a b k q
    · rw [if_pos e2, if_pos (by unfold cutK at e2 ⊢; omega)]
    · rw [if_neg e2, if_neg (by unfold cutK at e2 ⊢; omega)]
theorem cut_2 {E : Nat → Int32} {a b k : Nat} (h1 : ¬ k = b) (h2 : ¬ k = a) : ∀ q, q < 144 → upd (upd E (12 * a + k) (nI 1000000000)) (12 * k + b) (nI 1000000000) q = if (q = 12 * a + k ∧ ¬ k = b) ∨ (q = 12 * k + b ∧ ¬ k = a) then nI 1000000000 else E q := by
  intro q _
  unfold upd
  by_cases e1 : q = 12 * k + b
  · rw [if_pos e1, if_pos (Or.inr ⟨e1, h2⟩)]
  · rw [if_neg e1]
    by_cases e2 : q = 12 * a + k
    · rw [if_pos e2, if_pos (Or.inl ⟨e2, h1⟩)]
    · rw [if_neg e2, if_neg (by omega)]
theorem cut_1a {E : Nat → Int32} {a b k : Nat} (h1 : ¬ k = b) (h2 : k = a) : ∀ q, q < 144 → upd E (12 * a + k) (nI 1000000000) q = if (q = 12 * a + k ∧ ¬ k = b) ∨ (q = 12 * k + b ∧ ¬ k = a) then nI 1000000000 else E q := by
  intro q _
  unfold upd
  by_cases e2 : q = 12 * a + k
  · rw [if_pos e2, if_pos (Or.inl ⟨e2, h1⟩)]
  · rw [if_neg e2, if_neg (by omega)]
theorem cut_1b {E : Nat → Int32} {a b k : Nat} (h1 : k = b) (h2 : ¬ k = a) : ∀ q, q < 144 → upd E (12 * k + b) (nI 1000000000) q = if (q = 12 * a + k ∧ ¬ k = b) ∨ (q = 12 * k + b ∧ ¬ k = a) then nI 1000000000 else E q := by
  intro q _
  unfold upd
  by_cases e2 : q = 12 * k + b
  · rw [if_pos e2, if_pos (Or.inr ⟨e2, h2⟩)]
  · rw [if_neg e2, if_neg (by omega)]
theorem cut_0 {E : Nat → Int32} {a b k : Nat} (h1 : k = b) (h2 : k = a) : ∀ q, q < 144 → E q = if (q = 12 * a + k ∧ ¬ k = b) ∨ (q = 12 * k + b ∧ ¬ k = a) then nI 1000000000 else E q := by
  intro q _
  rw [if_neg (by omega)]
theorem cut_end {mu g E : Nat → Int32} {a b k : Nat} (ha : a < 12) (hb : b < 12) (hk : k = 12) (hm : mu (12 * a + b) = nI 1) (h : ∀ q, q < 144 → E q = if cutK a b k q then nI 1000000000 else cE mu g (12 * a + b) q) : ∀ q, q < 144 → E q = cE mu g (12 * a + b + 1) q := by
  intro q hq
  rw [h q hq]
  show _ = if mu (12 * a + b) = nI 1 ∧ confl (12 * a + b) q then nI 1000000000 else cE mu g (12 * a + b) q
  by_cases e : cutK a b k q
  · rw [if_pos e, if_pos ⟨hm, by unfold confl; unfold cutK at e; omega⟩]
  · rw [if_neg e, if_neg (fun z => e (by have z2 := z.2; unfold confl at z2; unfold cutK; omega))]
theorem cut_no {mu g E : Nat → Int32} {m : Nat} (hm : ¬ mu m = nI 1) (h : ∀ q, q < 144 → E q = cE mu g m q) : ∀ q, q < 144 → E q = cE mu g (m + 1) q := by
  intro q hq
  rw [h q hq]
  show _ = if mu m = nI 1 ∧ confl m q then nI 1000000000 else cE mu g m q
  rw [if_neg (fun z => hm z.1)]
def keepE (U R : Nat → Nat → Int32) : Prop := ∀ i, (i < 21 ∨ 27 ≤ i) → i ≠ 32 → U i = R i
abbrev eT (E : Nat → Int32) : Nat → Nat → Int32 := fun z k => E (12 * z + k)
abbrev bdT (M : Nat → Int32) (f : Int32) : Nat → Prop := fun z => ¬ boundV M z f = 0
theorem wS_no {E : Nat → Nat → Int32} {bd : Nat → Prop} [∀ s, Decidable (bd s)] {Wf : Nat → Nat → Int32} {l z k : Nat} (h : ¬ (¬ l / 2 ^ k % 2 = 0 ∧ ¬ E z k = nI 1000000000 ∧ Wf (rm l k) k < nI 1000000000 ∧ Wf (rm l k) k + E z k < wS E bd Wf l z k)) : wS E bd Wf l z k = wS E bd Wf l z (k + 1) := (if_neg h).symm
theorem wS_yes {E : Nat → Nat → Int32} {bd : Nat → Prop} [∀ s, Decidable (bd s)] {Wf : Nat → Nat → Int32} {l z k : Nat} (h : ¬ l / 2 ^ k % 2 = 0 ∧ ¬ E z k = nI 1000000000 ∧ Wf (rm l k) k < nI 1000000000 ∧ Wf (rm l k) k + E z k < wS E bd Wf l z k) : Wf (rm l k) k + E z k = wS E bd Wf l z (k + 1) := (if_pos h).symm
/-- the first song of the night: what it costs, the song; 12 without -/
def nB (W : Nat → Nat → Int32) (b1 : Nat → Prop) [∀ s, Decidable (b1 s)] (all : Nat) : Nat → Int32 × Nat
  | 0 => (nI 1000000000, 12)
  | z + 1 => if ¬ all / 2 ^ z % 2 = 0 ∧ ¬ b1 z ∧ W (rm all z) z < (nB W b1 all z).1 then (W (rm all z) z, z) else nB W b1 all z
abbrev nP (E W : Nat → Nat → Int32) (l z : Nat) : Nat → Prop := fun k => ¬ l / 2 ^ k % 2 = 0 ∧ ¬ E z k = nI 1000000000 ∧ W (rm l k) k < nI 1000000000 ∧ W (rm l k) k + E z k = W l z
/-- the night's songs one behind another: what is left behind each, and it ('m' is the number of songs there may be) -/
def nS (E W : Nat → Nat → Int32) (b1 : Nat → Prop) [∀ s, Decidable (b1 s)] (all m : Nat) : Nat → Nat × Nat
  | 0 => (rm all (nB W b1 all m).2, (nB W b1 all m).2)
  | i + 1 => (rm (nS E W b1 all m i).1 (nxS (nP E W (nS E W b1 all m i).1 (nS E W b1 all m i).2) 0 m), nxS (nP E W (nS E W b1 all m i).1 (nS E W b1 all m i).2) 0 m)
def isNight (E W : Nat → Nat → Int32) (b1 : Nat → Prop) [∀ s, Decidable (b1 s)] (all m cnt : Nat) (Q : Nat → Int32) : Prop := 0 < cnt ∧ (nS E W b1 all m (cnt - 1)).1 = 0 ∧ (∀ i, i + 1 < cnt → ¬ (nS E W b1 all m i).1 = 0) ∧ ∀ i, i < cnt → Q i = nI (nS E W b1 all m i).2
theorem wei_no {V : Nat → Int32} {g : Nat → Nat → Int32} {l all : Nat} (h : ∀ q, q < l → sub q all = 0 → ∀ z, z < 12 → V (12 * q + z) = g q z) (hs : ¬ sub l all = 0) : ∀ q, q < l + 1 → sub q all = 0 → ∀ z, z < 12 → V (12 * q + z) = g q z := by
  intro q hq h2 z hz
  by_cases e : q = l
  · exact absurd (e ▸ h2) hs
  · exact h q (by omega) h2 z hz
theorem wei_yes {V : Nat → Int32} {g : Nat → Nat → Int32} {l all w : Nat} (h : ∀ q, q < l → sub q all = 0 → ∀ z, z < 12 → V (12 * q + z) = g q z) (h2 : ∀ y, y < w → V (12 * l + y) = g l y) (hw : w = 12) : ∀ q, q < l + 1 → sub q all = 0 → ∀ z, z < 12 → V (12 * q + z) = g q z := by
  intro q hq h3 z hz
  by_cases e : q = l
  · subst e; exact h2 z (by omega)
  · exact h q (by omega) h3 z hz
theorem bit_eq {a b i : Nat} (h : a.testBit i = b.testBit i) : a / 2 ^ i % 2 = b / 2 ^ i % 2 := by
  have ha := bit_tb (l := a) (k := i)
  have hb := bit_tb (l := b) (k := i)
  have a2 := Nat.mod_two_eq_zero_or_one (a / 2 ^ i)
  have b2 := Nat.mod_two_eq_zero_or_one (b / 2 ^ i)
  cases e : b.testBit i
  · rw [ha.mpr (h.trans e), hb.mpr e]
  · have h1 : ¬ a / 2 ^ i % 2 = 0 := fun q => by rw [ha.mp q, e] at h; exact absurd h (by decide)
    have h2 : ¬ b / 2 ^ i % 2 = 0 := fun q => by rw [hb.mp q] at e; exact absurd e (by decide)
    omega
theorem rm_bit {l k i : Nat} (hl : l < 4096) : rm l k / 2 ^ i % 2 = if i = k then 0 else l / 2 ^ i % 2 := by
  have h := rm_tb (k := k) (i := i) hl
  by_cases e : i = k
  · rw [if_pos e]; exact bit_tb.mpr (by rw [h]; simp [e])
  · rw [if_neg e]; exact bit_eq (by rw [h]; simp [e])
def cntB (l : Nat) : Nat → Nat
  | 0 => 0
  | i + 1 => cntB l i + l / 2 ^ i % 2
theorem cntB_le (l : Nat) : ∀ n, cntB l n ≤ n
  | 0 => Nat.le_refl 0
  | n + 1 => by
    have := cntB_le l n
    have := Nat.mod_lt (l / 2 ^ n) (show 0 < 2 by omega)
    unfold cntB; omega
theorem cntB_rm {l k : Nat} (hl : l < 4096) (hb : ¬ l / 2 ^ k % 2 = 0) : ∀ n, cntB (rm l k) n + (if k < n then 1 else 0) = cntB l n
  | 0 => by simp [cntB]
  | n + 1 => by
    have i := cntB_rm hl hb n
    have hr := rm_bit (k := k) (i := n) hl
    have := Nat.mod_lt (l / 2 ^ k) (show 0 < 2 by omega)
    unfold cntB
    rw [hr]
    by_cases e : n = k
    · subst e
      rw [if_pos rfl, if_pos (by omega)]
      rw [if_neg (by omega)] at i
      omega
    · rw [if_neg e]
      by_cases c : k < n
      · rw [if_pos c] at i; rw [if_pos (by omega)]; omega
      · rw [if_neg c] at i; rw [if_neg (by omega)]; omega
theorem cntB_pos {l : Nat} (hl : l < 4096) (h0 : ¬ l = 0) : 1 ≤ cntB l 12 := by
  rcases Nat.eq_zero_or_pos (cntB l 12) with e | e
  · exfalso
    apply h0
    have hz : ∀ n, cntB l n = 0 → ∀ i, i < n → l / 2 ^ i % 2 = 0 := by
      intro n
      induction n with
      | zero => intro _ i hi; omega
      | succ n ih =>
        intro h i hi
        have h1 : cntB l n + l / 2 ^ n % 2 = 0 := h
        by_cases c : i = n
        · subst c; omega
        · exact ih (by omega) i (by omega)
    apply Nat.eq_of_testBit_eq
    intro i
    rw [Nat.zero_testBit]
    by_cases c : i < 12
    · exact bit_tb.mp (hz 12 e i c)
    · exact Nat.testBit_lt_two_pow (Nat.lt_of_lt_of_le hl (by rw [show 4096 = 2 ^ 12 by decide]; exact Nat.pow_le_pow_right (by omega) (by omega)))
  · exact e
theorem nB_prop {W : Nat → Nat → Int32} {b1 : Nat → Prop} [∀ s, Decidable (b1 s)] {all : Nat} : ∀ z, z ≤ 12 → (nB W b1 all z).2 < 12 → (nB W b1 all z).2 < z ∧ ¬ all / 2 ^ (nB W b1 all z).2 % 2 = 0 ∧ ¬ b1 (nB W b1 all z).2 ∧ (nB W b1 all z).1 = W (rm all (nB W b1 all z).2) (nB W b1 all z).2 ∧ (nB W b1 all z).1 < nI 1000000000
  | 0, _, h => absurd h (by show ¬ (12 < 12); omega)
  | z + 1, hz, h => by
    have hle : ∀ y, (nB W b1 all y).1 ≤ nI 1000000000 := by
      intro y
      induction y with
      | zero => exact Int32.le_refl _
      | succ y ih =>
        unfold nB
        split
        · next q => exact Int32.le_of_lt (Int32.lt_of_lt_of_le q.2.2 ih)
        · exact ih
    unfold nB at h ⊢
    by_cases c : ¬ all / 2 ^ z % 2 = 0 ∧ ¬ b1 z ∧ W (rm all z) z < (nB W b1 all z).1
    · rw [if_pos c]
      exact ⟨by show z < z + 1; omega, c.1, c.2.1, rfl, Int32.lt_of_lt_of_le c.2.2 (hle z)⟩
    · rw [if_neg c] at h ⊢
      obtain ⟨q1, q2⟩ := nB_prop z (by omega) h
      exact ⟨by omega, q2⟩
theorem nxS_spec {P : Nat → Prop} [∀ i, Decidable (P i)] {lo : Nat} : ∀ d, nxS P lo d < lo + d → P (nxS P lo d)
  | 0, h => absurd h (by show ¬ lo < lo + 0; omega)
  | d + 1, h => by
    unfold nxS at h ⊢
    by_cases c : nxS P lo d < lo + d
    · rw [if_pos c]; exact nxS_spec d c
    · rw [if_neg c] at h ⊢
      by_cases e : P (lo + d)
      · rw [if_pos e]; exact e
      · rw [if_neg e] at h; omega
theorem nxS_first {P : Nat → Prop} [∀ i, Decidable (P i)] {lo k : Nat} (hk : lo ≤ k) (hp : P k) : ∀ d, k < lo + d → nxS P lo d ≤ k
  | 0, h => by omega
  | d + 1, h => by
    unfold nxS
    by_cases c : nxS P lo d < lo + d
    · rw [if_pos c]
      by_cases e : k = lo + d
      · omega
      · exact nxS_first hk hp d (by omega)
    · rw [if_neg c]
      have e : k = lo + d := by
        rcases Nat.lt_or_ge k (lo + d) with q | q
        · have := nxS_first hk hp d q; omega
        · omega
      rw [if_pos (e ▸ hp)]; omega
theorem nxN_done {P : Nat → Prop} [∀ i, Decidable (P i)] {d m : Nat} (hm : m = 12) (hd : d ≤ m) (hex : ∃ k, k < m ∧ P k) (h : m ≤ d ∨ ¬ nxV P 0 d = (-1)) : nxV P 0 d = nI (nxS P 0 m) := by
  obtain ⟨k, k1, k2⟩ := hex
  have h12 : nxS P 0 m ≤ k := nxS_first (Nat.zero_le k) k2 m (by omega)
  rcases h with h | h
  · rw [show d = m by omega]
    unfold nxV; rw [if_pos (by omega)]
  · have h1 : nxS P 0 d < 0 + d := Classical.not_not.mp (fun q => h ((nxV_m1 (by omega)).mpr q))
    have h2 := nxS_more P 0 d h1 (m - d)
    rw [show d + (m - d) = m by omega] at h2
    unfold nxV; rw [if_pos h1, h2]
theorem nx_ex {E W : Nat → Nat → Int32} {bd : Nat → Prop} [∀ s, Decidable (bd s)] {l z m : Nat} (hm : m = 12) (hW : ∀ l z, W l z = wW E bd l z) (hl : l < 4096) (h0 : ¬ l = 0) (h : W l z < nI 1000000000) : ∃ k, k < m ∧ nP E W l z k := by
  subst hm
  rw [hW, wW_eq hl] at h
  obtain ⟨q, q1, q2, q3, q4, q5⟩ := wS_at h0 12 h
  exact ⟨q, q1, q2, q3, by rw [hW]; exact q4, by rw [hW, hW, q5, ← wW_eq hl]⟩
def aNight (W : Nat → Nat → Int32) (b1 : Nat → Prop) [∀ s, Decidable (b1 s)] (all m : Nat) (x : Int32) : Int32 := if x < nI 1 then (-1) else if nI 8 < x then (-1) else if all = 0 then (-1) else if (nB W b1 all m).2 < 12 then (nB W b1 all m).1 else (-2)
abbrev okNight (W : Nat → Nat → Int32) (b1 : Nat → Prop) [∀ s, Decidable (b1 s)] (all m : Nat) (x : Int32) : Prop := ¬ x < nI 1 ∧ ¬ nI 8 < x ∧ ¬ all = 0 ∧ (nB W b1 all m).2 < 12
theorem night_s {f : Nat} {Q g : Nat → Int32} {v : Int32} (h : ∀ i, i ≤ f → Q i = g i) (hv : v = g (f + 1)) : ∀ i, i ≤ f + 1 → upd Q (f + 1) v i = g i := by
  intro i hi
  unfold upd
  by_cases e : i = f + 1
  · rw [if_pos e, e]; exact hv
  · rw [if_neg e]; exact h i (by omega)
theorem seg_g {B g : Nat → Int32} {o i : Nat} {v : Int32} (h : ∀ y, y < i → B (o + y) = g y) (hv : v = g i) : ∀ y, y < i + 1 → upd B (o + i) v (o + y) = g y := by
  intro y hy
  unfold upd
  by_cases e : y = i
  · rw [if_pos (by omega), e]; exact hv
  · rw [if_neg (by omega)]; exact h y (by omega)
abbrev nWf (E : Nat → Nat → Int32) (R : Nat → Nat → Int32) : Nat → Nat → Int32 := wW E (bdT (R 12) (nI 0))
def aNightR (m : Nat) (F : Nat → Int32) (R : Nat → Nat → Int32) (so : So) (x : Int32) : Int32 := aNight (nWf (eT (eV so (R 12) (F 18) (F 19) (F 20) x.toNatClampNeg)) R) (bdT (R 12) (nI 1)) (thB (R 0) 12) m x
def okNightR (m : Nat) (F : Nat → Int32) (R : Nat → Nat → Int32) (so : So) (x : Int32) : Prop := okNight (nWf (eT (eV so (R 12) (F 18) (F 19) (F 20) x.toNatClampNeg)) R) (bdT (R 12) (nI 1)) (thB (R 0) 12) m x
def isNightR (m : Nat) (F : Nat → Int32) (R : Nat → Nat → Int32) (so : So) (x : Int32) (cnt : Nat) (Q : Nat → Int32) : Prop := isNight (eT (eV so (R 12) (F 18) (F 19) (F 20) x.toNatClampNeg)) (nWf (eT (eV so (R 12) (F 18) (F 19) (F 20) x.toNatClampNeg)) R) (bdT (R 12) (nI 1)) (thB (R 0) 12) m cnt Q
def nightPost (m : Nat) (F : Nat → Int32) (R : Nat → Nat → Int32) (so : So) (x : Int32) (u9 : (Nat → Int32) × (Nat → Nat → Int32)) : Prop := (∀ i, i ≠ 30 → i ≠ 31 → i ≠ 34 → u9.1 i = F i) ∧ (∀ i, (i < 21 ∨ 27 ≤ i) → (i < 32 ∨ 33 < i) → i ≠ 35 → u9.2 i = R i) ∧ (okNightR m F R so x → ∃ cnt, u9.1 34 = nI cnt ∧ cnt ≤ 12 ∧ isNightR m F R so x cnt (u9.2 35)) ∧ (¬ okNightR m F R so x → u9.1 34 = F 34 ∧ u9.2 35 = R 35)
