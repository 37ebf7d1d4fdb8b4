/-! SETS of songs as bits; what a night costs, set by set -/
theorem zz_and (a b : Nat) : nI a &&& nI b = nI (a &&& b) := by
  apply Int32.toBitVec_inj.1
  show BitVec.ofNat 32 a &&& BitVec.ofNat 32 b = BitVec.ofNat 32 (a &&& b)
  apply BitVec.eq_of_getLsbD_eq
  intro i hi
  simp [hi]
theorem zz_or (a b : Nat) : nI a ||| nI b = nI (a ||| b) := by
  apply Int32.toBitVec_inj.1
  show BitVec.ofNat 32 a ||| BitVec.ofNat 32 b = BitVec.ofNat 32 (a ||| b)
  apply BitVec.eq_of_getLsbD_eq
  intro i hi
  simp [hi]
theorem zz_xor (a b : Nat) : nI a ^^^ nI b = nI (a ^^^ b) := by
  apply Int32.toBitVec_inj.1
  show BitVec.ofNat 32 a ^^^ BitVec.ofNat 32 b = BitVec.ofNat 32 (a ^^^ b)
  apply BitVec.eq_of_getLsbD_eq
  intro i hi
  simp [hi]
theorem zz_sh : ∀ n, n < 32 → ((nI n &&& 31).toBitVec.smod 32).toNat = n := by decide +kernel
def rm (l k : Nat) : Nat := l &&& (4095 ^^^ 2 ^ k)
def sub (l all : Nat) : Nat := l &&& (4095 ^^^ all)
theorem zz_clr {a b : Nat} (ha : a < 4096) : nI a &&& (nI b ^^^ (-1)) = nI (a &&& (4095 ^^^ b)) := by
  rw [show (-1 : Int32) = nI 4294967295 by decide, zz_xor, zz_and]
  congr 1
  apply Nat.eq_of_testBit_eq
  intro i
  rw [Nat.testBit_and, Nat.testBit_and, Nat.testBit_xor, Nat.testBit_xor, show (4294967295 : Nat) = 2 ^ 32 - 1 by decide, show (4095 : Nat) = 2 ^ 12 - 1 by decide, Nat.testBit_two_pow_sub_one, Nat.testBit_two_pow_sub_one]
  by_cases h : i < 12
  · simp [h, show i < 32 by omega, Bool.xor_comm]
  · have : a.testBit i = false := Nat.testBit_lt_two_pow (Nat.lt_of_lt_of_le ha (by rw [show 4096 = 2 ^ 12 by decide]; exact Nat.pow_le_pow_right (by omega) (by omega)))
    rw [this]; simp
theorem zz_shr {l k : Nat} (hl : l < 4096) (hk : k < 12) : nI l >>> (nI k &&& 31) = nI (l / 2 ^ k) := pk_shrN (by omega) _ k (zz_sh k (by omega))
theorem zz_bit {l k : Nat} (hl : l < 4096) : nI (l / 2 ^ k) &&& nI 1 = nI (l / 2 ^ k % 2) := by
  have h1 : l / 2 ^ k ≤ l := Nat.div_le_self _ _
  have := pk_andN (n := l / 2 ^ k) (by omega) (m := nI 1) 1 (by decide)
  rw [this]
theorem zz_pow {k : Nat} (hk : k < 12) : nI 1 <<< (nI k &&& 31) = nI (2 ^ k) := by
  have h2 : 2 ^ k < 2 ^ 12 := Nat.pow_lt_pow_right (by omega) hk
  have := pk_shlN (n := 1) (nI k &&& 31) k (zz_sh k (by omega)) (by omega)
  rw [this, Nat.one_mul]
theorem bit_tb {l k : Nat} : l / 2 ^ k % 2 = 0 ↔ l.testBit k = false := by
  rw [Nat.testBit_eq_decide_div_mod_eq]
  have := Nat.mod_two_eq_zero_or_one (l / 2 ^ k)
  constructor
  · intro h; simp [h]
  · intro h; simp at h; omega
theorem rm_tb {l k i : Nat} (hl : l < 4096) : (rm l k).testBit i = (l.testBit i && !decide (i = k)) := by
  unfold rm
  rw [Nat.testBit_and, Nat.testBit_xor, show (4095 : Nat) = 2 ^ 12 - 1 by decide, Nat.testBit_two_pow_sub_one, Nat.testBit_two_pow]
  by_cases h : i < 12
  · simp [h, eq_comm]
  · have : l.testBit i = false := Nat.testBit_lt_two_pow (Nat.lt_of_lt_of_le hl (by rw [show 4096 = 2 ^ 12 by decide]; exact Nat.pow_le_pow_right (by omega) (by omega)))
    rw [this]; simp
theorem rm_lt {l k : Nat} (hl : l < 4096) (h : ¬ l / 2 ^ k % 2 = 0) : rm l k < l := by
  have hb : l.testBit k = true := by
    cases e : l.testBit k
    · exact absurd (bit_tb.mpr e) h
    · rfl
  have hle : rm l k ≤ l := Nat.and_le_left
  rcases Nat.lt_or_ge (rm l k) l with c | c
  · exact c
  · have e : rm l k = l := Nat.le_antisymm hle c
    have := rm_tb (k := k) (i := k) hl
    rw [e, hb] at this
    simp at this
theorem sub_tb {l all : Nat} (hl : l < 4096) : sub l all = 0 ↔ ∀ i, l.testBit i = true → all.testBit i = true := by
  unfold sub
  constructor
  · intro h i hi
    have := congrArg (fun z => z.testBit i) h
    simp only [Nat.zero_testBit] at this
    rw [Nat.testBit_and, Nat.testBit_xor, show (4095 : Nat) = 2 ^ 12 - 1 by decide, Nat.testBit_two_pow_sub_one, hi] at this
    have hi12 : i < 12 := by
      rcases Nat.lt_or_ge i 12 with c | c
      · exact c
      · rw [Nat.testBit_lt_two_pow (Nat.lt_of_lt_of_le hl (by rw [show 4096 = 2 ^ 12 by decide]; exact Nat.pow_le_pow_right (by omega) c))] at hi
        exact absurd hi (by decide)
    simpa [hi12] using this
  · intro h
    apply Nat.eq_of_testBit_eq
    intro i
    rw [Nat.zero_testBit, Nat.testBit_and, Nat.testBit_xor, show (4095 : Nat) = 2 ^ 12 - 1 by decide, Nat.testBit_two_pow_sub_one]
    cases e : l.testBit i
    · simp
    · rw [h i e]
      have hi12 : i < 12 := by
        rcases Nat.lt_or_ge i 12 with c | c
        · exact c
        · rw [Nat.testBit_lt_two_pow (Nat.lt_of_lt_of_le hl (by rw [show 4096 = 2 ^ 12 by decide]; exact Nat.pow_le_pow_right (by omega) c))] at e
          exact absurd e (by decide)
      simp [hi12]
theorem sub_rm {l k all : Nat} (hl : l < 4096) (h : sub l all = 0) : sub (rm l k) all = 0 := by
  have hle : rm l k ≤ l := Nat.and_le_left
  rw [sub_tb (by omega)]
  rw [sub_tb hl] at h
  intro i hi
  rw [rm_tb hl] at hi
  exact h i (by simp at hi; exact hi.1)
theorem sub_self {l : Nat} (hl : l < 4096) : sub l l = 0 := (sub_tb hl).mpr (fun _ h => h)
theorem sub_lt {l all : Nat} : sub l all ≤ l := Nat.and_le_left
-- what a night costs behind song s, with the songs of l left
def wS (E : Nat → Nat → Int32) (bd : Nat → Prop) [∀ s, Decidable (bd s)] (Wf : Nat → Nat → Int32) (l z : Nat) : Nat → Int32
  | 0 => if l = 0 ∧ ¬ bd z then nI 0 else nI 1000000000
  | k + 1 => if ¬ l / 2 ^ k % 2 = 0 ∧ ¬ E z k = nI 1000000000 ∧ Wf (rm l k) k < nI 1000000000 ∧ Wf (rm l k) k + E z k < wS E bd Wf l z k then Wf (rm l k) k + E z k else wS E bd Wf l z k
def wA (E : Nat → Nat → Int32) (bd : Nat → Prop) [∀ s, Decidable (bd s)] : Nat → Nat → Nat → Int32
  | 0 => fun _ _ => nI 0
  | m + 1 => fun l z => if l = m then wS E bd (wA E bd m) l z 12 else wA E bd m l z
def wW (E : Nat → Nat → Int32) (bd : Nat → Prop) [∀ s, Decidable (bd s)] (l z : Nat) : Int32 := wA E bd (l + 1) l z
theorem wS_congr {E : Nat → Nat → Int32} {bd : Nat → Prop} [∀ s, Decidable (bd s)] {Wf Wg : Nat → Nat → Int32} {l z : Nat} (hl : l < 4096) (h : ∀ q k, q < l → Wf q k = Wg q k) : ∀ k, wS E bd Wf l z k = wS E bd Wg l z k
  | 0 => rfl
  | k + 1 => by
    have i := wS_congr (E := E) (bd := bd) (z := z) hl h k
    unfold wS
    rw [i]
    by_cases e : l / 2 ^ k % 2 = 0
    · rw [if_neg (fun q => q.1 e), if_neg (fun q => q.1 e)]
    · rw [h _ k (rm_lt hl e)]
theorem wA_keep {E : Nat → Nat → Int32} {bd : Nat → Prop} [∀ s, Decidable (bd s)] {l z : Nat} : ∀ m, l < m → wA E bd m l z = wW E bd l z
  | 0, h => absurd h (by omega)
  | m + 1, h => by
    by_cases e : l = m
    · subst e; rfl
    · show (if l = m then _ else wA E bd m l z) = _
      rw [if_neg e]
      exact wA_keep m (by omega)
theorem wW_eq {E : Nat → Nat → Int32} {bd : Nat → Prop} [∀ s, Decidable (bd s)] {l z : Nat} (hl : l < 4096) : wW E bd l z = wS E bd (wW E bd) l z 12 := by
  unfold wW
  show (if l = l then wS E bd (wA E bd l) l z 12 else _) = _
  rw [if_pos rfl]
  exact wS_congr hl (fun q k hq => wA_keep l hq) 12
theorem wS_le {E : Nat → Nat → Int32} {bd : Nat → Prop} [∀ s, Decidable (bd s)] {Wf : Nat → Nat → Int32} {l z : Nat} : ∀ k, wS E bd Wf l z k ≤ nI 1000000000
  | 0 => by unfold wS; split <;> decide
  | k + 1 => by
    unfold wS
    split
    · next h => exact Int32.le_of_lt (Int32.lt_of_lt_of_le h.2.2.2 (wS_le k))
    · exact wS_le k
/-- a cost that is there, with songs left, is that of one of them -/
theorem wS_at {E : Nat → Nat → Int32} {bd : Nat → Prop} [∀ s, Decidable (bd s)] {Wf : Nat → Nat → Int32} {l z : Nat} (hl0 : ¬ l = 0) : ∀ k, wS E bd Wf l z k < nI 1000000000 → ∃ q, q < k ∧ ¬ l / 2 ^ q % 2 = 0 ∧ ¬ E z q = nI 1000000000 ∧ Wf (rm l q) q < nI 1000000000 ∧ Wf (rm l q) q + E z q = wS E bd Wf l z k
  | 0, h => by
    unfold wS at h
    rw [if_neg (fun q => hl0 q.1)] at h
    exact absurd h (by decide)
  | k + 1, h => by
    unfold wS at h ⊢
    by_cases e : ¬ l / 2 ^ k % 2 = 0 ∧ ¬ E z k = nI 1000000000 ∧ Wf (rm l k) k < nI 1000000000 ∧ Wf (rm l k) k + E z k < wS E bd Wf l z k
    · rw [if_pos e]
      exact ⟨k, by omega, e.1, e.2.1, e.2.2.1, rfl⟩
    · rw [if_neg e] at h ⊢
      obtain ⟨q, q1, q2⟩ := wS_at hl0 k h
      exact ⟨q, by omega, q2⟩
