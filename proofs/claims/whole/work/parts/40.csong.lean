/-- as Met.ofW, for a method of a class some of whose methods the machine runs by itself (this one isn't among them) -/
theorem mx_ofWF {l : Launch} {y : MethodName} {ws ws' : List Cond} {rm : Room} {Pc : Array Value → State → Prop} {Qc : Array Value → State → Outcome → State → Prop} {mc ms : Nat} {free : Addr → Prop} {cc : ByteArray} {maxL : Nat} {ret : Option FieldType}
    (hy : plainFor y = true) (hw : ws = Cond.code y cc maxL ret :: ws')
    (body : ∀ p e s m args below meth c s₁, BodyLoose p l y (headSpec ws rm) cc maxL ret e s m args below meth c s₁ → c.maxLocals = maxL → Pc args s →
      W p l e (headSpec ws rm).room s m args below meth c s.heap [] 0 0 (MQ below Qc args s mc ms free) (entryFrame m args maxL)) : Met l y ws rm Pc Qc mc ms free := by
  refine MetFree.of_bodySF (code := cc) (maxLocals := maxL) (ret := ret) hy ?_ ?_
  · intro args s m h hn
    obtain ⟨meth, c, h1, h2, h3, h4, h5, h6, -, -⟩ := Cond.code_spec hn (atoms_spec (ws := ws) h _ (by rw [hw]; exact List.mem_cons_self))
    exact ⟨meth, c, h1, h2, h3, h4, h5, h6⟩
  · intro p e s m args below meth c s₁ B hml hP _
    have hh0 : s₁.heap = s.heap := by rw [B.state]; rfl
    obtain ⟨t, a1, o, b1, b2, b3⟩ := body p e s m args below meth c s₁ B hml hP s₁ hh0 (Stand.of_body B)
    exact ⟨t, o, a1, b1, b2, ⟨b3.1, b3.2⟩⟩
/-! The class's song: its cells, and plain facts of its arithmetic -/
def mmax (x y : Int32) : Int32 := if x < y then y else x
def mmin (x y : Int32) : Int32 := if y < x then y else x
def jfd (x y : Int32) : Int32 := if 0 ≤ x ^^^ y then x / y else if x / y * y = x then x / y else x / y - nI 1
def wi (v lo hi : Int32) : Int32 := if v < lo then nI 0 else if v ≤ hi then nI 1 else nI 0
theorem wi_n {v lo hi : Int32} : narrow .boolean (.int (wi v lo hi)) = .int (wi v lo hi) := by
  unfold wi; split
  · decide
  · split <;> decide
theorem wi_0 {v lo hi : Int32} (h : wi v lo hi = 0) : v < lo ∨ hi < v := by
  unfold wi at h
  by_cases h1 : v < lo
  · exact Or.inl h1
  · rw [if_neg h1] at h
    by_cases h2 : v ≤ hi
    · rw [if_pos h2] at h; exact absurd h (by decide)
    · exact Or.inr (Int32.not_le.mp h2)
theorem wi_1 {v lo hi : Int32} (h : ¬ wi v lo hi = 0) : ¬ v < lo ∧ ¬ hi < v := by
  unfold wi at h
  by_cases h1 : v < lo
  · rw [if_pos h1] at h; exact absurd rfl h
  · rw [if_neg h1] at h
    by_cases h2 : v ≤ hi
    · exact ⟨h1, Int32.not_lt.mpr h2⟩
    · rw [if_neg h2] at h; exact absurd rfl h
theorem clamp_eq (v : Int32) : mmax (nI 20) (mmin (nI 400) v) = clampT v := by
  unfold mmax mmin clampT
  by_cases h1 : v < nI 400
  · rw [if_pos h1]
    by_cases h2 : v < nI 20
    · rw [if_neg (Int32.lt_asymm h2), if_pos h2]
    · rw [if_neg h2, if_neg (Int32.lt_asymm h1)]
      by_cases h3 : nI 20 < v
      · rw [if_pos h3]
      · rw [if_neg h3]; exact Int32.le_antisymm (Int32.not_lt.mp h2) (Int32.not_lt.mp h3)
  · rw [if_neg h1, if_pos (by decide)]
    by_cases h2 : v < nI 20
    · exact absurd (Int32.lt_trans h2 (by decide)) h1
    · rw [if_neg h2]
      by_cases h3 : nI 400 < v
      · rw [if_pos h3]
      · rw [if_neg h3]; exact Int32.le_antisymm (Int32.not_lt.mp h1) (Int32.not_lt.mp h3)
def cBar (σ : Sg) (q : Nat) : Nat := if q < gA σ then q else if q < gA σ + gT σ * (gE σ - gA σ + 1) then gA σ + (q - gA σ) % (gE σ - gA σ + 1) else q - (gT σ - 1) * (gE σ - gA σ + 1)
theorem cBar_eq {σ : Sg} (ok : sgOk σ) (q : Nat) : cBar σ q = gBar σ q := by
  obtain ⟨-, -, hAE, hEB, hT1, -, -⟩ := ok
  unfold cBar gBar
  have hc : gT σ * (gE σ - gA σ + 1) = (gE σ - gA σ + 1) * gT σ := Nat.mul_comm _ _
  have hd : (gT σ - 1) * (gE σ - gA σ + 1) = (gE σ - gA σ + 1) * (gT σ - 1) := Nat.mul_comm _ _
  have hz : (gE σ - gA σ + 1) * gT σ = (gE σ - gA σ + 1) * (gT σ - 1) + (gE σ - gA σ + 1) := by rw [← Nat.mul_succ]; congr 1; omega
  rw [hc, hd]
  by_cases h1 : q < gA σ
  · rw [if_pos h1, if_pos (by omega)]
  · rw [if_neg h1]
    by_cases h2 : q ≤ gE σ
    · rw [if_pos h2, if_pos (by omega), Nat.mod_eq_of_lt (by omega)]; omega
    · rw [if_neg h2]
      by_cases h3 : q - gA σ < (gE σ - gA σ + 1) * gT σ
      · rw [if_pos h3, if_pos (by omega)]
      · rw [if_neg h3, if_neg (by omega)]
def alikeV (f : Nat → Int32) (u w n : Nat) : Int32 := if ∀ k, k < 4 * n → f (4 * u + k) = f (4 * w + k) then nI 1 else nI 0
theorem alikeV_n {f : Nat → Int32} {u w n : Nat} : narrow .boolean (.int (alikeV f u w n)) = .int (alikeV f u w n) := by
  unfold alikeV; split <;> decide
theorem gPhr_n {σ : Sg} {q : Nat} : narrow .boolean (.int (gPhr σ q)) = .int (gPhr σ q) := by
  unfold gPhr; split <;> decide
/-- the song's numbers, as the object has them -/
def soN (F : Nat → Int32) (σ : Sg) : Prop := F 1 = gKind σ ∧ F 2 = nI (gB σ) ∧ F 3 = gStep σ ∧ F 4 = gMore σ ∧ F 5 = gKey σ ∧ F 6 = gHeat σ ∧ F 7 = nI (gPh σ) ∧ F 8 = nI (gA σ) ∧ F 9 = nI (gE σ) ∧ F 10 = nI (gT σ)
def soC (R : Nat → Nat → Int32) (σ : Sg) : Prop := ∀ b, b < 64 → R 12 b = nI (gC σ b)
/-- the tables of its beats -/
def soB (R : Nat → Nat → Int32) (σ : Sg) : Prop := (∀ b, b ≤ gB σ → R 13 b = nI (gFst σ b)) ∧ ∀ k, k ≤ gFst σ (gB σ) → R 14 k = gTick σ k
def gW (σ : Sg) : Nat → Nat
  | 0 => 0
  | d + 1 => if gC σ (gBar σ (gPB σ - (d + 1))) = 4 then gW σ d + 1 else 0
/-- the tables of what is played -/
def soQ (F : Nat → Int32) (R : Nat → Nat → Int32) (σ : Sg) : Prop := F 11 = nI (gPB σ) ∧ (∀ q, q < gPB σ → R 15 q = nI (gBar σ q)) ∧ (∀ q, q ≤ gPB σ → R 16 q = gBeg σ q) ∧ (∀ q, q ≤ gPB σ → R 17 q = nI (gW σ (gPB σ - q))) ∧ ∀ q, q < gPB σ → ∀ i, i < gC σ (gBar σ q) → R 18 (4 * q + i) = gLast σ (gFst σ (gBar σ q) + i)
def soAll (F : Nat → Int32) (R : Nat → Nat → Int32) (σ : Sg) : Prop := soN F σ ∧ soC R σ ∧ soB R σ ∧ soQ F R σ
theorem msb_neg {x : Int32} : x < 0 ↔ x.toBitVec.msb = true := by
  rw [BitVec.msb_eq_toInt, Int32.lt_iff_toInt_lt, show (0 : Int32).toInt = 0 by decide, decide_eq_true_iff]
  exact Iff.rfl
theorem xor_neg {x y : Int32} (hx : x < 0) (hy : ¬ y < 0) : ¬ 0 ≤ x ^^^ y := by
  rw [Int32.not_le]
  rw [msb_neg] at hx hy ⊢
  rw [Int32.toBitVec_xor, BitVec.msb_xor, hx]
  simpa using hy
theorem xor_pos {x y : Int32} (hx : ¬ x < 0) (hy : ¬ y < 0) : 0 ≤ x ^^^ y := by
  rw [← Int32.not_lt]
  rw [msb_neg] at hx hy ⊢
  rw [Int32.toBitVec_xor, BitVec.msb_xor]
  simp at hx hy
  simp [hx, hy]
theorem neg_form {x : Int32} (h : x < 0) (h1 : -(2 ^ 29) ≤ x.toInt) : ∃ m : Nat, 0 < m ∧ m < 2 ^ 30 ∧ x = nI 0 - nI m := by
  have h2 := Int32.lt_iff_toInt_lt.mp h
  have h0 : (0 : Int32).toInt = 0 := by decide
  refine ⟨(-x.toInt).toNat, by omega, by omega, Int32.toInt_inj.mp ?_⟩
  rw [pk_sub_toInt (by omega) (by omega)]
  omega
theorem neg_div {m n : Nat} (hm : m < 2 ^ 30) (h0 : 0 < n) (hn : n < 2 ^ 30) : (nI 0 - nI m) / nI n = nI 0 - nI (m / n) := by
  have hd : m / n ≤ m := Nat.div_le_self _ _
  apply Int32.toInt_inj.mp
  rw [Int32.toInt_div, pk_sub_toInt (by omega) hm, pk_sub_toInt (by omega) (by omega), nI_toInt (by omega)]
  rw [show ((0 : Nat) : Int) - (m : Int) = -(m : Int) by omega, Int.neg_tdiv, ← Int.ofNat_tdiv]
  generalize m / n = z at hd ⊢
  rw [Int.bmod_eq_of_le (by omega) (by omega)]
  omega
theorem jfd_mf {x : Int32} {n : Nat} (h0 : 0 < n) (hn : n < 2 ^ 15) (h1 : -(2 ^ 29) ≤ x.toInt) (h2 : x.toInt ≤ 2 ^ 29) : jfd x (nI n) = mfloor x (nI n) := by
  unfold jfd mfloor
  by_cases hx : x < 0
  · rw [if_neg (xor_neg hx (nI_pos (by omega))), if_pos hx]
    obtain ⟨m, m0, m1, rfl⟩ := neg_form hx h1
    rw [neg_div m1 h0 (by omega)]
    have e1 : (nI n - nI 1 - (nI 0 - nI m)) = nI (n - 1 + m) := by
      rw [pk_sub (by omega), ← nI_add, show nI 0 = 0 from rfl]; grind
    have e2 : (nI 0 - nI (m / n)) * nI n = nI 0 - nI (m / n * n) := by
      rw [← pk_mul, show nI 0 = 0 from rfl]; grind
    rw [e1, e2, pk_div (by omega) h0 (by omega)]
    have h3 := Nat.div_add_mod m n
    have h4 := Nat.mod_lt m h0
    rw [Nat.mul_comm] at h3
    have h5 : m / n ≤ m := Nat.div_le_self _ _
    by_cases c : m % n = 0
    · rw [if_pos (by rw [show m / n * n = m by omega])]
      have : (n - 1 + m) / n = m / n := Nat.div_eq_of_lt_le (by omega) (by rw [Nat.add_mul]; omega)
      rw [this, show nI 0 = 0 from rfl]; grind
    · rw [if_neg (fun q => by
        have q2 := congrArg Int32.toInt q
        rw [pk_sub_toInt (by omega) (by omega), pk_sub_toInt (by omega) (by omega)] at q2
        omega)]
      have : (n - 1 + m) / n = m / n + 1 := Nat.div_eq_of_lt_le (by rw [Nat.add_mul]; omega) (by rw [Nat.add_mul, Nat.add_mul]; omega)
      rw [this, ← nI_add, show nI 0 = 0 from rfl]; grind
  · rw [if_pos (xor_pos hx (nI_pos (by omega))), if_neg hx]
theorem mul_toInt_s {a b : Int32} (h1 : -(2 ^ 30) ≤ a.toInt * b.toInt) (h2 : a.toInt * b.toInt ≤ 2 ^ 30) : (a * b).toInt = a.toInt * b.toInt := by
  rw [Int32.toInt_mul]
  exact Int.bmod_eq_of_le (by omega) (by omega)
theorem add_toInt_s {a b : Int32} (h1 : -(2 ^ 30) ≤ a.toInt + b.toInt) (h2 : a.toInt + b.toInt ≤ 2 ^ 30) : (a + b).toInt = a.toInt + b.toInt := by
  rw [Int32.toInt_add]
  exact Int.bmod_eq_of_le (by omega) (by omega)
theorem jfd_last {σ : Sg} {k : Nat} (h1 : -20 ≤ (gMore σ).toInt) (h2 : (gMore σ).toInt ≤ 20) (hk : k ≤ 256) : jfd (nI k * gMore σ) (nI 16) = mfloor (nI k * gMore σ) (nI 16) := by
  have e : (nI k).toInt = (k : Int) := nI_toInt (by omega)
  have b1 : (k : Int) * (gMore σ).toInt ≤ k * 20 := Int.mul_le_mul_of_nonneg_left h2 (by omega)
  have b2 : (k : Int) * (-20) ≤ k * (gMore σ).toInt := Int.mul_le_mul_of_nonneg_left h1 (by omega)
  have m : (nI k * gMore σ).toInt = (k : Int) * (gMore σ).toInt := by rw [mul_toInt_s (by rw [e]; omega) (by rw [e]; omega), e]
  exact jfd_mf (by omega) (by omega) (by rw [m]; omega) (by rw [m]; omega)
