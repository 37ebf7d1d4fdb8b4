/-! A SONG as numbers, and what is read off it -/
abbrev Sg : Type := (Nat → Nat) × (Nat → Int32) × (Nat → Nat)
def gB (σ : Sg) : Nat := σ.1 0
def gA (σ : Sg) : Nat := σ.1 1
def gE (σ : Sg) : Nat := σ.1 2
def gT (σ : Sg) : Nat := σ.1 3
def gPh (σ : Sg) : Nat := σ.1 4
def gKind (σ : Sg) : Int32 := σ.2.1 0
def gStep (σ : Sg) : Int32 := σ.2.1 1
def gMore (σ : Sg) : Int32 := σ.2.1 2
def gKey (σ : Sg) : Int32 := σ.2.1 3
def gHeat (σ : Sg) : Int32 := σ.2.1 4
def gC (σ : Sg) : Nat → Nat := σ.2.2
def nsum (f : Nat → Nat) : Nat → Nat | 0 => 0 | n + 1 => nsum f n + f n
def isum (f : Nat → Int32) : Nat → Int32 | 0 => nI 0 | n + 1 => isum f n + f n
def gPB (σ : Sg) : Nat := gB σ + (gT σ - 1) * (gE σ - gA σ + 1)
def gBar (σ : Sg) (p : Nat) : Nat := if p ≤ gE σ then p else if p - gA σ < (gE σ - gA σ + 1) * gT σ then gA σ + (p - gA σ) % (gE σ - gA σ + 1) else p - (gE σ - gA σ + 1) * (gT σ - 1)
def gFst (σ : Sg) (b : Nat) : Nat := nsum (gC σ) b
def mfloor (a b : Int32) : Int32 := if a < 0 then -((b - nI 1 - a) / b) else a / b
def clampT (v : Int32) : Int32 := if v < nI 20 then nI 20 else if nI 400 < v then nI 400 else v
def gLast (σ : Sg) (k : Nat) : Int32 := if gKind σ = 0 then gStep σ else if gKind σ = nI 1 then (if k % 2 = 0 then gStep σ + gMore σ else gStep σ - gMore σ) else clampT (gStep σ + mfloor (nI k * gMore σ) (nI 16))
def gTick (σ : Sg) (k : Nat) : Int32 := isum (gLast σ) k
def gLong (σ : Sg) (b : Nat) : Int32 := isum (fun i => gLast σ (gFst σ b + i)) (gC σ b)
def gBeg (σ : Sg) (p : Nat) : Int32 := isum (fun q => gLong σ (gBar σ q)) p
/-- what is known of every song that is there -/
def sgOk (σ : Sg) : Prop := 2 ≤ gB σ ∧ gB σ ≤ 64 ∧ gA σ ≤ gE σ ∧ gE σ < gB σ ∧ 1 ≤ gT σ ∧ gT σ ≤ 4 ∧ gB σ + (gT σ - 1) * (gE σ - gA σ + 1) ≤ 64 ∧ 1 ≤ gPh σ ∧ gPh σ ≤ 16 ∧ (∀ b, 1 ≤ gC σ b ∧ gC σ b ≤ 4) ∧ (20 ≤ (gStep σ).toInt ∧ (gStep σ).toInt ≤ 400) ∧ (gKind σ = 0 ∨ gKind σ = nI 1 ∧ 0 ≤ (gMore σ).toInt ∧ (gMore σ).toInt ≤ (gStep σ).toInt - 10 ∨ gKind σ = nI 2 ∧ -20 ≤ (gMore σ).toInt ∧ (gMore σ).toInt ≤ 20)
/-- song s of the model's arrays -/
def moSg (R : Nat → Nat → Int32) (s : Nat) (σ : Sg) : Prop := R 1 s = gKind σ ∧ R 2 s = nI (gB σ) ∧ R 3 s = gStep σ ∧ R 4 s = gMore σ ∧ R 5 s = gKey σ ∧ R 6 s = gHeat σ ∧ R 7 s = nI (gPh σ) ∧ (∀ b, b < 64 → R 8 (64 * s + b) = nI (gC σ b)) ∧ R 9 s = nI (gA σ) ∧ R 10 s = nI (gE σ) ∧ R 11 s = nI (gT σ)
theorem nsum_le {f : Nat → Nat} {c : Nat} (h : ∀ k, f k ≤ c) : ∀ n, nsum f n ≤ c * n
  | 0 => Nat.zero_le _
  | n + 1 => by
    have := nsum_le h n
    have := h n
    rw [Nat.mul_succ]
    show nsum f n + f n ≤ _
    omega
theorem gFst_le {σ : Sg} (h : sgOk σ) (b : Nat) : gFst σ b ≤ 4 * b := nsum_le (fun k => (h.2.2.2.2.2.2.2.2.2.1 k).2) b
theorem gPB_le {σ : Sg} (h : sgOk σ) : gPB σ ≤ 64 := h.2.2.2.2.2.2.1
def isSongV (R : Nat → Nat → Int32) (s : Int32) : Int32 := if s < 0 then nI 0 else if nI 12 ≤ s then nI 0 else if R 0 s.toNatClampNeg = 0 then nI 0 else nI 1
def msize (v : Int32) : Int32 := if v < 0 then -v else v
theorem in_of {s : Int32} {n : Nat} (hn : n < 2 ^ 31) (h1 : ¬ s < 0) (h2 : ¬ nI n ≤ s) : vp_in s n := by
  obtain ⟨j, hj, rfl⟩ := nI_of h1
  have h3 : ¬ n ≤ j := fun q => h2 ((nI_leI hn hj).mpr q)
  exact vp_in_nI (by omega) hn
theorem isSongV_n {R : Nat → Nat → Int32} {s : Int32} : narrow .boolean (.int (isSongV R s)) = .int (isSongV R s) := by
  unfold isSongV; split
  · decide
  · split
    · decide
    · split <;> decide

theorem gBar_lt {σ : Sg} (h : sgOk σ) {p : Nat} (hp : p < gPB σ) : gBar σ p < gB σ := by
  obtain ⟨-, -, h1, h2, h3, -, -⟩ := h
  have hz : (gE σ - gA σ + 1) * gT σ = (gE σ - gA σ + 1) * (gT σ - 1) + (gE σ - gA σ + 1) := by rw [← Nat.mul_succ]; congr 1; omega
  have hp : p < gB σ + (gT σ - 1) * (gE σ - gA σ + 1) := hp
  rw [Nat.mul_comm (gT σ - 1)] at hp
  unfold gBar
  split
  · omega
  · split
    · have := Nat.mod_lt (p - gA σ) (show 0 < gE σ - gA σ + 1 by omega)
      omega
    · omega
/-- the songs that are there -/
abbrev So : Type := Nat → Option Sg
def moAll (R : Nat → Nat → Int32) (so : So) : Prop := ∀ j, j < 12 → (so j = none ∧ R 0 j = nI 0) ∨ ∃ σ, so j = some σ ∧ R 0 j = nI 1 ∧ moSg R j σ ∧ sgOk σ
def sAt (so : So) (x : Int32) : Option Sg := if x < 0 then none else if nI 12 ≤ x then none else so x.toNatClampNeg
theorem sAt_nI {so : So} {j : Nat} (hj : j < 12) : sAt so (nI j) = so j := by
  unfold sAt
  rw [if_neg (nI_pos (by omega)), if_neg (fun h => absurd ((nI_leI (by omega) (by omega)).mp h) (by omega)), nI_clamp (by omega)]
theorem song_of {R : Nat → Nat → Int32} {so : So} {x : Int32} (h : moAll R so) (hx : ¬ isSongV R x = 0) : ∃ (j : Nat) (σ : Sg), x = nI j ∧ j < 12 ∧ so j = some σ ∧ sAt so (nI j) = some σ ∧ R 0 j = nI 1 ∧ moSg R j σ ∧ sgOk σ := by
  unfold isSongV at hx
  by_cases h1 : x < 0
  · rw [if_pos h1] at hx; exact absurd rfl hx
  rw [if_neg h1] at hx
  by_cases h2 : nI 12 ≤ x
  · rw [if_pos h2] at hx; exact absurd rfl hx
  rw [if_neg h2] at hx
  obtain ⟨j, hj, rfl⟩ := nI_of h1
  have h3 : ¬ 12 ≤ j := fun q => h2 ((nI_leI (by omega) hj).mpr q)
  rw [nI_clamp hj] at hx
  have h4 : j < 12 := by omega
  rcases h j h4 with ⟨-, q⟩ | ⟨σ, q1, q2, q3, q4⟩
  · rw [q] at hx; exact absurd rfl hx
  · exact ⟨j, σ, rfl, h4, q1, (sAt_nI h4).trans q1, q2, q3, q4⟩
theorem song_no {R : Nat → Nat → Int32} {so : So} {x : Int32} (h : moAll R so) (hx : isSongV R x = 0) : sAt so x = none := by
  unfold isSongV at hx
  unfold sAt
  by_cases h1 : x < 0
  · rw [if_pos h1]
  rw [if_neg h1] at hx ⊢
  by_cases h2 : nI 12 ≤ x
  · rw [if_pos h2]
  rw [if_neg h2] at hx ⊢
  obtain ⟨j, hj, rfl⟩ := nI_of h1
  have h3 : ¬ 12 ≤ j := fun q => h2 ((nI_leI (by omega) hj).mpr q)
  rw [nI_clamp hj] at hx ⊢
  have h4 : j < 12 := by omega
  rcases h j h4 with ⟨q, -⟩ | ⟨σ, -, q2, -, -⟩
  · exact q
  · rw [q2] at hx; exact absurd hx (by decide)
theorem sw_of (n : Nat) (hn : n < 2 ^ 31) (x : Int32) : (∃ k : Nat, k < n ∧ x = nI k) ∨ (x.toInt < 0 ∨ (n : Int) - 1 < x.toInt) := by
  by_cases h : x < 0
  · exact Or.inr (Or.inl (by have := Int32.lt_iff_toInt_lt.mp h; simpa using this))
  · obtain ⟨j, hj, rfl⟩ := nI_of h
    by_cases h2 : j < n
    · exact Or.inl ⟨j, h2, rfl⟩
    · exact Or.inr (Or.inr (by rw [nI_toInt hj]; omega))
def aOf (so : So) (x w : Int32) : Int32 := match sAt so x with
  | none => (-1000)
  | some σ => if w = nI 0 then gKind σ else if w = nI 1 then nI (gB σ) else if w = nI 2 then gStep σ else if w = nI 3 then gMore σ else if w = nI 4 then gKey σ else if w = nI 5 then gHeat σ else if w = nI 6 then nI (gPh σ) else if w = nI 7 then nI (gPB σ) else if w = nI 8 then nI (gFst σ (gB σ)) else if w = nI 9 then nI (nsum (fun b => if gC σ b < 4 then 1 else 0) (gB σ)) else (-1000)
def aBeat (so : So) (x k : Int32) : Int32 := match sAt so x with
  | none => (-1)
  | some σ => if k < 0 then (-1) else if nI (gFst σ (gB σ)) < k then (-1) else gTick σ k.toNatClampNeg
def aPlayed (so : So) (x y w : Int32) : Int32 := match sAt so x with
  | none => (-1)
  | some σ => if y < 0 then (-1) else if nI (gPB σ) ≤ y then (-1) else if w = 0 then nI (gBar σ y.toNatClampNeg) else if w = nI 1 then gBeg σ y.toNatClampNeg else if w = nI 2 then nI (gC σ (gBar σ y.toNatClampNeg)) else (-1)
def aLength (so : So) (x : Int32) : Int32 := match sAt so x with
  | none => (-1)
  | some σ => gBeg σ (gPB σ)
