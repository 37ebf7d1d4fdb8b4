/-! What the methods that only read answer -/
theorem le_of {x : Int32} {n : Nat} (hn : n < 2 ^ 31) (h1 : ¬ x < 0) (h2 : ¬ nI n < x) : ∃ i : Nat, i ≤ n ∧ x = nI i := by
  obtain ⟨j, hj, rfl⟩ := nI_of h1
  exact ⟨j, Nat.le_of_not_lt (fun q => h2 ((nI_ltI hn hj).mpr q)), rfl⟩
theorem lt_of {x : Int32} {n : Nat} (hn : n < 2 ^ 31) (h1 : ¬ x < 0) (h2 : ¬ nI n ≤ x) : ∃ i : Nat, i < n ∧ x = nI i := by
  obtain ⟨j, hj, rfl⟩ := nI_of h1
  exact ⟨j, Nat.lt_of_not_le (fun q => h2 ((nI_leI hn hj).mpr q)), rfl⟩
theorem in_le {x : Int32} {n N : Nat} (hn : n ≤ N) (hN : N < 2 ^ 31) (h1 : ¬ x < 0) (h2 : ¬ nI n ≤ x) : vp_in x N := by
  obtain ⟨i, hi, rfl⟩ := lt_of (by omega) h1 h2
  exact vp_in_nI (by omega) hN
def krem (k : Int32) : Int32 := k - k / nI 12 * nI 12
def kdist (d : Int32) : Int32 := if d < nI 12 - d then d else nI 12 - d
def mkeys (a b : Int32) : Int32 := kdist (msize (krem a - krem b)) + (if a / nI 12 = b / nI 12 then nI 0 else nI 1)
def malways (kc hc : Int32) (σ τ : Sg) : Int32 := kc * mkeys (gKey σ) (gKey τ) + hc * msize (gHeat σ - gHeat τ)
def mjoin (x y : Int32) (j n : Nat) : Int32 := x + mfloor ((y - x) * nI j + nI (2 * n)) (nI (4 * n))
def mbendh (c x : Int32) : Int32 := msize (c - x) * nI 1000 / x
def mbend (c x y : Int32) : Int32 := if mbendh c x ≤ mbendh c y then mbendh c y else mbendh c x
def wholeV (f : Nat → Int32) (many q n : Nat) : Int32 := if many < q + n then nI 0 else if ∀ k, k < n → f (q + k) = 0 then nI 1 else nI 0
theorem wholeV_n {f : Nat → Int32} {many q n : Nat} : narrow .boolean (.int (wholeV f many q n)) = .int (wholeV f many q n) := by
  unfold wholeV; split
  · decide
  · split <;> decide
def mlast (x y : Nat → Int32) (n j : Nat) : Int32 := mjoin (x j) (y j) j n
def mone (x y : Nat → Int32) (n j : Nat) : Int32 := msize (mlast x y n j - x j) + msize (mlast x y n j - y j)
def mcost (bd : Int32) (x y : Nat → Int32) (n : Nat) : Int32 := if ∀ j, j < 4 * n → mbend (mlast x y n j) (x j) (y j) ≤ bd then isum (mone x y n) (4 * n) else nI 1000000000
def aMeets (M : Nat) (L Bd : Nat → Int32) (x w : Int32) : Int32 := if x < 0 then (-1) else if M = 0 then (-1) else if nI M < x then (-1) else if x = nI M ∧ ¬ w = 0 then (-1) else if w < 0 then (-1) else if nI 2 < w then (-1) else if w = nI 1 then L x.toNatClampNeg else if w = nI 2 then Bd x.toNatClampNeg else isum L x.toNatClampNeg
def aRow (n : Nat) (f : Nat → Int32) (x : Int32) : Int32 := if x < 0 then (-1) else if nI n ≤ x then (-1) else f x.toNatClampNeg
def mby (bd st : Int32) : Int32 := st * bd / nI 1000
def aMend (bd x st : Int32) : Int32 := if x < (-100000) then (-1) else if nI 100000 < x then (-1) else if st < nI 20 then (-1) else if nI 400 < st then (-1) else if x = 0 then nI 0 else if mby bd st = 0 then (-1) else ((msize x + mby bd st - nI 1) / mby bd st + nI 3) / nI 4
def mq0 (d gap : Nat) : Nat := if 2 * (d - d / gap * gap) ≤ gap then d / gap else d / gap + 1
def mq (d gap : Nat) : Nat := if 1 ≤ mq0 d gap then mq0 d gap else 1
def gapV (d gap miss : Nat) : Int32 := msize (nI d - nI (mq d gap * gap)) + nI ((mq d gap - 1) * miss)
def bIx (j : Nat) (first : Int32) (k : Nat) : Nat := if first = 0 then 12 * j + k else 12 * k + j
def boundN (f : Nat → Int32) (n : Nat) : Int32 := if ∀ k, k < n → ¬ f k = nI 1 then nI 0 else nI 1
def boundV (f : Nat → Int32) (j : Nat) (first : Int32) : Int32 := boundN (fun k => f (bIx j first k)) 12
theorem boundV_n {f : Nat → Int32} {j : Nat} {first : Int32} : narrow .boolean (.int (boundV f j first)) = .int (boundV f j first) := by
  unfold boundV boundN; split <;> decide
theorem sw_ne {n : Nat} {x : Int32} (i : Nat) (h : x.toInt < 0 ∨ (n : Int) - 1 < x.toInt) (hi : i < n := by omega) (hn : n < 2 ^ 31 := by omega) : ¬ x = nI i := by
  rintro rfl
  rw [nI_toInt (by omega)] at h
  omega
