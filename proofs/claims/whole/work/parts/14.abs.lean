/-! The state that both sides have, and how a call changes it -/
theorem mx_perm0 {ws : va_W} : ws.Perm (ws ++ []) := by rw [List.append_nil]
theorem moAll_up {R R' : Nat → Nat → Int32} {so : So} {j : Nat} {σ' : Sg} (h : moAll R so) (h0 : R' 0 j = nI 1) (hs : moSg R' j σ') (ok : sgOk σ')
    (hk : ∀ k, k < 12 → k ≠ j → (∀ i, i < 12 → i ≠ 8 → R' i k = R i k) ∧ ∀ b, b < 64 → R' 8 (64 * k + b) = R 8 (64 * k + b)) : moAll R' (va_up so j (some σ')) := by
  intro k hk12
  by_cases e : k = j
  · subst e
    exact Or.inr ⟨σ', by simp [va_up], h0, hs, ok⟩
  · obtain ⟨e1, e2⟩ := hk k hk12 e
    have e3 : va_up so j (some σ') k = so k := by simp [va_up, e]
    rw [e3]
    rcases h k hk12 with ⟨q1, q2⟩ | ⟨τ, q1, q2, q3, q4⟩
    · exact Or.inl ⟨q1, by rw [e1 0 (by omega) (by omega)]; exact q2⟩
    · refine Or.inr ⟨τ, q1, by rw [e1 0 (by omega) (by omega)]; exact q2, ?_, q4⟩
      obtain ⟨m1, m2, m3, m4, m5, m6, m7, m8, m9, m10, m11⟩ := q3
      exact ⟨by rw [e1 1 (by omega) (by omega)]; exact m1, by rw [e1 2 (by omega) (by omega)]; exact m2, by rw [e1 3 (by omega) (by omega)]; exact m3, by rw [e1 4 (by omega) (by omega)]; exact m4, by rw [e1 5 (by omega) (by omega)]; exact m5, by rw [e1 6 (by omega) (by omega)]; exact m6, by rw [e1 7 (by omega) (by omega)]; exact m7, fun b hb => by rw [e2 b hb]; exact m8 b hb, by rw [e1 9 (by omega) (by omega)]; exact m9, by rw [e1 10 (by omega) (by omega)]; exact m10, by rw [e1 11 (by omega) (by omega)]; exact m11⟩
theorem moAll_none {R R' : Nat → Nat → Int32} {so : So} {j : Nat} (h : moAll R so) (h0 : R' 0 j = nI 0)
    (hk : ∀ k, k < 12 → k ≠ j → R' 0 k = R 0 k) (hr : ∀ i, 0 < i → i < 12 → R' i = R i) : moAll R' (va_up so j none) := by
  intro k hk12
  by_cases e : k = j
  · subst e
    exact Or.inl ⟨by simp [va_up], h0⟩
  · have e3 : va_up so j none k = so k := by simp [va_up, e]
    rw [e3]
    rcases h k hk12 with ⟨q1, q2⟩ | ⟨τ, q1, q2, q3, q4⟩
    · exact Or.inl ⟨q1, by rw [hk k hk12 e]; exact q2⟩
    · refine Or.inr ⟨τ, q1, by rw [hk k hk12 e]; exact q2, ?_, q4⟩
      unfold moSg
      rw [hr 1 (by omega) (by omega), hr 2 (by omega) (by omega), hr 3 (by omega) (by omega), hr 4 (by omega) (by omega), hr 5 (by omega) (by omega), hr 6 (by omega) (by omega), hr 7 (by omega) (by omega), hr 8 (by omega) (by omega), hr 9 (by omega) (by omega), hr 10 (by omega) (by omega), hr 11 (by omega) (by omega)]
      exact q3
/-- a call that changes one song, if something holds of it -/
def sUpd (so : So) (x : Int32) (P : Sg → Bool) (f : Sg → Option Sg) : So := match sAt so x with
  | none => so
  | some σ => if P σ = true then va_up so x.toNatClampNeg (f σ) else so
def sAns (so : So) (x : Int32) (P : Sg → Bool) : Int32 := match sAt so x with
  | none => nI 0
  | some σ => if P σ = true then nI 1 else nI 0
theorem sUpd_none {so : So} {x : Int32} {P : Sg → Bool} {f : Sg → Option Sg} (h : sAt so x = none) : sUpd so x P f = so := by
  simp only [sUpd, h]
theorem sUpd_no {so : So} {x : Int32} {P : Sg → Bool} {f : Sg → Option Sg} {σ : Sg} (h : sAt so x = some σ) (hP : ¬ P σ = true) : sUpd so x P f = so := by
  simp only [sUpd, h]; rw [if_neg hP]
theorem sUpd_yes {so : So} {j : Nat} {P : Sg → Bool} {f : Sg → Option Sg} {σ : Sg} (hj : j < 12) (h : sAt so (nI j) = some σ) (hP : P σ = true) : sUpd so (nI j) P f = va_up so j (f σ) := by
  simp only [sUpd, h]; rw [if_pos hP, nI_clamp (by omega)]
theorem sAns_none {so : So} {x : Int32} {P : Sg → Bool} (h : sAt so x = none) : nI 0 = sAns so x P := by
  simp only [sAns, h]
theorem sAns_no {so : So} {x : Int32} {P : Sg → Bool} {σ : Sg} (h : sAt so x = some σ) (hP : ¬ P σ = true) : nI 0 = sAns so x P := by
  simp only [sAns, h]; rw [if_neg hP]
theorem sAns_yes {so : So} {x : Int32} {P : Sg → Bool} {σ : Sg} (h : sAt so x = some σ) (hP : P σ = true) : nI 1 = sAns so x P := by
  simp only [sAns, h]; rw [if_pos hP]
theorem sAns_n {so : So} {x : Int32} {P : Sg → Bool} : narrow .boolean (.int (sAns so x P)) = .int (sAns so x P) := by
  unfold sAns; split
  · decide
  · split <;> decide
theorem nd {p : Prop} [Decidable p] (h : ¬ p) : ¬ decide p = true := fun q => h (of_decide_eq_true q)
theorem upR {R : Nat → Nat → Int32} {k j i q : Nat} {v : Int32} (h : q ≠ j) : va_up R k (upd (R k) j v) i q = R i q := by
  by_cases e : i = k
  · subst e; simp [va_up, upd, h]
  · simp [va_up, e]
-- about
abbrev okAbout (k h ph : Int32) : Prop := (¬ k < 0 ∧ ¬ nI 23 < k) ∧ (¬ h < 0 ∧ ¬ nI 9 < h) ∧ (¬ ph < nI 1 ∧ ¬ nI 16 < ph)
def pAbout (k h ph : Int32) : Sg → Bool := fun _ => decide (okAbout k h ph)
def setSg (σ : Sg) (k h : Int32) (ph : Nat) : Sg := (va_up σ.1 4 ph, va_up (va_up σ.2.1 3 k) 4 h, σ.2.2)
def fAbout (k h ph : Int32) : Sg → Option Sg := fun σ => some (setSg σ k h ph.toNatClampNeg)
theorem about_mo {R : Nat → Nat → Int32} {so : So} {j n : Nat} {σ : Sg} {k h : Int32} (ha : moAll R so) (h0 : R 0 j = nI 1) (hm : moSg R j σ) (ok : sgOk σ) (h1 : 1 ≤ n) (h2 : n ≤ 16) :
    moAll (va_up (va_up (va_up R 5 (upd (R 5) j k)) 6 (upd (R 6) j h)) 7 (upd (R 7) j (nI n))) (va_up so j (some (setSg σ k h n))) := by
  refine moAll_up ha (by simpa [va_up] using h0) ?_ ?_ ?_
  · obtain ⟨m1, m2, m3, m4, m5, m6, m7, m8, m9, m10, m11⟩ := hm
    refine ⟨by simpa [va_up, setSg, gKind] using m1, by simpa [va_up, setSg, gB] using m2, by simpa [va_up, setSg, gStep] using m3, by simpa [va_up, setSg, gMore] using m4, by simp [va_up, upd, setSg, gKey], by simp [va_up, upd, setSg, gHeat], by simp [va_up, upd, setSg, gPh], by simpa [va_up, setSg, gC] using m8, by simpa [va_up, setSg, gA] using m9, by simpa [va_up, setSg, gE] using m10, by simpa [va_up, setSg, gT] using m11⟩
  · obtain ⟨q1, q2, q3, q4, q5, q6, q7, -, -, q10, q11, q12⟩ := ok
    refine ⟨by simpa [va_up, setSg, gB] using q1, by simpa [va_up, setSg, gB] using q2, by simpa [va_up, setSg, gA, gE] using q3, by simpa [va_up, setSg, gB, gE] using q4, by simpa [va_up, setSg, gT] using q5, by simpa [va_up, setSg, gT] using q6, by simpa [va_up, setSg, gB, gT, gE, gA] using q7, by simpa [va_up, setSg, gPh] using h1, by simpa [va_up, setSg, gPh] using h2, by simpa [setSg, gC] using q10, by simpa [va_up, setSg, gStep] using q11, by simpa [va_up, setSg, gKind, gMore, gStep] using q12⟩
  · intro q _ hq
    exact ⟨fun i _ _ => (upR (R := va_up (va_up R 5 (upd (R 5) j k)) 6 (upd (R 6) j h)) (k := 7) hq).trans ((upR (R := va_up R 5 (upd (R 5) j k)) (k := 6) hq).trans (upR (k := 5) hq)), fun b _ => by simp [va_up]⟩
theorem about_mo2 {R : Nat → Nat → Int32} {so : So} {j : Nat} {σ : Sg} {k h ph : Int32} (ha : moAll R so) (h0 : R 0 j = nI 1) (hm : moSg R j σ) (ok : sgOk σ) (hP : pAbout k h ph σ = true) :
    moAll (va_up (va_up (va_up R 5 (upd (R 5) j k)) 6 (upd (R 6) j h)) 7 (upd (R 7) j ph)) (va_up so j (fAbout k h ph σ)) := by
  obtain ⟨-, -, h1, h2⟩ := of_decide_eq_true hP
  obtain ⟨n, hn, rfl⟩ := le_of (n := 16) (by omega) (fun q => h1 (Int32.lt_trans q (by decide))) h2
  have h3 : ¬ n < 1 := fun q => h1 ((nI_ltI (by omega) (by omega)).mpr q)
  unfold fAbout
  rw [nI_clamp (by omega)]
  exact about_mo ha h0 hm ok (by omega) hn
-- bar
abbrev okBar (b n : Int32) (σ : Sg) : Prop := (¬ b < 0 ∧ ¬ nI (gB σ) ≤ b) ∧ ¬ n < nI 1 ∧ ¬ nI 4 < n
def pBar (b n : Int32) : Sg → Bool := fun σ => decide (okBar b n σ)
def fBar (b n : Int32) : Sg → Option Sg := fun σ => some (σ.1, σ.2.1, va_up σ.2.2 b.toNatClampNeg n.toNatClampNeg)
theorem bar_mo {R : Nat → Nat → Int32} {so : So} {j b : Nat} {σ : Sg} {n : Int32} (ha : moAll R so) (hj : j < 12) (h0 : R 0 j = nI 1) (hm : moSg R j σ) (ok : sgOk σ) (hb : b < 64) (hP : pBar (nI b) n σ = true) :
    moAll (va_up R 8 (upd (R 8) (64 * j + b) n)) (va_up so j (fBar (nI b) n σ)) := by
  obtain ⟨-, h1, h2⟩ := of_decide_eq_true hP
  obtain ⟨c, hc, rfl⟩ := le_of (n := 4) (by omega) (fun q => h1 (Int32.lt_trans q (by decide))) h2
  have h3 : ¬ c < 1 := fun q => h1 ((nI_ltI (by omega) (by omega)).mpr q)
  unfold fBar
  rw [nI_clamp (by omega), nI_clamp (by omega)]
  refine moAll_up ha (by simpa [va_up] using h0) ?_ ?_ ?_
  · obtain ⟨m1, m2, m3, m4, m5, m6, m7, m8, m9, m10, m11⟩ := hm
    refine ⟨by simpa [va_up, gKind] using m1, by simpa [va_up, gB] using m2, by simpa [va_up, gStep] using m3, by simpa [va_up, gMore] using m4, by simpa [va_up, gKey] using m5, by simpa [va_up, gHeat] using m6, by simpa [va_up, gPh] using m7, fun q hq => ?_, by simpa [va_up, gA] using m9, by simpa [va_up, gE] using m10, by simpa [va_up, gT] using m11⟩
    show upd (R 8) (64 * j + b) (nI c) (64 * j + q) = nI (va_up (gC σ) b c q)
    unfold upd va_up
    by_cases e : q = b
    · rw [if_pos (by omega), if_pos e]
    · rw [if_neg (by omega), if_neg e]; exact m8 q hq
  · obtain ⟨q1, q2, q3, q4, q5, q6, q7, q8, q9, q10, q11, q12⟩ := ok
    refine ⟨q1, q2, q3, q4, q5, q6, q7, q8, q9, fun q => ?_, q11, q12⟩
    show 1 ≤ va_up (gC σ) b c q ∧ va_up (gC σ) b c q ≤ 4
    unfold va_up
    split
    · omega
    · exact q10 q
  · intro q hq12 hq
    refine ⟨fun i _ hi => by simp [va_up, hi], fun d hd => ?_⟩
    show upd (R 8) (64 * j + b) (nI c) (64 * q + d) = R 8 (64 * q + d)
    unfold upd
    rw [if_neg (by omega)]
-- loop
abbrev okLoop (a b n : Int32) (σ : Sg) : Prop := (¬ a < 0 ∧ ¬ b < a ∧ ¬ nI (gB σ) ≤ b) ∧ (¬ n < nI 1 ∧ ¬ nI 4 < n) ∧ nI (gB σ) + (n - nI 1) * (b - a + nI 1) ≤ nI 64
def pLoop (a b n : Int32) : Sg → Bool := fun σ => decide (okLoop a b n σ)
def fLoop (a b n : Int32) : Sg → Option Sg := fun σ => some (va_up (va_up (va_up σ.1 1 a.toNatClampNeg) 2 b.toNatClampNeg) 3 n.toNatClampNeg, σ.2)
theorem okLoop_nat {a b n : Int32} {σ : Sg} (ok : sgOk σ) (h : okLoop a b n σ) : ∃ i k t : Nat, a = nI i ∧ b = nI k ∧ n = nI t ∧ i ≤ k ∧ k < gB σ ∧ 1 ≤ t ∧ t ≤ 4 ∧ gB σ + (t - 1) * (k - i + 1) ≤ 64 := by
  obtain ⟨⟨h1, h2, h3⟩, ⟨h4, h5⟩, h6⟩ := h
  have hB := ok.2.1
  obtain ⟨i, hi, rfl⟩ := nI_of h1
  have hb0 : ¬ b < 0 := fun q => h2 (Int32.lt_of_lt_of_le q (nI_pos' hi))
  obtain ⟨k, hk, rfl⟩ := lt_of (by omega) hb0 h3
  obtain ⟨t, ht, rfl⟩ := le_of (n := 4) (by omega) (fun q => h4 (Int32.lt_trans q (by decide))) h5
  have h7 : ¬ t < 1 := fun q => h4 ((nI_ltI (by omega) (by omega)).mpr q)
  have h8 : ¬ k < i := fun q => h2 ((nI_ltI (by omega) hi).mpr q)
  rw [pk_sub (by omega), pk_sub (by omega), nI_add, pk_mul, nI_add] at h6
  have h9 : (t - 1) * (k - i + 1) ≤ 3 * 64 := Nat.mul_le_mul (by omega) (by omega)
  exact ⟨i, k, t, rfl, rfl, rfl, by omega, hk, by omega, ht, (nI_leI (by omega) (by omega)).mp h6⟩
theorem loop_mo {R : Nat → Nat → Int32} {so : So} {j : Nat} {σ : Sg} {a b n : Int32} (ha : moAll R so) (h0 : R 0 j = nI 1) (hm : moSg R j σ) (ok : sgOk σ) (hP : pLoop a b n σ = true) :
    moAll (va_up (va_up (va_up R 9 (upd (R 9) j a)) 10 (upd (R 10) j b)) 11 (upd (R 11) j n)) (va_up so j (fLoop a b n σ)) := by
  obtain ⟨i, k, t, rfl, rfl, rfl, hik, hk, ht1, ht4, hpb⟩ := okLoop_nat ok (of_decide_eq_true hP)
  have hB := ok.2.1
  unfold fLoop
  rw [nI_clamp (by omega), nI_clamp (by omega), nI_clamp (by omega)]
  refine moAll_up ha (by simpa [va_up] using h0) ?_ ?_ ?_
  · obtain ⟨m1, m2, m3, m4, m5, m6, m7, m8, m9, m10, m11⟩ := hm
    exact ⟨by simpa [va_up, gKind] using m1, by simpa [va_up, gB] using m2, by simpa [va_up, gStep] using m3, by simpa [va_up, gMore] using m4, by simpa [va_up, gKey] using m5, by simpa [va_up, gHeat] using m6, by simpa [va_up, gPh] using m7, by simpa [va_up, gC] using m8, by simp [va_up, upd, gA], by simp [va_up, upd, gE], by simp [va_up, upd, gT]⟩
  · obtain ⟨q1, q2, q3, q4, q5, q6, q7, q8, q9, q10, q11, q12⟩ := ok
    exact ⟨by simpa [va_up, gB] using q1, by simpa [va_up, gB] using q2, by simpa [va_up, gA, gE] using hik, by simpa [va_up, gB, gE] using hk, by simpa [va_up, gT] using ht1, by simpa [va_up, gT] using ht4, by simpa [va_up, gB, gT, gE, gA] using hpb, by simpa [va_up, gPh] using q8, by simpa [va_up, gPh] using q9, by simpa [gC] using q10, by simpa [va_up, gStep] using q11, by simpa [va_up, gKind, gMore, gStep] using q12⟩
  · intro q _ hq
    exact ⟨fun i' _ _ => (upR (R := va_up (va_up R 9 (upd (R 9) j (nI i))) 10 (upd (R 10) j (nI k))) (k := 11) hq).trans ((upR (R := va_up R 9 (upd (R 9) j (nI i))) (k := 10) hq).trans (upR (k := 9) hq)), fun b _ => by simp [va_up]⟩
-- song, drop, musts
abbrev okSong (k n st m : Int32) : Prop := ((¬ k < 0 ∧ ¬ nI 2 < k) ∧ (¬ n < nI 2 ∧ ¬ nI 64 < n) ∧ (¬ st < nI 20 ∧ ¬ nI 400 < st)) ∧ (k = nI 1 → ¬ m < 0 ∧ ¬ st - nI 10 < m) ∧ (k = nI 2 → ¬ m < (-20) ∧ ¬ nI 20 < m)
abbrev okIn (x : Int32) : Prop := ¬ x < 0 ∧ ¬ nI 12 ≤ x
def newSg (k : Int32) (n : Nat) (st m : Int32) : Sg := (fun i => if i = 0 then n else if i = 3 then 1 else if i = 4 then 4 else 0, fun i => if i = 0 then k else if i = 1 then st else if i = 2 then (if k = 0 then nI 0 else m) else nI 0, fun _ => 4)
def nSong (so : So) (x k n st m : Int32) : So := if okIn x ∧ okSong k n st m then va_up so x.toNatClampNeg (some (newSg k n.toNatClampNeg st m)) else so
def clrM (M : Nat → Int32) (j : Nat) : Nat → Int32 := fun i => if i / 12 = j ∨ i % 12 = j then nI 0 else M i
def clrIf (t : Int32) (M : Nat → Int32) (x : Int32) : Nat → Int32 := if t = nI 1 then clrM M x.toNatClampNeg else M
theorem forg_step {R12 M : Nat → Int32} {j k : Nat} (hj : j < 12) (hk : k < 12) (h : ∀ i, i < 144 → M i = if (i / 12 = j ∧ i % 12 < k) ∨ (i % 12 = j ∧ i / 12 < k) then nI 0 else R12 i) :
    ∀ i, i < 144 → upd (upd M (12 * j + k) (nI 0)) (12 * k + j) (nI 0) i = if (i / 12 = j ∧ i % 12 < k + 1) ∨ (i % 12 = j ∧ i / 12 < k + 1) then nI 0 else R12 i := by
  intro i hi
  unfold upd
  by_cases e1 : i = 12 * k + j
  · rw [if_pos e1, if_pos (by omega)]
  · rw [if_neg e1]
    by_cases e2 : i = 12 * j + k
    · rw [if_pos e2, if_pos (by omega)]
    · rw [if_neg e2, h i hi]
      by_cases e3 : (i / 12 = j ∧ i % 12 < k) ∨ (i % 12 = j ∧ i / 12 < k)
      · rw [if_pos e3, if_pos (by omega)]
      · rw [if_neg e3, if_neg (by omega)]
theorem forg_end {R12 : Nat → Int32} {j k i : Nat} (hk : k = 12) (hi : i < 144) : (if (i / 12 = j ∧ i % 12 < k) ∨ (i % 12 = j ∧ i / 12 < k) then nI 0 else R12 i) = clrM R12 j i := by
  unfold clrM
  by_cases e : i / 12 = j ∨ i % 12 = j
  · rw [if_pos e, if_pos (by omega)]
  · rw [if_neg e, if_neg (by omega)]
