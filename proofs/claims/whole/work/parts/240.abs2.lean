theorem some_of {so : So} {x : Int32} {σ : Sg} (h : sAt so x = some σ) : (sAt so x).isSome = true := by rw [h]; rfl
theorem none_of {so : So} {x : Int32} (h : sAt so x = none) : ¬ (sAt so x).isSome = true := by rw [h]; decide
theorem seg_step {B : Nat → Int32} {o i : Nat} {v : Int32} (h : ∀ b, b < i → B (o + b) = v) : ∀ b, b < i + 1 → upd B (o + i) v (o + b) = v := by
  intro b hb
  unfold upd
  by_cases e : b = i
  · rw [if_pos (by omega)]
  · rw [if_neg (by omega)]; exact h b (by omega)
theorem nSong_no {so : So} {x k n st m : Int32} (h : ¬ (okIn x ∧ okSong k n st m)) : nSong so x k n st m = so := by unfold nSong; rw [if_neg h]
theorem clrIf_no {P : Prop} [Decidable P] {M : Nat → Int32} {x : Int32} (h : ¬ P) : clrIf (b2i P) M x = M := by
  unfold clrIf b2i; rw [if_neg h, if_neg (by decide)]
theorem clrIf_yes {P : Prop} [Decidable P] {M : Nat → Int32} {j : Nat} (hj : j < 12) (h : P) : clrIf (b2i P) M (nI j) = clrM M j := by
  unfold clrIf b2i; rw [if_pos h, if_pos rfl, nI_clamp (by omega)]
theorem song_mo {R R' : Nat → Nat → Int32} {so : So} {j : Nat} {k n st m : Int32} (ha : moAll R so) (hj : j < 12) (hP : okSong k n st m) (r0 : R' 0 = upd (R 0) j (nI 1)) (r1 : R' 1 = upd (R 1) j k) (r2 : R' 2 = upd (R 2) j n) (r3 : R' 3 = upd (R 3) j st)
    (r4 : R' 4 = upd (R 4) j (if k = 0 then nI 0 else m)) (r5 : R' 5 = upd (R 5) j (nI 0)) (r6 : R' 6 = upd (R 6) j (nI 0)) (r7 : R' 7 = upd (R 7) j (nI 4)) (b1 : ∀ b, b < 64 → R' 8 (64 * j + b) = nI 4) (b2 : ∀ i, (i < 64 * j ∨ 64 * j + 64 ≤ i) → R' 8 i = R 8 i)
    (r9 : R' 9 = upd (R 9) j (nI 0)) (r10 : R' 10 = upd (R 10) j (nI 0)) (r11 : R' 11 = upd (R 11) j (nI 1)) : moAll R' (nSong so (nI j) k n st m) := by
  obtain ⟨⟨⟨k1, k2⟩, ⟨n1, n2⟩, s1, s2⟩, p1, p2⟩ := hP
  have e : nSong so (nI j) k n st m = va_up so j (some (newSg k n.toNatClampNeg st m)) := by
    unfold nSong
    rw [if_pos ⟨⟨nI_pos (by omega), fun q => absurd ((nI_leI (by omega) (by omega)).mp q) (by omega)⟩, ⟨⟨k1, k2⟩, ⟨n1, n2⟩, s1, s2⟩, p1, p2⟩, nI_clamp (by omega)]
  rw [e]
  obtain ⟨c, hc, rfl⟩ := le_of (n := 64) (by omega) (fun q => n1 (Int32.lt_trans q (by decide))) n2
  have hc2 : ¬ c < 2 := fun q => n1 ((nI_ltI (by omega) (by omega)).mpr q)
  rw [nI_clamp (by omega)]
  have u1 : ∀ (f : Nat → Int32) (v : Int32), upd f j v j = v := fun f v => by simp [upd]
  refine moAll_up ha (by rw [r0, u1]) ?_ ?_ ?_
  · exact ⟨by rw [r1, u1]; rfl, by rw [r2, u1]; rfl, by rw [r3, u1]; rfl, by rw [r4, u1]; rfl, by rw [r5, u1]; rfl, by rw [r6, u1]; rfl, by rw [r7, u1]; rfl, fun b hb => by rw [b1 b hb]; rfl, by rw [r9, u1]; rfl, by rw [r10, u1]; rfl, by rw [r11, u1]; rfl⟩
  · obtain ⟨z, hz, rfl⟩ := le_of (n := 400) (by omega) (fun q => s1 (Int32.lt_trans q (by decide))) s2
    have hz2 : ¬ z < 20 := fun q => s1 ((nI_ltI (by omega) (by omega)).mpr q)
    have hzi : (nI z).toInt = (z : Int) := nI_toInt (by omega)
    have t1 : (20 : Int) ≤ (nI z).toInt := by omega
    have t2 : (nI z).toInt ≤ 400 := by omega
    refine ⟨by show 2 ≤ c; omega, hc, Nat.le_refl 0, by show 0 < c; omega, Nat.le_refl 1, by show 1 ≤ 4; omega, by show c + (1 - 1) * (0 - 0 + 1) ≤ 64; omega, by show 1 ≤ 4; omega, by show 4 ≤ 16; omega, fun b => ⟨by show 1 ≤ 4; omega, Nat.le_refl 4⟩, ⟨t1, t2⟩, ?_⟩
    obtain ⟨q, hq, rfl⟩ := le_of (n := 2) (by omega) k1 k2
    show nI q = 0 ∨ nI q = nI 1 ∧ 0 ≤ (if nI q = 0 then nI 0 else m).toInt ∧ (if nI q = 0 then nI 0 else m).toInt ≤ (nI z).toInt - 10 ∨ nI q = nI 2 ∧ -20 ≤ (if nI q = 0 then nI 0 else m).toInt ∧ (if nI q = 0 then nI 0 else m).toInt ≤ 20
    rcases (show q = 0 ∨ q = 1 ∨ q = 2 by omega) with rfl | rfl | rfl
    · exact Or.inl rfl
    · refine Or.inr (Or.inl ⟨rfl, ?_⟩)
      rw [if_neg (by decide)]
      obtain ⟨a1, a2⟩ := p1 rfl
      have h1 := Int32.le_iff_toInt_le.mp (Int32.not_lt.mp a1)
      have h2 := Int32.le_iff_toInt_le.mp (Int32.not_lt.mp a2)
      rw [pk_sub (by omega), nI_toInt (by omega)] at h2
      have h4 : (0 : Int32).toInt = 0 := by decide
      omega
    · refine Or.inr (Or.inr ⟨rfl, ?_⟩)
      rw [if_neg (by decide)]
      obtain ⟨a1, a2⟩ := p2 rfl
      have h1 := Int32.le_iff_toInt_le.mp (Int32.not_lt.mp a1)
      have h2 := Int32.le_iff_toInt_le.mp (Int32.not_lt.mp a2)
      have h3 : (nI 20).toInt = 20 := by decide
      have h4 : (-20 : Int32).toInt = -20 := by decide
      omega
  · intro q hq12 hq
    have u2 : ∀ (f : Nat → Int32) (v : Int32), upd f j v q = f q := fun f v => by simp [upd, hq]
    refine ⟨fun i hi h8 => ?_, fun b hb => b2 _ (by omega)⟩
    rcases (show i = 0 ∨ i = 1 ∨ i = 2 ∨ i = 3 ∨ i = 4 ∨ i = 5 ∨ i = 6 ∨ i = 7 ∨ i = 9 ∨ i = 10 ∨ i = 11 by omega) with rfl | rfl | rfl | rfl | rfl | rfl | rfl | rfl | rfl | rfl | rfl
    · rw [r0, u2]
    · rw [r1, u2]
    · rw [r2, u2]
    · rw [r3, u2]
    · rw [r4, u2]
    · rw [r5, u2]
    · rw [r6, u2]
    · rw [r7, u2]
    · rw [r9, u2]
    · rw [r10, u2]
    · rw [r11, u2]
def pAny : Sg → Bool := fun _ => true
def fNone : Sg → Option Sg := fun _ => none
def clrS (so : So) (M : Nat → Int32) (x : Int32) : Nat → Int32 := match sAt so x with
  | none => M
  | some _ => clrM M x.toNatClampNeg
theorem clrS_none {so : So} {M : Nat → Int32} {x : Int32} (h : sAt so x = none) : clrS so M x = M := by simp only [clrS, h]
theorem clrS_some {so : So} {M : Nat → Int32} {j : Nat} {σ : Sg} (hj : j < 12) (h : sAt so (nI j) = some σ) : clrS so M (nI j) = clrM M j := by simp only [clrS, h]; rw [nI_clamp (by omega)]
theorem drop_mo {R R' : Nat → Nat → Int32} {so : So} {j : Nat} {σ : Sg} (ha : moAll R so) (hj : j < 12) (hσ : sAt so (nI j) = some σ) (h0 : R' 0 = upd (R 0) j (nI 0)) (hr : ∀ i, 0 < i → i < 12 → R' i = R i) : moAll R' (sUpd so (nI j) pAny fNone) := by
  rw [sUpd_yes hj hσ rfl]
  exact moAll_none ha (by rw [h0]; simp [upd]) (fun k _ hk => by rw [h0]; simp [upd, hk]) hr
-- must
abbrev okMust (so : So) (x y w : Int32) : Prop := (sAt so x).isSome = true ∧ (sAt so y).isSome = true ∧ ¬ x = y ∧ ¬ w < 0 ∧ ¬ nI 2 < w
def nMus (so : So) (M : Nat → Int32) (x y w : Int32) : Nat → Int32 := if okMust so x y w then upd M (12 * x.toNatClampNeg + y.toNatClampNeg) w else M
theorem nMus_no {so : So} {M : Nat → Int32} {x y w : Int32} (h : ¬ okMust so x y w) : M = nMus so M x y w := by unfold nMus; rw [if_neg h]
theorem nMus_yes {so : So} {M : Nat → Int32} {j k : Nat} {w : Int32} (hj : j < 12) (hk : k < 12) (h : okMust so (nI j) (nI k) w) : upd M (12 * j + k) w = nMus so M (nI j) (nI k) w := by
  unfold nMus; rw [if_pos h, nI_clamp (by omega), nI_clamp (by omega)]
-- strokes
abbrev okStroke (n : Nat) (T : Nat → Nat) (t : Int32) : Prop := (¬ t < 0 ∧ ¬ nI 1000000 < t) ∧ ¬ n = 60 ∧ (0 < n → ¬ t ≤ nI (T (n - 1)))
def aStroke (n : Nat) (T : Nat → Nat) (t : Int32) : Int32 := if okStroke n T t then nI (n + 1) else (-1)
def nStn (n : Nat) (T : Nat → Nat) (t : Int32) : Nat := if okStroke n T t then n + 1 else n
def nStT (n : Nat) (T : Nat → Nat) (t : Int32) (f : Nat → Int32) : Nat → Int32 := if okStroke n T t then upd f n t else f
-- costs
abbrev okCost (b k h : Int32) : Prop := (¬ b < 0 ∧ ¬ nI 1000 < b) ∧ (¬ k < 0 ∧ ¬ nI 1000 < k) ∧ ¬ h < 0 ∧ ¬ nI 1000 < h
def nCost (b k h : Int32) (F : Nat → Int32) : Nat → Int32 := if okCost b k h then va_up (va_up (va_up F 18 b) 19 k) 20 h else F
