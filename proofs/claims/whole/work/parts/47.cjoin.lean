/-! JOINS as the class finds them: plain facts -/
abbrev isBt (x : Int32) : Prop := ∃ d : Nat, 10 ≤ d ∧ d ≤ 790 ∧ x = nI d
theorem gRow_b {σ : Sg} (ok : sgOk σ) (i : Nat) : isBt (gRow σ i) := gLast_b ok _
theorem mmax_mb (c x y : Int32) : mmax (mbendh c x) (mbendh c y) = mbend c x y := by
  unfold mmax mbend
  by_cases h : mbendh c x < mbendh c y
  · rw [if_pos h, if_pos (Int32.le_of_lt h)]
  · rw [if_neg h]
    by_cases h2 : mbendh c x ≤ mbendh c y
    · rw [if_pos h2]; exact Int32.le_antisymm h2 (Int32.not_lt.mp h)
    · rw [if_neg h2]
theorem jn_b {x y : Int32} {j n : Nat} (hx : isBt x) (hy : isBt y) (hj : j < 32) (hn : n ≤ 8) : -(30000 : Int) ≤ ((y - x) * nI j + nI (2 * n)).toInt ∧ ((y - x) * nI j + nI (2 * n)).toInt ≤ 30000 := by
  obtain ⟨a, a1, a2, rfl⟩ := hx
  obtain ⟨b, b1, b2, rfl⟩ := hy
  have e1 : (nI b - nI a).toInt = (b : Int) - a := pk_sub_toInt (by omega) (by omega)
  have e2 : (nI j).toInt = (j : Int) := nI_toInt (by omega)
  have m1 : ((b : Int) - a) * j ≤ 800 * j := Int.mul_le_mul_of_nonneg_right (by omega) (by omega)
  have m2 : (-800 : Int) * j ≤ ((b : Int) - a) * j := Int.mul_le_mul_of_nonneg_right (by omega) (by omega)
  have e3 : ((nI b - nI a) * nI j).toInt = ((b : Int) - a) * j := by rw [mul_toInt_s (by rw [e1, e2]; omega) (by rw [e1, e2]; omega), e1, e2]
  have e4 : (nI (2 * n)).toInt = ((2 * n : Nat) : Int) := nI_toInt (by omega)
  rw [add_toInt_s (by rw [e3, e4]; omega) (by rw [e3, e4]; omega), e3, e4]
  omega
theorem jn_fd {x y : Int32} {j n : Nat} (hx : isBt x) (hy : isBt y) (hj : j < 32) (h1 : 1 ≤ n) (hn : n ≤ 8) : jfd ((y - x) * nI j + nI (2 * n)) (nI (4 * n)) = mfloor ((y - x) * nI j + nI (2 * n)) (nI (4 * n)) := by
  have h := jn_b (j := j) (n := n) hx hy hj hn
  exact jfd_mf (by omega) (by omega) (by omega) (by omega)
theorem mf_b {x : Int32} {n B : Nat} (h0 : 0 < n) (hn : n < 2 ^ 15) (hB : B < 2 ^ 29) (h1 : -(B : Int) ≤ x.toInt) (h2 : x.toInt ≤ B) : -(B : Int) ≤ (mfloor x (nI n)).toInt ∧ (mfloor x (nI n)).toInt ≤ B := by
  unfold mfloor
  by_cases hx : x < 0
  · rw [if_pos hx]
    obtain ⟨m, m0, m1, rfl⟩ := neg_form hx (by omega)
    rw [pk_sub_toInt (by omega) (by omega)] at h1 h2
    have e1 : (nI n - nI 1 - (nI 0 - nI m)) = nI (n - 1 + m) := by
      rw [pk_sub (by omega), ← nI_add, show nI 0 = 0 from rfl]; grind
    have e2 : -nI ((n - 1 + m) / n) = nI 0 - nI ((n - 1 + m) / n) := by rw [show nI 0 = 0 from rfl]; grind
    have e3 : (n - 1 + m) / n ≤ m := by
      have : (n - 1 + m) / n < m + 1 := Nat.div_lt_of_lt_mul (by
        rw [Nat.mul_add]
        have : m ≤ n * m := Nat.le_mul_of_pos_left m h0
        omega)
      omega
    rw [e1, pk_div (by omega) h0 (by omega), e2]
    generalize (n - 1 + m) / n = z at e3 ⊢
    rw [pk_sub_toInt (by omega) (by omega)]
    omega
  · rw [if_neg hx]
    obtain ⟨m, m0, rfl⟩ := nI_of hx
    rw [nI_toInt m0] at h1 h2
    rw [pk_div m0 h0 (by omega)]
    have e3 := Nat.div_le_self m n
    generalize m / n = z at e3 ⊢
    rw [nI_toInt (by omega)]
    omega
theorem ms_b {v : Int32} {B : Nat} (hB : B < 2 ^ 29) (h1 : -(B : Int) ≤ v.toInt) (h2 : v.toInt ≤ B) : ∃ d : Nat, d ≤ B ∧ msize v = nI d := by
  unfold msize
  by_cases hv : v < 0
  · rw [if_pos hv]
    obtain ⟨m, m0, m1, rfl⟩ := neg_form hv (by omega)
    rw [pk_sub_toInt (by omega) (by omega)] at h1 h2
    exact ⟨m, by omega, by rw [show nI 0 = 0 from rfl]; grind⟩
  · rw [if_neg hv]
    obtain ⟨m, m0, rfl⟩ := nI_of hv
    rw [nI_toInt m0] at h1 h2
    exact ⟨m, by omega, rfl⟩
theorem mone_b {X Y : Nat → Int32} {n j : Nat} (hX : isBt (X j)) (hY : isBt (Y j)) (hj : j < 4 * n) (h1 : 1 ≤ n) (hn : n ≤ 8) : ∃ d : Nat, d ≤ 70000 ∧ mone X Y n j = nI d := by
  have hb := jn_b (j := j) (n := n) hX hY (by omega) hn
  have hm := mf_b (x := (Y j - X j) * nI j + nI (2 * n)) (n := 4 * n) (B := 30000) (by omega) (by omega) (by omega) (by omega) (by omega)
  unfold mone mlast mjoin
  generalize mfloor ((Y j - X j) * nI j + nI (2 * n)) (nI (4 * n)) = q at hm ⊢
  obtain ⟨a, a1, a2, ea⟩ := hX
  obtain ⟨b, b1, b2, eb⟩ := hY
  rw [ea, eb]
  have e1 : nI a + q - nI a = q := by grind
  have e2 : nI a + q - nI b = q + (nI a - nI b) := by grind
  have e3 : (nI a - nI b).toInt = (a : Int) - b := pk_sub_toInt (by omega) (by omega)
  have e4 : (q + (nI a - nI b)).toInt = q.toInt + (nI a - nI b).toInt := add_toInt_s (by rw [e3]; omega) (by rw [e3]; omega)
  obtain ⟨d1, k1, g1⟩ := ms_b (v := q) (B := 30000) (by omega) (by omega) (by omega)
  obtain ⟨d2, k2, g2⟩ := ms_b (v := q + (nI a - nI b)) (B := 31000) (by omega) (by rw [e4, e3]; omega) (by rw [e4, e3]; omega)
  rw [e1, e2, g1, g2, nI_add]
  exact ⟨d1 + d2, by omega, rfl⟩
theorem isum_n {f : Nat → Int32} : ∀ m, (∀ j, j < m → ∃ d : Nat, d ≤ 70000 ∧ f j = nI d) → ∃ D : Nat, D ≤ 70000 * m ∧ isum f m = nI D
  | 0, _ => ⟨0, by omega, rfl⟩
  | m + 1, h => by
    obtain ⟨D, h1, h2⟩ := isum_n m (fun j hj => h j (by omega))
    obtain ⟨d, d1, d2⟩ := h m (by omega)
    exact ⟨D + d, by omega, by show isum f m + f m = _; rw [h2, d2, nI_add]⟩
theorem isum_mono {f : Nat → Int32} {m : Nat} (hm : m ≤ 32) (h : ∀ j, j < m → ∃ d : Nat, d ≤ 70000 ∧ f j = nI d) : ∀ z k, k + z = m → isum f k ≤ isum f m
  | 0, k, e => by rw [show k = m by omega]; exact Int32.le_refl _
  | z + 1, k, e => by
    obtain ⟨D, h1, h2⟩ := isum_n (f := f) k (fun j hj => h j (by omega))
    obtain ⟨d, d1, d2⟩ := h k (by omega)
    have i := isum_mono hm h z (k + 1) (by omega)
    refine Int32.le_trans ?_ i
    show isum f k ≤ isum f k + f k
    rw [h2, d2, nI_add, nI_leI (by omega) (by omega)]
    omega
/-- what bentBy tells -/
def bentL (c lim : Int32) : Int32 := if c = nI 1000000000 then nI 1073741824 else if c < lim then c else nI 1073741824
abbrev mIs (X Y : Nat → Int32) (n : Nat) : Prop := ∀ j, j < 4 * n → isBt (X j) ∧ isBt (Y j)
theorem mcost_lt {bd : Int32} {X Y : Nat → Int32} {n : Nat} (h1 : 1 ≤ n) (hn : n ≤ 8) (h : mIs X Y n) : mcost bd X Y n = nI 1000000000 ∨ ∃ D : Nat, D ≤ 2240000 ∧ mcost bd X Y n = nI D := by
  unfold mcost
  split
  · obtain ⟨D, d1, d2⟩ := isum_n (f := mone X Y n) (4 * n) (fun j hj => mone_b (h j hj).1 (h j hj).2 hj h1 hn)
    exact Or.inr ⟨D, by omega, d2⟩
  · exact Or.inl rfl
theorem bent_1 {bd lim : Int32} {X Y : Nat → Int32} {n j : Nat} (h1 : 1 ≤ n) (hn : n ≤ 8) (h : mIs X Y n) (hj : j < 4 * n) (hl : lim ≤ isum (mone X Y n) (j + 1)) : nI 1073741824 = bentL (mcost bd X Y n) lim := by
  unfold bentL mcost
  by_cases c : ∀ j, j < 4 * n → mbend (mlast X Y n j) (X j) (Y j) ≤ bd
  · rw [if_pos c]
    have hm := isum_mono (f := mone X Y n) (m := 4 * n) (by omega) (fun j hj => mone_b (h j hj).1 (h j hj).2 hj h1 hn) (4 * n - (j + 1)) (j + 1) (by omega)
    split
    · rfl
    · rw [if_neg (Int32.not_lt.mpr (Int32.le_trans hl hm))]
  · rw [if_neg c, if_pos rfl]
theorem bent_2 {bd lim : Int32} {X Y : Nat → Int32} {n j : Nat} (hj : j < 4 * n) (hb : bd < mbend (mlast X Y n j) (X j) (Y j)) : nI 1073741824 = bentL (mcost bd X Y n) lim := by
  have e : mcost bd X Y n = nI 1000000000 := if_neg (fun q => absurd hb (Int32.not_lt.mpr (q j hj)))
  unfold bentL
  rw [e, if_pos rfl]
theorem bent_3 {bd lim : Int32} {X Y : Nat → Int32} {n : Nat} (h1 : 1 ≤ n) (hn : n ≤ 8) (h : mIs X Y n) (hb : ∀ j, j < 4 * n → mbend (mlast X Y n j) (X j) (Y j) ≤ bd) (hl : isum (mone X Y n) (4 * n) < lim) : isum (mone X Y n) (4 * n) = bentL (mcost bd X Y n) lim := by
  unfold bentL mcost
  rw [if_pos hb]
  obtain ⟨D, d1, d2⟩ := isum_n (f := mone X Y n) (4 * n) (fun j hj => mone_b (h j hj).1 (h j hj).2 hj h1 hn)
  rw [d2] at hl ⊢
  rw [if_neg (fun q => absurd ((nI_eq (by omega) (by omega)).mp q) (by omega)), if_pos hl]
/-- the row of those that are kept: one that sounds like the one ahead is left out -/
def kS (al : Nat → Nat → Prop) [∀ u w, Decidable (al u w)] (x : Nat → Nat) (cd : Nat → Prop) [∀ u, Decidable (cd u)] : Nat → Nat × (Nat → Nat)
  | 0 => (0, fun _ => 0)
  | d + 1 => if cd (x d) ∧ ((kS al x cd d).1 = 0 ∨ ¬ al (x d) ((kS al x cd d).2 ((kS al x cd d).1 - 1))) then ((kS al x cd d).1 + 1, va_up (kS al x cd d).2 (kS al x cd d).1 (x d)) else kS al x cd d
theorem kS_yes {al : Nat → Nat → Prop} [∀ u w, Decidable (al u w)] {x : Nat → Nat} {cd : Nat → Prop} [∀ u, Decidable (cd u)] {d : Nat} (h : cd (x d) ∧ ((kS al x cd d).1 = 0 ∨ ¬ al (x d) ((kS al x cd d).2 ((kS al x cd d).1 - 1)))) : kS al x cd (d + 1) = ((kS al x cd d).1 + 1, va_up (kS al x cd d).2 (kS al x cd d).1 (x d)) := if_pos h
theorem kS_no {al : Nat → Nat → Prop} [∀ u w, Decidable (al u w)] {x : Nat → Nat} {cd : Nat → Prop} [∀ u, Decidable (cd u)] {d : Nat} (h : ¬ (cd (x d) ∧ ((kS al x cd d).1 = 0 ∨ ¬ al (x d) ((kS al x cd d).2 ((kS al x cd d).1 - 1))))) : kS al x cd (d + 1) = kS al x cd d := if_neg h
theorem kS_le {al : Nat → Nat → Prop} [∀ u w, Decidable (al u w)] {x : Nat → Nat} {cd : Nat → Prop} [∀ u, Decidable (cd u)] : ∀ d, (kS al x cd d).1 ≤ d
  | 0 => Nat.le_refl 0
  | d + 1 => by
    have := kS_le (al := al) (x := x) (cd := cd) d
    by_cases h : cd (x d) ∧ ((kS al x cd d).1 = 0 ∨ ¬ al (x d) ((kS al x cd d).2 ((kS al x cd d).1 - 1)))
    · rw [kS_yes h]; show _ + 1 ≤ _; omega
    · rw [kS_no h]; omega
theorem kS_mem {al : Nat → Nat → Prop} [∀ u w, Decidable (al u w)] {x : Nat → Nat} {cd : Nat → Prop} [∀ u, Decidable (cd u)] : ∀ d i, i < (kS al x cd d).1 → ∃ e, e < d ∧ (kS al x cd d).2 i = x e ∧ cd (x e)
  | 0, i, h => absurd h (Nat.not_lt_zero _)
  | d + 1, i, h => by
    by_cases c : cd (x d) ∧ ((kS al x cd d).1 = 0 ∨ ¬ al (x d) ((kS al x cd d).2 ((kS al x cd d).1 - 1)))
    · rw [kS_yes c] at h ⊢
      have h : i < (kS al x cd d).1 + 1 := h
      show ∃ e, e < d + 1 ∧ va_up (kS al x cd d).2 (kS al x cd d).1 (x d) i = x e ∧ cd (x e)
      unfold va_up
      by_cases e : i = (kS al x cd d).1
      · rw [if_pos e]; exact ⟨d, by omega, rfl, c.1⟩
      · rw [if_neg e]
        obtain ⟨z, z1, z2⟩  := kS_mem (al := al) (x := x) (cd := cd) d i (by omega)
        exact ⟨z, by omega, z2⟩
    · rw [kS_no c] at h ⊢
      obtain ⟨z, z1, z2⟩  := kS_mem (al := al) (x := x) (cd := cd) d i h
      exact ⟨z, by omega, z2⟩
theorem kS_st {al : Nat → Nat → Prop} [∀ u w, Decidable (al u w)] {x : Nat → Nat} {cd : Nat → Prop} [∀ u, Decidable (cd u)] : ∀ d e, d ≤ e → (kS al x cd d).1 ≤ (kS al x cd e).1 ∧ ∀ i, i < (kS al x cd d).1 → (kS al x cd e).2 i = (kS al x cd d).2 i
  | d, 0, h => by rw [show d = 0 by omega]; exact ⟨Nat.le_refl _, fun i hi => rfl⟩
  | d, e + 1, h => by
    by_cases q : d = e + 1
    · rw [q]; exact ⟨Nat.le_refl _, fun i hi => rfl⟩
    · obtain ⟨a, b⟩  := kS_st (al := al) (x := x) (cd := cd) d e (by omega)
      by_cases c : cd (x e) ∧ ((kS al x cd e).1 = 0 ∨ ¬ al (x e) ((kS al x cd e).2 ((kS al x cd e).1 - 1)))
      · rw [kS_yes c]
        refine ⟨by show _ ≤ _ + 1; omega, fun i hi => ?_⟩
        show va_up (kS al x cd e).2 (kS al x cd e).1 (x e) i = _
        unfold va_up
        rw [if_neg (by omega)]
        exact b i hi
      · rw [kS_no c]; exact ⟨a, b⟩
def sC (c : Nat → Nat → Int32) (u w : Nat) (s : Int32 × Nat × Nat) : Int32 × Nat × Nat := if bentL (c u w) s.1 < s.1 then (bentL (c u w) s.1, u, w) else s
def cRow (c : Nat → Nat → Int32) (u : Nat) (fe : Nat → Nat) (s : Int32 × Nat × Nat) : Nat → Int32 × Nat × Nat
  | 0 => s
  | k + 1 => sC c u (fe k) (cRow c u fe s k)
def cAll (c : Nat → Nat → Int32) (fl fe : Nat → Nat) (ec : Nat) : Nat → Int32 × Nat × Nat
  | 0 => (nI 1073741824, 0, 0)
  | i + 1 => cRow c (fl i) fe (cAll c fl fe ec i) ec
def relB (s t : Int32 × Nat × Nat) : Prop := (t.1 = nI 1000000000 ∧ s.1 = nI 1073741824) ∨ (t.1 < nI 1000000000 ∧ s = t)
theorem step_rel {cd : Nat → Nat → Prop} [∀ u w, Decidable (cd u w)] {c : Nat → Nat → Int32} {u w : Nat} {s t : Int32 × Nat × Nat} (h : relB s t) (hcd : cd u w) (hc : c u w ≤ nI 1000000000) : relB (sC c u w s) (stepB cd c u w t) := by
  unfold stepB
  rw [if_pos hcd]
  unfold sC
  by_cases hf : c u w = nI 1000000000
  · have e : bentL (c u w) s.1 = nI 1073741824 := by unfold bentL; rw [if_pos hf]
    rw [e]
    rcases h with ⟨h1, h2⟩ | ⟨h1, h2⟩
    · rw [if_neg (by rw [h2]; exact Int32.lt_irrefl), if_pos (by rw [hf, h1]; exact Int32.le_refl _)]
      exact Or.inl ⟨h1, h2⟩
    · rw [if_neg (fun q => by
        rw [h2] at q
        exact absurd (Int32.lt_trans q h1) (by decide)), if_pos (by rw [hf]; exact Int32.le_of_lt h1)]
      exact Or.inr ⟨h1, h2⟩
  · have hl : c u w < nI 1000000000 := by
      rcases Int32.le_iff_lt_or_eq.mp hc with q | q
      · exact q
      · exact absurd q hf
    rcases h with ⟨h1, h2⟩ | ⟨h1, h2⟩
    · have hl2 : c u w < s.1 := by rw [h2]; exact Int32.lt_trans hl (by decide)
      have e : bentL (c u w) s.1 = c u w := by unfold bentL; rw [if_neg hf, if_pos hl2]
      rw [e, if_pos hl2, if_neg (by rw [h1]; exact Int32.not_le.mpr hl)]
      exact Or.inr ⟨hl, rfl⟩
    · subst h2
      by_cases q : c u w < s.1
      · have e : bentL (c u w) s.1 = c u w := by unfold bentL; rw [if_neg hf, if_pos q]
        rw [e, if_pos q, if_neg (Int32.not_le.mpr q)]
        exact Or.inr ⟨hl, rfl⟩
      · have e : bentL (c u w) s.1 = nI 1073741824 := by unfold bentL; rw [if_neg hf, if_neg q]
        rw [e, if_neg (fun z => absurd (Int32.lt_trans z h1) (by decide)), if_pos (Int32.not_lt.mp q)]
        exact Or.inr ⟨h1, rfl⟩
theorem stepB_le {cd : Nat → Nat → Prop} [∀ u w, Decidable (cd u w)] {c : Nat → Nat → Int32} {u w : Nat} {t : Int32 × Nat × Nat} : (stepB cd c u w t).1 ≤ t.1 := by
  unfold stepB
  split
  · split
    · exact Int32.le_refl _
    · next q => exact Int32.le_of_lt (Int32.not_le.mp q)
  · exact Int32.le_refl _
theorem rowB_dn {cd : Nat → Nat → Prop} [∀ u w, Decidable (cd u w)] {c : Nat → Nat → Int32} {u : Nat} {t : Int32 × Nat × Nat} : ∀ m, (rowB cd c u t m).1 ≤ t.1 ∧ ∀ w, w < m → cd u w → (rowB cd c u t m).1 ≤ c u w
  | 0 => ⟨Int32.le_refl _, fun w h => absurd h (Nat.not_lt_zero _)⟩
  | m + 1 => by
    obtain ⟨a, b⟩ := rowB_dn (cd := cd) (c := c) (u := u) (t := t) m
    refine ⟨Int32.le_trans (stepB_le (cd := cd) (c := c)) a, fun w hw hcd => ?_⟩
    by_cases e : w = m
    · subst e
      show (stepB cd c u w (rowB cd c u t w)).1 ≤ _
      unfold stepB
      rw [if_pos hcd]
      split
      · next q => exact q
      · exact Int32.le_refl _
    · exact Int32.le_trans (stepB_le (cd := cd) (c := c)) (b w (by omega) hcd)
theorem rowB_stay {cd : Nat → Nat → Prop} [∀ u w, Decidable (cd u w)] {c : Nat → Nat → Int32} {u : Nat} {t : Int32 × Nat × Nat} : ∀ m, (∀ w, w < m → cd u w → t.1 ≤ c u w) → rowB cd c u t m = t
  | 0, _ => rfl
  | m + 1, h => by
    show stepB cd c u m (rowB cd c u t m) = t
    rw [rowB_stay (cd := cd) (c := c) m (fun w hw => h w (by omega))]
    unfold stepB
    by_cases e : cd u m
    · rw [if_pos e, if_pos (h m (by omega) e)]
    · rw [if_neg e]
theorem allB_dn {cd : Nat → Nat → Prop} [∀ u w, Decidable (cd u w)] {c : Nat → Nat → Int32} {P M : Nat} : ∀ d, ∀ e, e < d → ∀ w, w < M → cd (P - 1 - e) w → (allB cd c P M d).1 ≤ c (P - 1 - e) w
  | 0, e, h, _, _, _ => absurd h (Nat.not_lt_zero _)
  | d + 1, e, h, w, hw, hcd => by
    have r := rowB_dn (cd := cd) (c := c) (u := P - 1 - d) (t := allB cd c P M d) M
    show (rowB cd c (P - 1 - d) (allB cd c P M d) M).1 ≤ _
    by_cases q : e = d
    · subst q; exact r.2 w hw hcd
    · exact Int32.le_trans r.1 (allB_dn (cd := cd) (c := c) d e (by omega) w hw hcd)
theorem row_rel {cu cw : Nat → Prop} [∀ u, Decidable (cu u)] [∀ u, Decidable (cw u)] {cd : Nat → Nat → Prop} [∀ u w, Decidable (cd u w)] {c : Nat → Nat → Int32} {bl : Nat → Nat → Prop} [∀ u w, Decidable (bl u w)] {u M : Nat} {s t : Int32 × Nat × Nat} (hcd : ∀ w, cd u w ↔ cu u ∧ cw w) (hu : cu u) (hc : ∀ w, w < M → cw w → c u w ≤ nI 1000000000) (hal : ∀ w y, w < M → y < M → cw w → cw y → bl w y → c u w = c u y) (h : relB s t) :
    ∀ m, m ≤ M → relB (cRow c u (kS bl (fun d => d) cw M).2 s (kS bl (fun d => d) cw m).1) (rowB cd c u t m)
  | 0, _ => h
  | m + 1, hm => by
    have i := row_rel (bl := bl) hcd hu hc hal h m (by omega)
    by_cases k : cw m ∧ ((kS bl (fun d => d) cw m).1 = 0 ∨ ¬ bl m ((kS bl (fun d => d) cw m).2 ((kS bl (fun d => d) cw m).1 - 1)))
    · have st := kS_st (al := bl) (x := fun d => d) (cd := cw) (m + 1) M hm
      have e := kS_yes (al := bl) (x := fun d => d) (cd := cw) k
      rw [e] at st ⊢
      have e2 : (kS bl (fun d => d) cw M).2 (kS bl (fun d => d) cw m).1 = m := (st.2 _ (Nat.lt_succ_self _)).trans (if_pos rfl)
      show relB (sC c u ((kS bl (fun d => d) cw M).2 (kS bl (fun d => d) cw m).1) (cRow c u (kS bl (fun d => d) cw M).2 s (kS bl (fun d => d) cw m).1)) (stepB cd c u m (rowB cd c u t m))
      rw [e2]
      exact step_rel i ((hcd m).mpr ⟨hu, k.1⟩) (hc m (by omega) k.1)
    · rw [kS_no (al := bl) (x := fun d => d) (cd := cw) k]
      by_cases k1 : cw m
      · have k2 : ¬ (kS bl (fun d => d) cw m).1 = 0 := fun q => k ⟨k1, Or.inl q⟩
        have k3 : bl m ((kS bl (fun d => d) cw m).2 ((kS bl (fun d => d) cw m).1 - 1)) := Classical.not_not.mp (fun q => k ⟨k1, Or.inr q⟩)
        obtain ⟨y, y1, y2, y3⟩ := kS_mem (al := bl) (x := fun d => d) (cd := cw) m ((kS bl (fun d => d) cw m).1 - 1) (by omega)
        rw [y2] at k3
        rw [rowB_le ((hcd m).mpr ⟨hu, k1⟩) (by rw [hal m y (by omega) (by omega) k1 y3 k3]; exact (rowB_dn (cd := cd) (c := c) m).2 y y1 ((hcd y).mpr ⟨hu, y3⟩))]
        exact i
      · rw [rowB_no (fun q => k1 ((hcd m).mp q).2)]
        exact i
theorem all_rel {cu cw : Nat → Prop} [∀ u, Decidable (cu u)] [∀ u, Decidable (cw u)] {cd : Nat → Nat → Prop} [∀ u w, Decidable (cd u w)] {c : Nat → Nat → Int32} {al bl : Nat → Nat → Prop} [∀ u w, Decidable (al u w)] [∀ u w, Decidable (bl u w)] {P M : Nat} (hcd : ∀ u w, cd u w ↔ cu u ∧ cw w) (hc : ∀ u w, u < P → w < M → cu u → cw w → c u w ≤ nI 1000000000) (hal : ∀ u w y, u < P → w < M → y < M → cu u → cw w → cw y → bl w y → c u w = c u y) (hbl : ∀ u v w, u < P → v < P → w < M → cu u → cu v → cw w → al u v → c u w = c v w) :
    ∀ d, d ≤ P → relB (cAll c (kS al (fun d => P - 1 - d) cu P).2 (kS bl (fun d => d) cw M).2 (kS bl (fun d => d) cw M).1 (kS al (fun d => P - 1 - d) cu d).1) (allB cd c P M d)
  | 0, _ => Or.inl ⟨rfl, rfl⟩
  | d + 1, hd => by
    have i := all_rel hcd hc hal hbl d (by omega)
    show relB _ (rowB cd c (P - 1 - d) (allB cd c P M d) M)
    by_cases k : cu (P - 1 - d) ∧ ((kS al (fun d => P - 1 - d) cu d).1 = 0 ∨ ¬ al (P - 1 - d) ((kS al (fun d => P - 1 - d) cu d).2 ((kS al (fun d => P - 1 - d) cu d).1 - 1)))
    · have st := kS_st (al := al) (x := fun d => P - 1 - d) (cd := cu) (d + 1) P hd
      have e := kS_yes (al := al) (x := fun d => P - 1 - d) (cd := cu) k
      rw [e] at st ⊢
      have e2 : (kS al (fun d => P - 1 - d) cu P).2 (kS al (fun d => P - 1 - d) cu d).1 = P - 1 - d := (st.2 _ (Nat.lt_succ_self _)).trans (if_pos rfl)
      show relB (cRow c ((kS al (fun d => P - 1 - d) cu P).2 (kS al (fun d => P - 1 - d) cu d).1) (kS bl (fun d => d) cw M).2 (cAll c (kS al (fun d => P - 1 - d) cu P).2 (kS bl (fun d => d) cw M).2 (kS bl (fun d => d) cw M).1 (kS al (fun d => P - 1 - d) cu d).1) (kS bl (fun d => d) cw M).1) _
      rw [e2]
      exact row_rel (hcd _) k.1 (fun w hw q => hc _ w (by omega) hw k.1 q) (fun w y hw hy q1 q2 q3 => hal _ w y (by omega) hw hy k.1 q1 q2 q3) i M (Nat.le_refl _)
    · rw [kS_no (al := al) (x := fun d => P - 1 - d) (cd := cu) k]
      by_cases k1 : cu (P - 1 - d)
      · have k2 : ¬ (kS al (fun d => P - 1 - d) cu d).1 = 0 := fun q => k ⟨k1, Or.inl q⟩
        have k3 : al (P - 1 - d) ((kS al (fun d => P - 1 - d) cu d).2 ((kS al (fun d => P - 1 - d) cu d).1 - 1)) := Classical.not_not.mp (fun q => k ⟨k1, Or.inr q⟩)
        obtain ⟨y, y1, y2, y3⟩ := kS_mem (al := al) (x := fun d => P - 1 - d) (cd := cu) d ((kS al (fun d => P - 1 - d) cu d).1 - 1) (by omega)
        rw [y2] at k3
        rw [rowB_stay (cd := cd) (c := c) M (fun w hw q => by
          have qw := ((hcd _ _).mp q).2
          rw [hbl _ (P - 1 - y) w (by omega) (by omega) hw k1 y3 qw k3]
          exact allB_dn (cd := cd) (c := c) d y y1 w hw ((hcd _ _).mpr ⟨y3, qw⟩))]
        exact i
      · rw [rowB_stay (cd := cd) (c := c) M (fun w hw q => absurd ((hcd _ _).mp q).1 k1)]
        exact i
/-- as many bars as that are whole, from one on -/
theorem gW_le (σ : Sg) : ∀ d, gW σ d ≤ d
  | 0 => Nat.le_refl 0
  | d + 1 => by
    have := gW_le σ d
    unfold gW; split <;> omega
theorem gW_iff {σ : Sg} : ∀ d n, n ≤ d → d ≤ gPB σ → (n ≤ gW σ d ↔ ∀ k, k < n → gC σ (gBar σ (gPB σ - d + k)) = 4)
  | d, 0, _, _ => ⟨fun _ k hk => absurd hk (Nat.not_lt_zero _), fun _ => Nat.zero_le _⟩
  | 0, n + 1, h, _ => absurd h (by omega)
  | d + 1, n + 1, h, hd => by
    have i := gW_iff (σ := σ) d n (by omega) (by omega)
    unfold gW
    by_cases e : gC σ (gBar σ (gPB σ - (d + 1))) = 4
    · rw [if_pos e]
      constructor
      · intro q k hk
        rcases Nat.eq_zero_or_pos k with c | c
        · rw [c]; exact e
        · have := i.mp (by omega) (k - 1) (by omega)
          rw [show gPB σ - (d + 1) + k = gPB σ - d + (k - 1) by omega]; exact this
      · intro q
        have := i.mpr (fun k hk => by rw [show gPB σ - d + k = gPB σ - (d + 1) + (k + 1) by omega]; exact q (k + 1) (by omega))
        omega
    · rw [if_neg e]
      exact ⟨fun q => absurd q (by omega), fun q => absurd (q 0 (by omega)) e⟩
theorem brk_0 {σ : Sg} (ok : sgOk σ) {q : Nat} : gBrk σ q = 0 ↔ gC σ (gBar σ q) = 4 := by
  have h := ok.2.2.2.2.2.2.2.2.2.1 (gBar σ q)
  unfold gBrk
  by_cases e : gC σ (gBar σ q) < 4
  · rw [if_pos e]
    exact ⟨fun q => absurd q (by decide), fun q => by omega⟩
  · rw [if_neg e]
    exact ⟨fun q => by omega, fun _ => rfl⟩
theorem gW_whole {σ : Sg} (ok : sgOk σ) {u n : Nat} (h1 : 1 ≤ n) : n ≤ gW σ (gPB σ - u) ↔ ¬ wholeV (gBrk σ) (gPB σ) u n = 0 := by
  have hl := gW_le σ (gPB σ - u)
  unfold wholeV
  by_cases c : gPB σ < u + n
  · rw [if_pos c]
    exact ⟨fun q => by omega, fun q => absurd rfl q⟩
  · rw [if_neg c]
    have i := gW_iff (σ := σ) (gPB σ - u) n (by omega) (by omega)
    rw [i]
    constructor
    · intro q
      rw [if_pos (fun k hk => (brk_0 ok).mpr (by have := q k hk; rwa [show gPB σ - (gPB σ - u) + k = u + k by omega] at this))]
      decide
    · intro q
      by_cases z : ∀ k, k < n → gBrk σ (u + k) = 0
      · intro k hk
        rw [show gPB σ - (gPB σ - u) + k = u + k by omega]
        exact (brk_0 ok).mp (z k hk)
      · rw [if_neg z] at q; exact absurd rfl q
/-- the table of what is played, where the bars are whole -/
theorem la_row {F : Nat → Int32} {R : Nat → Nat → Int32} {σ : Sg} (ok : sgOk σ) (hQ : soQ F R σ) {u n : Nat} (h1 : 1 ≤ n) (h : n ≤ gW σ (gPB σ - u)) : u + n ≤ gPB σ ∧ ∀ j, j < 4 * n → R 18 (4 * u + j) = gRow σ (4 * u + j) := by
  have hl := gW_le σ (gPB σ - u)
  refine ⟨by omega, fun j hj => ?_⟩
  have i := (gW_iff (σ := σ) (gPB σ - u) n (by omega) (by omega)).mp h (j / 4) (by omega)
  rw [show gPB σ - (gPB σ - u) + j / 4 = u + j / 4 by omega] at i
  have := hQ.2.2.2.2 (u + j / 4) (by omega) (j % 4) (by omega)
  rw [show 4 * (u + j / 4) + j % 4 = 4 * u + j by omega] at this
  rw [this]
  unfold gRow
  rw [show (4 * u + j) / 4 = u + j / 4 by omega, show (4 * u + j) % 4 = j % 4 by omega]
abbrev cuC (σ : Sg) (n u : Nat) : Prop := n ≤ gW σ (gPB σ - u) ∧ ¬ gPhr σ u = 0
abbrev alC (f : Nat → Int32) (n u w : Nat) : Prop := ∀ k, k < 4 * n → f (4 * u + k) = f (4 * w + k)
/-- THE JOIN of two songs as the class seeks it is the one that the reference finds -/
theorem seek_rel {F F' : Nat → Int32} {R R' : Nat → Nat → Int32} {σ τ : Sg} {n : Nat} {bd : Int32} (ok : sgOk σ) (ok' : sgOk τ) (hQ : soQ F R σ) (hQ' : soQ F' R' τ) (h1 : 1 ≤ n) (hn : n ≤ 8) :
    relB (cAll (jCost bd σ τ n) (kS (alC (R 18) n) (fun d => gPB σ + 1 - n - 1 - d) (cuC σ n) (gPB σ + 1 - n)).2 (kS (alC (R' 18) n) (fun d => d) (cuC τ n) (gPB τ + 1 - n)).2 (kS (alC (R' 18) n) (fun d => d) (cuC τ n) (gPB τ + 1 - n)).1 (kS (alC (R 18) n) (fun d => gPB σ + 1 - n - 1 - d) (cuC σ n) (gPB σ + 1 - n)).1) (bestT bd σ τ n) := by
  have hc : ∀ u w, jCost bd σ τ n u w ≤ nI 1000000000 := fun u w => by
    rcases mcost_lt (bd := bd) h1 hn (X := fun j => gRow σ (4 * u + j)) (Y := fun j => gRow τ (4 * w + j)) (fun j _ => ⟨gRow_b ok _, gRow_b ok' _⟩) with q | ⟨D, d1, d2⟩
    · rw [jCost, q]; exact Int32.le_refl _
    · rw [jCost, d2, nI_leI (by omega) (by omega)]; omega
  refine all_rel (cu := cuC σ n) (cw := cuC τ n) ?_ (fun u w _ _ _ _ => hc u w) ?_ ?_ (gPB σ + 1 - n) (Nat.le_refl _)
  · intro u w
    unfold candJ cuC
    rw [gW_whole ok h1, gW_whole ok' h1]
    exact ⟨fun ⟨⟨a, b⟩, c, d⟩ => ⟨⟨b, a⟩, d, c⟩, fun ⟨⟨a, b⟩, c, d⟩ => ⟨⟨b, a⟩, d, c⟩⟩
  · intro u w y _ _ _ _ hw hy h
    have a := (la_row ok' hQ' h1 hw.1).2
    have b := (la_row ok' hQ' h1 hy.1).2
    exact mcost_congr (fun j _ => rfl) (fun j hj => by rw [← a j hj, ← b j hj]; exact h j hj)
  · intro u v w _ _ _ hu hv _ h
    have a := (la_row ok hQ h1 hu.1).2
    have b := (la_row ok hQ h1 hv.1).2
    exact mcost_congr (fun j hj => by rw [← a j hj, ← b j hj]; exact h j hj) (fun j _ => rfl)
