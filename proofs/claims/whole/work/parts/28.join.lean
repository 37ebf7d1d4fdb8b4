/-! JOINS: what is read off two songs, and the best of a pair -/
def gRow (σ : Sg) (i : Nat) : Int32 := gLast σ (gFst σ (gBar σ (i / 4)) + i % 4)
def gBrk (σ : Sg) (q : Nat) : Int32 := if gC σ (gBar σ q) < 4 then nI 1 else nI 0
def gPhr (σ : Sg) (q : Nat) : Int32 := if gBar σ q % gPh σ = 0 then nI 1 else nI 0
/-- a beat lasts 10 to 790 -/
theorem gLast_b {σ : Sg} (ok : sgOk σ) (k : Nat) : ∃ d : Nat, 10 ≤ d ∧ d ≤ 790 ∧ gLast σ k = nI d := by
  obtain ⟨-, -, -, -, -, -, -, -, -, -, ⟨s1, s2⟩, hk⟩ := ok
  obtain ⟨z, hz, ez⟩ := nI_of (x := gStep σ) (fun q => by have := Int32.lt_iff_toInt_lt.mp q; have h0 : (0 : Int32).toInt = 0 := by decide
                                                          omega)
  rw [ez, nI_toInt hz] at s1 s2
  unfold gLast
  split
  · exact ⟨z, by omega, by omega, ez⟩
  · split
    · rename_i hn0 hn1
      rcases hk with h | ⟨-, h1, h2⟩ | ⟨h, -⟩
      · exact absurd h hn0
      · obtain ⟨y, hy, ey⟩ := nI_of (x := gMore σ) (fun q => by have := Int32.lt_iff_toInt_lt.mp q; have h0 : (0 : Int32).toInt = 0 := by decide
                                                                omega)
        rw [ey, nI_toInt hy, ez, nI_toInt hz] at h2
        rw [ez, ey]
        split
        · exact ⟨z + y, by omega, by omega, nI_add z y⟩
        · exact ⟨z - y, by omega, by omega, pk_sub (by omega)⟩
      · exact absurd (h.symm.trans hn1) (by decide)
    · unfold clampT
      split
      · exact ⟨20, by omega, by omega, rfl⟩
      · split
        · exact ⟨400, by omega, by omega, rfl⟩
        · next h1 h2 =>
          obtain ⟨y, hy, ey⟩ := le_of (n := 400) (by omega) (fun q => h1 (Int32.lt_trans q (by decide))) h2
          rw [ey] at h1 ⊢
          have : ¬ y < 20 := fun q => h1 ((nI_ltI (by omega) (by omega)).mpr q)
          exact ⟨y, by omega, by omega, rfl⟩
theorem gRow_ne {σ : Sg} (ok : sgOk σ) (i : Nat) : ¬ gRow σ i = 0 := by
  obtain ⟨d, h1, h2, h⟩ := gLast_b ok (gFst σ (gBar σ (i / 4)) + i % 4)
  unfold gRow
  rw [h]
  exact nI_ne0 (by omega) (by omega)
theorem moSg_eq {R R1 : Nat → Nat → Int32} {j : Nat} {σ : Sg} (h : moSg R j σ) (hr : ∀ i, i < 12 → R1 i = R i) : moSg R1 j σ := by
  unfold moSg
  rw [hr 1 (by omega), hr 2 (by omega), hr 3 (by omega), hr 4 (by omega), hr 5 (by omega), hr 6 (by omega), hr 7 (by omega), hr 8 (by omega), hr 9 (by omega), hr 10 (by omega), hr 11 (by omega)]
  exact h
theorem wholeV_congr {f f' : Nat → Int32} {many q n : Nat} (h : ∀ k, k < many → f k = f' k) : wholeV f many q n = wholeV f' many q n := by
  unfold wholeV
  split
  · rfl
  · next hm =>
    have e : (∀ k, k < n → f (q + k) = 0) ↔ (∀ k, k < n → f' (q + k) = 0) := by
      constructor
      · intro z k hk; rw [← h (q + k) (by omega)]; exact z k hk
      · intro z k hk; rw [h (q + k) (by omega)]; exact z k hk
    by_cases z : ∀ k, k < n → f (q + k) = 0
    · rw [if_pos z, if_pos (e.mp z)]
    · rw [if_neg z, if_neg (fun w => z (e.mpr w))]
theorem isum_congr {f f' : Nat → Int32} : ∀ n, (∀ k, k < n → f k = f' k) → isum f n = isum f' n
  | 0, _ => rfl
  | n + 1, h => by
    show isum f n + f n = isum f' n + f' n
    rw [isum_congr n (fun k hk => h k (by omega)), h n (by omega)]
theorem mcost_congr {bd : Int32} {x y x' y' : Nat → Int32} {n : Nat} (hx : ∀ j, j < 4 * n → x j = x' j) (hy : ∀ j, j < 4 * n → y j = y' j) : mcost bd x y n = mcost bd x' y' n := by
  unfold mcost
  have e1 : ∀ j, j < 4 * n → mlast x y n j = mlast x' y' n j := fun j hj => by unfold mlast; rw [hx j hj, hy j hj]
  have e : (∀ j, j < 4 * n → mbend (mlast x y n j) (x j) (y j) ≤ bd) ↔ (∀ j, j < 4 * n → mbend (mlast x' y' n j) (x' j) (y' j) ≤ bd) := by
    constructor
    · intro z j hj; rw [← e1 j hj, ← hx j hj, ← hy j hj]; exact z j hj
    · intro z j hj; rw [e1 j hj, hx j hj, hy j hj]; exact z j hj
  have e2 : isum (mone x y n) (4 * n) = isum (mone x' y' n) (4 * n) := isum_congr _ (fun j hj => by unfold mone; rw [e1 j hj, hx j hj, hy j hj])
  by_cases z : ∀ j, j < 4 * n → mbend (mlast x y n j) (x j) (y j) ≤ bd
  · rw [if_pos z, if_pos (e.mp z), e2]
  · rw [if_neg z, if_neg (fun w => z (e.mpr w))]
def jCost (bd : Int32) (σ τ : Sg) (n u w : Nat) : Int32 := mcost bd (fun j => gRow σ (4 * u + j)) (fun j => gRow τ (4 * w + j)) n
/-- what 'loads' leaves in the rows -/
def rowsOk (U : Nat → Nat → Int32) (σ τ : Sg) : Prop := (∀ i, i < 4 * gPB σ → U 21 i = gRow σ i) ∧ (∀ i, i < 4 * gPB τ → U 22 i = gRow τ i) ∧ (∀ q, q < gPB σ → U 23 q = gBrk σ q) ∧ (∀ q, q < gPB τ → U 24 q = gBrk τ q) ∧ (∀ q, q < gPB σ → U 25 q = gPhr σ q) ∧ (∀ q, q < gPB τ → U 26 q = gPhr τ q)
def keepX (U R : Nat → Nat → Int32) : Prop := ∀ i, (i < 21 ∨ 27 ≤ i) → U i = R i
def playOk (σ : Sg) (many : Nat) (RW BK PH : Nat → Int32) : Prop := (∀ i, i < 4 * many → RW i = gRow σ i) ∧ (∀ q, q < many → BK q = gBrk σ q) ∧ ∀ q, q < many → PH q = gPhr σ q
/-- the best of all pairs, p from above, q from below -/
def stepB (cd : Nat → Nat → Prop) [∀ u w, Decidable (cd u w)] (c : Nat → Nat → Int32) (u w : Nat) (s : Int32 × Nat × Nat) : Int32 × Nat × Nat := if cd u w then (if s.1 ≤ c u w then s else (c u w, u, w)) else s
def rowB (cd : Nat → Nat → Prop) [∀ u w, Decidable (cd u w)] (c : Nat → Nat → Int32) (u : Nat) (s : Int32 × Nat × Nat) : Nat → Int32 × Nat × Nat
  | 0 => s
  | m + 1 => stepB cd c u m (rowB cd c u s m)
def allB (cd : Nat → Nat → Prop) [∀ u w, Decidable (cd u w)] (c : Nat → Nat → Int32) (P M : Nat) : Nat → Int32 × Nat × Nat
  | 0 => (nI 1000000000, 0, 0)
  | d + 1 => rowB cd c (P - 1 - d) (allB cd c P M d) M
abbrev candJ (σ τ : Sg) (n : Nat) (u w : Nat) : Prop := (¬ gPhr σ u = 0 ∧ ¬ wholeV (gBrk σ) (gPB σ) u n = 0) ∧ ¬ gPhr τ w = 0 ∧ ¬ wholeV (gBrk τ) (gPB τ) w n = 0
def bestT (bd : Int32) (σ τ : Sg) (n : Nat) : Int32 × Nat × Nat := allB (candJ σ τ n) (jCost bd σ τ n) (gPB σ + 1 - n) (gPB τ + 1 - n) (gPB σ + 1 - n)
def bestV (bd kc hc : Int32) (σ τ : Sg) (n : Nat) : Int32 := if (bestT bd σ τ n).1 = nI 1000000000 then nI 1000000000 else (bestT bd σ τ n).1 + malways kc hc σ τ
def pz (P n d : Nat) : Int32 := nI P - nI n - nI d
theorem pz_dec {P n d : Nat} : pz P n d + Int32.ofInt (-1) = pz P n (d + 1) := by
  unfold pz
  rw [show nI (d + 1) = nI d + 1 from (nI_1 d).symm]
  rw [show (Int32.ofInt (-1)) = -1 from rfl]
  grind
theorem pz_toInt {P n d : Nat} (h1 : P < 1000) (h2 : n < 1000) (h3 : d < 1000) : (pz P n d).toInt = (P : Int) - n - d := by
  unfold pz
  by_cases h : n ≤ P
  · rw [pk_sub h]
    exact (pk_sub_toInt (by omega) (by omega)).trans (by omega)
  · have e : nI P - nI n - nI d = nI P - nI (n + d) := by rw [← nI_add]; grind
    rw [e]
    exact (pk_sub_toInt (by omega) (by omega)).trans (by omega)
theorem pz_neg {P n d : Nat} (h1 : P < 1000) (h2 : n < 1000) (h3 : d < 1000) : pz P n d < 0 ↔ P < n + d := by
  rw [Int32.lt_iff_toInt_lt, pz_toInt h1 h2 h3]
  have h0 : (0 : Int32).toInt = 0 := by decide
  omega
theorem pz_pos {P n d : Nat} (h : n + d ≤ P) : pz P n d = nI (P - n - d) := by
  unfold pz
  rw [pk_sub (by omega), pk_sub (by omega)]

theorem wholeV_le {f : Nat → Int32} {many q n : Nat} (h : ¬ wholeV f many q n = 0) : q + n ≤ many := by
  rcases Nat.lt_or_ge many (q + n) with c | c
  · exact absurd (by unfold wholeV; rw [if_pos c]; rfl) h
  · exact c
theorem gRow_4 {σ : Sg} {q k : Nat} (hk : k < 4) : gRow σ (4 * q + k) = gLast σ (gFst σ (gBar σ q) + k) := by
  unfold gRow
  rw [show (4 * q + k) / 4 = q by omega, show (4 * q + k) % 4 = k by omega]
theorem play_0 {σ : Sg} {RW BK PH : Nat → Int32} : playOk σ 0 RW BK PH := ⟨fun i h => absurd h (by omega), fun i h => absurd h (by omega), fun i h => absurd h (by omega)⟩
theorem play_s {σ : Sg} {m : Nat} {RW RW2 BK PH : Nat → Int32} {b f : Int32} (h : playOk σ m RW BK PH) (hr : ∀ i, i < 4 * m + 4 → RW2 i = gRow σ i) (hb : b = gBrk σ m) (hf : f = gPhr σ m) : playOk σ (m + 1) RW2 (upd BK m b) (upd PH m f) := by
  refine ⟨fun i hi => hr i (by omega), fun q hq => ?_, fun q hq => ?_⟩
  · unfold upd
    by_cases e : q = m
    · rw [if_pos e, hb, e]
    · rw [if_neg e]; exact h.2.1 q (by omega)
  · unfold upd
    by_cases e : q = m
    · rw [if_pos e, hf, e]
    · rw [if_neg e]; exact h.2.2 q (by omega)
theorem row_s {σ : Sg} {m k : Nat} {RW : Nat → Int32} {v : Int32} (hk : k < 4) (h : ∀ i, i < 4 * m + k → RW i = gRow σ i) (hv : v = gLast σ (gFst σ (gBar σ m) + k)) : ∀ i, i < 4 * m + (k + 1) → upd RW (4 * m + k) v i = gRow σ i := by
  intro i hi
  unfold upd
  by_cases e : i = 4 * m + k
  · rw [if_pos e, e, hv, gRow_4 hk]
  · rw [if_neg e]; exact h i (by omega)
theorem rowB_none {cd : Nat → Nat → Prop} [∀ u w, Decidable (cd u w)] {c : Nat → Nat → Int32} {u : Nat} {s : Int32 × Nat × Nat} (h : ∀ w, ¬ cd u w) : ∀ m, rowB cd c u s m = s
  | 0 => rfl
  | m + 1 => by
    show stepB cd c u m (rowB cd c u s m) = s
    unfold stepB
    rw [if_neg (h m), rowB_none h m]
theorem allB_s {cd : Nat → Nat → Prop} [∀ u w, Decidable (cd u w)] {c : Nat → Nat → Int32} {P M d u : Nat} (hu : u = P - 1 - d) : allB cd c P M (d + 1) = rowB cd c u (allB cd c P M d) M := by
  subst hu; rfl
theorem rowB_no {cd : Nat → Nat → Prop} [∀ u w, Decidable (cd u w)] {c : Nat → Nat → Int32} {u w : Nat} {s : Int32 × Nat × Nat} (h : ¬ cd u w) : rowB cd c u s (w + 1) = rowB cd c u s w := by
  show stepB cd c u w (rowB cd c u s w) = _
  unfold stepB; rw [if_neg h]
theorem rowB_le {cd : Nat → Nat → Prop} [∀ u w, Decidable (cd u w)] {c : Nat → Nat → Int32} {u w : Nat} {s : Int32 × Nat × Nat} (h : cd u w) (hl : (rowB cd c u s w).1 ≤ c u w) : rowB cd c u s (w + 1) = rowB cd c u s w := by
  show stepB cd c u w (rowB cd c u s w) = _
  unfold stepB; rw [if_pos h, if_pos hl]
theorem rowB_lt {cd : Nat → Nat → Prop} [∀ u w, Decidable (cd u w)] {c : Nat → Nat → Int32} {u w : Nat} {s : Int32 × Nat × Nat} (h : cd u w) (hl : ¬ (rowB cd c u s w).1 ≤ c u w) : rowB cd c u s (w + 1) = (c u w, u, w) := by
  show stepB cd c u w (rowB cd c u s w) = _
  unfold stepB; rw [if_pos h, if_neg hl]
def bestF (F : Nat → Int32) (s : Int32 × Nat × Nat) : Prop := ¬ s.1 = nI 1000000000 → F 30 = nI s.2.1 ∧ F 31 = nI s.2.2
def keepF (F1 F : Nat → Int32) : Prop := ∀ i, i ≠ 30 → i ≠ 31 → F1 i = F i
