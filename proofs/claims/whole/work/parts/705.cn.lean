/-! What the class's night answers, and what it leaves -/
abbrev okNt (x : Int32) (cnt : Nat) : Prop := ¬ x < nI 1 ∧ ¬ nI 8 < x ∧ ¬ cnt = 0
def cNt (cnt : Nat) (x : Int32) (MB ST : Nat → Int32) : Int32 := if okNt x cnt then (if (lF MB (rR (eN ST) cnt) cnt).2 = (-1) then (-2) else (lF MB (rR (eN ST) cnt) cnt).1) else (-1)
def ntPost (so : So) (f : Nat → Int32) (m : Nat) (bd kc hc : Int32) (cnt : Nat) (nm : Nat → Nat) (x : Int32) (rl : Nat) (t0 : Int32) (O0 : Nat → Int32) (t1 : Int32) (MB ST O1 : Nat → Int32) (rl1 : Nat) : Prop :=
  (rl1 = if okNt x cnt ∧ rl < 2 ^ cnt * cnt then 2 ^ cnt * cnt else rl) ∧
  (okNt x cnt → ∀ k, k < cnt → MB k = b2i (nMst f (nm k) m = 0) ∧ ∀ z, z < cnt → ST (k * 12 + z) = stepC so f m bd kc hc x.toNatClampNeg (nm k) (nm z)) ∧
  (okNt x cnt → ¬ (lF MB (rR (eN ST) cnt) cnt).2 = (-1) → ∃ y, (lF MB (rR (eN ST) cnt) cnt).2 = nI y ∧ y < cnt ∧ t1 = nI cnt ∧ ∀ i, i < cnt → O1 i = nI (nm (cSq (eN ST) (rR (eN ST) cnt) cnt y i).2)) ∧
  ((okNt x cnt → (lF MB (rR (eN ST) cnt) cnt).2 = (-1)) → t1 = t0 ∧ O1 = O0)
theorem ntPost_n {so : So} {f : Nat → Int32} {m : Nat} {bd kc hc : Int32} {cnt : Nat} {nm : Nat → Nat} {x : Int32} {rl : Nat} {t0 : Int32} {O0 MB ST : Nat → Int32} (h : ¬ okNt x cnt) : ntPost so f m bd kc hc cnt nm x rl t0 O0 t0 MB ST O0 rl := ⟨(if_neg (fun q => h q.1)).symm, fun q => absurd q h, fun q => absurd q h, fun _ => ⟨rfl, rfl⟩⟩
theorem ntPost_y {so : So} {f : Nat → Int32} {m : Nat} {bd kc hc : Int32} {cnt : Nat} {nm : Nat → Nat} {x : Int32} {rl rl1 : Nat} {t0 t1 c0 c1 : Int32} {O0 O1 MB ST : Nat → Int32} (h : okNt x cnt) (hM : ∀ k, k < cnt → MB k = b2i (nMst f (nm k) m = 0) ∧ ∀ z, z < cnt → ST (k * 12 + z) = stepC so f m bd kc hc x.toNatClampNeg (nm k) (nm z))
    (hu : rl1 = (if rl < 2 ^ cnt * cnt then 2 ^ cnt * cnt else rl) ∧ (¬ (lF MB (rR (eN ST) cnt) cnt).2 = (-1) → ∃ y, (lF MB (rR (eN ST) cnt) cnt).2 = nI y ∧ y < cnt ∧ c1 = (lF MB (rR (eN ST) cnt) cnt).1 ∧ t1 = nI cnt ∧ ∀ i, i < cnt → O1 i = nI (nm (cSq (eN ST) (rR (eN ST) cnt) cnt y i).2)) ∧ ((lF MB (rR (eN ST) cnt) cnt).2 = (-1) → c1 = c0 ∧ t1 = t0 ∧ O1 = O0)) :
    ntPost so f m bd kc hc cnt nm x rl t0 O0 t1 MB ST O1 rl1 := by
  refine ⟨?_, fun _ => hM, fun _ h2 => ?_, fun h2 => (hu.2.2 (h2 h)).2⟩
  · rw [hu.1]
    by_cases e : rl < 2 ^ cnt * cnt
    · rw [if_pos e, if_pos ⟨h, e⟩]
    · rw [if_neg e, if_neg (fun q => e q.2)]
  · obtain ⟨y, y1, y2, -, y4, y5⟩ := hu.2.1 h2
    exact ⟨y, y1, y2, y4, y5⟩
theorem cNt_n {cnt : Nat} {x : Int32} {MB ST : Nat → Int32} (h : ¬ okNt x cnt) : cNt cnt x MB ST = (-1) := if_neg h
theorem cNt_m {cnt : Nat} {x : Int32} {MB ST : Nat → Int32} (h : okNt x cnt) (h2 : (lF MB (rR (eN ST) cnt) cnt).2 = (-1)) : cNt cnt x MB ST = (-2) := (if_pos h).trans (if_pos h2)
theorem cNt_f {cnt : Nat} {x : Int32} {MB ST : Nat → Int32} (h : okNt x cnt) (h2 : ¬ (lF MB (rR (eN ST) cnt) cnt).2 = (-1)) : cNt cnt x MB ST = (lF MB (rR (eN ST) cnt) cnt).1 := (if_pos h).trans (if_neg h2)
theorem cNt_y {cnt : Nat} {nm : Nat → Nat} {x c0 c1 t0 t1 : Int32} {rl rl1 : Nat} {O0 O1 MB ST : Nat → Int32} (h : okNt x cnt) (h2 : ¬ (lF MB (rR (eN ST) cnt) cnt).2 = (-1))
    (hu : rl1 = (if rl < 2 ^ cnt * cnt then 2 ^ cnt * cnt else rl) ∧ (¬ (lF MB (rR (eN ST) cnt) cnt).2 = (-1) → ∃ y, (lF MB (rR (eN ST) cnt) cnt).2 = nI y ∧ y < cnt ∧ c1 = (lF MB (rR (eN ST) cnt) cnt).1 ∧ t1 = nI cnt ∧ ∀ i, i < cnt → O1 i = nI (nm (cSq (eN ST) (rR (eN ST) cnt) cnt y i).2)) ∧ ((lF MB (rR (eN ST) cnt) cnt).2 = (-1) → c1 = c0 ∧ t1 = t0 ∧ O1 = O0)) : c1 = cNt cnt x MB ST := by
  obtain ⟨y, -, -, e5, -⟩ := hu.2.1 h2
  rw [e5]
  exact (cNt_f h h2).symm
theorem nt_mb {MB M2 g : Nat → Int32} {i : Nat} (h : ∀ k, k < i → MB k = g k) (hu : M2 i = g i ∧ ∀ q, q ≠ i → M2 q = MB q) : ∀ k, k < i + 1 → M2 k = g k := by
  intro k hk
  by_cases e : k = i
  · rw [e]; exact hu.1
  · rw [hu.2 k e]; exact h k (by omega)
theorem nt_st {ST S2 : Nat → Int32} {cnt i : Nat} {g : Nat → Nat → Int32} (hc : cnt ≤ 12) (hi : i < cnt) (h : ∀ k, k < i → ∀ z, z < cnt → ST (k * 12 + z) = g k z) (h1 : ∀ z, z < cnt → S2 (i * 12 + z) = g i z) (h2 : ∀ q, (∀ k, k < 12 → ¬ q = i * 12 + k) → S2 q = ST q) : ∀ k, k < i + 1 → ∀ z, z < cnt → S2 (k * 12 + z) = g k z := by
  intro k hk z hz
  by_cases e : k = i
  · rw [e]; exact h1 z hz
  · rw [h2 _ (fun k2 hk2 => by omega)]
    exact h k (by omega) z hz
