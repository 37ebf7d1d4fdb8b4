/-! WHAT HOLDS BETWEEN TWO CALLS: the class's state and the reference's tell the same -/
def wishOk (so : So) (WI M : Nat → Int32) : Prop := (∀ i, i < 144 → WI i = M i) ∧ ∀ a b, a < 12 → b < 12 → M (12 * a + b) = nI 1 → (so a).isSome = true ∧ (so b).isSome = true
def strOk (k1 f13 : Int32) (A B : Nat → Int32) : Prop := ∃ (n : Nat) (T : Nat → Nat), k1 = nI n ∧ f13 = nI n ∧ n ≤ 60 ∧ (∀ i, i < n → A i = nI (T i) ∧ T i ≤ 1000000) ∧ (∀ i, i < n → B i = nI (T i) ∧ T i ≤ 1000000) ∧ ∀ i k, k < i → i < n → T k < T i
def fndOk (k5 f16 : Int32) (A B : Nat → Int32) : Prop := ∃ n : Nat, k5 = nI n ∧ f16 = nI n ∧ n ≤ 60 ∧ ∀ i, i < n → A i = B i
def cstE (FJ F : Nat → Int32) : Prop := FJ 0 = F 18 ∧ FJ 1 = F 19 ∧ FJ 2 = F 20 ∧ cstOk FJ
def metOk (t0 f27 : Int32) (RT : Nat → Nat → Int32) (L B : Nat → Int32) : Prop := ∃ M : Nat, t0 = nI M ∧ f27 = nI M ∧ M ≤ 32 ∧ meOk M RT L B
def ordOk (n7 f34 : Int32) (A B : Nat → Int32) : Prop := ∃ n : Nat, n7 = nI n ∧ f34 = nI n ∧ n ≤ 12 ∧ ∀ i, i < n → A i = B i
def rlOk (rl : Nat) : Prop := ∃ d : Nat, d ≤ 12 ∧ rl = 2 ^ d * d
def kyOk (so : So) : Prop := ∀ j, j < 12 → ∀ σ, so j = some σ → keyOk σ
def lwInv (so : So) (SD : Nat → Option Nat) (WI : Nat → Int32) (FK : Nat → Int32) (RK : Nat → Nat → Int32) (FJ : Nat → Int32) (RJ : Nat → Nat → Int32) (FT : Nat → Int32) (RT : Nat → Nat → Int32) (FN : Nat → Int32) (RN : Nat → Nat → Int32) (rl : Nat) (aS : Nat → Nat → Nat) (FS : Nat → Nat → Int32) (RS : Nat → Nat → Nat → Int32) (F : Nat → Int32) (R : Nat → Nat → Int32) : Prop :=
  dOk so aS FS RS SD ∧ moAll R so ∧ kyOk so ∧ wishOk so WI (R 12) ∧ strOk (FK 1) (F 13) (RK 0) (R 14) ∧ fndOk (FK 5) (F 16) (RK 4) (R 17) ∧ cstE FJ F ∧ jOk so (FJ 0) (FJ 1) (FJ 2) (RJ 3) (RJ 4) (RJ 5) ∧ metOk (FT 0) (F 27) RT (R 28) (R 29) ∧ ordOk (FN 7) (F 34) (RN 6) (R 35) ∧ rlOk rl
theorem moAll_eq {R U : Nat → Nat → Int32} {so : So} (h : moAll R so) (hU : ∀ i, i < 12 → U i = R i) : moAll U so := by
  intro j hj
  rcases h j hj with ⟨a, b⟩ | ⟨σ, a, b, d, e⟩
  · exact Or.inl ⟨a, by rw [hU 0 (by omega)]; exact b⟩
  · exact Or.inr ⟨σ, a, by rw [hU 0 (by omega)]; exact b, moSg_eq d hU, e⟩
-- songs
theorem up_at {α : Type} {f : Nat → α} {j i : Nat} {a : α} (h : i = j) : va_up f j a i = a := by unfold va_up; rw [if_pos h]
theorem up_off {α : Type} {f : Nat → α} {j i : Nat} {a : α} (h : ¬ i = j) : va_up f j a i = f i := by unfold va_up; rw [if_neg h]
theorem ky_upd {so : So} {x : Int32} {P : Sg → Bool} {f : Sg → Option Sg} (h : kyOk so) (hf : ∀ σ τ, P σ = true → f σ = some τ → keyOk σ → keyOk τ) : kyOk (sUpd so x P f) := by
  rcases sat_cases so x with ho | ⟨j, σ, rfl, hj, hso, hσ⟩
  · rw [sUpd_none ho]; exact h
  · by_cases hP : P σ = true
    · rw [sUpd_yes hj hσ hP]
      intro i hi τ hτ
      by_cases e : i = j
      · rw [up_at e] at hτ
        exact hf σ τ hP hτ (h j hj σ hso)
      · rw [up_off e] at hτ
        exact h i hi τ hτ
    · rw [sUpd_no hσ hP]; exact h
theorem ky_about {so : So} {x k h y : Int32} (hk : kyOk so) : kyOk (sUpd so x (pAbout k h y) (fAbout k h y)) := ky_upd hk (fun σ τ hP hf _ => by
  obtain ⟨⟨k1, k2⟩, ⟨h1, h2⟩, -⟩ : okAbout k h y := of_decide_eq_true hP
  obtain ⟨i, hi, ei⟩ := le_of (n := 23) (by omega) k1 k2
  obtain ⟨z, hz, ez⟩ := le_of (n := 9) (by omega) h1 h2
  have hf2 : some (setSg σ k h y.toNatClampNeg) = some τ := hf
  cases hf2
  exact ⟨⟨i, by omega, ei⟩, z, by omega, ez⟩)
theorem ky_bar {so : So} {x y z : Int32} (hk : kyOk so) : kyOk (sUpd so x (pBar y z) (fBar y z)) := ky_upd hk (fun σ τ _ hf hσ => by
  have hf2 : some ((σ.1, σ.2.1, va_up σ.2.2 y.toNatClampNeg z.toNatClampNeg) : Sg) = some τ := hf
  cases hf2
  exact hσ)
theorem ky_loop {so : So} {x y z w : Int32} (hk : kyOk so) : kyOk (sUpd so x (pLoop y z w) (fLoop y z w)) := ky_upd hk (fun σ τ _ hf hσ => by
  have hf2 : some ((va_up (va_up (va_up σ.1 1 y.toNatClampNeg) 2 z.toNatClampNeg) 3 w.toNatClampNeg, σ.2) : Sg) = some τ := hf
  cases hf2
  exact hσ)
theorem ky_drop {so : So} {x : Int32} (hk : kyOk so) : kyOk (sUpd so x pAny fNone) := ky_upd hk (fun σ τ _ hf _ => by
  have hf2 : (none : Option Sg) = some τ := hf
  cases hf2)
theorem ky_song {so : So} {x k n st y : Int32} (hk : kyOk so) : kyOk (nSong so x k n st y) := by
  unfold nSong
  by_cases q : okIn x ∧ okSong k n st y
  · rw [if_pos q]
    intro i hi τ hτ
    by_cases e : i = x.toNatClampNeg
    · rw [up_at e] at hτ
      cases hτ
      exact ⟨⟨0, by omega, rfl⟩, 0, by omega, rfl⟩
    · rw [up_off e] at hτ
      exact hk i hi τ hτ
  · rw [if_neg q]; exact hk
theorem some_upd {so : So} {x : Int32} {P : Sg → Bool} {f : Sg → Option Sg} (hf : ∀ σ, (f σ).isSome = true) {a : Nat} (h : (so a).isSome = true) : (sUpd so x P f a).isSome = true := by
  rcases sat_cases so x with ho | ⟨j, σ, rfl, hj, hso, hσ⟩
  · rw [sUpd_none ho]; exact h
  · by_cases hP : P σ = true
    · rw [sUpd_yes hj hσ hP]
      by_cases e : a = j
      · rw [up_at e]; exact hf σ
      · rw [up_off e]; exact h
    · rw [sUpd_no hσ hP]; exact h
theorem wish_upd {so : So} {WI W2 M M2 : Nat → Int32} {x : Int32} {P : Sg → Bool} {f : Sg → Option Sg} (h : wishOk so WI M) (h1 : ∀ i, i < 144 → W2 i = WI i) (h2 : M2 = M) (hf : ∀ σ, (f σ).isSome = true) : wishOk (sUpd so x P f) W2 M2 := by
  rw [h2]
  exact ⟨fun i hi => (h1 i hi).trans (h.1 i hi), fun a b ha hb q => ⟨some_upd hf (h.2 a b ha hb q).1, some_upd hf (h.2 a b ha hb q).2⟩⟩
theorem wish_clr {so : So} {WI W2 M M2 : Nat → Int32} {j : Nat} {o : Option Sg} (h : wishOk so WI M) (h1 : ∀ i, i < 144 → W2 i = clrM WI j i) (h2 : ∀ i, i < 144 → M2 i = clrM M j i) : wishOk (va_up so j o) W2 M2 := by
  refine ⟨fun i hi => ?_, fun a b ha hb q => ?_⟩
  · rw [h1 i hi, h2 i hi]
    unfold clrM
    by_cases e : i / 12 = j ∨ i % 12 = j
    · rw [if_pos e, if_pos e]
    · rw [if_neg e, if_neg e]; exact h.1 i hi
  · rw [h2 _ (by omega)] at q
    unfold clrM at q
    by_cases e : (12 * a + b) / 12 = j ∨ (12 * a + b) % 12 = j
    · rw [if_pos e] at q
      exact absurd q (by decide)
    · rw [if_neg e] at q
      have h3 := h.2 a b ha hb q
      rw [up_off (by omega), up_off (by omega)]
      exact h3
theorem wish_drop {so : So} {WI W2 M M2 : Nat → Int32} {x : Int32} (h : wishOk so WI M) (h1 : ∀ i, i < 144 → W2 i = clrS so WI x i) (h2 : ∀ i, i < 144 → M2 i = clrS so M x i) : wishOk (sUpd so x pAny fNone) W2 M2 := by
  rcases sat_cases so x with ho | ⟨j, σ, rfl, hj, hso, hσ⟩
  · rw [sUpd_none ho]
    rw [clrS_none ho] at h1 h2
    refine ⟨fun i hi => by rw [h1 i hi, h2 i hi]; exact h.1 i hi, fun a b ha hb q => h.2 a b ha hb (by rw [← h2 _ (by omega)]; exact q)⟩
  · rw [sUpd_yes (P := pAny) (f := fNone) hj hσ rfl]
    rw [clrS_some hj hσ] at h1 h2
    exact wish_clr h h1 h2
theorem wish_song {so : So} {WI W2 M M2 : Nat → Int32} {x k n st y : Int32} (h : wishOk so WI M) (h1 : ∀ i, i < 144 → W2 i = clrIf (b2i (okIn x ∧ okSong k n st y)) WI x i) (h2 : ∀ i, i < 144 → M2 i = clrIf (b2i (okIn x ∧ okSong k n st y)) M x i) : wishOk (nSong so x k n st y) W2 M2 := by
  by_cases q : okIn x ∧ okSong k n st y
  · obtain ⟨j, hj, rfl⟩ := lt_of (n := 12) (by omega) q.1.1 q.1.2
    rw [nSong_yes hj q]
    rw [clrIf_yes hj q] at h1 h2
    exact wish_clr h h1 h2
  · rw [nSong_no q]
    rw [clrIf_no q] at h1 h2
    exact ⟨fun i hi => by rw [h1 i hi, h2 i hi]; exact h.1 i hi, fun a b ha hb z => h.2 a b ha hb (by rw [← h2 _ (by omega)]; exact z)⟩
theorem wish_must {so : So} {WI M : Nat → Int32} {x y w : Int32} (h : wishOk so WI M) : wishOk so (nMus so WI x y w) (nMus so M x y w) := by
  unfold nMus
  by_cases q : okMust so x y w
  · rw [if_pos q, if_pos q]
    rcases sat_cases so x with ho | ⟨j, σ, rfl, hj, hso, hσ⟩
    · exact absurd q.1 (none_of ho)
    rcases sat_cases so y with ho | ⟨k, τ, rfl, hk, hso2, hτ⟩
    · exact absurd q.2.1 (none_of ho)
    rw [nI_clamp (by omega), nI_clamp (by omega)]
    refine ⟨fun i hi => ?_, fun a b ha hb z => ?_⟩
    · unfold upd
      by_cases e : i = 12 * j + k
      · rw [if_pos e, if_pos e]
      · rw [if_neg e, if_neg e]; exact h.1 i hi
    · unfold upd at z
      by_cases e : 12 * a + b = 12 * j + k
      · have ea : a = j := by omega
        have eb : b = k := by omega
        rw [ea, eb, hso, hso2]
        exact ⟨rfl, rfl⟩
      · rw [if_neg e] at z
        exact h.2 a b ha hb z
  · rw [if_neg q, if_neg q]; exact h
section
variable {so so2 : So} {SD SD2 : Nat → Option Nat} {WI WI2 : Nat → Int32} {FK : Nat → Int32} {RK : Nat → Nat → Int32} {FJ : Nat → Int32} {RJ : Nat → Nat → Int32} {FT : Nat → Int32} {RT : Nat → Nat → Int32} {FN : Nat → Int32} {RN : Nat → Nat → Int32} {rl : Nat} {aS aS2 : Nat → Nat → Nat} {FS FS2 : Nat → Nat → Int32} {RS RS2 : Nat → Nat → Nat → Int32} {F : Nat → Int32} {R U : Nat → Nat → Int32}
theorem inv_up {LC : Nat → Int32} (h : lwInv so SD WI FK RK FJ RJ FT RT FN RN rl aS FS RS F R) (hd : dOk so2 aS2 FS2 RS2 SD2) (hm : moAll U so2) (hk : kyOk so2) (hw : wishOk so2 WI2 (U 12)) (hj : jOk so (FJ 0) (FJ 1) (FJ 2) (RJ 3) (RJ 4) (RJ 5) → jOk so2 (FJ 0) (FJ 1) (FJ 2) LC (RJ 4) (RJ 5)) (hU : ∀ i, 13 ≤ i → U i = R i) :
    lwInv so2 SD2 WI2 FK RK FJ (va_up RJ 3 LC) FT RT FN RN rl aS2 FS2 RS2 F U := by
  obtain ⟨-, -, -, -, h5, h6, h7, h8, h9, h10, h11⟩ := h
  exact ⟨hd, hm, hk, hw, by rw [hU 14 (by omega)]; exact h5, by rw [hU 17 (by omega)]; exact h6, h7, hj h8, by rw [hU 28 (by omega), hU 29 (by omega)]; exact h9, by rw [hU 35 (by omega)]; exact h10, h11⟩
theorem inv_must {x y w : Int32} (h : lwInv so SD WI FK RK FJ RJ FT RT FN RN rl aS FS RS F R) {M2 : Nat → Int32} (h1 : WI2 = nMus so WI x y w) (h2 : M2 = nMus so (R 12) x y w) : lwInv so SD WI2 FK RK FJ RJ FT RT FN RN rl aS FS RS F (va_up R 12 M2) := by
  obtain ⟨h1a, h2a, h3, h4, h5, h6, h7, h8, h9, h10, h11⟩ := h
  refine ⟨h1a, moAll_eq h2a (fun i hi => up_off (by omega)), h3, ?_, h5, h6, h7, h8, h9, h10, h11⟩
  rw [up_at rfl, h1, h2]
  exact wish_must h4
theorem inv_stroke {n : Nat} {T : Nat → Nat} {t : Int32} {k1 f13 : Int32} {A2 B2 : Nat → Int32} (h : lwInv so SD WI FK RK FJ RJ FT RT FN RN rl aS FS RS F R) (hn : n ≤ 60) (hA : ∀ i, i < n → RK 0 i = nI (T i) ∧ T i ≤ 1000000) (hB : ∀ i, i < n → R 14 i = nI (T i) ∧ T i ≤ 1000000) (hT : ∀ i k, k < i → i < n → T k < T i)
    (h1 : k1 = nI (nStn n T t) ∧ A2 = nStT n T t (RK 0)) (h2 : f13 = nI (nStn n T t) ∧ B2 = nStT n T t (R 14)) : lwInv so SD WI (va_up FK 1 k1) (va_up RK 0 A2) FJ RJ FT RT FN RN rl aS FS RS (va_up F 13 f13) (va_up R 14 B2) := by
  obtain ⟨h1a, h2a, h3, h4, -, h6, h7, h8, h9, h10, h11⟩ := h
  refine ⟨h1a, moAll_eq h2a (fun i hi => up_off (by omega)), h3, h4, ?_, h6, h7, h8, h9, h10, h11⟩
  show strOk k1 f13 A2 B2
  rw [h1.1, h1.2, h2.1, h2.2]
  unfold nStn nStT
  by_cases q : okStroke n T t
  · rw [if_pos q, if_pos q, if_pos q]
    obtain ⟨⟨q1, q2⟩, q3, q4⟩ := q
    obtain ⟨d, hd, rfl⟩ := le_of (n := 1000000) (by omega) q1 q2
    have hl : 0 < n → T (n - 1) < d := fun z => Nat.lt_of_not_le (fun y => q4 z ((nI_leI (by omega) (by have := (hA (n - 1) (by omega)).2; omega)).mpr y))
    have row : ∀ A : Nat → Int32, (∀ i, i < n → A i = nI (T i) ∧ T i ≤ 1000000) → ∀ i, i < n + 1 → upd A n (nI d) i = nI (va_up T n d i) ∧ va_up T n d i ≤ 1000000 := by
      intro A hA i hi
      by_cases e : i = n
      · rw [up_at e]; exact ⟨if_pos e, hd⟩
      · rw [up_off e]; exact ⟨(if_neg e).trans (hA i (by omega)).1, (hA i (by omega)).2⟩
    refine ⟨n + 1, va_up T n d, rfl, rfl, by omega, row _ hA, row _ hB, fun i k hk hi => ?_⟩
    by_cases e : i = n
    · rw [up_at e, up_off (by omega)]
      have hl2 := hl (by omega)
      by_cases e2 : k = n - 1
      · rw [e2]; exact hl2
      · have := hT (n - 1) k (by omega) (by omega); omega
    · rw [up_off e, up_off (by omega)]
      exact hT i k hk (by omega)
  · rw [if_neg q, if_neg q, if_neg q]
    exact ⟨n, T, rfl, rfl, hn, hA, hB, hT⟩
theorem inv_clear (h : lwInv so SD WI FK RK FJ RJ FT RT FN RN rl aS FS RS F R) : lwInv so SD WI (va_up FK 1 (nI 0)) RK FJ RJ FT RT FN RN rl aS FS RS (va_up F 13 (nI 0)) R := by
  obtain ⟨h1a, h2a, h3, h4, -, h6, h7, h8, h9, h10, h11⟩ := h
  exact ⟨h1a, h2a, h3, h4, ⟨0, fun _ => 0, rfl, rfl, by omega, fun i hi => absurd hi (Nat.not_lt_zero _), fun i hi => absurd hi (Nat.not_lt_zero _), fun i k _ hi => absurd hi (Nat.not_lt_zero _)⟩, h6, h7, h8, h9, h10, h11⟩
theorem inv_find {n : Nat} {T : Nat → Nat} {gap miss skip k5 f16 : Int32} {A2 A3 A4 B5 B7 : Nat → Int32} (h : lwInv so SD WI FK RK FJ RJ FT RT FN RN rl aS FS RS F R)
    (h1 : (okFind gap miss skip n → ∃ d : Nat, k5 = nI d ∧ d ≤ 60 ∧ isFound T gap.toNatClampNeg miss.toNatClampNeg skip.toNatClampNeg n d A4) ∧ (¬ okFind gap miss skip n → k5 = FK 5 ∧ A4 = RK 4))
    (h2 : (okFind gap miss skip n → ∃ d : Nat, f16 = nI d ∧ d ≤ 60 ∧ isFound T gap.toNatClampNeg miss.toNatClampNeg skip.toNatClampNeg n d B7) ∧ (¬ okFind gap miss skip n → f16 = F 16 ∧ B7 = R 17)) :
    lwInv so SD WI (va_up FK 5 k5) (va_up (va_up (va_up RK 2 A2) 3 A3) 4 A4) FJ RJ FT RT FN RN rl aS FS RS (va_up F 16 f16) (va_up (va_up R 15 B5) 17 B7) := by
  obtain ⟨h1a, h2a, h3, h4, h5, h6, h7, h8, h9, h10, h11⟩ := h
  refine ⟨h1a, moAll_eq h2a (fun i hi => by rw [up_off (by omega), up_off (by omega)]), h3, h4, h5, ?_, h7, h8, h9, h10, h11⟩
  show fndOk k5 f16 A4 B7
  by_cases q : okFind gap miss skip n
  · obtain ⟨d, d1, d2, d3⟩ := h1.1 q
    obtain ⟨d9, e1, e2, e3⟩ := h2.1 q
    have ed := isFound_uniq d3 e3
    subst ed
    exact ⟨d, d1, e1, d2, fun i hi => by rw [(d3.2 i hi).2, (e3.2 i hi).2]⟩
  · rw [(h1.2 q).1, (h1.2 q).2, (h2.2 q).1, (h2.2 q).2]
    exact h6
theorem inv_costs {b k z : Int32} {FJ2 LC F2 : Nat → Int32} (h : lwInv so SD WI FK RK FJ RJ FT RT FN RN rl aS FS RS F R) (h1 : (okCost b k z → FJ2 = va_up (va_up (va_up FJ 0 b) 1 k) 2 z ∧ ∀ q, q < 1152 → LC q = (-1)) ∧ (¬ okCost b k z → FJ2 = FJ ∧ LC = RJ 3)) (h2 : F2 = nCost b k z F) :
    lwInv so SD WI FK RK FJ2 (va_up RJ 3 LC) FT RT FN RN rl aS FS RS F2 R := by
  obtain ⟨h1a, h2a, h3, h4, h5, h6, h7, h8, h9, h10, h11⟩ := h
  rw [h2]
  unfold nCost
  by_cases q : okCost b k z
  · rw [if_pos q, (h1.1 q).1]
    obtain ⟨⟨b1, b2⟩, ⟨k1, k2⟩, z1, z2⟩ := q
    refine ⟨h1a, h2a, h3, h4, h5, h6, ⟨rfl, rfl, rfl, le_of (by omega) b1 b2, le_of (by omega) k1 k2, le_of (by omega) z1 z2⟩, jOk_new (h1.1 ⟨⟨b1, b2⟩, ⟨k1, k2⟩, z1, z2⟩).2, h9, h10, h11⟩
  · rw [if_neg q, (h1.2 q).1, (h1.2 q).2]
    exact ⟨h1a, h2a, h3, h4, h5, h6, h7, h8, h9, h10, h11⟩
theorem jArg_n {x y n u w : Int32} {d : Sg × Sg × Nat × Nat × Nat} (h : jArg so x y n u w = some d) : d.2.2.1 ≤ 8 := by
  rcases sat_cases so x with ho | ⟨j, σ, rfl, hj, hso, hσ⟩
  · rw [jArg_1 ho] at h; cases h
  rcases sat_cases so y with ho | ⟨k, τ, rfl, hk, hso2, hτ⟩
  · rw [jArg_2 hσ ho] at h; cases h
  by_cases q : okJ σ τ (nI j) (nI k) n u w
  · rw [jArg_4 hσ hτ q] at h
    cases h
    obtain ⟨-, ⟨q1, q2⟩, -⟩ := q
    obtain ⟨i, hi, rfl⟩ := le_of (n := 8) (by omega) (fun z => q1 (Int32.lt_trans z (by decide))) q2
    show (nI i).toNatClampNeg ≤ 8
    rw [nI_clamp (by omega)]
    exact hi
  · rw [jArg_3 hσ hτ q] at h; cases h
theorem inv_join {x y n u w ph : Int32} {FT2 F2 : Nat → Int32} {RT2 : Nat → Nat → Int32} (h : lwInv so SD WI FK RK FJ RJ FT RT FN RN rl aS FS RS F R) (h1 : cMeet (FJ 0) (jArg so x y n u w) ph FT FT2 RT RT2) (h2 : (∀ i, i ≠ 27 → F2 i = F i) ∧ (∀ i, (i < 21 ∨ 30 ≤ i) → U i = R i) ∧ jMeet (F 18) (jArg so x y n u w) ph (F 27) (F2 27) (R 28) (U 28) (R 29) (U 29)) :
    lwInv so SD WI FK RK FJ RJ FT2 RT2 FN RN rl aS FS RS F2 U := by
  obtain ⟨h1a, h2a, h3, h4, h5, h6, h7, h8, h9, h10, h11⟩ := h
  obtain ⟨f1, f2, f3⟩ := h2
  refine ⟨h1a, moAll_eq h2a (fun i hi => f2 i (by omega)), h3, by rw [f2 12 (by omega)]; exact h4, by rw [f1 13 (by omega), f2 14 (by omega)]; exact h5, by rw [f1 16 (by omega), f2 17 (by omega)]; exact h6, ?_, h8, ?_, by rw [f1 34 (by omega), f2 35 (by omega)]; exact h10, h11⟩
  · obtain ⟨c1, c2, c3, c4⟩ := h7
    exact ⟨by rw [f1 18 (by omega)]; exact c1, by rw [f1 19 (by omega)]; exact c2, by rw [f1 20 (by omega)]; exact c3, c4⟩
  · rw [h7.1] at h1
    cases hJ : jArg so x y n u w with
    | none =>
      rw [hJ] at h1 f3
      obtain ⟨a1, a2⟩ := h1
      obtain ⟨b1, b2, b3⟩ := f3
      rw [a1, a2, b1, b2, b3]
      exact h9
    | some d =>
      have hd8 := jArg_n hJ
      rw [hJ] at h1 f3
      have h1 : if jWay (F 18) d ph = 0 then FT2 0 = nI (4 * d.2.2.1) ∧ (∀ z, z ≤ 4 * d.2.2.1 → RT2 1 z = isum (mlast (jX d) (jY d) d.2.2.1) z) ∧ ∀ z, z < 4 * d.2.2.1 → RT2 2 z = mlast (jX d) (jY d) d.2.2.1 z ∧ RT2 3 z = mbend (mlast (jX d) (jY d) d.2.2.1 z) (jX d z) (jY d z) else FT2 = FT ∧ RT2 = RT := h1
      have f3 : if jWay (F 18) d ph = 0 then F2 27 = nI (4 * d.2.2.1) ∧ ∀ z, z < 4 * d.2.2.1 → U 28 z = mlast (jX d) (jY d) d.2.2.1 z ∧ U 29 z = mbend (mlast (jX d) (jY d) d.2.2.1 z) (jX d z) (jY d z) else F2 27 = F 27 ∧ U 28 = R 28 ∧ U 29 = R 29 := f3
      by_cases q : jWay (F 18) d ph = 0
      · rw [if_pos q] at h1 f3
        obtain ⟨a1, a2, a3⟩ := h1
        obtain ⟨b1, b2⟩ := f3
        refine ⟨4 * d.2.2.1, a1, b1, by omega, fun z hz => ?_, fun z hz => ⟨by rw [(a3 z hz).1, (b2 z hz).1], by rw [(a3 z hz).2, (b2 z hz).2]⟩⟩
        rw [a2 z hz]
        exact isum_congr z (fun k hk => (b2 k (by omega)).1.symm)
      · rw [if_neg q] at h1 f3
        obtain ⟨a1, a2⟩ := h1
        obtain ⟨b1, b2, b3⟩ := f3
        rw [a1, a2, b1, b2, b3]
        exact h9
theorem inv_best {L3 L4 L5 L6 L7 F2 : Nat → Int32} (h : lwInv so SD WI FK RK FJ RJ FT RT FN RN rl aS FS RS F R) (h1 : jOk so (FJ 0) (FJ 1) (FJ 2) L3 L4 L5) (h2 : keepF F2 F ∧ keepX U R) :
    lwInv so SD WI FK RK FJ (va_up (va_up (va_up (va_up (va_up RJ 3 L3) 4 L4) 5 L5) 6 L6) 7 L7) FT RT FN RN rl aS FS RS F2 U := by
  obtain ⟨h1a, h2a, h3, h4, h5, h6, h7, h8, h9, h10, h11⟩ := h
  obtain ⟨f1, f2⟩ := h2
  refine ⟨h1a, moAll_eq h2a (fun i hi => f2 i (by omega)), h3, by rw [f2 12 (by omega)]; exact h4, by rw [f1 13 (by omega) (by omega), f2 14 (by omega)]; exact h5, by rw [f1 16 (by omega) (by omega), f2 17 (by omega)]; exact h6, ?_, h1, by rw [f1 27 (by omega) (by omega), f2 28 (by omega), f2 29 (by omega)]; exact h9, by rw [f1 34 (by omega) (by omega), f2 35 (by omega)]; exact h10, h11⟩
  obtain ⟨c1, c2, c3, c4⟩ := h7
  exact ⟨by rw [f1 18 (by omega) (by omega)]; exact c1, by rw [f1 19 (by omega) (by omega)]; exact c2, by rw [f1 20 (by omega) (by omega)]; exact c3, c4⟩
end
theorem aRow_cg {n : Nat} {f g : Nat → Int32} {x : Int32} (hn : n < 1000) (h : ∀ i, i < n → f i = g i) : aRow n f x = aRow n g x := by
  unfold aRow
  by_cases h1 : x < 0
  · rw [if_pos h1, if_pos h1]
  · rw [if_neg h1, if_neg h1]
    by_cases h2 : nI n ≤ x
    · rw [if_pos h2, if_pos h2]
    · rw [if_neg h2, if_neg h2]
      obtain ⟨i, hi, rfl⟩ := lt_of (by omega) h1 h2
      rw [nI_clamp (by omega)]
      exact h i hi
theorem rl_le {rl : Nat} (h : rlOk rl) : rl ≤ 49152 := by
  obtain ⟨d, h1, h2⟩ := h
  rw [h2]
  exact pow_cnt h1
