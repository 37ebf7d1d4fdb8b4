/-! The night between two calls -/
theorem thB_bit {f : Nat → Int32} {s : Nat} : ∀ n, ¬ thB f n / 2 ^ s % 2 = 0 ↔ s < n ∧ ¬ f s = 0
  | 0 => ⟨fun h => absurd (by show 0 / 2 ^ s % 2 = 0; rw [Nat.zero_div]) h, fun h => absurd h.1 (Nat.not_lt_zero _)⟩
  | n + 1 => by
    have i := thB_bit (f := f) (s := s) n
    have e : thB f (n + 1) = if f n = 0 then thB f n else thB f n ||| 2 ^ n := rfl
    rw [e]
    by_cases c : f n = 0
    · rw [if_pos c, i]
      exact ⟨fun h => ⟨by omega, h.2⟩, fun h => ⟨by
        by_cases e2 : s = n
        · rw [e2] at h; exact absurd c h.2
        · omega, h.2⟩⟩
    · rw [if_neg c, or_bit]
      by_cases e2 : s = n
      · rw [if_pos e2, e2]
        exact ⟨fun _ => ⟨by omega, c⟩, fun _ => by decide⟩
      · rw [if_neg e2, i]
        exact ⟨fun h => ⟨by omega, h.2⟩, fun h => ⟨by omega, h.2⟩⟩
theorem th_all {R : Nat → Nat → Int32} {so : So} {m cnt : Nat} {nm : Nat → Nat} (hm : m = 12) (h : moAll R so) (hcn : (numS so m).1 = cnt) (hnm : (numS so m).2 = nm) : allB2 nm cnt (thB (R 0) 12) := by
  obtain ⟨n1, -, n3⟩ := numS_spec so m
  rw [hcn, hnm] at n1 n3
  refine ⟨thB_lt (R 0) 12, fun s => ?_⟩
  rw [thB_bit]
  constructor
  · rintro ⟨h1, h2⟩
    obtain ⟨σ, hs, -⟩ := there_yes h h1 h2
    exact n3 s (by omega) (by rw [hs]; rfl)
  · rintro ⟨j, hj, ej⟩
    subst ej
    obtain ⟨q1, q2⟩ := n1 j hj
    refine ⟨by omega, fun q => ?_⟩
    rw [there_no h (by omega) q] at q2
    exact absurd q2 (by decide)
theorem nMst_cg {f g : Nat → Int32} {b : Nat} : ∀ m, (∀ a, a < m → f (a * 12 + b) = g (a * 12 + b)) → nMst f b m = nMst g b m
  | 0, _ => rfl
  | m + 1, h => by
    have e1 : nMst f b (m + 1) = nMst f b m + (if f (m * 12 + b) = nI 1 then 1 else 0) := rfl
    have e2 : nMst g b (m + 1) = nMst g b m + (if g (m * 12 + b) = nI 1 then 1 else 0) := rfl
    rw [e1, e2, nMst_cg m (fun a ha => h a (by omega)), h m (by omega)]
theorem stepC_cg {so : So} {f g : Nat → Int32} {m : Nat} {bd kc hc : Int32} {n a b : Nat} (hm : m = 12) (h : ∀ i, i < 144 → f i = g i) (ha : a < 12) (hb : b < 12) : stepC so f m bd kc hc n a b = stepC so g m bd kc hc n a b := by
  have e1 : f (a * 12 + b) = g (a * 12 + b) := h _ (by omega)
  have e2 : nMst f b m = nMst g b m := nMst_cg m (fun a9 ha9 => h _ (by omega))
  unfold stepC okStep
  rw [e1, e2]
/-- the night of both sides: one answer, one order -/
theorem nt_law {so : So} {SD : Nat → Option Nat} {WI : Nat → Int32} {FK : Nat → Int32} {RK : Nat → Nat → Int32} {FJ : Nat → Int32} {RJ : Nat → Nat → Int32} {FT : Nat → Int32} {RT : Nat → Nat → Int32} {FN : Nat → Int32} {RN : Nat → Nat → Int32} {rl : Nat} {aS : Nat → Nat → Nat} {FS : Nat → Nat → Int32} {RS : Nat → Nat → Nat → Int32} {F : Nat → Int32} {R : Nat → Nat → Int32} (hI : lwInv so SD WI FK RK FJ RJ FT RT FN RN rl aS FS RS F R)
    {m cnt : Nat} {nm : Nat → Nat} {x : Int32} (hm : m = 12) (hcn : (numS so m).1 = cnt) (hnm : (numS so m).2 = nm) {t1 : Int32} {MB ST O1 : Nat → Int32} {rl1 : Nat} (hp : ntPost so WI m (FJ 0) (FJ 1) (FJ 2) cnt nm x rl (FN 7) (RN 6) t1 MB ST O1 rl1) {u9 : (Nat → Int32) × (Nat → Nat → Int32)} (hu : nightPost m F R so x u9) :
    cNt cnt x MB ST = aNightR m F R so x ∧ ordOk t1 (u9.1 34) O1 (u9.2 35) := by
  obtain ⟨h1, h2, h3, h4, -, -, ⟨e1, e2, e3, hcs⟩, -, -, h10, -⟩ := hI
  obtain ⟨-, hp2, hp3, hp4⟩ := hp
  obtain ⟨-, -, hu3, hu4⟩ := hu
  have hall := th_all hm h2 hcn hnm
  obtain ⟨n1, n2, n3⟩ := numS_spec so m
  have nle := numS_le so m
  rw [hcn, hnm] at n1 n2 n3
  rw [hcn] at nle
  by_cases ok : okNt x cnt
  · obtain ⟨ok1, ok2, ok3⟩ := id ok
    obtain ⟨n, hn8, ex⟩ := le_of (n := 8) (by omega) (fun z => ok1 (Int32.lt_trans z (by decide))) ok2
    subst ex
    have hn1 : ¬ n < 1 := fun z => ok1 ((nI_ltI (by omega) (by omega)).mpr z)
    have ecl : (nI n).toNatClampNeg = n := nI_clamp (by omega)
    rw [ecl] at hp2
    have hN : ∀ i, i < cnt → nm i < 12 ∧ ∃ σ, so (nm i) = some σ := fun i hi => ⟨by have := (n1 i hi).1; omega, Option.isSome_iff_exists.mp (n1 i hi).2⟩
    have hv : nEnv so (R 12) (FJ 0) (FJ 1) (FJ 2) n m cnt nm (eN ST) := by
      refine ⟨hm, by omega, hN, n2, fun j hj hs => n3 j (by omega) hs, h4.2, fun a b σ τ ha hb hσ hτ => ?_, fun i k hi hk => ?_⟩
      · rcases cLeast_n (F := FJ) ((h1 a ha).2 σ hσ).2.2.1 ((h1 b hb).2 τ hτ).2.2.1 (show 1 ≤ n by omega) hn8 hcs (h3 a ha σ hσ) (h3 b hb τ hτ) with ⟨-, q1, q2⟩ | ⟨-, q⟩
        · exact Or.inl ⟨q1, q2⟩
        · exact Or.inr q
      · exact ((hp2 ok i hi).2 k hk).trans (stepC_cg hm h4.1 (hN i hi).1 (hN k hk).1)
    have hb : ∀ i, i < cnt → MB i = b2i (nMst (R 12) (nm i) m = 0) := fun i hi => by
      rw [(hp2 ok i hi).1, nMst_cg m (fun a ha => h4.1 _ (by have := (hN i hi).1; omega))]
    have eE : eV so (R 12) (F 18) (F 19) (F 20) (nI n).toNatClampNeg = eV so (R 12) (FJ 0) (FJ 1) (FJ 2) n := by rw [ecl, e1, e2, e3]
    have hth : ¬ thB (R 0) 12 = 0 := fun z => (hall.2 (nm 0)).mpr ⟨0, by omega, rfl⟩ (by rw [z, Nat.zero_div])
    unfold okNightR at hu3 hu4
    unfold isNightR at hu3
    unfold aNightR
    rw [eE] at hu3 hu4 ⊢
    rcases nt_fin hv hall hb with ⟨f1, f2⟩ | ⟨f1, f2, f3, f4⟩
    · constructor
      · rw [cNt_m ok f1]
        unfold aNight
        rw [if_neg ok1, if_neg ok2, if_neg hth]
        exact (if_neg f2).symm
      · obtain ⟨t2, o2⟩ := hp4 (fun _ => f1)
        obtain ⟨t3, o3⟩ := hu4 (fun z => f2 z.2.2.2)
        rw [t2, o2, t3, o3]
        exact h10
    · constructor
      · rw [cNt_f ok f1, f3]
        unfold aNight
        rw [if_neg ok1, if_neg ok2, if_neg hth]
        exact (if_pos f2).symm
      · obtain ⟨y, y1, y2, y3, y4⟩ := hp3 ok f1
        obtain ⟨cr, r1, r2, r3⟩ := hu3 ⟨ok1, ok2, hth, f2⟩
        obtain ⟨g1, g2⟩ := f4 y y1 y2 cr _ r3
        subst g1
        exact ⟨cr, y3, r1, r2, fun i hi => by rw [y4 i hi, g2 i hi]⟩
  · obtain ⟨t2, o2⟩ := hp4 (fun z => absurd z ok)
    have hth : cnt = 0 → thB (R 0) 12 = 0 := fun z => by
      apply Nat.eq_of_testBit_eq
      intro i
      rw [Nat.zero_testBit]
      refine bit_tb.mp (Classical.byContradiction (fun q => ?_))
      obtain ⟨j, hj, -⟩ := (hall.2 i).mp q
      omega
    have hno : ∀ (W : Nat → Nat → Int32) (b1 : Nat → Prop) [∀ s, Decidable (b1 s)], ¬ okNight W b1 (thB (R 0) 12) m x ∧ aNight W b1 (thB (R 0) 12) m x = (-1) := by
      intro W b1 _
      refine ⟨fun z => ok ⟨z.1, z.2.1, fun c => z.2.2.1 (hth c)⟩, ?_⟩
      unfold aNight
      by_cases a1 : x < nI 1
      · rw [if_pos a1]
      · rw [if_neg a1]
        by_cases a2 : nI 8 < x
        · rw [if_pos a2]
        · rw [if_neg a2, if_pos (hth (Classical.byContradiction (fun c => ok ⟨a1, a2, c⟩)))]
    constructor
    · rw [cNt_n ok]
      exact (hno _ _).2.symm
    · obtain ⟨t3, o3⟩ := hu4 (hno _ _).1
      rw [t2, o2, t3, o3]
      exact h10
def ntNeed (x : Int32) (cnt rl : Nat) : Nat := if okNt x cnt ∧ rl < 2 ^ cnt * cnt then 2 ^ cnt * cnt else 0
theorem need_ok {x : Int32} {cnt rl : Nat} (h : okNt x cnt) : (if rl < 2 ^ cnt * cnt then 2 ^ cnt * cnt else 0) ≤ ntNeed x cnt rl := by
  unfold ntNeed
  by_cases e : rl < 2 ^ cnt * cnt
  · rw [if_pos e, if_pos ⟨h, e⟩]; exact Nat.le_refl _
  · rw [if_neg e]; exact Nat.zero_le _
theorem need_b {x : Int32} {cnt rl rl1 : Nat} (hc : cnt ≤ 12) (h : rlOk rl) (h1 : rl1 = if okNt x cnt ∧ rl < 2 ^ cnt * cnt then 2 ^ cnt * cnt else rl) : rlOk rl1 ∧ ntNeed x cnt rl ≤ 49152 ∧ 2 * rl + ntNeed x cnt rl ≤ 2 * rl1 := by
  unfold ntNeed
  by_cases e : okNt x cnt ∧ rl < 2 ^ cnt * cnt
  · rw [if_pos e] at h1
    rw [if_pos e, h1]
    have hp := pow_cnt hc
    refine ⟨⟨cnt, hc, rfl⟩, hp, ?_⟩
    obtain ⟨d, hd, rfl⟩ := h
    have hdc : d < cnt := by
      rcases Nat.lt_or_ge d cnt with q | q
      · exact q
      · exfalso
        have := Nat.mul_le_mul (Nat.pow_le_pow_right (show 0 < 2 by omega) q) q
        omega
    have h3 := Nat.mul_le_mul (Nat.pow_le_pow_right (show 0 < 2 by omega) (show d + 1 ≤ cnt by omega)) (show d ≤ cnt by omega)
    rw [Nat.pow_succ] at h3
    have h4 : 2 ^ d * 2 * d = 2 * (2 ^ d * d) := by rw [Nat.mul_comm (2 ^ d) 2, Nat.mul_assoc]
    omega
  · rw [if_neg e] at h1
    rw [if_neg e, h1]
    exact ⟨h, by omega, by omega⟩
theorem inv_night {so : So} {SD SX : Nat → Option Nat} {WI : Nat → Int32} {FK : Nat → Int32} {RK : Nat → Nat → Int32} {FJ : Nat → Int32} {RJ : Nat → Nat → Int32} {FT : Nat → Int32} {RT : Nat → Nat → Int32} {FN : Nat → Int32} {RN : Nat → Nat → Int32} {rl rl1 : Nat} {aS : Nat → Nat → Nat} {FS : Nat → Nat → Int32} {RS : Nat → Nat → Nat → Int32} {F : Nat → Int32} {R : Nat → Nat → Int32} (hI : lwInv so SD WI FK RK FJ RJ FT RT FN RN rl aS FS RS F R)
    {m : Nat} {x f1 f5 t1 : Int32} {MB ST RR O1 L3 L4 L5 L6 L7 : Nat → Int32} {u9 : (Nat → Int32) × (Nat → Nat → Int32)} (hj : jOk so (FJ 0) (FJ 1) (FJ 2) L3 L4 L5) (ho : ordOk t1 (u9.1 34) O1 (u9.2 35)) (hr : rlOk rl1) (hu : nightPost m F R so x u9) :
    lwInv so SD WI FK RK FJ (va_up (va_up (va_up (va_up (va_up RJ 3 L3) 4 L4) 5 L5) 6 L6) 7 L7) FT RT (va_up (va_up (va_up FN 1 f1) 5 f5) 7 t1) (va_up (va_up (va_up (va_up RN 3 MB) 2 ST) 4 RR) 6 O1) rl1 aS FS RS u9.1 u9.2 := by
  obtain ⟨h1a, h2a, h3, h4, h5, h6, h7, h8, h9, h10, h11⟩ := hI
  obtain ⟨f1, f2, -, -⟩ := hu
  refine ⟨h1a, moAll_eq h2a (fun i hi => f2 i (by omega) (by omega) (by omega)), h3, by rw [f2 12 (by omega) (by omega) (by omega)]; exact h4, by rw [f1 13 (by omega) (by omega) (by omega), f2 14 (by omega) (by omega) (by omega)]; exact h5, by rw [f1 16 (by omega) (by omega) (by omega), f2 17 (by omega) (by omega) (by omega)]; exact h6, ?_, hj, by rw [f1 27 (by omega) (by omega) (by omega), f2 28 (by omega) (by omega) (by omega), f2 29 (by omega) (by omega) (by omega)]; exact h9, ho, hr⟩
  obtain ⟨c1, c2, c3, c4⟩ := h7
  exact ⟨by rw [f1 18 (by omega) (by omega) (by omega)]; exact c1, by rw [f1 19 (by omega) (by omega) (by omega)]; exact c2, by rw [f1 20 (by omega) (by omega) (by omega)]; exact c3, c4⟩
