theorem or_bit {q k i : Nat} : (q ||| 2 ^ k) / 2 ^ i % 2 = if i = k then 1 else q / 2 ^ i % 2 := by
  by_cases e : i = k
  · rw [if_pos e]
    have : ¬ (q ||| 2 ^ k) / 2 ^ i % 2 = 0 := fun h => by
      have h2 := bit_tb.mp h
      rw [Nat.testBit_or, e, Nat.testBit_two_pow_self, Bool.or_true] at h2
      exact absurd h2 (by decide)
    exact nI_ne1 this
  · rw [if_neg e]
    apply bit_eq
    rw [Nat.testBit_or, Nat.testBit_two_pow]
    simp [show ¬ k = i from fun x => e x.symm]
theorem cntB_or {q k : Nat} (hb : q / 2 ^ k % 2 = 0) : ∀ n, cntB (q ||| 2 ^ k) n = cntB q n + (if k < n then 1 else 0)
  | 0 => by simp [cntB]
  | n + 1 => by
    have i := cntB_or hb n
    have hr := or_bit (q := q) (k := k) (i := n)
    unfold cntB
    rw [hr]
    by_cases e : n = k
    · subst e
      rw [if_pos rfl, if_pos (by omega)]
      rw [if_neg (by omega)] at i
      omega
    · rw [if_neg e]
      by_cases c : k < n
      · rw [if_pos c] at i; rw [if_pos (by omega)]; omega
      · rw [if_neg c] at i; rw [if_neg (by omega)]; omega
theorem cntB_0 : ∀ n, cntB 0 n = 0
  | 0 => rfl
  | n + 1 => by
    unfold cntB
    rw [cntB_0 n, Nat.zero_div]
theorem cntB_pow (k n : Nat) : cntB (2 ^ k) n = if k < n then 1 else 0 := by
  have := cntB_or (q := 0) (k := k) (by rw [Nat.zero_div]) n
  rwa [Nat.zero_or, cntB_0, Nat.zero_add] at this
theorem full_bit {cnt i : Nat} (h : i < cnt) : (2 ^ cnt - 1) / 2 ^ i % 2 = 1 := by
  have : ¬ (2 ^ cnt - 1) / 2 ^ i % 2 = 0 := fun q => by
    have h2 := bit_tb.mp q
    rw [Nat.testBit_two_pow_sub_one] at h2
    simp [h] at h2
  exact nI_ne1 this
theorem cntB_full {cnt : Nat} : ∀ n, n ≤ cnt → cntB (2 ^ cnt - 1) n = n
  | 0, _ => rfl
  | n + 1, h => by
    unfold cntB
    rw [cntB_full n (by omega), full_bit (by omega)]
theorem rR_le {E : Nat → Nat → Int32} {cnt q k : Nat} (hc : cnt ≤ 12) (hq : q < 2 ^ cnt) : rR E cnt q k ≤ nI 1073741824 := by
  rcases Nat.lt_or_ge q (2 ^ cnt - 1) with h | h
  · rw [rR_eq h]
    rcases nLn_end (E := E) (Wf := rR E cnt) (q := q) (z := k) cnt (by omega) with ⟨-, a, -⟩ | ⟨x, -, -, -, -, a, b, -⟩
    · rw [a]; exact Int32.le_refl _
    · rw [a]; exact Int32.le_of_lt b
  · rw [show q = 2 ^ cnt - 1 by omega, rR_full]; decide
theorem lt_ne {a b : Int32} (h : a ≤ b) (h2 : ¬ a = b) : a < b := by
  rcases Int32.le_iff_lt_or_eq.mp h with q | q
  · exact q
  · exact absurd q h2
/-- along the way that is taken there is a way on, and the songs that were played grow by one each time -/
theorem seq_all {E : Nat → Nat → Int32} {cnt x : Nat} (hc : cnt ≤ 12) (hx : x < cnt) (h : rR E cnt (2 ^ x) x < nI 1073741824) : ∀ i, i < cnt → (cSq E (rR E cnt) cnt x i).1 < 2 ^ cnt ∧ (cSq E (rR E cnt) cnt x i).2 < cnt ∧ cntB (cSq E (rR E cnt) cnt x i).1 cnt = i + 1 ∧ rR E cnt (cSq E (rR E cnt) cnt x i).1 (cSq E (rR E cnt) cnt x i).2 < nI 1073741824 ∧
    (i + 1 < cnt → ∃ y, y < cnt ∧ (nLn E (rR E cnt) (cSq E (rR E cnt) cnt x i).1 (cSq E (rR E cnt) cnt x i).2 cnt).2 = nI y ∧ (cSq E (rR E cnt) cnt x i).1 / 2 ^ y % 2 = 0 ∧ (cSq E (rR E cnt) cnt x (i + 1)).1 = (cSq E (rR E cnt) cnt x i).1 ||| 2 ^ y ∧ (cSq E (rR E cnt) cnt x (i + 1)).2 = y ∧ rR E cnt ((cSq E (rR E cnt) cnt x i).1 ||| 2 ^ y) y < nI 1073741824) := by
  intro i hi
  have base : (cSq E (rR E cnt) cnt x i).1 < 2 ^ cnt ∧ (cSq E (rR E cnt) cnt x i).2 < cnt ∧ cntB (cSq E (rR E cnt) cnt x i).1 cnt = i + 1 ∧ rR E cnt (cSq E (rR E cnt) cnt x i).1 (cSq E (rR E cnt) cnt x i).2 < nI 1073741824 := by
    cases i with
    | zero => exact ⟨Nat.pow_lt_pow_right (by omega) hx, hx, by show cntB (2 ^ x) cnt = 1; rw [cntB_pow, if_pos hx], h⟩
    | succ i =>
      obtain ⟨a1, a2, a3, a4, a5⟩ := seq_all hc hx h i (by omega)
      obtain ⟨y, y1, y2, y3, y4, y5, y6⟩ := a5 hi
      rw [y4, y5]
      exact ⟨or_lt a1 y1, y1, by rw [cntB_or y3, a3, if_pos y1], y6⟩
  obtain ⟨b1, b2, b3, b4⟩ := base
  refine ⟨b1, b2, b3, b4, fun hi2 => ?_⟩
  have hf : (cSq E (rR E cnt) cnt x i).1 < 2 ^ cnt - 1 := by
    rcases Nat.lt_or_ge (cSq E (rR E cnt) cnt x i).1 (2 ^ cnt - 1) with q | q
    · exact q
    · have e : (cSq E (rR E cnt) cnt x i).1 = 2 ^ cnt - 1 := by omega
      rw [e, cntB_full cnt (Nat.le_refl _)] at b3
      omega
  have e2 := rR_eq (E := E) (cnt := cnt) (k := (cSq E (rR E cnt) cnt x i).2) hf
  rcases nLn_end (E := E) (Wf := rR E cnt) (q := (cSq E (rR E cnt) cnt x i).1) (z := (cSq E (rR E cnt) cnt x i).2) cnt (by omega) with ⟨-, a, -⟩ | ⟨y, y1, y2, y3, y4, y5, y6, -⟩
  · rw [e2, a] at b4; exact absurd b4 (by decide)
  · have e : (nLn E (rR E cnt) (cSq E (rR E cnt) cnt x i).1 (cSq E (rR E cnt) cnt x i).2 cnt).2.toNatClampNeg = y := by rw [y2]; exact nI_clamp (by omega)
    refine ⟨y, y1, y2, y3, ?_, ?_, ?_⟩
    · show (cSq E (rR E cnt) cnt x i).1 ||| 2 ^ (nLn E (rR E cnt) (cSq E (rR E cnt) cnt x i).1 (cSq E (rR E cnt) cnt x i).2 cnt).2.toNatClampNeg = _
      rw [e]
    · exact e
    · refine lt_ne (rR_le hc (or_lt b1 y1)) (fun q => ?_)
      unfold cO at y6
      rw [if_pos q] at y6
      exact absurd y6 (by decide)
theorem or_pos {q j : Nat} : 0 < q ||| 2 ^ j := Nat.lt_of_lt_of_le (Nat.two_pow_pos j) Nat.right_le_or
abbrev agW (cnt : Nat) (Wf Wg : Nat → Nat → Int32) : Prop := ∀ q, 0 < q → q < 2 ^ cnt → ∀ k, k < cnt → ¬ q / 2 ^ k % 2 = 0 → Wf q k = Wg q k
theorem ag_nLn {E Wf Wg : Nat → Nat → Int32} {cnt q z : Nat} (h : agW cnt Wf Wg) (hq : q < 2 ^ cnt) : nLn E Wf q z cnt = nLn E Wg q z cnt :=
  nLn_congr cnt (fun j hj _ => h _ or_pos (or_lt hq hj) j hj (by rw [or_bit, if_pos rfl]; decide))
theorem ag_seq {E Wf : Nat → Nat → Int32} {cnt x : Nat} (hc : cnt ≤ 12) (hx : x < cnt) (hW : agW cnt Wf (rR E cnt)) (h : rR E cnt (2 ^ x) x < nI 1073741824) : ∀ i, i < cnt → cSq E Wf cnt x i = cSq E (rR E cnt) cnt x i
  | 0, _ => rfl
  | i + 1, hi => by
    have ih := ag_seq hc hx hW h i (by omega)
    have b := seq_all hc hx h i (by omega)
    show ((cSq E Wf cnt x i).1 ||| 2 ^ (nLn E Wf (cSq E Wf cnt x i).1 (cSq E Wf cnt x i).2 cnt).2.toNatClampNeg, (nLn E Wf (cSq E Wf cnt x i).1 (cSq E Wf cnt x i).2 cnt).2.toNatClampNeg) = ((cSq E (rR E cnt) cnt x i).1 ||| 2 ^ (nLn E (rR E cnt) (cSq E (rR E cnt) cnt x i).1 (cSq E (rR E cnt) cnt x i).2 cnt).2.toNatClampNeg, (nLn E (rR E cnt) (cSq E (rR E cnt) cnt x i).1 (cSq E (rR E cnt) cnt x i).2 cnt).2.toNatClampNeg)
    rw [ih, ag_nLn hW b.1]
theorem ag_ok {E Wf : Nat → Nat → Int32} {cnt x : Nat} (hc : cnt ≤ 12) (hx : x < cnt) (hW : agW cnt Wf (rR E cnt)) (h : rR E cnt (2 ^ x) x < nI 1073741824) : ∀ i, i + 1 < cnt → ¬ (nLn E Wf (cSq E Wf cnt x i).1 (cSq E Wf cnt x i).2 cnt).2 = (-1) := by
  intro i hi
  have b := seq_all hc hx h i (by omega)
  rw [ag_seq hc hx hW h i (by omega), ag_nLn hW b.1]
  obtain ⟨y, y1, y2, -⟩ := b.2.2.2.2 hi
  rw [y2]
  intro q
  exact absurd (q ▸ nI_pos (show y < 2 ^ 31 by omega)) (by decide)
theorem ag_lF {b : Nat → Int32} {Wf Wg : Nat → Nat → Int32} {cnt : Nat} (h : agW cnt Wf Wg) : lF b Wf cnt = lF b Wg cnt :=
  lF_congr cnt (fun i hi => h _ (Nat.two_pow_pos i) (Nat.pow_lt_pow_right (by omega) hi) i hi (by
    have := or_bit (q := 0) (k := i) (i := i)
    rw [Nat.zero_or, if_pos rfl] at this
    omega))
abbrev agQ (cnt s : Nat) (RR : Nat → Int32) (Wg : Nat → Nat → Int32) : Prop := ∀ q, s < q → q < 2 ^ cnt → ∀ k, k < cnt → ¬ q / 2 ^ k % 2 = 0 → RR (q * cnt + k) = Wg q k
theorem seekq_s {E : Nat → Nat → Int32} {cnt s : Nat} {RR RW : Nat → Int32} (hs : s + 1 < 2 ^ cnt - 1) (h : agQ cnt (s + 1) RR (rR E cnt)) (h1 : ∀ k, k < cnt → ¬ (s + 1) / 2 ^ k % 2 = 0 → RW ((s + 1) * cnt + k) = (nLn E (wN cnt RR) (s + 1) k cnt).1) (h2 : ∀ i, (∀ k, k < cnt → ¬ i = (s + 1) * cnt + k) → RW i = RR i) : agQ cnt s RW (rR E cnt) := by
  intro q hq hq2 k hk hb
  by_cases e : q = s + 1
  · subst e
    rw [h1 k hk hb, rR_eq hs]
    congr 1
    exact nLn_congr cnt (fun j hj h9 => h _ (or_gt h9) (or_lt hq2 hj) j hj (by rw [or_bit, if_pos rfl]; decide))
  · rw [h2 _ (fun k2 hk2 e2 => by
      have : (s + 1 + 1) * cnt ≤ q * cnt := Nat.mul_le_mul_right _ (by omega)
      rw [Nat.add_mul] at this
      omega)]
    exact h q (by omega) hq2 k hk hb
theorem seekq_0 {E : Nat → Nat → Int32} {cnt : Nat} {RR : Nat → Int32} (h : ∀ k, k < cnt → RR ((2 ^ cnt - 1) * cnt + k) = nI 0) : agQ cnt (2 ^ cnt - 1 - 1) RR (rR E cnt) := by
  intro q hq hq2 k hk _
  rw [show q = 2 ^ cnt - 1 by omega, rR_full]
  exact h k hk
theorem sgq_step {RF : Nat → Int32} {b k : Nat} (h : ∀ z, z < k → RF (b + z) = nI 0) : ∀ z, z < k + 1 → upd RF (b + k) (nI 0) (b + z) = nI 0 := by
  intro z hz
  unfold upd
  by_cases e : z = k
  · rw [if_pos (by omega)]
  · rw [if_neg (by omega)]; exact h z (by omega)
