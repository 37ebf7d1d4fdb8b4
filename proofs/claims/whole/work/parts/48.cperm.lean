theorem mx_perm {a b : va_W} (h : ∀ n : va_W → Nat, (∀ x y, n (x ++ y) = n x + n y) → n a = n b) : a.Perm b := by
  have D : DecidableEq (Nat × va_E) := fun a b => Classical.propDecidable _
  letI B : BEq (Nat × va_E) := instBEqOfDecidableEq
  haveI L : LawfulBEq (Nat × va_E) := inferInstance
  exact List.perm_iff_count.mpr (fun q => h (fun z => z.count q) (fun x y => List.count_append))
theorem mx_PL {D : va_G} {cl : List vw_C} {a b : va_W} {H : Heap} (h : va_P D cl (a ++ b) H) : va_P D cl a H := mx_Psub h (fun _ q => List.mem_append_left _ q)
/-- what a callee's world wants, out of the whole -/
theorem mx_cut {D : va_G} {cl : List vw_C} {ws a b : va_W} {H : Heap} {A : Nat → Prop} (hP : va_P D cl ws H) (hD : va_D A ws) (hp : ws.Perm (a ++ b)) : va_P D cl a H ∧ va_D (fun _ => True) a := ⟨mx_PL (mx_Pperm hP hp), mx_any (mx_DL (mx_Dperm hD hp)) (fun _ _ => trivial)⟩
def cLeast (bd kc hc : Int32) (σ τ : Sg) (n : Nat) : Int32 := if (bestT bd σ τ n).1 = nI 1000000000 then nI 1073741824 else (bestT bd σ τ n).1 + malways kc hc σ τ
def slotN (a b n : Nat) : Nat := ((n - 1) * 12 + a) * 12 + b
theorem mmin_kd {d : Int32} : mmin d (nI 12 - d) = kdist d := by
  unfold mmin kdist
  by_cases h : d < nI 12 - d
  · rw [if_neg (Int32.lt_asymm h), if_pos h]
  · rw [if_neg h]
    by_cases h2 : nI 12 - d < d
    · rw [if_pos h2]
    · rw [if_neg h2]; exact Int32.le_antisymm (Int32.not_lt.mp h2) (Int32.not_lt.mp h)
theorem sub_ltI {P n d : Nat} (h1 : P < 1000) (h2 : n < 1000) (h3 : d < 1000) : nI P - nI n < nI d ↔ P < n + d := by
  rw [Int32.lt_iff_toInt_lt, pk_sub_toInt (by omega) (by omega), nI_toInt (by omega)]
  omega
theorem alikeV_0 {f : Nat → Int32} {u w n : Nat} : alikeV f u w n = 0 ↔ ¬ alC f n u w := by
  unfold alikeV alC
  split
  · next h => exact ⟨fun q => absurd q (by decide), fun q => absurd h q⟩
  · next h => exact ⟨fun _ => h, fun _ => rfl⟩
theorem b2i_0 {P : Prop} [Decidable P] : b2i P = 0 ↔ ¬ P := by
  unfold b2i
  split
  · next h => exact ⟨fun q => absurd q (by decide), fun q => absurd h q⟩
  · next h => exact ⟨fun _ => h, fun _ => rfl⟩
theorem late_s {al : Nat → Nat → Prop} [∀ u w, Decidable (al u w)] {x : Nat → Nat} {cd : Nat → Prop} [∀ u, Decidable (cd u)] {d : Nat} {LA : Nat → Int32} (h : ∀ i, i < (kS al x cd d).1 → LA i = nI ((kS al x cd d).2 i)) (hy : cd (x d) ∧ ((kS al x cd d).1 = 0 ∨ ¬ al (x d) ((kS al x cd d).2 ((kS al x cd d).1 - 1)))) :
    ∀ i, i < (kS al x cd (d + 1)).1 → upd LA (kS al x cd d).1 (nI (x d)) i = nI ((kS al x cd (d + 1)).2 i) := by
  rw [kS_yes hy]
  intro i hi
  have hi : i < (kS al x cd d).1 + 1 := hi
  show upd LA (kS al x cd d).1 (nI (x d)) i = nI (va_up (kS al x cd d).2 (kS al x cd d).1 (x d) i)
  unfold upd va_up
  by_cases e : i = (kS al x cd d).1
  · rw [if_pos e, if_pos e]
  · rw [if_neg e, if_neg e]; exact h i (by omega)
theorem sC_yes {c : Nat → Nat → Int32} {u w : Nat} {s : Int32 × Nat × Nat} (h : bentL (c u w) s.1 < s.1) : sC c u w s = (bentL (c u w) s.1, u, w) := if_pos h
theorem sC_no {c : Nat → Nat → Int32} {u w : Nat} {s : Int32 × Nat × Nat} (h : ¬ bentL (c u w) s.1 < s.1) : sC c u w s = s := if_neg h
theorem sk_1 {s : Int32 × Nat × Nat} {bd kc hc : Int32} {σ τ : Sg} {n : Nat} (h : relB s (bestT bd σ τ n)) (h2 : s.1 = nI 1073741824) : nI 1073741824 = cLeast bd kc hc σ τ n := by
  unfold cLeast
  rcases h with ⟨a, b⟩ | ⟨a, b⟩
  · rw [if_pos a]
  · rw [← b, h2] at a; exact absurd a (by decide)
theorem sk_2 {s : Int32 × Nat × Nat} {bd kc hc : Int32} {σ τ : Sg} {n : Nat} (h : relB s (bestT bd σ τ n)) (h2 : ¬ s.1 = nI 1073741824) : s.1 + malways kc hc σ τ = cLeast bd kc hc σ τ n := by
  unfold cLeast
  rcases h with ⟨a, b⟩ | ⟨a, b⟩
  · exact absurd b h2
  · rw [if_neg (fun q => by rw [q] at a; exact Int32.lt_irrefl a), b]
theorem sk_3 {s : Int32 × Nat × Nat} {bd P Q : Int32} {σ τ : Sg} {n : Nat} (h : relB s (bestT bd σ τ n)) (h2 : ¬ s.1 = nI 1073741824 → P = nI s.2.1 ∧ Q = nI s.2.2) : ¬ (bestT bd σ τ n).1 = nI 1000000000 → P = nI (bestT bd σ τ n).2.1 ∧ Q = nI (bestT bd σ τ n).2.2 := by
  intro q
  rcases h with ⟨a, b⟩ | ⟨a, b⟩
  · exact absurd a q
  · rw [← b]
    exact h2 (fun z => by rw [← b, z] at a; exact absurd a (by decide))
def cellOk (bd kc hc : Int32) (σ τ : Sg) (n : Nat) (c p q : Int32) : Prop := c = cLeast bd kc hc σ τ n ∧ (¬ (bestT bd σ τ n).1 = nI 1000000000 → p = nI (bestT bd σ τ n).2.1 ∧ q = nI (bestT bd σ τ n).2.2)
abbrev forgC (LC L0 : Nat → Int32) (s m o : Nat) : Prop := ∀ n a b, 1 ≤ n → n ≤ 8 → a < 12 → b < 12 → LC (slotN a b n) = if (n < m ∧ (a = s ∨ b = s)) ∨ (n = m ∧ ((a = s ∧ b < o) ∨ (b = s ∧ a < o))) then (-1) else L0 (slotN a b n)
theorem forgC_s {LC L0 : Nat → Int32} {s m o : Nat} (hs : s < 12) (h1 : 1 ≤ m) (h8 : m ≤ 8) (ho : o < 12) (h : forgC LC L0 s m o) : forgC (upd (upd LC (slotN s o m) (-1)) (slotN o s m) (-1)) L0 s m (o + 1) := by
  intro n a b n1 n8 ha hb
  have i := h n a b n1 n8 ha hb
  unfold upd
  unfold slotN at i ⊢
  by_cases e1 : ((n - 1) * 12 + a) * 12 + b = ((m - 1) * 12 + o) * 12 + s
  · rw [if_pos e1, if_pos (by omega)]
  · rw [if_neg e1]
    by_cases e2 : ((n - 1) * 12 + a) * 12 + b = ((m - 1) * 12 + s) * 12 + o
    · rw [if_pos e2, if_pos (by omega)]
    · rw [if_neg e2, i]
      by_cases c : (n < m ∧ (a = s ∨ b = s)) ∨ (n = m ∧ ((a = s ∧ b < o) ∨ (b = s ∧ a < o)))
      · rw [if_pos c, if_pos (by omega)]
      · rw [if_neg c, if_neg (by omega)]
theorem forgC_n {LC L0 : Nat → Int32} {s m o : Nat} (ho : ¬ o < 12) (h : forgC LC L0 s m o) : forgC LC L0 s (m + 1) 0 := by
  intro n a b n1 n8 ha hb
  rw [h n a b n1 n8 ha hb]
  by_cases c : (n < m ∧ (a = s ∨ b = s)) ∨ (n = m ∧ ((a = s ∧ b < o) ∨ (b = s ∧ a < o)))
  · rw [if_pos c, if_pos (by omega)]
  · rw [if_neg c, if_neg (by omega)]
theorem forgC_0 {L0 : Nat → Int32} {s : Nat} : forgC L0 L0 s 1 0 := by
  intro n a b n1 n8 ha hb
  rw [if_neg (by omega)]
theorem forgC_e {LC L0 : Nat → Int32} {s m : Nat} (hm : 8 < m) (h : forgC LC L0 s m 0) : ∀ n a b, 1 ≤ n → n ≤ 8 → a < 12 → b < 12 → LC (slotN a b n) = if a = s ∨ b = s then (-1) else L0 (slotN a b n) := by
  intro n a b n1 n8 ha hb
  rw [h n a b n1 n8 ha hb]
  by_cases c : a = s ∨ b = s
  · rw [if_pos c, if_pos (by omega)]
  · rw [if_neg c, if_neg (by omega)]
theorem slotN_lt {a b n : Nat} (ha : a < 12) (hb : b < 12) (hn : n ≤ 8) : slotN a b n < 1152 := by unfold slotN; omega
def jF0 : Nat → Int32 := fun i => if i = 0 then nI 80 else if i = 1 then nI 10 else nI 5
