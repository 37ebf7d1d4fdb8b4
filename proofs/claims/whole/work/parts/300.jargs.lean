/-! join and best: what they are told, what they answer -/
abbrev okJ (σ τ : Sg) (x y n u w : Int32) : Prop := ¬ x = y ∧ (¬ n < nI 1 ∧ ¬ nI 8 < n) ∧ (¬ u < 0 ∧ ¬ nI (gPB σ) ≤ u) ∧ ¬ w < 0 ∧ ¬ nI (gPB τ) ≤ w
def jArg (so : So) (x y n u w : Int32) : Option (Sg × Sg × Nat × Nat × Nat) := match sAt so x with
  | none => none
  | some σ => match sAt so y with
    | none => none
    | some τ => if okJ σ τ x y n u w then some (σ, τ, n.toNatClampNeg, u.toNatClampNeg, w.toNatClampNeg) else none
theorem jArg_1 {so : So} {x y n u w : Int32} (h : sAt so x = none) : jArg so x y n u w = none := by simp only [jArg, h]
theorem jArg_2 {so : So} {x y n u w : Int32} {σ : Sg} (h : sAt so x = some σ) (h2 : sAt so y = none) : jArg so x y n u w = none := by simp only [jArg, h, h2]
theorem jArg_3 {so : So} {x y n u w : Int32} {σ τ : Sg} (h : sAt so x = some σ) (h2 : sAt so y = some τ) (h3 : ¬ okJ σ τ x y n u w) : jArg so x y n u w = none := by simp only [jArg, h, h2]; rw [if_neg h3]
theorem jArg_4 {so : So} {x y n u w : Int32} {σ τ : Sg} (h : sAt so x = some σ) (h2 : sAt so y = some τ) (h3 : okJ σ τ x y n u w) : jArg so x y n u w = some (σ, τ, n.toNatClampNeg, u.toNatClampNeg, w.toNatClampNeg) := by simp only [jArg, h, h2]; rw [if_pos h3]
/-- how far a join comes: 2 a bar broken or wanting, 3 no phrase, 4 it doesn't hold, 0 it holds -/
def jWay (bd : Int32) (d : Sg × Sg × Nat × Nat × Nat) (ph : Int32) : Nat := if wholeV (gBrk d.1) (gPB d.1) d.2.2.2.1 d.2.2.1 = 0 then 2 else if wholeV (gBrk d.2.1) (gPB d.2.1) d.2.2.2.2 d.2.2.1 = 0 then 2
  else if ¬ ph = 0 ∧ (gPhr d.1 d.2.2.2.1 = 0 ∨ gPhr d.2.1 d.2.2.2.2 = 0) then 3 else if jCost bd d.1 d.2.1 d.2.2.1 d.2.2.2.1 d.2.2.2.2 = nI 1000000000 then 4 else 0
def aJoin (bd kc hc : Int32) (o : Option (Sg × Sg × Nat × Nat × Nat)) (ph : Int32) : Int32 := match o with
  | none => (-1)
  | some d => if jWay bd d ph = 2 then (-2) else if jWay bd d ph = 3 then (-3) else if jWay bd d ph = 4 then (-4) else jCost bd d.1 d.2.1 d.2.2.1 d.2.2.2.1 d.2.2.2.2 + malways kc hc d.1 d.2.1
def jX (d : Sg × Sg × Nat × Nat × Nat) : Nat → Int32 := fun j => gRow d.1 (4 * d.2.2.2.1 + j)
def jY (d : Sg × Sg × Nat × Nat × Nat) : Nat → Int32 := fun j => gRow d.2.1 (4 * d.2.2.2.2 + j)
/-- the meeting that is kept behind a join: its number of beats, how long they last, their bends -/
def jMeet (bd : Int32) (o : Option (Sg × Sg × Nat × Nat × Nat)) (ph : Int32) (M0 M : Int32) (L0 L B0 B : Nat → Int32) : Prop := match o with
  | none => M = M0 ∧ L = L0 ∧ B = B0
  | some d => if jWay bd d ph = 0 then M = nI (4 * d.2.2.1) ∧ ∀ z, z < 4 * d.2.2.1 → L z = mlast (jX d) (jY d) d.2.2.1 z ∧ B z = mbend (mlast (jX d) (jY d) d.2.2.1 z) (jX d z) (jY d z) else M = M0 ∧ L = L0 ∧ B = B0
theorem jMeet_n {bd ph M0 : Int32} {L0 B0 : Nat → Int32} : jMeet bd none ph M0 M0 L0 L0 B0 B0 := ⟨rfl, rfl, rfl⟩
theorem jMeet_s {bd ph M0 : Int32} {L0 B0 : Nat → Int32} {d : Sg × Sg × Nat × Nat × Nat} (h : ¬ jWay bd d ph = 0) : jMeet bd (some d) ph M0 M0 L0 L0 B0 B0 := by
  show (if jWay bd d ph = 0 then _ else _); rw [if_neg h]; exact ⟨rfl, rfl, rfl⟩
theorem jMeet_y {bd ph M0 : Int32} {L0 B0 L B : Nat → Int32} {d : Sg × Sg × Nat × Nat × Nat} (h : jWay bd d ph = 0) (hL : ∀ z, z < 4 * d.2.2.1 → L z = mlast (jX d) (jY d) d.2.2.1 z ∧ B z = mbend (mlast (jX d) (jY d) d.2.2.1 z) (jX d z) (jY d z)) : jMeet bd (some d) ph M0 (nI (4 * d.2.2.1)) L0 L B0 B := by
  show (if jWay bd d ph = 0 then _ else _); rw [if_pos h]; exact ⟨rfl, hL⟩
theorem way_2a {bd ph : Int32} {d : Sg × Sg × Nat × Nat × Nat} (h : wholeV (gBrk d.1) (gPB d.1) d.2.2.2.1 d.2.2.1 = 0) : jWay bd d ph = 2 := if_pos h
theorem way_2b {bd ph : Int32} {d : Sg × Sg × Nat × Nat × Nat} (h : ¬ wholeV (gBrk d.1) (gPB d.1) d.2.2.2.1 d.2.2.1 = 0) (h2 : wholeV (gBrk d.2.1) (gPB d.2.1) d.2.2.2.2 d.2.2.1 = 0) : jWay bd d ph = 2 := (if_neg h).trans (if_pos h2)
theorem way_3 {bd ph : Int32} {d : Sg × Sg × Nat × Nat × Nat} (h : ¬ wholeV (gBrk d.1) (gPB d.1) d.2.2.2.1 d.2.2.1 = 0) (h2 : ¬ wholeV (gBrk d.2.1) (gPB d.2.1) d.2.2.2.2 d.2.2.1 = 0) (h3 : ¬ ph = 0 ∧ (gPhr d.1 d.2.2.2.1 = 0 ∨ gPhr d.2.1 d.2.2.2.2 = 0)) : jWay bd d ph = 3 := (if_neg h).trans ((if_neg h2).trans (if_pos h3))
theorem way_4 {bd ph : Int32} {d : Sg × Sg × Nat × Nat × Nat} (h : ¬ wholeV (gBrk d.1) (gPB d.1) d.2.2.2.1 d.2.2.1 = 0) (h2 : ¬ wholeV (gBrk d.2.1) (gPB d.2.1) d.2.2.2.2 d.2.2.1 = 0) (h3 : ¬ (¬ ph = 0 ∧ (gPhr d.1 d.2.2.2.1 = 0 ∨ gPhr d.2.1 d.2.2.2.2 = 0))) (h4 : jCost bd d.1 d.2.1 d.2.2.1 d.2.2.2.1 d.2.2.2.2 = nI 1000000000) : jWay bd d ph = 4 := (if_neg h).trans ((if_neg h2).trans ((if_neg h3).trans (if_pos h4)))
theorem way_0 {bd ph : Int32} {d : Sg × Sg × Nat × Nat × Nat} (h : ¬ wholeV (gBrk d.1) (gPB d.1) d.2.2.2.1 d.2.2.1 = 0) (h2 : ¬ wholeV (gBrk d.2.1) (gPB d.2.1) d.2.2.2.2 d.2.2.1 = 0) (h3 : ¬ (¬ ph = 0 ∧ (gPhr d.1 d.2.2.2.1 = 0 ∨ gPhr d.2.1 d.2.2.2.2 = 0))) (h4 : ¬ jCost bd d.1 d.2.1 d.2.2.1 d.2.2.2.1 d.2.2.2.2 = nI 1000000000) : jWay bd d ph = 0 := (if_neg h).trans ((if_neg h2).trans ((if_neg h3).trans (if_neg h4)))
abbrev okB (x y n w : Int32) : Prop := ¬ x = y ∧ (¬ n < nI 1 ∧ ¬ nI 8 < n) ∧ ¬ w < 0 ∧ ¬ nI 2 < w
def bArg (so : So) (x y n w : Int32) : Option (Sg × Sg × Nat) := match sAt so x with
  | none => none
  | some σ => match sAt so y with
    | none => none
    | some τ => if okB x y n w then some (σ, τ, n.toNatClampNeg) else none
theorem bArg_1 {so : So} {x y n w : Int32} (h : sAt so x = none) : bArg so x y n w = none := by simp only [bArg, h]
theorem bArg_2 {so : So} {x y n w : Int32} {σ : Sg} (h : sAt so x = some σ) (h2 : sAt so y = none) : bArg so x y n w = none := by simp only [bArg, h, h2]
theorem bArg_3 {so : So} {x y n w : Int32} {σ τ : Sg} (h : sAt so x = some σ) (h2 : sAt so y = some τ) (h3 : ¬ okB x y n w) : bArg so x y n w = none := by simp only [bArg, h, h2]; rw [if_neg h3]
theorem bArg_4 {so : So} {x y n w : Int32} {σ τ : Sg} (h : sAt so x = some σ) (h2 : sAt so y = some τ) (h3 : okB x y n w) : bArg so x y n w = some (σ, τ, n.toNatClampNeg) := by simp only [bArg, h, h2]; rw [if_pos h3]
def aBest (bd kc hc : Int32) (o : Option (Sg × Sg × Nat)) (w : Int32) : Int32 := match o with
  | none => (-1)
  | some d => if bestV bd kc hc d.1 d.2.1 d.2.2 = nI 1000000000 then (-1) else if w = 0 then bestV bd kc hc d.1 d.2.1 d.2.2 else if w = nI 1 then nI (bestT bd d.1 d.2.1 d.2.2).2.1 else nI (bestT bd d.1 d.2.1 d.2.2).2.2
theorem bestV_far {bd kc hc : Int32} {σ τ : Sg} {n : Nat} (h : ¬ bestV bd kc hc σ τ n = nI 1000000000) : ¬ (bestT bd σ τ n).1 = nI 1000000000 := fun q => h (by unfold bestV; rw [if_pos q])
theorem pair_s {L B f g : Nat → Int32} {i : Nat} {v b : Int32} (h : ∀ z, z < i → L z = f z ∧ B z = g z) (hv : v = f i) (hb : b = g i) : ∀ z, z < i + 1 → upd L i v z = f z ∧ upd B i b z = g z := by
  intro z hz
  unfold upd
  by_cases e : z = i
  · rw [if_pos e, if_pos e, e]; exact ⟨hv, hb⟩
  · rw [if_neg e, if_neg e]; exact h z (by omega)
