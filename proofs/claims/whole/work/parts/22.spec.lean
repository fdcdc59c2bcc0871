/-! what is meant: numbers of a flight (0 minute, 1 cell, 2 height, 3 who, 4 what, 5 since, 6 in, 7 8 9 used, 10 lost) -/
def sPos (x : Int32) : Int32 := if x < 0 then 0 else x
theorem sPos_max (x : Int32) : (if 0 < x then x else 0) = sPos x := by
  unfold sPos
  by_cases h1 : x < 0
  · rw [if_pos h1, if_neg]
    intro h2
    have a := Int32.lt_iff_toInt_lt.mp h1
    have b := Int32.lt_iff_toInt_lt.mp h2
    omega
  · rw [if_neg h1]
    by_cases h2 : 0 < x
    · rw [if_pos h2]
    · rw [if_neg h2]
      have a := Int32.le_iff_toInt_le.mp (Int32.not_lt.mp h1)
      have b := Int32.le_iff_toInt_le.mp (Int32.not_lt.mp h2)
      exact Int32.toInt_inj.mp (by omega)
def isP (n : Nat) (p : Int32) : Prop := ∃ i : Nat, i < n ∧ p = nI i
theorem isP_iff {n : Nat} (hn : n < 2 ^ 31) (p : Int32) : isP n p ↔ ¬ p < 0 ∧ p < nI n := by
  constructor
  · rintro ⟨i, hi, rfl⟩
    exact ⟨nI_pos (by omega), nI_lt hi hn⟩
  · rintro ⟨h1, h2⟩
    obtain ⟨j, hj, rfl⟩ := nI_of h1
    exact ⟨j, (nI_ltI hj hn).mp h2, rfl⟩
theorem isP_in {n N : Nat} {p : Int32} (h : isP n p) (hn : n ≤ N) (hN : N < 2 ^ 31) : vp_in p N := by
  obtain ⟨i, hi, rfl⟩ := h
  exact vp_in_nI (by omega) hN
def sHold (br li fa : Nat → Int32) (th id el : Int32) : Int32 := if th = -9 ∨ br th.toNatClampNeg < el then 0 else sPos (li id.toNatClampNeg - el * fa id.toNatClampNeg)
/-- the weights of those of the first n who are in -/
def sW (we : Nat → Int32) (ab : Int32) : Nat → Int32
  | 0 => 0
  | n + 1 => sW we ab n + (if ab >>> (nI n &&& 31) &&& 1 = 1 then we n else 0)
/-- one up, one down, or as high -/
def sUp (more : Int32) : Int32 := if 0 < more then 1 else if more < 0 then -1 else 0
def sHe (more he : Int32) : Int32 := sClamp 0 9 (he + sUp more)
/-- a minute: what was told, the numbers ahead of it, the numbers behind it -/
def sMore (n : Nat) (we br li fa : Nat → Int32) (g : Nat → Int32) : Int32 := sHold br li fa (g 3) (g 4) (g 5 + 1) - sW we (g 6) n
def sTo (n : Nat) (wi we br li fa : Nat → Int32) (g : Nat → Int32) : Int32 := g 1 + wi (sHe (sMore n we br li fa g) (g 2)).toNatClampNeg
def sPass (n : Nat) (wi we br li fa : Nat → Int32) (g : Nat → Int32) : Nat → Int32 := fun k =>
  if k = 0 then g 0 + 1 else if k = 5 then g 5 + 1 else if g 10 = 1 then g k
  else if k = 2 then sHe (sMore n we br li fa g) (g 2)
  else if k = 1 then sClamp 0 40 (sTo n wi we br li fa g)
  else if k = 10 then (if sClamp 0 40 (sTo n wi we br li fa g) = sTo n wi we br li fa g then 0 else 1)
  else g k
/-- bounds of a flight's numbers, by how many people and thoughts there are -/
def GI (n m : Nat) (g : Nat → Int32) : Prop := (∃ c : Nat, c ≤ 40 ∧ g 1 = nI c) ∧ (∃ k : Nat, k ≤ 9 ∧ g 2 = nI k) ∧ ((g 3 = -9 ∧ g 4 = -9) ∨ (isP n (g 3) ∧ isP m (g 4))) ∧ (g 10 = 0 ∨ g 10 = 1) ∧ (∃ b : Nat, b < 8 ∧ g 6 = nI b) ∧ (∀ p : Nat, p < 3 → ∃ u : Nat, u < 16 ∧ g (7 + p) = nI u)
/-- a cell that is a flight of these numbers -/
def FC (c : AC) (g : Nat → Int32) : Prop := ∃ si us : Int32, c = oFl (g 0) (g 1) (g 2) (g 3) (g 4) si (g 6) us (g 10) ∧ (g 3 ≠ -9 → g 0 - si = g 5) ∧ ∀ p : Nat, p < 3 → us >>> ((4 * nI p) &&& 31) &&& 15 = g (7 + p)
theorem sClamp_in (N : Nat) (hN : N < 1000) (x : Int32) : ∃ c : Nat, c ≤ N ∧ sClamp 0 (nI N) x = nI c := by
  have hz : (nI 0).toInt = 0 := by decide
  have hNi : (nI N).toInt = N := nI_toInt (by omega)
  unfold sClamp
  by_cases h1 : x < nI N
  · rw [if_pos h1]
    by_cases h2 : 0 < x
    · rw [if_pos h2]
      have a := Int32.lt_iff_toInt_lt.mp h1
      have b := Int32.lt_iff_toInt_lt.mp h2
      obtain ⟨j, hj, rfl⟩ := nI_of (x := x) (fun q => by have c := Int32.lt_iff_toInt_lt.mp q; omega)
      rw [nI_toInt hj] at a
      exact ⟨j, by omega, rfl⟩
    · rw [if_neg h2]
      exact ⟨0, by omega, rfl⟩
  · rw [if_neg h1]
    by_cases h2 : 0 < nI N
    · rw [if_pos h2]; exact ⟨N, by omega, rfl⟩
    · rw [if_neg h2]; exact ⟨0, by omega, rfl⟩
theorem sHe_in (more he : Int32) : ∃ k : Nat, k ≤ 9 ∧ sHe more he = nI k := sClamp_in 9 (by decide) _
theorem GI_pass {n m : Nat} {wi we br li fa g : Nat → Int32} (hg : GI n m g) : GI n m (sPass n wi we br li fa g) := by
  obtain ⟨h1, h2, h3, h4, h5, h6⟩ := hg
  by_cases hl : g 10 = 1
  · refine ⟨?_, ?_, ?_, ?_, ?_, ?_⟩
    · simpa [sPass, hl] using h1
    · simpa [sPass, hl] using h2
    · simpa [sPass, hl] using h3
    · simp [sPass, hl]
    · simpa [sPass, hl] using h5
    · intro p hp
      have := h6 p hp
      have e1 : sPass n wi we br li fa g (7 + p) = g (7 + p) := by
        simp [sPass, hl, show ¬ 7 + p = 0 by omega, show ¬ 7 + p = 5 by omega]
      rw [e1]; exact this
  · refine ⟨?_, ?_, ?_, ?_, ?_, ?_⟩
    · have : ∃ c : Nat, c ≤ 40 ∧ sClamp 0 40 (sTo n wi we br li fa g) = nI c := sClamp_in 40 (by decide) (sTo n wi we br li fa g)
      simpa [sPass, hl] using this
    · have := sHe_in (sMore n we br li fa g) (g 2)
      simpa [sPass, hl] using this
    · simpa [sPass, hl] using h3
    · simp only [sPass, hl]
      by_cases hq : sClamp 0 40 (sTo n wi we br li fa g) = sTo n wi we br li fa g
      · left; simp [hq]
      · right; simp [hq]
    · simpa [sPass, hl] using h5
    · intro p hp
      have := h6 p hp
      have e1 : sPass n wi we br li fa g (7 + p) = g (7 + p) := by
        simp only [sPass, if_neg (show ¬ 7 + p = 0 by omega), if_neg (show ¬ 7 + p = 5 by omega), if_neg hl, if_neg (show ¬ 7 + p = 2 by omega), if_neg (show ¬ 7 + p = 1 by omega), if_neg (show ¬ 7 + p = 10 by omega)]
      rw [e1]; exact this
