/-! the text: items. Numbers: 0 people, 1 thoughts, 2 start told. Rows: 0 winds, 1 weights, 2 breaths, 3 lifts, 4 fades, 5 start, 6 in at first -/
abbrev PS : Type := (Nat → Nat) × (Nat → Nat → Int32)
def psN (ps : PS) (k v : Nat) : PS := (fun j => if j = k then v else ps.1 j, ps.2)
def psF (ps : PS) (k : Nat) (f : Nat → Int32) : PS := (ps.1, fun j => if j = k then f else ps.2 j)
def ps0 : PS := (fun _ => 0, fun j => if j = 5 then fun _ => 20 else fun _ => 0)
def itN (ps : PS) (t : Nat × Nat × Nat × Nat) : Nat := if t.1 = 1 then (if t.2.1 = 119 then 0 else if t.2.1 = 112 then (if ps.1 0 < 3 then 1 else 4) else if t.2.1 = 116 then (if ps.1 1 < 4 then 2 else 4) else if t.2.1 = 120 then (if ps.1 2 = 0 then 3 else 4) else 4) else 4
def cntT (it : Nat) : Nat := [2, 3, 2, 1].getD it 0
def loT (i : Nat) : Nat := [1, 0, 0, 0, 1, 0, 1, 0, 0, 0, 0, 0].getD i 0
def hiT (i : Nat) : Nat := [9, 6, 0, 9, 9, 1, 30, 5, 0, 40, 0, 0].getD i 0
def pNums (B : Nat → Nat) (L it : Nat) : Nat → Nat → Nat → (Nat → Nat) → Nat ⊕ ((Nat → Nat) × Nat)
  | 0, _, pos, ns => .inr (ns, pos)
  | j + 1, i, pos, ns => if (tkn B L pos).1 = 2 ∧ loT (3 * it + i) ≤ (tkn B L pos).2.1 ∧ (tkn B L pos).2.1 ≤ hiT (3 * it + i) then pNums B L it j (i + 1) (tkn B L pos).2.2.2 (fun k => if k = i then (tkn B L pos).2.1 else ns k) else .inl (tkn B L pos).2.2.1
def pTell (ps : PS) (it : Nat) (ns : Nat → Nat) : PS :=
  if it = 0 then psF ps 0 (e_up (ps.2 0) (ns 0) (nI (ns 1) - 3))
  else if it = 1 then psN (psF (psF (psF ps 1 (e_up (ps.2 1) (ps.1 0) (nI (ns 0)))) 2 (e_up (ps.2 2) (ps.1 0) (nI (ns 1)))) 6 (e_up (ps.2 6) (ps.1 0) (nI (ns 2)))) 0 (ps.1 0 + 1)
  else if it = 2 then psN (psF (psF ps 3 (e_up (ps.2 3) (ps.1 1) (nI (ns 0)))) 4 (e_up (ps.2 4) (ps.1 1) (nI (ns 1)))) 1 (ps.1 1 + 1)
  else psN (psF ps 5 (e_up (ps.2 5) 0 (nI (ns 0)))) 2 1
def pOne (B : Nat → Nat) (L : Nat) (ps : PS) (t : Nat × Nat × Nat × Nat) : Nat ⊕ (PS × Nat) :=
  if itN ps t = 4 then .inl t.2.2.1 else match pNums B L (itN ps t) (cntT (itN ps t)) 0 t.2.2.2 (fun _ => 0) with
  | .inl f => .inl f
  | .inr z => if (tkn B L z.2).1 = 3 then .inr (pTell ps (itN ps t) z.1, (tkn B L z.2).2.2.2) else .inl (tkn B L z.2).2.2.1
def pAll (B : Nat → Nat) (L : Nat) : Nat → (Nat × Nat × Nat × Nat) → PS → Nat → Nat ⊕ (Nat × PS)
  | 0, _, _, _ => .inl 0
  | k + 1, t, ps, c => if t.1 = 0 then .inr (c, ps) else match pOne B L ps t with
    | .inl f => .inl f
    | .inr z => pAll B L k (tkn B L z.2) z.1 (c + 1)
/-- in at first, as bits -/
def sAb (f : Nat → Int32) : Nat → Int32
  | 0 => 0
  | n + 1 => sAb f n ||| (f n <<< (nI n &&& 31))
def PSI (ps : PS) : Prop := ps.1 0 ≤ 3 ∧ ps.1 1 ≤ 4 ∧ ps.1 2 ≤ 1 ∧ ps.2 0 0 = 0 ∧ (∀ i, i < 10 → ∃ k, k ≤ 6 ∧ ps.2 0 i = nI k - 3) ∧ (∃ c, c ≤ 40 ∧ ps.2 5 0 = nI c) ∧ ∀ i, i < ps.1 0 → ps.2 6 i = 0 ∨ ps.2 6 i = 1
theorem itN_le (ps : PS) (t : Nat × Nat × Nat × Nat) : itN ps t ≤ 4 := by
  rw [itN]
  split
  · split
    · omega
    · split
      · split <;> omega
      · split
        · split <;> omega
        · split
          · split <;> omega
          · omega
  · omega
theorem itN_1 {ps : PS} {t : Nat × Nat × Nat × Nat} (h : itN ps t = 1) : ps.1 0 < 3 := by
  rw [itN] at h
  split at h
  · split at h
    · omega
    · split at h
      · split at h
        · assumption
        · omega
      · split at h
        · split at h <;> omega
        · split at h
          · split at h <;> omega
          · omega
  · omega
theorem itN_2 {ps : PS} {t : Nat × Nat × Nat × Nat} (h : itN ps t = 2) : ps.1 1 < 4 := by
  rw [itN] at h
  split at h
  · split at h
    · omega
    · split at h
      · split at h <;> omega
      · split at h
        · split at h
          · assumption
          · omega
        · split at h
          · split at h <;> omega
          · omega
  · omega
theorem cntT_le : ∀ it, it < 4 → 1 ≤ cntT it ∧ cntT it ≤ 3 := by decide
/-- numbers that were read are within, and the place moves on -/
theorem pNums_ok (B : Nat → Nat) (L it : Nat) : ∀ j i pos ns z, pos ≤ L → pNums B L it j i pos ns = .inr z → pos + j ≤ z.2 ∧ z.2 ≤ L ∧ (∀ k, k < i → z.1 k = ns k) ∧ ∀ k, i ≤ k → k < i + j → loT (3 * it + k) ≤ z.1 k ∧ z.1 k ≤ hiT (3 * it + k)
  | 0, i, pos, ns, z, hp, h => by
    cases h
    exact ⟨Nat.le_refl _, hp, fun _ _ => rfl, fun k h1 h2 => by omega⟩
  | j + 1, i, pos, ns, z, hp, h => by
    rw [pNums] at h
    obtain ⟨t1, t2, t3, t4, t5, t6, -⟩ := tkn_facts B L pos hp
    split at h
    · rename_i hc
      have h6 := t6 (by rw [hc.1]; decide)
      obtain ⟨i1, i2, i3, i4⟩ := pNums_ok B L it j (i + 1) _ _ z t4 h
      refine ⟨by omega, i2, fun k hk => ?_, fun k h1 h2 => ?_⟩
      · rw [i3 k (by omega), if_neg (by omega)]
      · by_cases e : k = i
        · subst e
          rw [i3 k (by omega), if_pos rfl]; exact hc.2
        · exact i4 k (by omega) (by omega)
    · cases h
theorem pNums_bad (B : Nat → Nat) (L it : Nat) : ∀ j i pos ns f, pos ≤ L → pNums B L it j i pos ns = .inl f → f ≤ L
  | 0, i, pos, ns, f, hp, h => by cases h
  | j + 1, i, pos, ns, f, hp, h => by
    rw [pNums] at h
    obtain ⟨t1, t2, t3, t4, t5, t6, -⟩ := tkn_facts B L pos hp
    split at h
    · exact pNums_bad B L it j (i + 1) _ _ f t4 h
    · cases h; exact t2
theorem pTell_PSI {ps : PS} (hi : PSI ps) {it : Nat} (h4 : it < 4) (hn : it = 1 → ps.1 0 < 3) (hm : it = 2 → ps.1 1 < 4) {ns : Nat → Nat} (hr : ∀ k, k < cntT it → loT (3 * it + k) ≤ ns k ∧ ns k ≤ hiT (3 * it + k)) : PSI (pTell ps it ns) := by
  obtain ⟨i1, i2, i3, i4, i5, i6, i7⟩ := hi
  have hc : it = 0 ∨ it = 1 ∨ it = 2 ∨ it = 3 := by omega
  rcases hc with rfl | rfl | rfl | rfl
  · have r0 : 1 ≤ ns 0 ∧ ns 0 ≤ 9 := hr 0 (by decide)
    have r1 : 0 ≤ ns 1 ∧ ns 1 ≤ 6 := hr 1 (by decide)
    refine ⟨i1, i2, i3, ?_, fun i h => ?_, i6, i7⟩
    · show e_up (ps.2 0) (ns 0) (nI (ns 1) - 3) 0 = 0
      rw [e_upL, if_neg (by omega)]; exact i4
    · show ∃ k, k ≤ 6 ∧ e_up (ps.2 0) (ns 0) (nI (ns 1) - 3) i = nI k - 3
      rw [e_upL]
      split
      · exact ⟨ns 1, r1.2, rfl⟩
      · exact i5 i h
  · have r2 : 0 ≤ ns 2 ∧ ns 2 ≤ 1 := hr 2 (by decide)
    have h3 := hn rfl
    refine ⟨by show ps.1 0 + 1 ≤ 3; omega, i2, i3, i4, i5, i6, fun i (h : i < ps.1 0 + 1) => ?_⟩
    show e_up (ps.2 6) (ps.1 0) (nI (ns 2)) i = 0 ∨ e_up (ps.2 6) (ps.1 0) (nI (ns 2)) i = 1
    rw [e_upL]
    split
    · have : ns 2 = 0 ∨ ns 2 = 1 := by omega
      rcases this with e | e <;> rw [e]
      · exact Or.inl rfl
      · exact Or.inr rfl
    · exact i7 i (by omega)
  · have h3 := hm rfl
    exact ⟨i1, by show ps.1 1 + 1 ≤ 4; omega, i3, i4, i5, i6, i7⟩
  · have r0 : 0 ≤ ns 0 ∧ ns 0 ≤ 40 := hr 0 (by decide)
    exact ⟨i1, i2, Nat.le_refl _, i4, i5, ⟨ns 0, r0.2, rfl⟩, i7⟩
theorem pOne_ok {B : Nat → Nat} {L : Nat} {ps : PS} {t : Nat × Nat × Nat × Nat} {z : PS × Nat} (hi : PSI ps) (ht : t.2.2.2 ≤ L) (h : pOne B L ps t = .inr z) : PSI z.1 ∧ t.2.2.2 + 2 ≤ z.2 ∧ z.2 ≤ L := by
  rw [pOne] at h
  by_cases h4 : itN ps t = 4
  · rw [if_pos h4] at h; cases h
  · rw [if_neg h4] at h
    have hl := itN_le ps t
    cases hp : pNums B L (itN ps t) (cntT (itN ps t)) 0 t.2.2.2 (fun _ => 0) with
    | inl f => rw [hp] at h; cases h
    | inr y =>
      rw [hp] at h
      obtain ⟨p1, p2, p3, p4⟩ := pNums_ok B L _ _ _ _ _ y ht hp
      obtain ⟨t1, t2, t3, t4, t5, t6, -⟩ := tkn_facts B L y.2 p2
      have h' : (if (tkn B L y.2).1 = 3 then (.inr (pTell ps (itN ps t) y.1, (tkn B L y.2).2.2.2) : Nat ⊕ (PS × Nat)) else .inl (tkn B L y.2).2.2.1) = .inr z := h
      by_cases h3 : (tkn B L y.2).1 = 3
      · rw [if_pos h3] at h'
        cases h'
        have h6 := t6 (by rw [h3]; decide)
        have hc := (cntT_le (itN ps t) (by omega)).1
        refine ⟨pTell_PSI hi (by omega) itN_1 itN_2 (fun k hk => p4 k (by omega) (by omega)), ?_, t4⟩
        show t.2.2.2 + 2 ≤ (tkn B L y.2).2.2.2
        omega
      · rw [if_neg h3] at h'; cases h'
theorem pOne_bad {B : Nat → Nat} {L : Nat} {ps : PS} {t : Nat × Nat × Nat × Nat} {f : Nat} (h1 : t.2.2.1 ≤ L) (ht : t.2.2.2 ≤ L) (h : pOne B L ps t = .inl f) : f ≤ L := by
  rw [pOne] at h
  by_cases h4 : itN ps t = 4
  · rw [if_pos h4] at h; cases h; exact h1
  · rw [if_neg h4] at h
    cases hp : pNums B L (itN ps t) (cntT (itN ps t)) 0 t.2.2.2 (fun _ => 0) with
    | inl f' => rw [hp] at h; cases h; exact pNums_bad B L _ _ _ _ _ _ ht hp
    | inr y =>
      rw [hp] at h
      obtain ⟨p1, p2, -⟩ := pNums_ok B L _ _ _ _ _ y ht hp
      obtain ⟨t1, t2, -⟩ := tkn_facts B L y.2 p2
      have h' : (if (tkn B L y.2).1 = 3 then (.inr (pTell ps (itN ps t) y.1, (tkn B L y.2).2.2.2) : Nat ⊕ (PS × Nat)) else .inl (tkn B L y.2).2.2.1) = .inl f := h
      split at h'
      · cases h'
      · cases h'; exact t2
theorem PSI_0 : PSI ps0 := ⟨by decide, by decide, by decide, rfl, fun i _ => ⟨3, by decide, by show (0 : Int32) = nI 3 - 3; decide⟩, ⟨20, by decide, rfl⟩, fun i hi => absurd hi (by show ¬ i < 0; omega)⟩
