/-! what is done: begin, in, out -/
def sBegin (g : Nat → Int32) (p t : Nat) : Nat → Int32 := fun k => if k = 3 then nI p else if k = 4 then nI t else if k = 5 then 0 else if k = 7 + p then g (7 + p) ||| (1 <<< (nI t &&& 31)) else g k
abbrev sCan (g : Nat → Int32) (p t : Nat) : Prop := sHas (g 6) (nI p) ∧ ¬ sHas (g (7 + p)) (nI t) ∧ g 10 = 0
def sIn (g : Nat → Int32) (p : Nat) : Nat → Int32 := e_up g 6 (g 6 ||| (1 <<< (nI p &&& 31)))
def sOut (g : Nat → Int32) (p : Nat) : Nat → Int32 := fun k => if k = 6 then g 6 &&& ((1 <<< (nI p &&& 31)) ^^^ (-1)) else if g 3 = nI p ∧ (k = 3 ∨ k = 4) then -9 else g k
theorem i_or_shr (a b k : Int32) : (a ||| b) >>> k = (a >>> k) ||| (b >>> k) := by
  apply Int32.toBitVec_inj.mp
  simp only [Int32.toBitVec_shiftRight, Int32.toBitVec_or]
  apply BitVec.eq_of_getLsbD_eq
  intro i hi
  simp [BitVec.getLsbD_or, BitVec.getLsbD_sshiftRight, BitVec.sshiftRight', BitVec.msb_or]
  split <;> simp [Bool.and_or_distrib_left]
theorem i_or_and (a b k : Int32) : (a ||| b) &&& k = (a &&& k) ||| (b &&& k) := by
  apply Int32.toBitVec_inj.mp
  simp only [Int32.toBitVec_and, Int32.toBitVec_or]
  apply BitVec.eq_of_getLsbD_eq
  intro i hi
  simp [BitVec.getLsbD_or, BitVec.getLsbD_and, Bool.and_or_distrib_right]
theorem s_nib : ∀ p, p < 3 → ∀ t, t < 4 → ∀ q, q < 3 → ((1 : Int32) <<< ((4 * nI p + nI t) &&& 31)) >>> ((4 * nI q) &&& 31) &&& (15 : Int32) = (if q = p then (1 : Int32) <<< (nI t &&& 31) else 0) := by decide +kernel
theorem s_bit1 : ∀ u, u < 16 → ∀ t, t < 4 → (nI u >>> (nI t &&& 31) &&& 1 = 0 ↔ ¬ nI u >>> (nI t &&& 31) &&& 1 = 1) := by decide +kernel
theorem s_or16 : ∀ u, u < 16 → ∀ t, t < 4 → ∃ v, v < 16 ∧ nI u ||| (1 <<< (nI t &&& 31)) = nI v := by decide +kernel
theorem s_or8 : ∀ u, u < 8 → ∀ t, t < 3 → ∃ v, v < 8 ∧ nI u ||| (1 <<< (nI t &&& 31)) = nI v := by decide +kernel
theorem s_and8 : ∀ u, u < 8 → ∀ t, t < 3 → ∃ v, v < 8 ∧ nI u &&& ((1 <<< (nI t &&& 31)) ^^^ (-1)) = nI v := by decide +kernel
theorem i_or0 (a : Int32) : a ||| 0 = a := by simp
theorem FC_begin {g : Nat → Int32} {si us : Int32} {p t : Nat} (hp : p < 3) (ht : t < 4) (hus : ∀ q, q < 3 → us >>> ((4 * nI q) &&& 31) &&& 15 = g (7 + q)) : FC (oFl (g 0) (g 1) (g 2) (nI p) (nI t) (g 0) (g 6) (us ||| (1 <<< ((4 * nI p + nI t) &&& 31))) (g 10)) (sBegin g p t) := by
  refine ⟨g 0, us ||| (1 <<< ((4 * nI p + nI t) &&& 31)), ?_, fun _ => ?_, fun q hq => ?_⟩
  · have e : ∀ k, k ≠ 3 → k ≠ 4 → k ≠ 5 → k ≠ 7 + p → sBegin g p t k = g k := fun k h1 h2 h3 h4 => by
      rw [sBegin, if_neg h1, if_neg h2, if_neg h3, if_neg h4]
    rw [e 0 (by omega) (by omega) (by omega) (by omega), e 1 (by omega) (by omega) (by omega) (by omega), e 2 (by omega) (by omega) (by omega) (by omega), e 6 (by omega) (by omega) (by omega) (by omega), e 10 (by omega) (by omega) (by omega) (by omega)]
    rfl
  · have e0 : sBegin g p t 0 = g 0 := by rw [sBegin, if_neg (by omega), if_neg (by omega), if_neg (by omega), if_neg (by omega)]
    have e5 : sBegin g p t 5 = 0 := by rw [sBegin, if_neg (by omega), if_neg (by omega), if_pos rfl]
    rw [e0, e5]; simp
  · rw [i_or_shr, i_or_and, hus q hq, s_nib p hp t ht q hq]
    by_cases hqp : q = p
    · subst hqp
      rw [if_pos rfl, sBegin, if_neg (by omega), if_neg (by omega), if_neg (by omega), if_pos rfl]
    · rw [if_neg hqp, sBegin, if_neg (by omega), if_neg (by omega), if_neg (by omega), if_neg (by omega), i_or0]
theorem GI_begin {n m : Nat} {g : Nat → Int32} {p t : Nat} (hg : GI n m g) (hp : p < n) (ht : t < m) (hn : n ≤ 3) (hm : m ≤ 4) : GI n m (sBegin g p t) := by
  obtain ⟨h1, h2, h3, h4, h5, h6⟩ := hg
  have e : ∀ k, k ≠ 3 → k ≠ 4 → k ≠ 5 → k ≠ 7 + p → sBegin g p t k = g k := fun k h1 h2 h3 h4 => by
    rw [sBegin, if_neg h1, if_neg h2, if_neg h3, if_neg h4]
  refine ⟨by rw [e 1 (by omega) (by omega) (by omega) (by omega)]; exact h1, by rw [e 2 (by omega) (by omega) (by omega) (by omega)]; exact h2, Or.inr ⟨⟨p, hp, rfl⟩, ⟨t, ht, rfl⟩⟩, by rw [e 10 (by omega) (by omega) (by omega) (by omega)]; exact h4, by rw [e 6 (by omega) (by omega) (by omega) (by omega)]; exact h5, fun q hq => ?_⟩
  by_cases hqp : q = p
  · subst hqp
    obtain ⟨u, hu, hue⟩ := h6 q hq
    obtain ⟨v, hv, hve⟩ := s_or16 u hu t (by omega)
    refine ⟨v, hv, ?_⟩
    rw [sBegin, if_neg (by omega), if_neg (by omega), if_neg (by omega), if_pos rfl, hue]
    exact hve
  · rw [e (7 + q) (by omega) (by omega) (by omega) (by omega)]
    exact h6 q hq
theorem GI_in {n m : Nat} {g : Nat → Int32} {p : Nat} (hg : GI n m g) (hp : p < 3) : GI n m (sIn g p) := by
  obtain ⟨h1, h2, h3, h4, ⟨u, hu, hue⟩, h6⟩ := hg
  refine ⟨h1, h2, h3, h4, ?_, fun q hq => ?_⟩
  · obtain ⟨v, hv, hve⟩ := s_or8 u hu p hp
    exact ⟨v, hv, by rw [sIn, e_upL, if_pos rfl, hue]; exact hve⟩
  · rw [sIn, e_upL, if_neg (by omega)]; exact h6 q hq
theorem sOut_ne {g : Nat → Int32} {p k : Nat} (h6 : k ≠ 6) (h3 : k ≠ 3) (h4 : k ≠ 4) : sOut g p k = g k := by
  rw [sOut, if_neg h6, if_neg (fun q => q.2.elim h3 h4)]
theorem GI_out {n m : Nat} {g : Nat → Int32} {p : Nat} (hg : GI n m g) (hp : p < 3) : GI n m (sOut g p) := by
  obtain ⟨h1, h2, h3, h4, ⟨u, hu, hue⟩, h6⟩ := hg
  refine ⟨by rw [sOut_ne (by decide) (by decide) (by decide)]; exact h1, by rw [sOut_ne (by decide) (by decide) (by decide)]; exact h2, ?_, by rw [sOut_ne (by decide) (by decide) (by decide)]; exact h4, ?_, fun q hq => ?_⟩
  · by_cases hw : g 3 = nI p
    · left
      exact ⟨by rw [sOut, if_neg (by decide), if_pos ⟨hw, Or.inl rfl⟩], by rw [sOut, if_neg (by decide), if_pos ⟨hw, Or.inr rfl⟩]⟩
    · rw [sOut, if_neg (by decide), if_neg (fun q => hw q.1), sOut, if_neg (by decide), if_neg (fun q => hw q.1)]
      exact h3
  · obtain ⟨v, hv, hve⟩ := s_and8 u hu p hp
    exact ⟨v, hv, by rw [sOut, if_pos rfl, hue]; exact hve⟩
  · rw [sOut_ne (by omega) (by omega) (by omega)]; exact h6 q hq
theorem GI_cp {n m : Nat} {g g' : Nat → Int32} (hg : GI n m g) : GI n m (sCp g g' 11) := by
  have e : ∀ k, k < 11 → sCp g g' 11 k = g k := fun k hk => if_pos hk
  obtain ⟨h1, h2, h3, h4, h5, h6⟩ := hg
  refine ⟨by rw [e 1 (by decide)]; exact h1, by rw [e 2 (by decide)]; exact h2, by rw [e 3 (by decide), e 4 (by decide)]; exact h3, by rw [e 10 (by decide)]; exact h4, by rw [e 6 (by decide)]; exact h5, fun p hp => by rw [e (7 + p) (by omega)]; exact h6 p hp⟩
theorem FC_cp {c : AC} {g g' : Nat → Int32} (hf : FC c g) : FC c (sCp g g' 11) := by
  have e : ∀ k, k < 11 → sCp g g' 11 k = g k := fun k hk => if_pos hk
  obtain ⟨si, us, hc, h1, h2⟩ := hf
  refine ⟨si, us, ?_, ?_, fun p hp => ?_⟩
  · rw [hc, e 0 (by decide), e 1 (by decide), e 2 (by decide), e 3 (by decide), e 4 (by decide), e 6 (by decide), e 10 (by decide)]
  · rw [e 3 (by decide), e 0 (by decide), e 5 (by decide)]; exact h1
  · rw [e (7 + p) (by omega)]; exact h2 p hp
