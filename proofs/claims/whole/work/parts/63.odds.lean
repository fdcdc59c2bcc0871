/-! odds: ways by the last minute, and by rows of turns -/
abbrev in40 (c : Int32) : Prop := 0 ≤ c ∧ c ≤ 40
def oG (c0 w : Int32) (u v : Nat) : Nat → Int32 → Nat
  | 0 => fun c => if c = c0 then 1 else 0
  | n + 1 => fun c => if in40 c then u * oG c0 w u v n (c - w) + v * oG c0 w u v n (c + w) else 0
theorem oG_le (c0 w : Int32) {u v : Nat} (huv : u + v = 10) : ∀ n c, oG c0 w u v n c ≤ 10 ^ n
  | 0, c => by
    show (if c = c0 then 1 else 0) ≤ 1
    split <;> omega
  | n + 1, c => by
    show (if in40 c then u * oG c0 w u v n (c - w) + v * oG c0 w u v n (c + w) else 0) ≤ 10 ^ (n + 1)
    split
    · have h1 := Nat.mul_le_mul_left u (oG_le c0 w huv n (c - w))
      have h2 := Nat.mul_le_mul_left v (oG_le c0 w huv n (c + w))
      have h3 : u * 10 ^ n + v * 10 ^ n = 10 ^ (n + 1) := by rw [← Nat.add_mul, huv, Nat.pow_succ, Nat.mul_comm]
      omega
    · exact Nat.zero_le _
theorem oG_out (c0 w : Int32) (u v : Nat) (h0 : in40 c0) : ∀ n c, ¬ in40 c → oG c0 w u v n c = 0
  | 0, c, hc => if_neg (fun e => hc (by rw [e]; exact h0))
  | n + 1, c, hc => if_neg hc
/-- a row of turns: where, and how many ways -/
def pC (c0 w : Int32) (t : Nat) : Nat → Int32
  | 0 => c0
  | i + 1 => pC c0 w t i + (if bN t i then -w else w)
def pW (c0 w : Int32) (u v t : Nat) : Nat → Nat
  | 0 => 1
  | i + 1 => if in40 (pC c0 w t (i + 1)) then pW c0 w u v t i * (if bN t i then v else u) else 0
def pS (c0 w : Int32) (u v n : Nat) (c : Int32) : Nat → Nat
  | 0 => 0
  | t + 1 => pS c0 w u v n c t + (if pC c0 w t n = c then pW c0 w u v t n else 0)
theorem s_top : ∀ n, n < 6 → ∀ t, t < 64 → t < 2 ^ n → bN (t + 2 ^ n) n ∧ ¬ bN t n := by decide +kernel
theorem s_low : ∀ n, n < 6 → ∀ t, t < 64 → t < 2 ^ n → ∀ i, i < n → (bN (t + 2 ^ n) i ↔ bN t i) := by decide +kernel
theorem pow_64 {n : Nat} (h : n ≤ 6) : 2 ^ n ≤ 64 := Nat.pow_le_pow_right (n := 2) (by omega) (show n ≤ 6 from h)
theorem p_low (c0 w : Int32) (u v : Nat) {n t : Nat} (hn : n < 6) (ht : t < 2 ^ n) : ∀ i, i ≤ n → pC c0 w (t + 2 ^ n) i = pC c0 w t i ∧ pW c0 w u v (t + 2 ^ n) i = pW c0 w u v t i
  | 0, _ => ⟨rfl, rfl⟩
  | i + 1, hi => by
    obtain ⟨h1, h2⟩ := p_low c0 w u v hn ht i (by omega)
    have h64 := pow_64 (show n ≤ 6 by omega)
    have hb := s_low n hn t (by omega) ht i (by omega)
    have e1 : pC c0 w (t + 2 ^ n) (i + 1) = pC c0 w t (i + 1) := by
      rw [pC, pC, h1]
      by_cases q : bN t i
      · rw [if_pos q, if_pos (hb.mpr q)]
      · rw [if_neg q, if_neg (fun z => q (hb.mp z))]
    refine ⟨e1, ?_⟩
    rw [pW, pW, e1, h2]
    by_cases q : bN t i
    · rw [if_pos q, if_pos (hb.mpr q)]
    · rw [if_neg q, if_neg (fun z => q (hb.mp z))]
theorem i_addsub (a w c : Int32) : a + w = c ↔ a = c - w := by
  constructor
  · intro h; rw [← h]; simp
  · intro h; rw [h]; simp
theorem i_subadd (a w c : Int32) : a + -w = c ↔ a = c + w := by
  constructor
  · intro h; rw [← h, ← Int32.sub_eq_add_neg]; simp
  · intro h; rw [h, ← Int32.sub_eq_add_neg]; simp
/-- the second half -/
theorem pS_hi (c0 w : Int32) (u v n : Nat) (c : Int32) (K : Nat) : ∀ j, pS c0 w u v n c (K + j) = pS c0 w u v n c K + (Nat.rec 0 (fun t a => a + (if pC c0 w (t + K) n = c then pW c0 w u v (t + K) n else 0)) j : Nat)
  | 0 => rfl
  | j + 1 => by
    rw [← Nat.add_assoc, pS, pS_hi c0 w u v n c K j, Nat.add_assoc, Nat.add_comm K j]
theorem pS_lo1 (c0 w : Int32) (u v n : Nat) (hn : n < 6) (c : Int32) : ∀ j, j ≤ 2 ^ n → pS c0 w u v (n + 1) c j = if in40 c then u * pS c0 w u v n (c - w) j else 0
  | 0, _ => by
    rw [pS, pS]; split <;> rfl
  | j + 1, hj => by
    have ih := pS_lo1 c0 w u v n hn c j (by omega)
    have h64 := pow_64 (show n ≤ 6 by omega)
    have hb := (s_top n hn j (by omega) (by omega)).2
    have eC : pC c0 w j (n + 1) = pC c0 w j n + w := by rw [pC, if_neg hb]
    rw [pS, pS, ih, pW, eC, if_neg hb]
    by_cases hc : pC c0 w j n + w = c
    · rw [if_pos hc, if_pos ((i_addsub _ _ _).mp hc), hc]
      by_cases hi : in40 c
      · rw [if_pos hi, if_pos hi, if_pos hi, Nat.mul_add, Nat.mul_comm u (pW c0 w u v j n)]
      · rw [if_neg hi, if_neg hi, if_neg hi]
    · rw [if_neg hc, if_neg (fun q => hc ((i_addsub _ _ _).mpr q)), Nat.add_zero, Nat.add_zero]
theorem pS_hi1 (c0 w : Int32) (u v n : Nat) (hn : n < 6) (c : Int32) : ∀ j, j ≤ 2 ^ n → (Nat.rec 0 (fun t a => a + (if pC c0 w (t + 2 ^ n) (n + 1) = c then pW c0 w u v (t + 2 ^ n) (n + 1) else 0)) j : Nat) = if in40 c then v * pS c0 w u v n (c + w) j else 0
  | 0, _ => by
    rw [pS]; split <;> rfl
  | j + 1, hj => by
    have ih := pS_hi1 c0 w u v n hn c j (by omega)
    have h64 := pow_64 (show n ≤ 6 by omega)
    have hb := (s_top n hn j (by omega) (by omega)).1
    obtain ⟨l1, l2⟩ := p_low c0 w u v hn (show j < 2 ^ n by omega) n (Nat.le_refl _)
    have eC : pC c0 w (j + 2 ^ n) (n + 1) = pC c0 w j n + -w := by rw [pC, if_pos hb, l1]
    show (Nat.rec 0 (fun t a => a + (if pC c0 w (t + 2 ^ n) (n + 1) = c then pW c0 w u v (t + 2 ^ n) (n + 1) else 0)) j : Nat) + (if pC c0 w (j + 2 ^ n) (n + 1) = c then pW c0 w u v (j + 2 ^ n) (n + 1) else 0) = _
    rw [ih, pS, pW, eC, if_pos hb, l2]
    by_cases hc : pC c0 w j n + -w = c
    · rw [if_pos hc, if_pos ((i_subadd _ _ _).mp hc), hc]
      by_cases hi : in40 c
      · rw [if_pos hi, if_pos hi, if_pos hi, Nat.mul_add, Nat.mul_comm v (pW c0 w u v j n)]
      · rw [if_neg hi, if_neg hi, if_neg hi]
    · rw [if_neg hc, if_neg (fun q => hc ((i_subadd _ _ _).mpr q)), Nat.add_zero, Nat.add_zero]
theorem pS_G (c0 w : Int32) (u v : Nat) : ∀ n, n ≤ 6 → ∀ c, pS c0 w u v n c (2 ^ n) = oG c0 w u v n c
  | 0, _, c => by
    show 0 + (if c0 = c then 1 else 0) = if c = c0 then 1 else 0
    by_cases e : c0 = c
    · rw [if_pos e, if_pos e.symm]
    · rw [if_neg e, if_neg (fun q => e q.symm)]
  | n + 1, hn, c => by
    have ih := pS_G c0 w u v n (by omega)
    rw [show 2 ^ (n + 1) = 2 ^ n + 2 ^ n by rw [Nat.pow_succ]; omega, pS_hi, pS_lo1 c0 w u v n (by omega) c _ (Nat.le_refl _), pS_hi1 c0 w u v n (by omega) c _ (Nat.le_refl _), ih, ih]
    show _ = if in40 c then u * oG c0 w u v n (c - w) + v * oG c0 w u v n (c + w) else 0
    split <;> rfl
/-! Euclid -/
def eu : Nat → Nat → Nat → Nat × Nat
  | 0, a, b => (a, b)
  | k + 1, a, b => if b = 0 then (a, b) else eu k b (a % b)
theorem eu_end : ∀ k a b, b < 2 ^ k → (eu (2 * k + 1) a b).2 = 0
  | 0, a, b, hb => by
    have : b = 0 := by rw [Nat.pow_zero] at hb; omega
    subst this
    rfl
  | k + 1, a, b, hb => by
    rw [show 2 * (k + 1) + 1 = (2 * k + 1 + 1) + 1 by omega, eu]
    by_cases h0 : b = 0
    · rw [if_pos h0]; exact h0
    · rw [if_neg h0, eu]
      by_cases h1 : a % b = 0
      · rw [if_pos h1]; exact h1
      · rw [if_neg h1]
        refine eu_end k _ _ ?_
        have h2 := Nat.mod_lt a (show 0 < b by omega)
        have h3 := Nat.mod_lt b (show 0 < a % b by omega)
        have h4 := Nat.div_add_mod b (a % b)
        have h5 : 1 ≤ b / (a % b) := (Nat.one_le_div_iff (by omega)).mpr (by omega)
        have h6 : a % b ≤ a % b * (b / (a % b)) := Nat.le_mul_of_pos_right _ h5
        rw [Nat.pow_succ] at hb
        omega
theorem eu_gcd : ∀ k a b, (eu k a b).2 = 0 → (eu k a b).1 = Nat.gcd a b
  | 0, a, b, h => by
    have hb : b = 0 := h
    subst hb
    show a = Nat.gcd a 0
    rw [Nat.gcd_zero_right]
  | k + 1, a, b, h => by
    rw [eu] at h ⊢
    by_cases h0 : b = 0
    · rw [if_pos h0, h0, Nat.gcd_zero_right]
    · rw [if_neg h0] at h ⊢
      rw [eu_gcd k b (a % b) h, Nat.gcd_comm, ← Nat.gcd_rec, Nat.gcd_comm]
theorem pow_10_6 {n : Nat} (hn : n ≤ 6) : 10 ^ n ≤ 1000000 ∧ 0 < 10 ^ n := ⟨Nat.pow_le_pow_right (n := 10) (by omega) (show n ≤ 6 from hn), Nat.pow_pos (by omega)⟩
def sOd (σ : Sp) (h n x : Nat) (cell : Int32) : Nat := oG (σ.2.1 6 1) (σ.2.1 1 h) (10 - x) x n cell
def q_odds (σ : Sp) (h cell n x w : Int32) : Int32 := if ((1 ≤ h ∧ h ≤ 9) ∧ in40 cell ∧ (0 ≤ n ∧ n ≤ 6)) ∧ (0 ≤ x ∧ x ≤ 10) ∧ (0 ≤ w ∧ w ≤ 1) then (if w = 0 then nI (sOd σ h.toNatClampNeg n.toNatClampNeg x.toNatClampNeg cell / Nat.gcd (10 ^ n.toNatClampNeg) (sOd σ h.toNatClampNeg n.toNatClampNeg x.toNatClampNeg cell)) else nI (10 ^ n.toNatClampNeg / Nat.gcd (10 ^ n.toNatClampNeg) (sOd σ h.toNatClampNeg n.toNatClampNeg x.toNatClampNeg cell))) else -1
