/-! own thoughts: the first of the best ways, and by what is left -/
abbrev bN (a t : Nat) : Prop := a / 2 ^ t % 2 = 1
abbrev mayN (a T t : Nat) : Prop := bN a t ∧ ¬ bN T t
def oDg (n m w p : Nat) : Nat := w / (m + 1) ^ (n - (p + 1)) % (m + 1)
def oS (a m T t : Nat) : Option Nat := if t < m then (if mayN a T t then some (T + 2 ^ t) else none) else some T
def oC (A : Nat → Nat) (n m w : Nat) : Nat → Option Nat
  | 0 => some 0
  | p + 1 => (oC A n m w p).bind (fun T => oS (A p) m T (oDg n m w p))
def pc4 (x : Nat) : Nat := x % 2 + x / 2 % 2 + x / 4 % 2 + x / 8 % 2
def oV (A : Nat → Nat) (n m w : Nat) : Nat := match oC A n m w n with
  | none => 0
  | some T => 1 + pc4 T
def am (f : Nat → Nat) : Nat → Nat × Nat
  | 0 => (0, 0)
  | w + 1 => if (am f w).2 < f w then (w, f w) else am f w
def mT (a : Nat) (prev : Nat → Nat) (T : Nat) : Nat → Nat
  | 0 => prev T
  | t + 1 => max (mT a prev T t) (if mayN a T t then 1 + prev (T + 2 ^ t) else 0)
/-- the most, by how many people are left -/
def mV (A : Nat → Nat) (n m : Nat) : Nat → Nat → Nat
  | 0 => fun _ => 0
  | r + 1 => fun T => mT (A (n - (r + 1))) (mV A n m r) T m
/-- the least thought by which the most is come to: m if there is none; k thoughts looked at, the last first -/
def mG (a : Nat) (prev : Nat → Nat) (cur m T : Nat) : Nat → Nat
  | 0 => m
  | k + 1 => if mayN a T (m - (k + 1)) ∧ 1 + prev (T + 2 ^ (m - (k + 1))) = cur then m - (k + 1) else mG a prev cur m T k
def gF (A : Nat → Nat) (n m o T : Nat) : Nat := mG (A o) (mV A n m (n - (o + 1))) (mV A n m (n - o) T) m T m
def gT (A : Nat → Nat) (n m : Nat) : Nat → Nat
  | 0 => 0
  | o + 1 => if gF A n m o (gT A n m o) < m then gT A n m o + 2 ^ gF A n m o (gT A n m o) else gT A n m o
theorem pc_add : ∀ T, T < 16 → ∀ t, t < 4 → ¬ bN T t → T + 2 ^ t < 16 ∧ pc4 (T + 2 ^ t) = pc4 T + 1 := by decide +kernel
theorem am_max (f : Nat → Nat) : ∀ K, ∀ j, j < K → f j ≤ (am f K).2
  | 0, j, hj => by omega
  | K + 1, j, hj => by
    rw [am]
    by_cases hjk : j = K
    · subst hjk
      split
      · exact Nat.le_refl _
      · omega
    · have := am_max f K j (by omega)
      split
      · show f j ≤ f K; omega
      · exact this
theorem am_at (f : Nat → Nat) : ∀ K, (am f K).2 = 0 ∨ ((am f K).1 < K ∧ f (am f K).1 = (am f K).2 ∧ ∀ j, j < (am f K).1 → f j < (am f K).2)
  | 0 => Or.inl rfl
  | K + 1 => by
    rw [am]
    by_cases hlt : (am f K).2 < f K
    · rw [if_pos hlt]
      right
      exact ⟨Nat.lt_succ_self _, rfl, fun j hj => Nat.lt_of_le_of_lt (am_max f K j hj) hlt⟩
    · rw [if_neg hlt]
      rcases am_at f K with h | ⟨h1, h2, h3⟩
      · exact Or.inl h
      · exact Or.inr ⟨by omega, h2, h3⟩
theorem am_eq (f : Nat → Nat) {K i M : Nat} (hi : i < K) (hM : f i = M) (h0 : 0 < M) (hle : ∀ j, j < K → f j ≤ M) (hlt : ∀ j, j < i → f j < M) : am f K = (i, M) := by
  have h1 := am_max f K i hi
  rcases am_at f K with h | ⟨h2, h3, h4⟩
  · omega
  · have h5 := hle _ h2
    have e2 : (am f K).2 = M := by omega
    have e1 : (am f K).1 = i := by
      rcases Nat.lt_trichotomy (am f K).1 i with q | q | q
      · have := hlt _ q; omega
      · exact q
      · have := h4 i q; omega
    exact Prod.ext e1 e2
theorem mT_prev (a : Nat) (prev : Nat → Nat) (T : Nat) : ∀ t, prev T ≤ mT a prev T t
  | 0 => Nat.le_refl _
  | t + 1 => Nat.le_trans (mT_prev a prev T t) (Nat.le_max_left _ _)
theorem mT_ge (a : Nat) (prev : Nat → Nat) (T : Nat) : ∀ k t, t < k → mayN a T t → 1 + prev (T + 2 ^ t) ≤ mT a prev T k
  | 0, t, ht, _ => by omega
  | k + 1, t, ht, hm => by
    rw [mT]
    by_cases e : t = k
    · subst e
      rw [if_pos hm]; exact Nat.le_max_right _ _
    · exact Nat.le_trans (mT_ge a prev T k t (by omega) hm) (Nat.le_max_left _ _)
theorem mT_at (a : Nat) (prev : Nat → Nat) (T : Nat) : ∀ k, mT a prev T k = prev T ∨ ∃ t, t < k ∧ mayN a T t ∧ mT a prev T k = 1 + prev (T + 2 ^ t)
  | 0 => Or.inl rfl
  | k + 1 => by
    rw [mT]
    by_cases hm : mayN a T k
    · rw [if_pos hm]
      by_cases hle : mT a prev T k ≤ 1 + prev (T + 2 ^ k)
      · rw [Nat.max_eq_right hle]; exact Or.inr ⟨k, by omega, hm, rfl⟩
      · rw [Nat.max_eq_left (by omega)]
        rcases mT_at a prev T k with h | ⟨t, h1, h2, h3⟩
        · exact Or.inl h
        · exact Or.inr ⟨t, by omega, h2, h3⟩
    · rw [if_neg hm, Nat.max_eq_left (Nat.zero_le _)]
      rcases mT_at a prev T k with h | ⟨t, h1, h2, h3⟩
      · exact Or.inl h
      · exact Or.inr ⟨t, by omega, h2, h3⟩
theorem mG_is (a : Nat) (prev : Nat → Nat) (cur m T : Nat) : ∀ k, k ≤ m → (mG a prev cur m T k < m → m - k ≤ mG a prev cur m T k ∧ mayN a T (mG a prev cur m T k) ∧ 1 + prev (T + 2 ^ mG a prev cur m T k) = cur) ∧ mG a prev cur m T k ≤ m ∧ ∀ t, m - k ≤ t → t < mG a prev cur m T k → ¬ (mayN a T t ∧ 1 + prev (T + 2 ^ t) = cur)
  | 0, _ => ⟨fun h => absurd h (Nat.lt_irrefl _), Nat.le_refl _, fun t h1 h2 => by have : t < m := h2; omega⟩
  | k + 1, hk => by
    obtain ⟨i1, i2, i3⟩ := mG_is a prev cur m T k (by omega)
    rw [mG]
    by_cases hc : mayN a T (m - (k + 1)) ∧ 1 + prev (T + 2 ^ (m - (k + 1))) = cur
    · rw [if_pos hc]
      exact ⟨fun _ => ⟨Nat.le_refl _, hc⟩, by omega, fun t h1 h2 => by omega⟩
    · rw [if_neg hc]
      refine ⟨fun h => ?_, i2, fun t h1 h2 => ?_⟩
      · have := i1 h
        exact ⟨by omega, this.2⟩
      · by_cases e : t = m - (k + 1)
        · rw [e]; exact hc
        · exact i3 t (by omega) h2
section OWN
variable (A : Nat → Nat) (n m : Nat)
theorem mV_at (hn : n ≤ 3) {p : Nat} (hp : p < n) (T : Nat) : mV A n m (n - p) T = mT (A p) (mV A n m (n - (p + 1))) T m := by
  obtain ⟨r, hr⟩ : ∃ r, n - p = r + 1 := ⟨n - p - 1, by omega⟩
  rw [hr, mV, show n - (r + 1) = p by omega, show n - (p + 1) = r by omega]
theorem mV_bd : ∀ r T, mV A n m r T ≤ r
  | 0, T => Nat.le_refl _
  | r + 1, T => by
    show mT (A (n - (r + 1))) (mV A n m r) T m ≤ r + 1
    rcases mT_at (A (n - (r + 1))) (mV A n m r) T m with h | ⟨t, _, _, h⟩
    · rw [h]; have := mV_bd r T; omega
    · rw [h]; have := mV_bd r (T + 2 ^ t); omega
/-- from a place on, no way gets more than is said -/
theorem oC_up (hn : n ≤ 3) (hm : m ≤ 4) (w : Nat) : ∀ k p T, p + k = n → oC A n m w p = some T → T < 16 → ∀ U, oC A n m w n = some U → pc4 U ≤ pc4 T + mV A n m (n - p) T
  | 0, p, T, hp, hT, h16, U, hU => by
    have : p = n := by omega
    subst this
    rw [hT] at hU
    cases hU
    omega
  | k + 1, p, T, hp, hT, h16, U, hU => by
    have ih := oC_up hn hm w k (p + 1)
    rw [mV_at A n m hn (by omega)]
    cases hs : oC A n m w (p + 1) with
    | none =>
      have : ∀ j, oC A n m w (p + 1 + j) = none := fun j => by
        induction j with
        | zero => exact hs
        | succ j ij => rw [← Nat.add_assoc, oC, ij]; rfl
      have e := this (n - (p + 1))
      rw [show p + 1 + (n - (p + 1)) = n by omega, hU] at e
      cases e
    | some V =>
      have hs' := hs
      rw [oC, hT] at hs'
      have hs2 : oS (A p) m T (oDg n m w p) = some V := hs'
      rw [oS] at hs2
      by_cases hd : oDg n m w p < m
      · rw [if_pos hd] at hs2
        by_cases hmay : mayN (A p) T (oDg n m w p)
        · rw [if_pos hmay] at hs2
          cases hs2
          obtain ⟨b1, b2⟩ := pc_add T h16 _ (by omega) hmay.2
          have q := ih (T + 2 ^ oDg n m w p) (by omega) hs b1 U hU
          have := mT_ge (A p) (mV A n m (n - (p + 1))) T m _ hd hmay
          omega
        · rw [if_neg hmay] at hs2
          cases hs2
      · rw [if_neg hd] at hs2
        cases hs2
        have q := ih T (by omega) hs h16 U hU
        have := mT_prev (A p) (mV A n m (n - (p + 1))) T m
        omega
/-- a way whose digits are the greedy ones up to p -/
theorem oC_gr (hn : n ≤ 3) (hm : m ≤ 4) (w : Nat) : ∀ p, p ≤ n → (∀ q, q < p → oDg n m w q = gF A n m q (gT A n m q)) → oC A n m w p = some (gT A n m p) ∧ gT A n m p < 16 ∧ pc4 (gT A n m p) + mV A n m (n - p) (gT A n m p) = mV A n m n 0
  | 0, _, _ => ⟨rfl, by show (0 : Nat) < 16; omega, by show pc4 0 + mV A n m n 0 = _; rw [show pc4 0 = 0 from rfl]; omega⟩
  | p + 1, hp, hd => by
    obtain ⟨i1, i2, i3⟩ := oC_gr hn hm w p (by omega) (fun q hq => hd q (by omega))
    have hdp := hd p (by omega)
    obtain ⟨g1, g2, g3⟩ := mG_is (A p) (mV A n m (n - (p + 1))) (mV A n m (n - p) (gT A n m p)) m (gT A n m p) m (Nat.le_refl _)
    have eg : mG (A p) (mV A n m (n - (p + 1))) (mV A n m (n - p) (gT A n m p)) m (gT A n m p) m = gF A n m p (gT A n m p) := rfl
    rw [eg] at g1 g2 g3
    rw [oC, i1]
    show oS (A p) m (gT A n m p) (oDg n m w p) = _ ∧ _
    rw [hdp, oS, gT]
    rw [mV_at A n m hn (show p < n by omega)] at i3 g1 g3
    by_cases hf : gF A n m p (gT A n m p) < m
    · obtain ⟨_, g4, g5⟩ := g1 hf
      rw [if_pos hf, if_pos hf, if_pos g4]
      obtain ⟨b1, b2⟩ := pc_add _ i2 _ (by omega) g4.2
      exact ⟨rfl, b1, by omega⟩
    · rw [if_neg hf, if_neg hf]
      refine ⟨rfl, i2, ?_⟩
      rcases mT_at (A p) (mV A n m (n - (p + 1))) (gT A n m p) m with h | ⟨t, h1, h2, h3⟩
      · omega
      · exact absurd ⟨h2, h3.symm⟩ (g3 t (by omega) (by omega))
/-- a way that leaves the greedy one for a lesser digit is worse -/
theorem oV_lt (hn : n ≤ 3) (hm : m ≤ 4) (w p : Nat) (hp : p < n) (hd : ∀ q, q < p → oDg n m w q = gF A n m q (gT A n m q)) (hlt : oDg n m w p < gF A n m p (gT A n m p)) : oV A n m w < mV A n m n 0 + 1 := by
  obtain ⟨i1, i2, i3⟩ := oC_gr A n m hn hm w p (by omega) hd
  obtain ⟨g1, g2, g3⟩ := mG_is (A p) (mV A n m (n - (p + 1))) (mV A n m (n - p) (gT A n m p)) m (gT A n m p) m (Nat.le_refl _)
  have eg : mG (A p) (mV A n m (n - (p + 1))) (mV A n m (n - p) (gT A n m p)) m (gT A n m p) m = gF A n m p (gT A n m p) := rfl
  rw [eg] at g1 g2 g3
  rw [oV]
  cases hU : oC A n m w n with
  | none => show 0 < _; omega
  | some U =>
    show 1 + pc4 U < _
    have hdm : oDg n m w p < m := by omega
    cases hs : oC A n m w (p + 1) with
    | none =>
      have : ∀ j, oC A n m w (p + 1 + j) = none := fun j => by
        induction j with
        | zero => exact hs
        | succ j ij => rw [← Nat.add_assoc, oC, ij]; rfl
      have e := this (n - (p + 1))
      rw [show p + 1 + (n - (p + 1)) = n by omega, hU] at e
      cases e
    | some V =>
      have hs' := hs
      rw [oC, i1] at hs'
      have hs2 : oS (A p) m (gT A n m p) (oDg n m w p) = some V := hs'
      rw [oS, if_pos hdm] at hs2
      by_cases hmay : mayN (A p) (gT A n m p) (oDg n m w p)
      · rw [if_pos hmay] at hs2
        cases hs2
        obtain ⟨b1, b2⟩ := pc_add _ i2 _ (by omega) hmay.2
        have q := oC_up A n m hn hm w (n - (p + 1)) (p + 1) _ (by omega) hs b1 U hU
        have hge := mT_ge (A p) (mV A n m (n - (p + 1))) (gT A n m p) m _ hdm hmay
        have hne := g3 (oDg n m w p) (by omega) hlt
        rw [mV_at A n m hn hp] at i3 hne
        have : ¬ 1 + mV A n m (n - (p + 1)) (gT A n m p + 2 ^ oDg n m w p) = mT (A p) (mV A n m (n - (p + 1))) (gT A n m p) m := fun e => hne ⟨hmay, e⟩
        omega
      · rw [if_neg hmay] at hs2
        cases hs2
theorem gF_le (o T : Nat) : gF A n m o T ≤ m := (mG_is (A o) _ _ m T m (Nat.le_refl _)).2.1
end OWN
theorem dg3 (B d0 d1 d2 : Nat) (h0 : d0 < B) (h1 : d1 < B) (h2 : d2 < B) : (d0 * (B * B) + d1 * B + d2) / (B * B) = d0 ∧ (d0 * (B * B) + d1 * B + d2) / B % B = d1 ∧ (d0 * (B * B) + d1 * B + d2) % B = d2 := by
  have hB : 0 < B := by omega
  have e : d0 * (B * B) + d1 * B + d2 = d2 + B * (d1 + B * d0) := by
    have e1 : d0 * (B * B) = B * (B * d0) := by rw [Nat.mul_comm d0 (B * B), Nat.mul_assoc]
    have e2 : d1 * B = B * d1 := Nat.mul_comm _ _
    rw [Nat.mul_add, e1, e2]; omega
  rw [e]
  refine ⟨?_, ?_, ?_⟩
  · rw [← Nat.div_div_eq_div_mul, Nat.add_mul_div_left _ _ hB, Nat.div_eq_of_lt h2, Nat.zero_add, Nat.add_mul_div_left _ _ hB, Nat.div_eq_of_lt h1, Nat.zero_add]
  · rw [Nat.add_mul_div_left _ _ hB, Nat.div_eq_of_lt h2, Nat.zero_add, Nat.add_mul_mod_self_left, Nat.mod_eq_of_lt h1]
  · rw [Nat.add_mul_mod_self_left, Nat.mod_eq_of_lt h2]
theorem oDg_lt (n m w p : Nat) : oDg n m w p < m + 1 := Nat.mod_lt _ (by omega)
theorem own_main (A : Nat → Nat) (n m : Nat) (hn : n ≤ 3) (hm : m ≤ 4) : (am (oV A n m) ((m + 1) ^ n)).2 = mV A n m n 0 + 1 ∧ (am (oV A n m) ((m + 1) ^ n)).1 < (m + 1) ^ n ∧ ∀ p, p < n → oDg n m (am (oV A n m) ((m + 1) ^ n)).1 p = gF A n m p (gT A n m p) := by
  have hle : ∀ w, oV A n m w ≤ mV A n m n 0 + 1 := fun w => by
    rw [oV]
    cases hU : oC A n m w n with
    | none => exact Nat.zero_le _
    | some U =>
      have := oC_up A n m hn hm w n 0 0 (by omega) rfl (by omega) U hU
      rw [show pc4 0 = 0 from rfl, show n - 0 = n by omega] at this
      show 1 + pc4 U ≤ _
      omega
  have fin : ∀ i, i < (m + 1) ^ n → (∀ p, p < n → oDg n m i p = gF A n m p (gT A n m p)) → (∀ w, w < i → ∃ p, p < n ∧ (∀ q, q < p → oDg n m w q = oDg n m i q) ∧ oDg n m w p < oDg n m i p) → (am (oV A n m) ((m + 1) ^ n)).2 = mV A n m n 0 + 1 ∧ (am (oV A n m) ((m + 1) ^ n)).1 < (m + 1) ^ n ∧ ∀ p, p < n → oDg n m (am (oV A n m) ((m + 1) ^ n)).1 p = gF A n m p (gT A n m p) := by
    intro i hi hd hw
    have hv : oV A n m i = mV A n m n 0 + 1 := by
      obtain ⟨i1, i2, i3⟩ := oC_gr A n m hn hm i n (Nat.le_refl _) hd
      rw [show n - n = 0 by omega] at i3
      rw [oV, i1]
      show 1 + pc4 (gT A n m n) = _
      have : mV A n m 0 (gT A n m n) = 0 := rfl
      omega
    have := am_eq (oV A n m) hi hv (by omega) (fun j _ => hle j) (fun w hwi => by
      obtain ⟨p, p1, p2, p3⟩ := hw w hwi
      exact oV_lt A n m hn hm w p p1 (fun q hq => (p2 q hq).trans (hd q (by omega))) (by rw [← hd p p1]; exact p3))
    rw [this]
    exact ⟨rfl, hi, hd⟩
  have hB : 0 < m + 1 := by omega
  have c : n = 0 ∨ n = 1 ∨ n = 2 ∨ n = 3 := by omega
  rcases c with rfl | rfl | rfl | rfl
  · exact fin 0 (by rw [Nat.pow_zero]; omega) (fun p hp => absurd hp (by omega)) (fun w hw => absurd hw (by omega))
  · have b0 := gF_le A 1 m 0 (gT A 1 m 0)
    have e : ∀ w, oDg 1 m w 0 = w % (m + 1) := fun w => by rw [oDg, show 1 - (0 + 1) = 0 from rfl, Nat.pow_zero, Nat.div_one]
    refine fin (gF A 1 m 0 (gT A 1 m 0)) (by rw [Nat.pow_one]; omega) (fun p hp => ?_) (fun w hw => ⟨0, by omega, fun q hq => absurd hq (by omega), ?_⟩)
    · have : p = 0 := by omega
      subst this
      rw [e, Nat.mod_eq_of_lt (by omega)]
    · rw [e, e, Nat.mod_eq_of_lt (by omega), Nat.mod_eq_of_lt (by omega)]
      exact hw
  · have b0 := gF_le A 2 m 0 (gT A 2 m 0)
    have b1 := gF_le A 2 m 1 (gT A 2 m 1)
    have e0 : ∀ w, oDg 2 m w 0 = w / (m + 1) % (m + 1) := fun w => by rw [oDg, show 2 - (0 + 1) = 1 from rfl, Nat.pow_one]
    have e1 : ∀ w, oDg 2 m w 1 = w % (m + 1) := fun w => by rw [oDg, show 2 - (1 + 1) = 0 from rfl, Nat.pow_zero, Nat.div_one]
    generalize hx0 : gF A 2 m 0 (gT A 2 m 0) = x0 at b0
    generalize hx1 : gF A 2 m 1 (gT A 2 m 1) = x1 at b1
    obtain ⟨-, z1, z2⟩ := dg3 (m + 1) 0 x0 x1 (by omega) (by omega) (by omega)
    rw [Nat.zero_mul, Nat.zero_add] at z1 z2
    have hi : x0 * (m + 1) + x1 < (m + 1) ^ 2 := by
      have : x0 * (m + 1) ≤ m * (m + 1) := Nat.mul_le_mul_right _ b0
      have : (m + 1) ^ 2 = m * (m + 1) + (m + 1) := by rw [Nat.pow_succ, Nat.pow_one, Nat.add_mul, Nat.one_mul]
      omega
    refine fin (x0 * (m + 1) + x1) hi (fun p hp => ?_) (fun w hw => ?_)
    · have : p = 0 ∨ p = 1 := by omega
      rcases this with rfl | rfl
      · rw [e0, z1, hx0]
      · rw [e1, z2, hx1]
    · have hdm := Nat.div_add_mod w (m + 1)
      have hml := Nat.mod_lt w hB
      have hw0 : w / (m + 1) < m + 1 := Nat.div_lt_of_lt_mul (by have : (m + 1) ^ 2 = (m + 1) * (m + 1) := by rw [Nat.pow_succ, Nat.pow_one]
                                                                 omega)
      have e0w : oDg 2 m w 0 = w / (m + 1) := by rw [e0, Nat.mod_eq_of_lt hw0]
      rcases Nat.lt_trichotomy (w / (m + 1)) x0 with q | q | q
      · exact ⟨0, by omega, fun q hq => absurd hq (by omega), by rw [e0w, e0, z1]; exact q⟩
      · refine ⟨1, by omega, fun r hr => ?_, ?_⟩
        · have : r = 0 := by omega
          subst this
          rw [e0w, e0, z1]; exact q
        · rw [e1, e1, z2]
          rw [q, Nat.mul_comm] at hdm
          omega
      · have : x0 * (m + 1) + (m + 1) ≤ (m + 1) * (w / (m + 1)) := by
          rw [Nat.mul_comm x0, ← Nat.mul_succ]; exact Nat.mul_le_mul_left _ q
        omega
  · have b0 := gF_le A 3 m 0 (gT A 3 m 0)
    have b1 := gF_le A 3 m 1 (gT A 3 m 1)
    have b2 := gF_le A 3 m 2 (gT A 3 m 2)
    have e0 : ∀ w, oDg 3 m w 0 = w / ((m + 1) * (m + 1)) % (m + 1) := fun w => by rw [oDg, show 3 - (0 + 1) = 2 from rfl, Nat.pow_succ, Nat.pow_one]
    have e1 : ∀ w, oDg 3 m w 1 = w / (m + 1) % (m + 1) := fun w => by rw [oDg, show 3 - (1 + 1) = 1 from rfl, Nat.pow_one]
    have e2 : ∀ w, oDg 3 m w 2 = w % (m + 1) := fun w => by rw [oDg, show 3 - (2 + 1) = 0 from rfl, Nat.pow_zero, Nat.div_one]
    generalize hx0 : gF A 3 m 0 (gT A 3 m 0) = x0 at b0
    generalize hx1 : gF A 3 m 1 (gT A 3 m 1) = x1 at b1
    generalize hx2 : gF A 3 m 2 (gT A 3 m 2) = x2 at b2
    obtain ⟨z0, z1, z2⟩ := dg3 (m + 1) x0 x1 x2 (by omega) (by omega) (by omega)
    have hx1m : x1 * (m + 1) ≤ m * (m + 1) := Nat.mul_le_mul_right _ b1
    have hx0m : x0 * ((m + 1) * (m + 1)) ≤ m * ((m + 1) * (m + 1)) := Nat.mul_le_mul_right _ b0
    have hsq : (m + 1) * (m + 1) = m * (m + 1) + (m + 1) := by rw [Nat.add_mul m 1, Nat.one_mul]
    have hcu : (m + 1) ^ 3 = m * ((m + 1) * (m + 1)) + (m + 1) * (m + 1) := by rw [Nat.pow_succ, Nat.pow_succ, Nat.pow_one, Nat.mul_comm ((m + 1) * (m + 1)) (m + 1), Nat.add_mul m 1, Nat.one_mul]
    have hi : x0 * ((m + 1) * (m + 1)) + x1 * (m + 1) + x2 < (m + 1) ^ 3 := by omega
    refine fin (x0 * ((m + 1) * (m + 1)) + x1 * (m + 1) + x2) hi (fun p hp => ?_) (fun w hw => ?_)
    · have : p = 0 ∨ p = 1 ∨ p = 2 := by omega
      rcases this with rfl | rfl | rfl
      · rw [e0, z0, hx0, Nat.mod_eq_of_lt (by omega)]
      · rw [e1, z1, hx1]
      · rw [e2, z2, hx2]
    · have hdm := Nat.div_add_mod w (m + 1)
      have hml := Nat.mod_lt w hB
      have hdm2 := Nat.div_add_mod (w / (m + 1)) (m + 1)
      have hml2 := Nat.mod_lt (w / (m + 1)) hB
      have hq0 : w / ((m + 1) * (m + 1)) = w / (m + 1) / (m + 1) := (Nat.div_div_eq_div_mul _ _ _).symm
      have hw0 : w / ((m + 1) * (m + 1)) < m + 1 := Nat.div_lt_of_lt_mul (by
        have : (m + 1) * (m + 1) * (m + 1) = (m + 1) ^ 3 := by rw [Nat.pow_succ, Nat.pow_succ, Nat.pow_one]
        omega)
      have e0w : oDg 3 m w 0 = w / (m + 1) / (m + 1) := by rw [e0, Nat.mod_eq_of_lt hw0, hq0]
      have e0i : oDg 3 m (x0 * ((m + 1) * (m + 1)) + x1 * (m + 1) + x2) 0 = x0 := by rw [e0, z0, Nat.mod_eq_of_lt (by omega)]
      have e1i : oDg 3 m (x0 * ((m + 1) * (m + 1)) + x1 * (m + 1) + x2) 1 = x1 := by rw [e1, z1]
      have e2i : oDg 3 m (x0 * ((m + 1) * (m + 1)) + x1 * (m + 1) + x2) 2 = x2 := by rw [e2, z2]
      have e1w : oDg 3 m w 1 = w / (m + 1) % (m + 1) := e1 w
      have e2w : oDg 3 m w 2 = w % (m + 1) := e2 w
      generalize w / (m + 1) / (m + 1) = y0 at *
      generalize w / (m + 1) % (m + 1) = y1 at *
      generalize w % (m + 1) = y2 at *
      have hwE : w = y0 * ((m + 1) * (m + 1)) + y1 * (m + 1) + y2 := by
        have f1 : (m + 1) * ((m + 1) * y0 + y1) = y0 * ((m + 1) * (m + 1)) + y1 * (m + 1) := by
          rw [Nat.mul_add, ← Nat.mul_assoc, Nat.mul_comm _ y0, Nat.mul_comm _ y1]
        rw [← hdm2, f1] at hdm
        exact hdm.symm
      rcases Nat.lt_trichotomy y0 x0 with q | q | q
      · exact ⟨0, by omega, fun q hq => absurd hq (by omega), by rw [e0w, e0i]; exact q⟩
      · subst q
        rcases Nat.lt_trichotomy y1 x1 with q | q | q
        · refine ⟨1, by omega, fun r hr => ?_, by rw [e1w, e1i]; exact q⟩
          have : r = 0 := by omega
          subst this
          rw [e0w, e0i]
        · subst q
          refine ⟨2, by omega, fun r hr => ?_, by rw [e2w, e2i]; omega⟩
          have : r = 0 ∨ r = 1 := by omega
          rcases this with rfl | rfl
          · rw [e0w, e0i]
          · rw [e1w, e1i]
        · have : x1 * (m + 1) + (m + 1) ≤ y1 * (m + 1) := by rw [← Nat.succ_mul]; exact Nat.mul_le_mul_right _ q
          omega
      · have : x0 * ((m + 1) * (m + 1)) + (m + 1) * (m + 1) ≤ y0 * ((m + 1) * (m + 1)) := by rw [← Nat.succ_mul]; exact Nat.mul_le_mul_right _ q
        omega
