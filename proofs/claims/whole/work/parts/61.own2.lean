/-! own: the object -/
def sLm (li : Nat → Int32) (w : Int32) : Nat → Nat
  | 0 => 0
  | t + 1 => sLm li w t + (if w < li t then 2 ^ t else 0)
theorem s_lm1a : ∀ k, k < 4 → ∀ x, x < 16 → x < 2 ^ k → x + 2 ^ k < 2 ^ (k + 1) ∧ x < 2 ^ (k + 1) ∧ nI x ||| (1 <<< (nI k &&& 31)) = nI (x + 2 ^ k) := by decide +kernel
theorem s_lm1b : ∀ k, k < 4 → ∀ x, x < 16 → x < 2 ^ k → bN (x + 2 ^ k) k ∧ ¬ bN x k := by decide +kernel
theorem s_lm1c : ∀ k, k < 4 → ∀ x, x < 16 → x < 2 ^ k → ∀ t, t < k → (bN (x + 2 ^ k) t ↔ bN x t) := by decide +kernel
theorem s_lm1 (k : Nat) (hk : k < 4) (x : Nat) (hx : x < 16) (h : x < 2 ^ k) : x + 2 ^ k < 2 ^ (k + 1) ∧ x < 2 ^ (k + 1) ∧ nI x ||| (1 <<< (nI k &&& 31)) = nI (x + 2 ^ k) ∧ bN (x + 2 ^ k) k ∧ ¬ bN x k ∧ ∀ t, t < k → (bN (x + 2 ^ k) t ↔ bN x t) := ⟨(s_lm1a k hk x hx h).1, (s_lm1a k hk x hx h).2.1, (s_lm1a k hk x hx h).2.2, (s_lm1b k hk x hx h).1, (s_lm1b k hk x hx h).2, s_lm1c k hk x hx h⟩
theorem sLm_lt (li : Nat → Int32) (w : Int32) : ∀ k, k ≤ 4 → sLm li w k < 2 ^ k
  | 0, _ => by show 0 < 2 ^ 0; decide
  | k + 1, hk => by
    have ih := sLm_lt li w k (by omega)
    have := pow_16 (show k ≤ 4 by omega)
    obtain ⟨h1, h2, -⟩ := s_lm1 k (by omega) (sLm li w k) (by omega) ih
    rw [sLm]
    split
    · exact h1
    · exact h2
theorem sLm_16 (li : Nat → Int32) (w : Int32) {k : Nat} (hk : k ≤ 4) : sLm li w k < 16 := Nat.lt_of_lt_of_le (sLm_lt li w k hk) (pow_16 hk)
theorem sLm_bit (li : Nat → Int32) (w : Int32) : ∀ k, k ≤ 4 → ∀ t, t < k → (bN (sLm li w k) t ↔ w < li t)
  | 0, _, t, ht => by omega
  | k + 1, hk, t, ht => by
    have ih := sLm_bit li w k (by omega)
    have hl := sLm_lt li w k (by omega)
    have := pow_16 (show k ≤ 4 by omega)
    obtain ⟨h1, h2, h3, h4, h5, h6⟩ := s_lm1 k (by omega) (sLm li w k) (by omega) hl
    rw [sLm]
    by_cases e : t = k
    · subst e
      by_cases hw : w < li t
      · rw [if_pos hw]; exact ⟨fun _ => hw, fun _ => h4⟩
      · rw [if_neg hw]; exact ⟨fun q => absurd q h5, fun q => absurd q hw⟩
    · by_cases hw : w < li k
      · rw [if_pos hw, h6 t (by omega)]; exact ih t (by omega)
      · rw [if_neg hw]; exact ih t (by omega)
theorem sLi_lm (li : Nat → Int32) (w : Int32) : ∀ k, k ≤ 4 → sLi li w k = nI (sLm li w k)
  | 0, _ => rfl
  | k + 1, hk => by
    have ih := sLi_lm li w k (by omega)
    have hl := sLm_lt li w k (by omega)
    have := pow_16 (show k ≤ 4 by omega)
    obtain ⟨h1, h2, h3, -⟩ := s_lm1 k (by omega) (sLm li w k) (by omega) hl
    rw [sLi, sLm, ih]
    by_cases hw : w < li k
    · rw [if_pos hw, if_pos hw]; exact h3
    · rw [if_neg hw, if_neg hw]; exact i_or0 _
abbrev oA (li we : Nat → Int32) (m : Nat) : Nat → Nat := fun p => sLm li (we p) m
abbrev oAs (σ : Sp) : Nat → Nat := oA (σ.2.1 4) (σ.2.1 2) (σ.1 2)
def q_own (σ : Sp) (p : Int32) : Int32 := if p = -1 then nI (mV (oAs σ) (σ.1 1) (σ.1 2) (σ.1 1) 0) else if okP (σ.1 1) p then (if gF (oAs σ) (σ.1 1) (σ.1 2) p.toNatClampNeg (gT (oAs σ) (σ.1 1) (σ.1 2) p.toNatClampNeg) < σ.1 2 then nI (gF (oAs σ) (σ.1 1) (σ.1 2) p.toNatClampNeg (gT (oAs σ) (σ.1 1) (σ.1 2) p.toNatClampNeg)) else -9) else -1
def oN (m t : Nat) : Int32 := if t < m then nI t else -9
theorem s_hasN : ∀ a, a < 16 → ∀ t, t < 4 → (sHas (nI a) (nI t) ↔ bN a t) := by decide +kernel
theorem s_orN : ∀ a, a < 16 → ∀ t, t < 4 → ¬ bN a t → nI a ||| (1 <<< (nI t &&& 31)) = nI (a + 2 ^ t) := by decide +kernel
theorem s_bcN : ∀ a, a < 16 → sBC (nI a) = nI (pc4 a) := by decide +kernel
theorem s_m1 : ∀ a, a < 6 → nI (1 + a) - 1 = nI a := by decide +kernel
theorem s_cmp1 : ∀ a, a < 6 → ∀ b, b < 6 → (nI a - 1 ≤ nI b - 1 ↔ a ≤ b) := by decide +kernel
theorem pow_125 {n m : Nat} (hn : n ≤ 3) (hm : m ≤ 4) : (m + 1) ^ n ≤ 125 := by
  have h1 : (m + 1) ^ n ≤ 5 ^ n := Nat.pow_le_pow_left (by omega) n
  have h2 : 5 ^ n ≤ 5 ^ 3 := Nat.pow_le_pow_right (by omega) hn
  have : (5 : Nat) ^ 3 = 125 := by decide
  omega
theorem nI_ne9 {k : Nat} (hk : k < 1000) : ¬ nI k = -9 := fun q => by
  have h1 := congrArg Int32.toInt q
  rw [nI_toInt (by omega), show (-9 : Int32).toInt = -9 by decide] at h1
  omega
theorem oC_lt (A : Nat → Nat) (n m w : Nat) (hm : m ≤ 4) : ∀ p T, oC A n m w p = some T → T < 16
  | 0, T, h => by cases h; omega
  | p + 1, T, h => by
    rw [oC] at h
    cases hs : oC A n m w p with
    | none => rw [hs] at h; cases h
    | some V =>
      have hV := oC_lt A n m w hm p V hs
      rw [hs] at h
      have h2 : oS (A p) m V (oDg n m w p) = some T := h
      rw [oS] at h2
      by_cases hd : oDg n m w p < m
      · rw [if_pos hd] at h2
        by_cases hmay : mayN (A p) V (oDg n m w p)
        · rw [if_pos hmay] at h2
          cases h2
          exact (pc_add V hV _ (by omega) hmay.2).1
        · rw [if_neg hmay] at h2; cases h2
      · rw [if_neg hd] at h2; cases h2; exact hV
theorem oC_none (A : Nat → Nat) (n m w p : Nat) (h : oC A n m w p = none) : ∀ k, oC A n m w (p + k) = none
  | 0 => h
  | k + 1 => by rw [← Nat.add_assoc, oC, oC_none A n m w p h k]; rfl
theorem pc_4 : ∀ T, T < 16 → pc4 T ≤ 4 := by decide +kernel
theorem oV_bd (A : Nat → Nat) (n m w : Nat) (hm : m ≤ 4) : oV A n m w ≤ 5 := by
  rw [oV]
  cases h : oC A n m w n with
  | none => exact Nat.zero_le _
  | some T =>
    have := pc_4 T (oC_lt A n m w hm n T h)
    show 1 + pc4 T ≤ 5
    omega
section OWN2
variable (X : EX) (d : Nat) (h : AH) (a n m : Nat) (wi we br li fa : Nat → Int32) (sta abf : Int32)
theorem l_ownIn (w p : Nat) (hw : w < 1000) (hn : n ≤ 3) (hm : m ≤ 4) (hp : p < n) (tr : TR h a n m wi we br li fa sta abf) (Q : Option Value → AH → Prop) (hQ : Q (some (.int (oN m (oDg n m w p)))) h) : ∀ (k i : Nat), p + 1 + i + k = n → T X d M_To_ownIn 15 [.ref a, .int (nI w), .int (nI p), .int (nI (m + 1)), .int (nI (w / (m + 1) ^ i)), .int (nI (p + 1 + i))] [] h Q
  | 0, i, hi => by
    have hi' : i = n - (p + 1) := by omega
    obtain ⟨t0, t1, t2, t3, t4, t5⟩ := tr
    have hne : ¬ nI (m + 1) = 0 := nI_ne0 (by omega) (by omega)
    have hwd : w / (m + 1) ^ i ≤ w := Nat.div_le_self _ _
    refine T_iload (pc' := 17) d_To_ownIn_15 rfl rfl ?_
    refine T_aload_n (pc' := 18) d_To_ownIn_17 rfl rfl rfl ?_
    refine T_get (pc' := 21) d_To_ownIn_18 rfl g_To_27 (by first | assumption | exact e_put_s | simp [e_put, *]) rfl ?_
    refine T_icmp_ge (pc' := 24) (tgt := 36) d_To_ownIn_21 rfl (by decide) (fun _ => ?_) (fun hzz => absurd (by rw [show p + 1 + i = n by omega]; exact Int32.le_refl _) hzz)
    refine T_iload (pc' := 38) d_To_ownIn_36 rfl rfl ?_
    refine T_iload_n (pc' := 39) d_To_ownIn_38 rfl rfl rfl ?_
    refine T_irem (pc' := 40) d_To_ownIn_39 rfl (by first | assumption | decide) ?_
    rw [pk_rem (by omega) (by omega) (by omega), show w / (m + 1) ^ i % (m + 1) = oDg n m w p by rw [oDg, hi']]
    have hlt := oDg_lt n m w p
    rw [oN] at hQ
    refine T_is5 (pc' := 42) d_To_ownIn_40 rfl (Nat.le_of_ble_eq_true rfl) rfl ?_
    refine T_iload (pc' := 44) d_To_ownIn_42 rfl rfl ?_
    refine T_aload_n (pc' := 45) d_To_ownIn_44 rfl rfl rfl ?_
    refine T_get (pc' := 48) d_To_ownIn_45 rfl g_To_31 (by first | assumption | exact e_put_s | simp [e_put, *]) rfl ?_
    by_cases hd : oDg n m w p < m
    · refine T_icmp_ge (pc' := 51) (tgt := 56) d_To_ownIn_48 rfl (by decide) (fun hzz => absurd hzz (nI_ge hd (by omega))) (fun _ => ?_)
      rw [if_pos hd] at hQ
      refine T_iload (pc' := 53) d_To_ownIn_51 rfl rfl ?_
      refine T_goto (pc' := 58) d_To_ownIn_53 (by decide) ?_
      refine T_iret d_To_ownIn_58 rfl ?_
      exact hQ
    · refine T_icmp_ge (pc' := 51) (tgt := 56) d_To_ownIn_48 rfl (by decide) (fun _ => ?_) (fun hzz => absurd (nI_le (by omega) (by omega)) hzz)
      rw [if_neg hd] at hQ
      refine T_bipush (v := (-9)) (pc' := 58) d_To_ownIn_56 rfl (by decide) ?_
      refine T_iret d_To_ownIn_58 rfl ?_
      exact hQ
  | k + 1, i, hi => by
    have ih := l_ownIn w p hw hn hm hp tr Q hQ k (i + 1) (by omega)
    obtain ⟨t0, t1, t2, t3, t4, t5⟩ := tr
    have hne : ¬ nI (m + 1) = 0 := nI_ne0 (by omega) (by omega)
    have hwd : w / (m + 1) ^ i ≤ w := Nat.div_le_self _ _
    refine T_iload (pc' := 17) d_To_ownIn_15 rfl rfl ?_
    refine T_aload_n (pc' := 18) d_To_ownIn_17 rfl rfl rfl ?_
    refine T_get (pc' := 21) d_To_ownIn_18 rfl g_To_27 (by first | assumption | exact e_put_s | simp [e_put, *]) rfl ?_
    refine T_icmp_ge (pc' := 24) (tgt := 36) d_To_ownIn_21 rfl (by decide) (fun hzz => absurd hzz (nI_ge (by omega) (by omega))) (fun _ => ?_)
    refine T_iload (pc' := 26) d_To_ownIn_24 rfl rfl ?_
    refine T_iload_n (pc' := 27) d_To_ownIn_26 rfl rfl rfl ?_
    refine T_idiv (pc' := 28) d_To_ownIn_27 rfl (by first | assumption | decide) ?_
    rw [pk_div (by omega) (by omega) (by omega), Nat.div_div_eq_div_mul, ← Nat.pow_succ]
    refine T_is4 (pc' := 30) d_To_ownIn_28 rfl (Nat.le_of_ble_eq_true rfl) rfl ?_
    refine T_ii5 (c := 1) (pc' := 33) d_To_ownIn_30 rfl (by decide) (Nat.le_of_ble_eq_true rfl) rfl ?_
    rw [nI_1]
    refine T_goto (pc' := 15) d_To_ownIn_33 (by decide) ?_
    exact ih
theorem c_To_ownIn (w p : Nat) (hw : w < 1000) (hn : n ≤ 3) (hm : m ≤ 4) (hp : p < n) (tr : TR h a n m wi we br li fa sta abf) : Ci X d M_To_ownIn [.ref a, .int (nI w), .int (nI p)] h (fun v h1 => h1 = h ∧ v = oN m (oDg n m w p)) := by
  have t0 := tr.1
  refine C_of_T rfl rfl (Nat.le_of_ble_eq_true rfl) rfl ?_
  refine T_aload_n (pc' := 1) d_To_ownIn_0 rfl rfl rfl ?_
  refine T_get (pc' := 4) d_To_ownIn_1 rfl g_To_31 (by first | assumption | exact e_put_s | simp [e_put, *]) rfl ?_
  refine T_iconst (v := 1) (pc' := 5) d_To_ownIn_4 rfl (by decide) ?_
  refine T_iadd (pc' := 6) d_To_ownIn_5 rfl ?_
  rw [nI_1]
  refine T_is_n3 (pc' := 7) d_To_ownIn_6 rfl rfl (Nat.le_of_ble_eq_true rfl) rfl ?_
  refine T_iload_n (pc' := 8) d_To_ownIn_7 rfl rfl rfl ?_
  refine T_is4 (pc' := 10) d_To_ownIn_8 rfl (Nat.le_of_ble_eq_true rfl) rfl ?_
  refine T_iload_n (pc' := 11) d_To_ownIn_10 rfl rfl rfl ?_
  refine T_iconst (v := 1) (pc' := 12) d_To_ownIn_11 rfl (by decide) ?_
  refine T_iadd (pc' := 13) d_To_ownIn_12 rfl ?_
  rw [nI_1]
  refine T_is5 (pc' := 15) d_To_ownIn_13 rfl (Nat.le_of_ble_eq_true rfl) rfl ?_
  have := l_ownIn X d h a n m wi we br li fa sta abf w p hw hn hm hp tr (fun r h1 => ∃ v : Int32, r = some (.int v) ∧ h1 = h ∧ v = oN m (oDg n m w p)) ⟨_, rfl, rfl, rfl⟩ (n - (p + 1)) 0 (by omega)
  rw [Nat.pow_zero, Nat.div_one] at this
  exact this
theorem l_countOwn (w : Nat) (hw : w < 1000) (hn : n ≤ 3) (hm : m ≤ 4) (tr : TR h a n m wi we br li fa sta abf) (Q : Option Value → AH → Prop) (hQ : Q (some (.int (nI (oV (oA li we m) n m w) - 1))) h) : ∀ (k p : Nat), p + k = n → ∀ T', oC (oA li we m) n m w p = some T' → T X (d + 1) M_To_countOwn 4 [.ref a, .int (nI w), .int (nI T'), .int (nI p), .null] [] h Q
  | 0, p, hp, T', hT => by
    have : p = n := by omega
    subst this
    have h16 := oC_lt _ _ _ _ hm _ _ hT
    obtain ⟨t0, t1, t2, t3, t4, t5⟩ := tr
    refine T_iload_n (pc' := 5) d_To_countOwn_4 rfl rfl rfl ?_
    refine T_aload_n (pc' := 6) d_To_countOwn_5 rfl rfl rfl ?_
    refine T_get (pc' := 9) d_To_countOwn_6 rfl g_To_27 (by first | assumption | exact e_put_s | simp [e_put, *]) rfl ?_
    refine T_icmp_ge (pc' := 12) (tgt := 62) d_To_countOwn_9 rfl (by decide) (fun _ => ?_) (fun hzz => absurd (Int32.le_refl _) hzz)
    refine T_iload_n (pc' := 63) d_To_countOwn_62 rfl rfl rfl ?_
    refine T_S1i (pc' := 66) d_To_countOwn_63 rfl l_To_126 v_In_bitCount (Nat.le_of_ble_eq_true rfl) (c_In_bitCount X _ _ _) (fun v h1 hq => ?_)
    obtain ⟨rfl, rfl⟩ := hq
    refine T_iret d_To_countOwn_66 rfl ?_
    rw [s_bcN T' h16]
    have hb := pc_4 T' h16
    rw [oV, hT] at hQ
    have e : nI (1 + pc4 T') - 1 = nI (pc4 T') := s_m1 _ (by omega)
    rw [← e]
    exact hQ
  | k + 1, p, hp, T', hT => by
    have ih := l_countOwn w hw hn hm tr Q hQ k (p + 1) (by omega)
    have h16 := oC_lt _ _ _ _ hm _ _ hT
    have tr' := tr
    obtain ⟨t0, t1, t2, t3, t4, t5⟩ := tr
    have hst : oC (oA li we m) n m w (p + 1) = oS (oA li we m p) m T' (oDg n m w p) := by rw [oC, hT]; rfl
    have hlt := oDg_lt n m w p
    have hbit : ∀ t, t < m → (bN (oA li we m p) t ↔ we p < li t) := sLm_bit li (we p) m hm
    refine T_iload_n (pc' := 5) d_To_countOwn_4 rfl rfl rfl ?_
    refine T_aload_n (pc' := 6) d_To_countOwn_5 rfl rfl rfl ?_
    refine T_get (pc' := 9) d_To_countOwn_6 rfl g_To_27 (by first | assumption | exact e_put_s | simp [e_put, *]) rfl ?_
    refine T_icmp_ge (pc' := 12) (tgt := 62) d_To_countOwn_9 rfl (by decide) (fun hzz => absurd hzz (nI_ge (by omega) (by omega))) (fun _ => ?_)
    refine T_aload_n (pc' := 13) d_To_countOwn_12 rfl rfl rfl ?_
    refine T_iload_n (pc' := 14) d_To_countOwn_13 rfl rfl rfl ?_
    refine T_iload_n (pc' := 15) d_To_countOwn_14 rfl rfl rfl ?_
    refine T_V2i (pc' := 18) d_To_countOwn_15 rfl l_To_137 v_To_ownIn (by first | assumption | exact e_put_s | simp [e_put, *]) (Nat.le_of_ble_eq_true rfl) (c_To_ownIn X _ h a n m wi we br li fa sta abf w p hw hn hm (by omega) tr') (fun v h1 hq => ?_)
    obtain ⟨rfl, rfl⟩ := hq
    generalize oDg n m w p = t at hst hlt
    rw [oS] at hst
    rw [oN]
    by_cases hd : t < m
    · rw [if_pos hd] at hst ⊢
      refine T_is4 (pc' := 20) d_To_countOwn_18 rfl (Nat.le_of_ble_eq_true rfl) rfl ?_
      refine T_iload (pc' := 22) d_To_countOwn_20 rfl rfl ?_
      refine T_bipush (v := (-9)) (pc' := 24) d_To_countOwn_22 rfl (by decide) ?_
      refine T_icmp_eq (pc' := 27) (tgt := 56) d_To_countOwn_24 rfl (by decide) (fun hzz => absurd hzz (nI_ne9 (by omega))) (fun _ => ?_)
      refine T_aload_n (pc' := 28) d_To_countOwn_27 rfl rfl rfl ?_
      refine T_iload (pc' := 30) d_To_countOwn_28 rfl rfl ?_
      refine T_iload_n (pc' := 31) d_To_countOwn_30 rfl rfl rfl ?_
      refine T_V2i (pc' := 34) d_To_countOwn_31 rfl l_To_119 v_To_canLift (by first | assumption | exact e_put_s | simp [e_put, *]) (Nat.le_of_ble_eq_true rfl) (c_To_canLift X _ h1 a n m wi we br li fa sta abf t p (by omega) (by omega) tr') (fun v h2 hq => ?_)
      obtain ⟨rfl, ⟨hl, rfl⟩ | ⟨hl, rfl⟩⟩ := hq
      · refine T_if_eq (pc' := 37) (tgt := 47) d_To_countOwn_34 rfl (by decide) (fun hzz => absurd hzz (by decide)) (fun _ => ?_)
        refine T_iload_n (pc' := 38) d_To_countOwn_37 rfl rfl rfl ?_
        refine T_iload (pc' := 40) d_To_countOwn_38 rfl rfl ?_
        refine T_ishr (pc' := 41) d_To_countOwn_40 rfl ?_
        refine T_iconst (v := 1) (pc' := 42) d_To_countOwn_41 rfl (by decide) ?_
        refine T_iand (pc' := 43) d_To_countOwn_42 rfl ?_
        refine T_iconst (v := 1) (pc' := 44) d_To_countOwn_43 rfl (by decide) ?_
        by_cases hb : bN T' t
        · refine T_icmp_ne (pc' := 47) (tgt := 49) d_To_countOwn_44 rfl (by decide) (fun hzz => absurd ((s_hasN T' h16 t (by omega)).mpr hb) hzz) (fun _ => ?_)
          refine T_iconst (v := (-1)) (pc' := 48) d_To_countOwn_47 rfl (by decide) ?_
          refine T_iret d_To_countOwn_48 rfl ?_
          rw [if_neg (fun q => q.2 hb)] at hst
          have e := oC_none _ _ _ _ _ hst (n - (p + 1))
          rw [show p + 1 + (n - (p + 1)) = n by omega] at e
          rw [oV, e] at hQ
          exact hQ
        · refine T_icmp_ne (pc' := 47) (tgt := 49) d_To_countOwn_44 rfl (by decide) (fun _ => ?_) (fun hzz => absurd hzz (fun q => hb ((s_hasN T' h16 t (by omega)).mp q)))
          rw [if_pos ⟨(hbit t hd).mpr hl, hb⟩] at hst
          refine T_iload_n (pc' := 50) d_To_countOwn_49 rfl rfl rfl ?_
          refine T_iconst (v := 1) (pc' := 51) d_To_countOwn_50 rfl (by decide) ?_
          refine T_iload (pc' := 53) d_To_countOwn_51 rfl rfl ?_
          refine T_ishl (pc' := 54) d_To_countOwn_53 rfl ?_
          refine T_ior (pc' := 55) d_To_countOwn_54 rfl ?_
          rw [s_orN T' h16 t (by omega) hb]
          refine T_is_n2 (pc' := 56) d_To_countOwn_55 rfl rfl (Nat.le_of_ble_eq_true rfl) rfl ?_
          refine T_ii3 (c := 1) (pc' := 59) d_To_countOwn_56 rfl (by decide) (Nat.le_of_ble_eq_true rfl) rfl ?_
          rw [nI_1]
          refine T_goto (pc' := 4) d_To_countOwn_59 (by decide) ?_
          exact T_fg (by simp [e_le]) (ih _ hst)
      · refine T_if_eq (pc' := 37) (tgt := 47) d_To_countOwn_34 rfl (by decide) (fun _ => ?_) (fun hzz => absurd (by decide) hzz)
        refine T_iconst (v := (-1)) (pc' := 48) d_To_countOwn_47 rfl (by decide) ?_
        refine T_iret d_To_countOwn_48 rfl ?_
        rw [if_neg (fun q => hl ((hbit t hd).mp q.1))] at hst
        have e := oC_none _ _ _ _ _ hst (n - (p + 1))
        rw [show p + 1 + (n - (p + 1)) = n by omega] at e
        rw [oV, e] at hQ
        exact hQ
    · rw [if_neg hd] at hst ⊢
      refine T_is4 (pc' := 20) d_To_countOwn_18 rfl (Nat.le_of_ble_eq_true rfl) rfl ?_
      refine T_iload (pc' := 22) d_To_countOwn_20 rfl rfl ?_
      refine T_bipush (v := (-9)) (pc' := 24) d_To_countOwn_22 rfl (by decide) ?_
      refine T_icmp_eq (pc' := 27) (tgt := 56) d_To_countOwn_24 rfl (by decide) (fun _ => ?_) (fun hzz => absurd (by decide) hzz)
      refine T_ii3 (c := 1) (pc' := 59) d_To_countOwn_56 rfl (by decide) (Nat.le_of_ble_eq_true rfl) rfl ?_
      rw [nI_1]
      refine T_goto (pc' := 4) d_To_countOwn_59 (by decide) ?_
      exact T_fg (by simp [e_le]) (ih _ hst)
theorem c_To_countOwn (w : Nat) (hw : w < 1000) (hn : n ≤ 3) (hm : m ≤ 4) (tr : TR h a n m wi we br li fa sta abf) : Ci X (d + 1) M_To_countOwn [.ref a, .int (nI w)] h (fun v h1 => h1 = h ∧ v = nI (oV (oA li we m) n m w) - 1) := by
  refine C_of_T rfl rfl (Nat.le_of_ble_eq_true rfl) rfl ?_
  refine T_iconst (v := 0) (pc' := 1) d_To_countOwn_0 rfl (by decide) ?_
  refine T_is_n2 (pc' := 2) d_To_countOwn_1 rfl rfl (Nat.le_of_ble_eq_true rfl) rfl ?_
  refine T_iconst (v := 0) (pc' := 3) d_To_countOwn_2 rfl (by decide) ?_
  refine T_is_n3 (pc' := 4) d_To_countOwn_3 rfl rfl (Nat.le_of_ble_eq_true rfl) rfl ?_
  exact l_countOwn X d h a n m wi we br li fa sta abf w hw hn hm tr _ ⟨_, rfl, rfl, rfl⟩ n 0 (by omega) 0 rfl
theorem l_first0 (hn : n ≤ 3) (hm : m ≤ 4) (tr : TR h a n m wi we br li fa sta abf) (Q : Option Value → AH → Prop) (hk : T X d M_To_firstOwnWay 27 [.ref a, .int (nI ((m + 1) ^ n)), .null, .null, .null, .null] [] h Q) : ∀ (k i : Nat), i + k = n → T X d M_To_firstOwnWay 4 [.ref a, .int (nI ((m + 1) ^ i)), .int (nI i), .null, .null, .null] [] h Q
  | 0, i, hi => by
    have : i = n := by omega
    subst this
    have t0 := tr.1
    refine T_iload_n (pc' := 5) d_To_firstOwnWay_4 rfl rfl rfl ?_
    refine T_aload_n (pc' := 6) d_To_firstOwnWay_5 rfl rfl rfl ?_
    refine T_get (pc' := 9) d_To_firstOwnWay_6 rfl g_To_27 (by first | assumption | exact e_put_s | simp [e_put, *]) rfl ?_
    refine T_icmp_ge (pc' := 12) (tgt := 27) d_To_firstOwnWay_9 rfl (by decide) (fun _ => ?_) (fun hzz => absurd (Int32.le_refl _) hzz)
    exact T_fg (by simp [e_le]) hk
  | k + 1, i, hi => by
    have ih := l_first0 hn hm tr Q hk k (i + 1) (by omega)
    have t0 := tr.1
    refine T_iload_n (pc' := 5) d_To_firstOwnWay_4 rfl rfl rfl ?_
    refine T_aload_n (pc' := 6) d_To_firstOwnWay_5 rfl rfl rfl ?_
    refine T_get (pc' := 9) d_To_firstOwnWay_6 rfl g_To_27 (by first | assumption | exact e_put_s | simp [e_put, *]) rfl ?_
    refine T_icmp_ge (pc' := 12) (tgt := 27) d_To_firstOwnWay_9 rfl (by decide) (fun hzz => absurd hzz (nI_ge (by omega) (by omega))) (fun _ => ?_)
    refine T_iload_n (pc' := 13) d_To_firstOwnWay_12 rfl rfl rfl ?_
    refine T_aload_n (pc' := 14) d_To_firstOwnWay_13 rfl rfl rfl ?_
    refine T_get (pc' := 17) d_To_firstOwnWay_14 rfl g_To_31 (by first | assumption | exact e_put_s | simp [e_put, *]) rfl ?_
    refine T_iconst (v := 1) (pc' := 18) d_To_firstOwnWay_17 rfl (by decide) ?_
    refine T_iadd (pc' := 19) d_To_firstOwnWay_18 rfl ?_
    rw [nI_1]
    refine T_imul (pc' := 20) d_To_firstOwnWay_19 rfl ?_
    rw [pk_mul, ← Nat.pow_succ]
    refine T_is_n1 (pc' := 21) d_To_firstOwnWay_20 rfl rfl (Nat.le_of_ble_eq_true rfl) rfl ?_
    refine T_ii2 (c := 1) (pc' := 24) d_To_firstOwnWay_21 rfl (by decide) (Nat.le_of_ble_eq_true rfl) rfl ?_
    rw [nI_1]
    refine T_goto (pc' := 4) d_To_firstOwnWay_24 (by decide) ?_
    exact ih
theorem l_first (hn : n ≤ 3) (hm : m ≤ 4) (tr : TR h a n m wi we br li fa sta abf) (Q : Option Value → AH → Prop) (hQ : Q (some (.int (nI (am (oV (oA li we m) n m) ((m + 1) ^ n)).1))) h) : ∀ (k i : Nat), i + k = (m + 1) ^ n → T X (d + 2) M_To_firstOwnWay 34 [.ref a, .int (nI ((m + 1) ^ n)), .int (nI (am (oV (oA li we m) n m) i).1), .int (nI (am (oV (oA li we m) n m) i).2 - 1), .int (nI i), .null] [] h Q
  | 0, i, hi => by
    have : i = (m + 1) ^ n := by omega
    subst this
    refine T_iload (pc' := 36) d_To_firstOwnWay_34 rfl rfl ?_
    refine T_iload_n (pc' := 37) d_To_firstOwnWay_36 rfl rfl rfl ?_
    refine T_icmp_ge (pc' := 40) (tgt := 66) d_To_firstOwnWay_37 rfl (by decide) (fun _ => ?_) (fun hzz => absurd (Int32.le_refl _) hzz)
    refine T_iload_n (pc' := 67) d_To_firstOwnWay_66 rfl rfl rfl ?_
    refine T_iret d_To_firstOwnWay_67 rfl ?_
    exact hQ
  | k + 1, i, hi => by
    have ih := l_first hn hm tr Q hQ k (i + 1) (by omega)
    have hb := pow_125 hn hm
    have t0 := tr.1
    refine T_iload (pc' := 36) d_To_firstOwnWay_34 rfl rfl ?_
    refine T_iload_n (pc' := 37) d_To_firstOwnWay_36 rfl rfl rfl ?_
    refine T_icmp_ge (pc' := 40) (tgt := 66) d_To_firstOwnWay_37 rfl (by decide) (fun hzz => absurd hzz (nI_ge (by omega) (by omega))) (fun _ => ?_)
    refine T_aload_n (pc' := 41) d_To_firstOwnWay_40 rfl rfl rfl ?_
    refine T_iload (pc' := 43) d_To_firstOwnWay_41 rfl rfl ?_
    refine T_V1i (pc' := 46) d_To_firstOwnWay_43 rfl l_To_134 v_To_countOwn (by first | assumption | exact e_put_s | simp [e_put, *]) (Nat.le_of_ble_eq_true rfl) (c_To_countOwn X _ h a n m wi we br li fa sta abf i (by omega) hn hm tr) (fun v h1 hq => ?_)
    obtain ⟨rfl, rfl⟩ := hq
    have b1 := oV_bd (oA li we m) n m i hm
    have b2 : (am (oV (oA li we m) n m) i).2 ≤ 5 := by
      rcases am_at (oV (oA li we m) n m) i with q | ⟨-, q, -⟩
      · omega
      · rw [← q]; exact oV_bd _ _ _ _ hm
    rw [am] at ih
    refine T_is5 (pc' := 48) d_To_firstOwnWay_46 rfl (Nat.le_of_ble_eq_true rfl) rfl ?_
    refine T_iload (pc' := 50) d_To_firstOwnWay_48 rfl rfl ?_
    refine T_iload_n (pc' := 51) d_To_firstOwnWay_50 rfl rfl rfl ?_
    by_cases hlt : (am (oV (oA li we m) n m) i).2 < oV (oA li we m) n m i
    · refine T_icmp_le (pc' := 54) (tgt := 60) d_To_firstOwnWay_51 rfl (by decide) (fun hzz => absurd hzz (fun q => by have := (s_cmp1 _ (by omega) _ (by omega)).mp q; omega)) (fun _ => ?_)
      rw [if_pos hlt] at ih
      refine T_iload (pc' := 56) d_To_firstOwnWay_54 rfl rfl ?_
      refine T_is_n3 (pc' := 57) d_To_firstOwnWay_56 rfl rfl (Nat.le_of_ble_eq_true rfl) rfl ?_
      refine T_iload (pc' := 59) d_To_firstOwnWay_57 rfl rfl ?_
      refine T_is_n2 (pc' := 60) d_To_firstOwnWay_59 rfl rfl (Nat.le_of_ble_eq_true rfl) rfl ?_
      refine T_ii4 (c := 1) (pc' := 63) d_To_firstOwnWay_60 rfl (by decide) (Nat.le_of_ble_eq_true rfl) rfl ?_
      rw [nI_1]
      refine T_goto (pc' := 34) d_To_firstOwnWay_63 (by decide) ?_
      exact T_fg (by simp [e_le]) ih
    · refine T_icmp_le (pc' := 54) (tgt := 60) d_To_firstOwnWay_51 rfl (by decide) (fun _ => ?_) (fun hzz => absurd ((s_cmp1 _ (by omega) _ (by omega)).mpr (by omega)) hzz)
      rw [if_neg hlt] at ih
      refine T_ii4 (c := 1) (pc' := 63) d_To_firstOwnWay_60 rfl (by decide) (Nat.le_of_ble_eq_true rfl) rfl ?_
      rw [nI_1]
      refine T_goto (pc' := 34) d_To_firstOwnWay_63 (by decide) ?_
      exact T_fg (by simp [e_le]) ih
theorem c_To_firstOwnWay (hn : n ≤ 3) (hm : m ≤ 4) (tr : TR h a n m wi we br li fa sta abf) : Ci X (d + 2) M_To_firstOwnWay [.ref a] h (fun v h1 => h1 = h ∧ v = nI (am (oV (oA li we m) n m) ((m + 1) ^ n)).1) := by
  refine C_of_T rfl rfl (Nat.le_of_ble_eq_true rfl) rfl ?_
  refine T_iconst (v := 1) (pc' := 1) d_To_firstOwnWay_0 rfl (by decide) ?_
  refine T_is_n1 (pc' := 2) d_To_firstOwnWay_1 rfl rfl (Nat.le_of_ble_eq_true rfl) rfl ?_
  refine T_iconst (v := 0) (pc' := 3) d_To_firstOwnWay_2 rfl (by decide) ?_
  refine T_is_n2 (pc' := 4) d_To_firstOwnWay_3 rfl rfl (Nat.le_of_ble_eq_true rfl) rfl ?_
  refine l_first0 X _ h a n m wi we br li fa sta abf hn hm tr _ ?_ n 0 (by omega)
  refine T_iconst (v := 0) (pc' := 28) d_To_firstOwnWay_27 rfl (by decide) ?_
  refine T_is_n2 (pc' := 29) d_To_firstOwnWay_28 rfl rfl (Nat.le_of_ble_eq_true rfl) rfl ?_
  refine T_iconst (v := (-1)) (pc' := 30) d_To_firstOwnWay_29 rfl (by decide) ?_
  refine T_is_n3 (pc' := 31) d_To_firstOwnWay_30 rfl rfl (Nat.le_of_ble_eq_true rfl) rfl ?_
  refine T_iconst (v := 0) (pc' := 32) d_To_firstOwnWay_31 rfl (by decide) ?_
  refine T_is4 (pc' := 34) d_To_firstOwnWay_32 rfl (Nat.le_of_ble_eq_true rfl) rfl ?_
  exact l_first X d h a n m wi we br li fa sta abf hn hm tr _ ⟨_, rfl, rfl, rfl⟩ ((m + 1) ^ n) 0 (by omega)
end OWN2
theorem p_Tb_own (X : EX) (d : Nat) (h : AH) (σ : Sp) (p : Int32) (ci : CI h σ) (si : SI σ) : Ci X (d + 20) M_Tb_own [.ref 0, .int p] h (fun v h1 => v = q_own σ p ∧ CI h1 σ ∧ Fr 0 86 h h1) := by
  have h0 := ci.1
  obtain ⟨ab, tr⟩ := ci.2.2.1
  have t0 := tr.1
  have hn := si.1.2.1
  have hm := si.1.2.2.1
  obtain ⟨o1, o2, o3⟩ := own_main (oAs σ) (σ.1 1) (σ.1 2) hn hm
  have hb := pow_125 hn hm
  have t18 : ∀ Q : Option Value → AH → Prop, T X (d + 20) M_Tb_own 26 [.ref 0, .int p, .int (nI (am (oV (oAs σ) (σ.1 1) (σ.1 2)) ((σ.1 2 + 1) ^ σ.1 1)).1)] [] h Q → T X (d + 20) M_Tb_own 18 [.ref 0, .int p, .null] [] h Q := fun Q hk => by
    refine T_aload_n (pc' := 19) d_Tb_own_18 rfl rfl rfl ?_
    refine T_get (pc' := 22) d_Tb_own_19 rfl g_Tb_19 (by first | assumption | exact e_put_s | simp [e_put, *]) rfl ?_
    refine T_V0i (pc' := 25) d_Tb_own_22 rfl l_Tb_223 v_To_firstOwnWay (by first | assumption | exact e_put_s | simp [e_put, *]) (Nat.le_of_ble_eq_true rfl) (c_To_firstOwnWay X _ h 4 _ _ _ _ _ _ _ _ _ hn hm tr) (fun v h1 hq => ?_)
    obtain ⟨rfl, rfl⟩ := hq
    refine T_is_n2 (pc' := 26) d_Tb_own_25 rfl rfl (Nat.le_of_ble_eq_true rfl) rfl ?_
    exact hk
  refine C_of_T rfl rfl (Nat.le_of_ble_eq_true rfl) rfl ?_
  rw [q_own]
  refine T_iload_n (pc' := 1) d_Tb_own_0 rfl rfl rfl ?_
  refine T_iconst (v := (-1)) (pc' := 2) d_Tb_own_1 rfl (by decide) ?_
  by_cases hp1 : p = -1
  · refine T_icmp_eq (pc' := 5) (tgt := 18) d_Tb_own_2 rfl (by decide) (fun _ => ?_) (fun hzz => absurd hp1 hzz)
    refine t18 _ ?_
    refine T_iload_n (pc' := 27) d_Tb_own_26 rfl rfl rfl ?_
    refine T_iconst (v := (-1)) (pc' := 28) d_Tb_own_27 rfl (by decide) ?_
    refine T_icmp_ne (pc' := 31) (tgt := 42) d_Tb_own_28 rfl (by decide) (fun hzz => absurd hp1 hzz) (fun _ => ?_)
    refine T_aload_n (pc' := 32) d_Tb_own_31 rfl rfl rfl ?_
    refine T_get (pc' := 35) d_Tb_own_32 rfl g_Tb_19 (by first | assumption | exact e_put_s | simp [e_put, *]) rfl ?_
    refine T_iload_n (pc' := 36) d_Tb_own_35 rfl rfl rfl ?_
    refine T_V1i (pc' := 39) d_Tb_own_36 rfl l_Tb_226 v_To_countOwn (by first | assumption | exact e_put_s | simp [e_put, *]) (Nat.le_of_ble_eq_true rfl) (c_To_countOwn X _ h 4 _ _ _ _ _ _ _ _ _ _ (by omega) hn hm tr) (fun v h1 hq => ?_)
    obtain ⟨rfl, rfl⟩ := hq
    refine T_goto (pc' := 51) d_Tb_own_39 (by decide) ?_
    refine T_iret d_Tb_own_51 rfl ?_
    refine ⟨_, rfl, ?_, ci, Fr.rf⟩
    rw [if_pos hp1]
    rcases am_at (oV (oAs σ) (σ.1 1) (σ.1 2)) ((σ.1 2 + 1) ^ σ.1 1) with q | ⟨-, q, -⟩
    · omega
    · rw [q, o1, Nat.add_comm]
      exact s_m1 _ (by have := mV_bd (oAs σ) (σ.1 1) (σ.1 2) (σ.1 1) 0; omega)
  · refine T_icmp_eq (pc' := 5) (tgt := 18) d_Tb_own_2 rfl (by decide) (fun hzz => absurd hzz hp1) (fun _ => ?_)
    rw [if_neg hp1]
    refine T_aload_n (pc' := 6) d_Tb_own_5 rfl rfl rfl ?_
    refine T_get (pc' := 9) d_Tb_own_6 rfl g_Tb_19 (by first | assumption | exact e_put_s | simp [e_put, *]) rfl ?_
    refine T_iload_n (pc' := 10) d_Tb_own_9 rfl rfl rfl ?_
    refine T_V1i (pc' := 13) d_Tb_own_10 rfl l_Tb_109 v_To_hasPerson (by first | assumption | exact e_put_s | simp [e_put, *]) (Nat.le_of_ble_eq_true rfl) (c_To_hasPerson X _ h 4 _ _ _ _ _ _ _ _ _ p hn tr) (fun v h1 hq => ?_)
    obtain ⟨rfl, ⟨hp, rfl⟩ | ⟨hp, rfl⟩⟩ := hq
    · refine T_if_ne (pc' := 16) (tgt := 18) d_Tb_own_13 rfl (by decide) (fun _ => ?_) (fun hzz => absurd hzz (by decide))
      have hok : okP (σ.1 1) p := (isP_iff (by omega) p).mp hp
      rw [if_pos hok]
      obtain ⟨i, hi, rfl⟩ := hp
      rw [nI_clamp (by omega)]
      refine t18 _ ?_
      refine T_iload_n (pc' := 27) d_Tb_own_26 rfl rfl rfl ?_
      refine T_iconst (v := (-1)) (pc' := 28) d_Tb_own_27 rfl (by decide) ?_
      refine T_icmp_ne (pc' := 31) (tgt := 42) d_Tb_own_28 rfl (by decide) (fun _ => ?_) (fun hzz => absurd hzz hp1)
      refine T_aload_n (pc' := 43) d_Tb_own_42 rfl rfl rfl ?_
      refine T_get (pc' := 46) d_Tb_own_43 rfl g_Tb_19 (by first | assumption | exact e_put_s | simp [e_put, *]) rfl ?_
      refine T_iload_n (pc' := 47) d_Tb_own_46 rfl rfl rfl ?_
      refine T_iload_n (pc' := 48) d_Tb_own_47 rfl rfl rfl ?_
      refine T_V2i (pc' := 51) d_Tb_own_48 rfl l_Tb_229 v_To_ownIn (by first | assumption | exact e_put_s | simp [e_put, *]) (Nat.le_of_ble_eq_true rfl) (c_To_ownIn X _ h1 4 _ _ _ _ _ _ _ _ _ _ i (by omega) hn hm hi tr) (fun v h2 hq => ?_)
      obtain ⟨rfl, rfl⟩ := hq
      refine T_iret d_Tb_own_51 rfl ?_
      refine ⟨_, rfl, ?_, ci, Fr.rf⟩
      rw [o3 i hi, oN]
    · refine T_if_ne (pc' := 16) (tgt := 18) d_Tb_own_13 rfl (by decide) (fun hzz => absurd (by decide) hzz) (fun _ => ?_)
      refine T_iconst (v := (-1)) (pc' := 17) d_Tb_own_16 rfl (by decide) ?_
      refine T_iret d_Tb_own_17 rfl ?_
      exact ⟨_, rfl, by rw [if_neg (fun q => hp ((isP_iff (by omega) p).mpr q))], ci, Fr.rf⟩
