/-! Told: lifts, cover; what is told -/
/-- thoughts (of the first m) that lift a weight -/
def sLi (li : Nat → Int32) (w : Int32) : Nat → Int32
  | 0 => 0
  | t + 1 => sLi li w t ||| (if w < li t then 1 <<< (nI t &&& 31) else 0)
/-- each of the first n people is lifted by one of a set -/
def sCov (li we : Nat → Int32) (m : Nat) (set : Int32) (n : Nat) : Prop := ∀ p, p < n → ¬ sLi li (we p) m &&& set = 0
/-- the same, as a truth value -/
def sCovB (li we : Nat → Int32) (m : Nat) (set : Int32) : Nat → Bool
  | 0 => true
  | p + 1 => sCovB li we m set p && !(sLi li (we p) m &&& set == 0)
theorem sCovB_iff (li we : Nat → Int32) (m : Nat) (set : Int32) : ∀ n, sCovB li we m set n = true ↔ sCov li we m set n
  | 0 => ⟨fun _ p hp => absurd hp (Nat.not_lt_zero _), fun _ => rfl⟩
  | n + 1 => by
    rw [sCovB, Bool.and_eq_true, sCovB_iff li we m set n]
    constructor
    · rintro ⟨h1, h2⟩ p hp
      by_cases hpn : p = n
      · subst hpn; simpa using h2
      · exact h1 p (by omega)
    · intro h1
      exact ⟨fun p hp => h1 p (by omega), by simpa using h1 n (by omega)⟩
/-- the least of the first k sets that cover -/
def sCv (li we : Nat → Int32) (n m : Nat) : Nat → Int32
  | 0 => -9
  | k + 1 => if sCovB li we m (nI k) n = true ∧ (sCv li we n m k = -9 ∨ sBO (nI k) < sBO (sCv li we n m k)) then nI k else sCv li we n m k
theorem sCv_in (li we : Nat → Int32) (n m : Nat) : ∀ k, sCv li we n m k = -9 ∨ ∃ j, j < k ∧ sCv li we n m k = nI j
  | 0 => Or.inl rfl
  | k + 1 => by
    rw [sCv]
    by_cases hc : sCovB li we m (nI k) n = true ∧ (sCv li we n m k = -9 ∨ sBO (nI k) < sBO (sCv li we n m k))
    · rw [if_pos hc]; exact Or.inr ⟨k, by omega, rfl⟩
    · rw [if_neg hc]
      rcases sCv_in li we n m k with h1 | ⟨j, h1, h2⟩
      · exact Or.inl h1
      · exact Or.inr ⟨j, by omega, h2⟩
theorem s_shl : ∀ m, m < 5 → (1 : Int32) <<< (nI m &&& 31) = nI (2 ^ m) := by decide +kernel
section TO2
variable (X : EX) (d : Nat) (h : AH) (a n m : Nat) (wi we br li fa : Nat → Int32) (sta abf : Int32)
theorem c_To_canLift (t p : Nat) (ht : t < 4) (hp : p < 3) (tr : TR h a n m wi we br li fa sta abf) : Ci X d M_To_canLift [.ref a, .int (nI t), .int (nI p)] h (fun v h1 => h1 = h ∧ (we p < li t ∧ v = 1 ∨ ¬ we p < li t ∧ v = 0)) := by
  obtain ⟨t0, t1, t2, t3, t4, t5⟩ := tr
  refine C_of_T rfl rfl (Nat.le_of_ble_eq_true rfl) rfl ?_
  refine T_aload_n (pc' := 1) d_To_canLift_0 rfl rfl rfl ?_
  refine T_get (pc' := 4) d_To_canLift_1 rfl g_To_21 (by first | assumption | exact e_put_s | simp [e_put, *]) rfl ?_
  refine T_iload_n (pc' := 5) d_To_canLift_4 rfl rfl rfl ?_
  refine T_ialoadN t (pc' := 6) d_To_canLift_5 rfl t4 ⟨ht, by decide⟩ ?_
  refine T_aload_n (pc' := 7) d_To_canLift_6 rfl rfl rfl ?_
  refine T_get (pc' := 10) d_To_canLift_7 rfl g_To_15 (by first | assumption | exact e_put_s | simp [e_put, *]) rfl ?_
  refine T_iload_n (pc' := 11) d_To_canLift_10 rfl rfl rfl ?_
  refine T_ialoadN p (pc' := 12) d_To_canLift_11 rfl t2 ⟨hp, by decide⟩ ?_
  refine T_icmp_le (pc' := 15) (tgt := 19) d_To_canLift_12 rfl (by decide) (fun hc => ?_) (fun hc => ?_)
  · refine T_iconst (v := 0) (pc' := 20) d_To_canLift_19 rfl (by decide) ?_
    refine T_zret d_To_canLift_20 rfl (by first | assumption | exact Or.inl rfl | exact Or.inr rfl) ?_
    exact ⟨_, rfl, rfl, Or.inr ⟨Int32.not_lt.mpr hc, rfl⟩⟩
  · refine T_iconst (v := 1) (pc' := 16) d_To_canLift_15 rfl (by decide) ?_
    refine T_goto (pc' := 20) d_To_canLift_16 (by decide) ?_
    refine T_zret d_To_canLift_20 rfl (by first | assumption | exact Or.inl rfl | exact Or.inr rfl) ?_
    exact ⟨_, rfl, rfl, Or.inl ⟨Int32.not_le.mp hc, rfl⟩⟩
theorem l_To_liftsOf (p : Nat) (hp : p < 3) (hm : m ≤ 4) (tr : TR h a n m wi we br li fa sta abf) (Q : Option Value → AH → Prop) (hQ : Q (some (.int (sLi li (we p) m))) h) : ∀ (k i : Nat), i + k = m → T X (d + 1) M_To_liftsOf 4 [.ref a, .int (nI p), .int (sLi li (we p) i), .int (nI i)] [] h Q
  | 0, i, hi => by
    have : i = m := by omega
    subst this
    obtain ⟨t0, t1, t2, t3, t4, t5⟩ := tr
    refine T_iload_n (pc' := 5) d_To_liftsOf_4 rfl rfl rfl ?_
    refine T_aload_n (pc' := 6) d_To_liftsOf_5 rfl rfl rfl ?_
    refine T_get (pc' := 9) d_To_liftsOf_6 rfl g_To_31 (by first | assumption | exact e_put_s | simp [e_put, *]) rfl ?_
    refine T_icmp_ge (pc' := 12) (tgt := 37) d_To_liftsOf_9 rfl (by decide) (fun _ => ?_) (fun hzz => absurd (Int32.le_refl _) hzz)
    refine T_iload_n (pc' := 38) d_To_liftsOf_37 rfl rfl rfl ?_
    refine T_iret d_To_liftsOf_38 rfl ?_
    exact hQ
  | k + 1, i, hi => by
    have ih := l_To_liftsOf p hp hm tr Q hQ k (i + 1) (by omega)
    have tr' := tr
    obtain ⟨t0, t1, t2, t3, t4, t5⟩ := tr
    refine T_iload_n (pc' := 5) d_To_liftsOf_4 rfl rfl rfl ?_
    refine T_aload_n (pc' := 6) d_To_liftsOf_5 rfl rfl rfl ?_
    refine T_get (pc' := 9) d_To_liftsOf_6 rfl g_To_31 (by first | assumption | exact e_put_s | simp [e_put, *]) rfl ?_
    refine T_icmp_ge (pc' := 12) (tgt := 37) d_To_liftsOf_9 rfl (by decide) (fun hzz => absurd hzz (nI_ge (by omega) (by omega))) (fun _ => ?_)
    refine T_iload_n (pc' := 13) d_To_liftsOf_12 rfl rfl rfl ?_
    refine T_aload_n (pc' := 14) d_To_liftsOf_13 rfl rfl rfl ?_
    refine T_iload_n (pc' := 15) d_To_liftsOf_14 rfl rfl rfl ?_
    refine T_iload_n (pc' := 16) d_To_liftsOf_15 rfl rfl rfl ?_
    refine T_V2i (pc' := 19) d_To_liftsOf_16 rfl l_To_119 v_To_canLift (by first | assumption | exact e_put_s | simp [e_put, *]) (Nat.le_of_ble_eq_true rfl) (c_To_canLift X d h a n m wi we br li fa sta abf i p (by omega) hp tr') (fun v h1 hq => ?_)
    obtain ⟨rfl, ⟨hp, rfl⟩ | ⟨hp, rfl⟩⟩ := hq
    · refine T_if_eq (pc' := 22) (tgt := 28) d_To_liftsOf_19 rfl (by decide) (fun hzz => absurd hzz (by decide)) (fun _ => ?_)
      refine T_iconst (v := 1) (pc' := 23) d_To_liftsOf_22 rfl (by decide) ?_
      refine T_iload_n (pc' := 24) d_To_liftsOf_23 rfl rfl rfl ?_
      refine T_ishl (pc' := 25) d_To_liftsOf_24 rfl ?_
      refine T_goto (pc' := 29) d_To_liftsOf_25 (by decide) ?_
      refine T_ior (pc' := 30) d_To_liftsOf_29 rfl ?_
      refine T_is_n2 (pc' := 31) d_To_liftsOf_30 rfl rfl (Nat.le_of_ble_eq_true rfl) rfl ?_
      refine T_ii3 (c := 1) (pc' := 34) d_To_liftsOf_31 rfl (by decide) (Nat.le_of_ble_eq_true rfl) rfl ?_
      rw [nI_1]
      refine T_goto (pc' := 4) d_To_liftsOf_34 (by decide) ?_
      rw [sLi, if_pos hp] at ih
      exact ih
    · refine T_if_eq (pc' := 22) (tgt := 28) d_To_liftsOf_19 rfl (by decide) (fun _ => ?_) (fun hzz => absurd (by decide) hzz)
      refine T_iconst (v := 0) (pc' := 29) d_To_liftsOf_28 rfl (by decide) ?_
      refine T_ior (pc' := 30) d_To_liftsOf_29 rfl ?_
      refine T_is_n2 (pc' := 31) d_To_liftsOf_30 rfl rfl (Nat.le_of_ble_eq_true rfl) rfl ?_
      refine T_ii3 (c := 1) (pc' := 34) d_To_liftsOf_31 rfl (by decide) (Nat.le_of_ble_eq_true rfl) rfl ?_
      rw [nI_1]
      refine T_goto (pc' := 4) d_To_liftsOf_34 (by decide) ?_
      rw [sLi, if_neg hp] at ih
      exact ih
theorem c_To_liftsOf (p : Nat) (hp : p < 3) (hm : m ≤ 4) (tr : TR h a n m wi we br li fa sta abf) : Ci X (d + 1) M_To_liftsOf [.ref a, .int (nI p)] h (fun v h1 => h1 = h ∧ v = sLi li (we p) m) := by
  refine C_of_T rfl rfl (Nat.le_of_ble_eq_true rfl) rfl ?_
  refine T_iconst (v := 0) (pc' := 1) d_To_liftsOf_0 rfl (by decide) ?_
  refine T_is_n2 (pc' := 2) d_To_liftsOf_1 rfl rfl (Nat.le_of_ble_eq_true rfl) rfl ?_
  refine T_iconst (v := 0) (pc' := 3) d_To_liftsOf_2 rfl (by decide) ?_
  refine T_is_n3 (pc' := 4) d_To_liftsOf_3 rfl rfl (Nat.le_of_ble_eq_true rfl) rfl ?_
  exact l_To_liftsOf X d h a n m wi we br li fa sta abf p hp hm tr _ ⟨_, rfl, rfl, rfl⟩ m 0 (by omega)
theorem l_To_covers (set : Int32) (hn : n ≤ 3) (hm : m ≤ 4) (tr : TR h a n m wi we br li fa sta abf) (Q : Option Value → AH → Prop) (hQ1 : sCovB li we m set n = true → Q (some (.int 1)) h) (hQ0 : ¬ sCovB li we m set n = true → Q (some (.int 0)) h) : ∀ (k i : Nat), i + k = n → sCov li we m set i → T X (d + 2) M_To_covers 2 [.ref a, .int set, .int (nI i)] [] h Q
  | 0, i, hi, hc => by
    have : i = n := by omega
    subst this
    obtain ⟨t0, t1, t2, t3, t4, t5⟩ := tr
    refine T_iload_n (pc' := 3) d_To_covers_2 rfl rfl rfl ?_
    refine T_aload_n (pc' := 4) d_To_covers_3 rfl rfl rfl ?_
    refine T_get (pc' := 7) d_To_covers_4 rfl g_To_27 (by first | assumption | exact e_put_s | simp [e_put, *]) rfl ?_
    refine T_icmp_ge (pc' := 10) (tgt := 28) d_To_covers_7 rfl (by decide) (fun _ => ?_) (fun hzz => absurd (Int32.le_refl _) hzz)
    refine T_iconst (v := 1) (pc' := 29) d_To_covers_28 rfl (by decide) ?_
    refine T_zret d_To_covers_29 rfl (by first | assumption | exact Or.inl rfl | exact Or.inr rfl) ?_
    exact hQ1 ((sCovB_iff _ _ _ _ _).mpr hc)
  | k + 1, i, hi, hc => by
    have ih := l_To_covers set hn hm tr Q hQ1 hQ0 k (i + 1) (by omega)
    have tr' := tr
    obtain ⟨t0, t1, t2, t3, t4, t5⟩ := tr
    refine T_iload_n (pc' := 3) d_To_covers_2 rfl rfl rfl ?_
    refine T_aload_n (pc' := 4) d_To_covers_3 rfl rfl rfl ?_
    refine T_get (pc' := 7) d_To_covers_4 rfl g_To_27 (by first | assumption | exact e_put_s | simp [e_put, *]) rfl ?_
    refine T_icmp_ge (pc' := 10) (tgt := 28) d_To_covers_7 rfl (by decide) (fun hzz => absurd hzz (nI_ge (by omega) (by omega))) (fun _ => ?_)
    refine T_aload_n (pc' := 11) d_To_covers_10 rfl rfl rfl ?_
    refine T_iload_n (pc' := 12) d_To_covers_11 rfl rfl rfl ?_
    refine T_V1i (pc' := 15) d_To_covers_12 rfl l_To_131 v_To_liftsOf (by first | assumption | exact e_put_s | simp [e_put, *]) (Nat.le_of_ble_eq_true rfl) (c_To_liftsOf X d h a n m wi we br li fa sta abf i (by omega) hm tr') (fun v h1 hq => ?_)
    obtain ⟨rfl, rfl⟩ := hq
    refine T_iload_n (pc' := 16) d_To_covers_15 rfl rfl rfl ?_
    refine T_iand (pc' := 17) d_To_covers_16 rfl ?_
    by_cases hz : sLi li (we i) m &&& set = 0
    · refine T_if_ne (pc' := 20) (tgt := 22) d_To_covers_17 rfl (by decide) (fun hzz => absurd hz hzz) (fun _ => ?_)
      refine T_iconst (v := 0) (pc' := 21) d_To_covers_20 rfl (by decide) ?_
      refine T_zret d_To_covers_21 rfl (by first | assumption | exact Or.inl rfl | exact Or.inr rfl) ?_
      exact hQ0 (fun q => (sCovB_iff _ _ _ _ _).mp q i (by omega) hz)
    · refine T_if_ne (pc' := 20) (tgt := 22) d_To_covers_17 rfl (by decide) (fun _ => ?_) (fun hzz => absurd hzz hz)
      refine T_ii2 (c := 1) (pc' := 25) d_To_covers_22 rfl (by decide) (Nat.le_of_ble_eq_true rfl) rfl ?_
      rw [nI_1]
      refine T_goto (pc' := 2) d_To_covers_25 (by decide) ?_
      refine ih (fun p hp => ?_)
      by_cases hpi : p = i
      · subst hpi; exact hz
      · exact hc p (by omega)
theorem c_To_covers (set : Int32) (hn : n ≤ 3) (hm : m ≤ 4) (tr : TR h a n m wi we br li fa sta abf) : Ci X (d + 2) M_To_covers [.ref a, .int set] h (fun v h1 => h1 = h ∧ (sCovB li we m set n = true ∧ v = 1 ∨ ¬ sCovB li we m set n = true ∧ v = 0)) := by
  refine C_of_T rfl rfl (Nat.le_of_ble_eq_true rfl) rfl ?_
  refine T_iconst (v := 0) (pc' := 1) d_To_covers_0 rfl (by decide) ?_
  refine T_is_n2 (pc' := 2) d_To_covers_1 rfl rfl (Nat.le_of_ble_eq_true rfl) rfl ?_
  exact l_To_covers X d h a n m wi we br li fa sta abf set hn hm tr _ (fun q => ⟨_, rfl, rfl, Or.inl ⟨q, rfl⟩⟩) (fun q => ⟨_, rfl, rfl, Or.inr ⟨q, rfl⟩⟩) n 0 (by omega) (fun p hp => by omega)
theorem l_To_cover (hn : n ≤ 3) (hm : m ≤ 4) (tr : TR h a n m wi we br li fa sta abf) (Q : Option Value → AH → Prop) (hQ : Q (some (.int (sCv li we n m (2 ^ m)))) h) : ∀ (k i : Nat), i + k = 2 ^ m → T X (d + 3) M_To_cover 5 [.ref a, .int (sCv li we n m i), .int (nI i)] [] h Q
  | 0, i, hi => by
    have : i = 2 ^ m := by omega
    subst this
    obtain ⟨t0, t1, t2, t3, t4, t5⟩ := tr
    refine T_iload_n (pc' := 6) d_To_cover_5 rfl rfl rfl ?_
    refine T_iconst (v := 1) (pc' := 7) d_To_cover_6 rfl (by decide) ?_
    refine T_aload_n (pc' := 8) d_To_cover_7 rfl rfl rfl ?_
    refine T_get (pc' := 11) d_To_cover_8 rfl g_To_31 (by first | assumption | exact e_put_s | simp [e_put, *]) rfl ?_
    refine T_ishl (pc' := 12) d_To_cover_11 rfl ?_
    rw [s_shl m (by omega)]
    refine T_icmp_ge (pc' := 15) (tgt := 48) d_To_cover_12 rfl (by decide) (fun _ => ?_) (fun hzz => absurd (Int32.le_refl _) hzz)
    refine T_iload_n (pc' := 49) d_To_cover_48 rfl rfl rfl ?_
    refine T_iret d_To_cover_49 rfl ?_
    exact hQ
  | k + 1, i, hi => by
    have ih := l_To_cover hn hm tr Q hQ k (i + 1) (by omega)
    have tr' := tr
    obtain ⟨t0, t1, t2, t3, t4, t5⟩ := tr
    have h16 : 2 ^ m ≤ 16 := by
      have : m = 0 ∨ m = 1 ∨ m = 2 ∨ m = 3 ∨ m = 4 := by omega
      rcases this with rfl | rfl | rfl | rfl | rfl <;> decide
    refine T_iload_n (pc' := 6) d_To_cover_5 rfl rfl rfl ?_
    refine T_iconst (v := 1) (pc' := 7) d_To_cover_6 rfl (by decide) ?_
    refine T_aload_n (pc' := 8) d_To_cover_7 rfl rfl rfl ?_
    refine T_get (pc' := 11) d_To_cover_8 rfl g_To_31 (by first | assumption | exact e_put_s | simp [e_put, *]) rfl ?_
    refine T_ishl (pc' := 12) d_To_cover_11 rfl ?_
    rw [s_shl m (by omega)]
    refine T_icmp_ge (pc' := 15) (tgt := 48) d_To_cover_12 rfl (by decide) (fun hzz => absurd hzz (nI_ge (by omega) (by omega))) (fun _ => ?_)
    refine T_aload_n (pc' := 16) d_To_cover_15 rfl rfl rfl ?_
    refine T_iload_n (pc' := 17) d_To_cover_16 rfl rfl rfl ?_
    refine T_V1i (pc' := 20) d_To_cover_17 rfl l_To_123 v_To_covers (by first | assumption | exact e_put_s | simp [e_put, *]) (Nat.le_of_ble_eq_true rfl) (c_To_covers X d h a n m wi we br li fa sta abf (nI i) hn hm tr') (fun v h1 hq => ?_)
    have fin : ∀ v : Int32, v = sCv li we n m (i + 1) → T X (d + 3) M_To_cover 42 [.ref a, .int v, .int (nI i)] [] h Q := by
      intro v hv
      subst hv
      refine T_ii2 (c := 1) (pc' := 45) d_To_cover_42 rfl (by decide) (Nat.le_of_ble_eq_true rfl) rfl ?_
      rw [nI_1]
      refine T_goto (pc' := 5) d_To_cover_45 (by decide) ?_
      exact ih
    obtain ⟨rfl, ⟨hp, rfl⟩ | ⟨hp, rfl⟩⟩ := hq
    · refine T_if_eq (pc' := 23) (tgt := 42) d_To_cover_20 rfl (by decide) (fun hzz => absurd hzz (by decide)) (fun _ => ?_)
      refine T_iload_n (pc' := 24) d_To_cover_23 rfl rfl rfl ?_
      refine T_bipush (v := (-9)) (pc' := 26) d_To_cover_24 rfl (by decide) ?_
      by_cases h9 : sCv li we n m i = -9
      · refine T_icmp_eq (pc' := 29) (tgt := 40) d_To_cover_26 rfl (by decide) (fun _ => ?_) (fun hzz => absurd h9 hzz)
        refine T_iload_n (pc' := 41) d_To_cover_40 rfl rfl rfl ?_
        refine T_is_n1 (pc' := 42) d_To_cover_41 rfl rfl (Nat.le_of_ble_eq_true rfl) rfl ?_
        exact fin _ (by rw [sCv, if_pos ⟨hp, Or.inl h9⟩])
      · refine T_icmp_eq (pc' := 29) (tgt := 40) d_To_cover_26 rfl (by decide) (fun hzz => absurd hzz h9) (fun _ => ?_)
        obtain ⟨j, hj, hje⟩ := (sCv_in li we n m i).resolve_left h9
        refine T_iload_n (pc' := 30) d_To_cover_29 rfl rfl rfl ?_
        refine T_S1i (pc' := 33) d_To_cover_30 rfl l_To_126 v_In_bitCount (Nat.le_of_ble_eq_true rfl) (c_In_bitCount X (d + 2) h1 (nI i)) (fun v h2 hq => ?_)
        obtain ⟨rfl, rfl⟩ := hq
        refine T_iload_n (pc' := 34) d_To_cover_33 rfl rfl rfl ?_
        refine T_S1i (pc' := 37) d_To_cover_34 rfl l_To_126 v_In_bitCount (Nat.le_of_ble_eq_true rfl) (c_In_bitCount X (d + 2) h2 (sCv li we n m i)) (fun v h3 hq => ?_)
        obtain ⟨rfl, rfl⟩ := hq
        have e1 : sBC (nI i) = sBO (nI i) := sBC_BO i (by omega)
        have e2 : sBC (sCv li we n m i) = sBO (sCv li we n m i) := by rw [hje]; exact sBC_BO j (by omega)
        rw [e1, e2]
        by_cases hl : sBO (nI i) < sBO (sCv li we n m i)
        · refine T_icmp_ge (pc' := 40) (tgt := 42) d_To_cover_37 rfl (by decide) (fun hzz => absurd hzz (Int32.not_le.mpr hl)) (fun _ => ?_)
          refine T_iload_n (pc' := 41) d_To_cover_40 rfl rfl rfl ?_
          refine T_is_n1 (pc' := 42) d_To_cover_41 rfl rfl (Nat.le_of_ble_eq_true rfl) rfl ?_
          exact fin _ (by rw [sCv, if_pos ⟨hp, Or.inr hl⟩])
        · refine T_icmp_ge (pc' := 40) (tgt := 42) d_To_cover_37 rfl (by decide) (fun _ => ?_) (fun hzz => absurd (Int32.not_lt.mp hl) hzz)
          exact fin _ (by rw [sCv, if_neg (fun q => q.2.elim h9 hl)])
    · refine T_if_eq (pc' := 23) (tgt := 42) d_To_cover_20 rfl (by decide) (fun _ => ?_) (fun hzz => absurd (by decide) hzz)
      exact fin _ (by rw [sCv, if_neg (fun q => hp q.1)])
theorem c_To_cover (hn : n ≤ 3) (hm : m ≤ 4) (tr : TR h a n m wi we br li fa sta abf) : Ci X (d + 3) M_To_cover [.ref a] h (fun v h1 => h1 = h ∧ v = sCv li we n m (2 ^ m)) := by
  refine C_of_T rfl rfl (Nat.le_of_ble_eq_true rfl) rfl ?_
  refine T_bipush (v := (-9)) (pc' := 2) d_To_cover_0 rfl (by decide) ?_
  refine T_is_n1 (pc' := 3) d_To_cover_2 rfl rfl (Nat.le_of_ble_eq_true rfl) rfl ?_
  refine T_iconst (v := 0) (pc' := 4) d_To_cover_3 rfl (by decide) ?_
  refine T_is_n2 (pc' := 5) d_To_cover_4 rfl rfl (Nat.le_of_ble_eq_true rfl) rfl ?_
  exact l_To_cover X d h a n m wi we br li fa sta abf hn hm tr _ ⟨_, rfl, rfl, rfl⟩ (2 ^ m) 0 (by omega)
theorem c_To_tellNothing (tr : TR h a n m wi we br li fa sta abf) : Cv X (d + 1) M_To_tellNothing [.ref a] h (fun h1 => TR h1 a 0 0 (fun j => if j < 10 then 0 else wi j) we br li fa 20 0 ∧ Fr a (a + 6) h h1) := by
  obtain ⟨t0, t1, t2, t3, t4, t5⟩ := tr
  refine C_of_T rfl rfl (Nat.le_of_ble_eq_true rfl) rfl ?_
  refine T_aload_n (pc' := 1) d_To_tellNothing_0 rfl rfl rfl ?_
  refine T_get (pc' := 4) d_To_tellNothing_1 rfl g_To_9 (by first | assumption | exact e_put_s | simp [e_put, *]) rfl ?_
  refine T_iconst (v := 0) (pc' := 5) d_To_tellNothing_4 rfl (by decide) ?_
  refine T_S2v (pc' := 8) d_To_tellNothing_5 rfl l_To_40 v_Ar_fill (Nat.le_of_ble_eq_true rfl) (c_Ar_fill X d h (a + 1) 10 wi 0 (by decide) t1) (fun h1 hq => ?_)
  subst hq
  refine T_aload_n (pc' := 9) d_To_tellNothing_8 rfl rfl rfl ?_
  refine T_iconst (v := 0) (pc' := 10) d_To_tellNothing_9 rfl (by decide) ?_
  refine T_puti5 (pc' := 13) d_To_tellNothing_10 rfl f_To_27 (fun z => absurd z Bool.false_ne_true) (by first | exact e_put_s | exact (e_put_n (by omega)).trans t0) ?_
  refine T_aload_n (pc' := 14) d_To_tellNothing_13 rfl rfl rfl ?_
  refine T_iconst (v := 0) (pc' := 15) d_To_tellNothing_14 rfl (by decide) ?_
  refine T_puti6 (pc' := 18) d_To_tellNothing_15 rfl f_To_31 (fun z => absurd z Bool.false_ne_true) (by first | exact e_put_s | exact (e_put_n (by omega)).trans t0) ?_
  refine T_aload_n (pc' := 19) d_To_tellNothing_18 rfl rfl rfl ?_
  refine T_bipush (v := 20) (pc' := 21) d_To_tellNothing_19 rfl (by decide) ?_
  refine T_puti7 (pc' := 24) d_To_tellNothing_21 rfl f_To_34 (fun z => absurd z Bool.false_ne_true) (by first | exact e_put_s | exact (e_put_n (by omega)).trans t0) ?_
  refine T_aload_n (pc' := 25) d_To_tellNothing_24 rfl rfl rfl ?_
  refine T_iconst (v := 0) (pc' := 26) d_To_tellNothing_25 rfl (by decide) ?_
  refine T_puti8 (pc' := 29) d_To_tellNothing_26 rfl f_To_37 (fun z => absurd z Bool.false_ne_true) (by first | exact e_put_s | exact (e_put_n (by omega)).trans t0) ?_
  refine T_vret d_To_tellNothing_29 rfl ?_
  simp only [e_pp]
  refine ⟨trivial, ⟨e_put_s, ?_, ?_, ?_, ?_, ?_⟩, ?_⟩
  · rw [e_put_n (by omega), e_put_s]; rfl
  · rw [e_put_n (by omega), e_put_n (by omega)]; exact t2
  · rw [e_put_n (by omega), e_put_n (by omega)]; exact t3
  · rw [e_put_n (by omega), e_put_n (by omega)]; exact t4
  · rw [e_put_n (by omega), e_put_n (by omega)]; exact t5
  · exact (Fr.rf.put ⟨by omega, by omega⟩).put ⟨by omega, by omega⟩
theorem c_To_tellWind (k : Nat) (w : Int32) (hk : 1 ≤ k ∧ k ≤ 9) (tr : TR h a n m wi we br li fa sta abf) : Cv X (d + 1) M_To_tellWind [.ref a, .int (nI k), .int w] h (fun h1 => TR h1 a n m (e_up wi k (w - 3)) we br li fa sta abf ∧ Fr a (a + 6) h h1) := by
  obtain ⟨t0, t1, t2, t3, t4, t5⟩ := tr
  refine C_of_T rfl rfl (Nat.le_of_ble_eq_true rfl) rfl ?_
  refine T_iload_n (pc' := 1) d_To_tellWind_0 rfl rfl rfl ?_
  refine T_iconst (v := 1) (pc' := 2) d_To_tellWind_1 rfl (by decide) ?_
  refine T_bipush (v := 9) (pc' := 4) d_To_tellWind_2 rfl (by decide) ?_
  refine T_S3i (pc' := 7) d_To_tellWind_4 rfl l_To_52 v_Tb_within (Nat.le_of_ble_eq_true rfl) (c_Tb_within X d h (nI k) 1 9) (fun v h1 hq => ?_)
  obtain ⟨rfl, ⟨hp, rfl⟩ | ⟨hp, rfl⟩⟩ := hq
  · refine T_if_eq (pc' := 10) (tgt := 19) d_To_tellWind_7 rfl (by decide) (fun hzz => absurd hzz (by decide)) (fun _ => ?_)
    refine T_aload_n (pc' := 11) d_To_tellWind_10 rfl rfl rfl ?_
    refine T_get (pc' := 14) d_To_tellWind_11 rfl g_To_9 (by first | assumption | exact e_put_s | simp [e_put, *]) rfl ?_
    refine T_iload_n (pc' := 15) d_To_tellWind_14 rfl rfl rfl ?_
    refine T_iload_n (pc' := 16) d_To_tellWind_15 rfl rfl rfl ?_
    refine T_iconst (v := 3) (pc' := 17) d_To_tellWind_16 rfl (by decide) ?_
    refine T_isub (pc' := 18) d_To_tellWind_17 rfl ?_
    refine T_iastoreN k (pc' := 19) d_To_tellWind_18 rfl t1 ⟨by omega, by decide⟩ ?_
    refine T_vret d_To_tellWind_19 rfl ?_
    exact ⟨rfl, ⟨(e_put_n (by omega)).trans t0, e_put_s, (e_put_n (by omega)).trans t2, (e_put_n (by omega)).trans t3, (e_put_n (by omega)).trans t4, (e_put_n (by omega)).trans t5⟩, Fr.rf.put ⟨by omega, by omega⟩⟩
  · exact absurd ⟨nI_le (a := 1) hk.1 (by omega), nI_le (b := 9) hk.2 (by decide)⟩ hp
theorem c_To_tellPerson (w b i : Int32) (hn : n < 3) (tr : TR h a n m wi we br li fa sta abf) : Cv X d M_To_tellPerson [.ref a, .int w, .int b, .int i] h (fun h1 => TR h1 a (n + 1) m wi (e_up we n w) (e_up br n b) li fa sta (abf ||| (i <<< (nI n &&& 31))) ∧ Fr a (a + 6) h h1) := by
  obtain ⟨t0, t1, t2, t3, t4, t5⟩ := tr
  refine C_of_T rfl rfl (Nat.le_of_ble_eq_true rfl) rfl ?_
  refine T_aload_n (pc' := 1) d_To_tellPerson_0 rfl rfl rfl ?_
  refine T_get (pc' := 4) d_To_tellPerson_1 rfl g_To_27 (by first | assumption | exact e_put_s | simp [e_put, *]) rfl ?_
  refine T_iconst (v := 3) (pc' := 5) d_To_tellPerson_4 rfl (by decide) ?_
  refine T_icmp_ge (pc' := 8) (tgt := 53) d_To_tellPerson_5 rfl (by decide) (fun hzz => absurd hzz (nI_ge (b := 3) hn (by decide))) (fun _ => ?_)
  refine T_aload_n (pc' := 9) d_To_tellPerson_8 rfl rfl rfl ?_
  refine T_get (pc' := 12) d_To_tellPerson_9 rfl g_To_15 (by first | assumption | exact e_put_s | simp [e_put, *]) rfl ?_
  refine T_aload_n (pc' := 13) d_To_tellPerson_12 rfl rfl rfl ?_
  refine T_get (pc' := 16) d_To_tellPerson_13 rfl g_To_27 (by first | assumption | exact e_put_s | simp [e_put, *]) rfl ?_
  refine T_iload_n (pc' := 17) d_To_tellPerson_16 rfl rfl rfl ?_
  refine T_iastoreN n (pc' := 18) d_To_tellPerson_17 rfl t2 ⟨hn, by decide⟩ ?_
  refine T_aload_n (pc' := 19) d_To_tellPerson_18 rfl rfl rfl ?_
  refine T_get (pc' := 22) d_To_tellPerson_19 rfl g_To_18 ((e_put_n (by omega)).trans t0) rfl ?_
  refine T_aload_n (pc' := 23) d_To_tellPerson_22 rfl rfl rfl ?_
  refine T_get (pc' := 26) d_To_tellPerson_23 rfl g_To_27 ((e_put_n (by omega)).trans t0) rfl ?_
  refine T_iload_n (pc' := 27) d_To_tellPerson_26 rfl rfl rfl ?_
  refine T_iastoreN n (pc' := 28) d_To_tellPerson_27 rfl ((e_put_n (by omega)).trans t3) ⟨hn, by decide⟩ ?_
  refine T_aload_n (pc' := 29) d_To_tellPerson_28 rfl rfl rfl ?_
  refine T_dup (pc' := 30) d_To_tellPerson_29 rfl rfl ?_
  refine T_get (pc' := 33) d_To_tellPerson_30 rfl g_To_37 ((e_put_n (by omega)).trans ((e_put_n (by omega)).trans t0)) rfl ?_
  refine T_iload_n (pc' := 34) d_To_tellPerson_33 rfl rfl rfl ?_
  refine T_aload_n (pc' := 35) d_To_tellPerson_34 rfl rfl rfl ?_
  refine T_get (pc' := 38) d_To_tellPerson_35 rfl g_To_27 ((e_put_n (by omega)).trans ((e_put_n (by omega)).trans t0)) rfl ?_
  refine T_ishl (pc' := 39) d_To_tellPerson_38 rfl ?_
  refine T_ior (pc' := 40) d_To_tellPerson_39 rfl ?_
  refine T_puti8 (pc' := 43) d_To_tellPerson_40 rfl f_To_37 (fun z => absurd z Bool.false_ne_true) ((e_put_n (by omega)).trans ((e_put_n (by omega)).trans t0)) ?_
  refine T_aload_n (pc' := 44) d_To_tellPerson_43 rfl rfl rfl ?_
  refine T_dup (pc' := 45) d_To_tellPerson_44 rfl rfl ?_
  refine T_get (pc' := 48) d_To_tellPerson_45 rfl g_To_27 e_put_s rfl ?_
  refine T_iconst (v := 1) (pc' := 49) d_To_tellPerson_48 rfl (by decide) ?_
  refine T_iadd (pc' := 50) d_To_tellPerson_49 rfl ?_
  refine T_puti5 (pc' := 53) d_To_tellPerson_50 rfl f_To_27 (fun z => absurd z Bool.false_ne_true) e_put_s ?_
  rw [e_pp, nI_1]
  refine T_vret d_To_tellPerson_53 rfl ?_
  refine ⟨rfl, ⟨e_put_s, ?_, ?_, ?_, ?_, ?_⟩, ?_⟩
  · rw [e_put_n (by omega), e_put_n (by omega), e_put_n (by omega)]; exact t1
  · rw [e_put_n (by omega), e_put_n (by omega), e_put_s]
  · rw [e_put_n (by omega), e_put_s]
  · rw [e_put_n (by omega), e_put_n (by omega), e_put_n (by omega)]; exact t4
  · rw [e_put_n (by omega), e_put_n (by omega), e_put_n (by omega)]; exact t5
  · exact ((Fr.rf.put ⟨by omega, by omega⟩).put ⟨by omega, by omega⟩).put ⟨by omega, by omega⟩
theorem c_To_tellThought (l f : Int32) (hm : m < 4) (tr : TR h a n m wi we br li fa sta abf) : Cv X d M_To_tellThought [.ref a, .int l, .int f] h (fun h1 => TR h1 a n (m + 1) wi we br (e_up li m l) (e_up fa m f) sta abf ∧ Fr a (a + 6) h h1) := by
  obtain ⟨t0, t1, t2, t3, t4, t5⟩ := tr
  refine C_of_T rfl rfl (Nat.le_of_ble_eq_true rfl) rfl ?_
  refine T_aload_n (pc' := 1) d_To_tellThought_0 rfl rfl rfl ?_
  refine T_get (pc' := 4) d_To_tellThought_1 rfl g_To_31 (by first | assumption | exact e_put_s | simp [e_put, *]) rfl ?_
  refine T_iconst (v := 4) (pc' := 5) d_To_tellThought_4 rfl (by decide) ?_
  refine T_icmp_ge (pc' := 8) (tgt := 38) d_To_tellThought_5 rfl (by decide) (fun hzz => absurd hzz (nI_ge (b := 4) hm (by decide))) (fun _ => ?_)
  refine T_aload_n (pc' := 9) d_To_tellThought_8 rfl rfl rfl ?_
  refine T_get (pc' := 12) d_To_tellThought_9 rfl g_To_21 (by first | assumption | exact e_put_s | simp [e_put, *]) rfl ?_
  refine T_aload_n (pc' := 13) d_To_tellThought_12 rfl rfl rfl ?_
  refine T_get (pc' := 16) d_To_tellThought_13 rfl g_To_31 (by first | assumption | exact e_put_s | simp [e_put, *]) rfl ?_
  refine T_iload_n (pc' := 17) d_To_tellThought_16 rfl rfl rfl ?_
  refine T_iastoreN m (pc' := 18) d_To_tellThought_17 rfl t4 ⟨hm, by decide⟩ ?_
  refine T_aload_n (pc' := 19) d_To_tellThought_18 rfl rfl rfl ?_
  refine T_get (pc' := 22) d_To_tellThought_19 rfl g_To_24 ((e_put_n (by omega)).trans t0) rfl ?_
  refine T_aload_n (pc' := 23) d_To_tellThought_22 rfl rfl rfl ?_
  refine T_get (pc' := 26) d_To_tellThought_23 rfl g_To_31 ((e_put_n (by omega)).trans t0) rfl ?_
  refine T_iload_n (pc' := 27) d_To_tellThought_26 rfl rfl rfl ?_
  refine T_iastoreN m (pc' := 28) d_To_tellThought_27 rfl ((e_put_n (by omega)).trans t5) ⟨hm, by decide⟩ ?_
  refine T_aload_n (pc' := 29) d_To_tellThought_28 rfl rfl rfl ?_
  refine T_dup (pc' := 30) d_To_tellThought_29 rfl rfl ?_
  refine T_get (pc' := 33) d_To_tellThought_30 rfl g_To_31 ((e_put_n (by omega)).trans ((e_put_n (by omega)).trans t0)) rfl ?_
  refine T_iconst (v := 1) (pc' := 34) d_To_tellThought_33 rfl (by decide) ?_
  refine T_iadd (pc' := 35) d_To_tellThought_34 rfl ?_
  refine T_puti6 (pc' := 38) d_To_tellThought_35 rfl f_To_31 (fun z => absurd z Bool.false_ne_true) ((e_put_n (by omega)).trans ((e_put_n (by omega)).trans t0)) ?_
  rw [nI_1]
  refine T_vret d_To_tellThought_38 rfl ?_
  refine ⟨rfl, ⟨e_put_s, ?_, ?_, ?_, ?_, ?_⟩, ?_⟩
  · rw [e_put_n (by omega), e_put_n (by omega), e_put_n (by omega)]; exact t1
  · rw [e_put_n (by omega), e_put_n (by omega), e_put_n (by omega)]; exact t2
  · rw [e_put_n (by omega), e_put_n (by omega), e_put_n (by omega)]; exact t3
  · rw [e_put_n (by omega), e_put_n (by omega), e_put_s]
  · rw [e_put_n (by omega), e_put_s]
  · exact ((Fr.rf.put ⟨by omega, by omega⟩).put ⟨by omega, by omega⟩).put ⟨by omega, by omega⟩
end TO2
