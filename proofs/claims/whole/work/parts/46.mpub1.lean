/-! the model: type, clear, wind, one, thought, count, trace -/
theorem s_pred {n : Nat} (hn : n < 2 ^ 31) (p : Int32) : (0 ≤ p ∧ p ≤ nI n - 1) ↔ isP n p := by
  have hz : (0 : Int32).toInt = 0 := by decide
  constructor
  · rintro ⟨h1, h2⟩
    rcases Nat.eq_zero_or_pos n with z | z
    · subst z
      have : (nI 0 - 1 : Int32).toInt = -1 := by decide
      have a := Int32.le_iff_toInt_le.mp h1
      have b := Int32.le_iff_toInt_le.mp h2
      omega
    · obtain ⟨k, rfl⟩ : ∃ k, n = k + 1 := ⟨n - 1, by omega⟩
      rw [nI_pred] at h2
      obtain ⟨j, hj, rfl⟩ := nI_of (Int32.not_lt.mpr h1)
      exact ⟨j, by have := (nI_leI hj (by omega)).mp h2; omega, rfl⟩
  · rintro ⟨i, hi, rfl⟩
    obtain ⟨k, rfl⟩ : ∃ k, n = k + 1 := ⟨n - 1, by omega⟩
    rw [nI_pred]
    exact ⟨nI_pos' (by omega), nI_le (by omega) (by omega)⟩
section MPUB1
variable (X : EX) (d : Nat) (h : AH) (σ : Sp)
theorem c_Mo_isOne (n m : Nat) (wi we br li fa : Nat → Int32) (p : Int32) (hn : n ≤ 3) (mt : MT h n m wi we br li fa) : Ci X (d + 1) M_Mo_isOne [.ref 86, .int p] h (fun v h1 => h1 = h ∧ (isP n p ∧ v = 1 ∨ ¬ isP n p ∧ v = 0)) := by
  obtain ⟨⟨sc, tc, h0⟩, ⟨f1, h1, e1⟩, ⟨f2, h2, e2⟩, -⟩ := mt
  refine C_of_T rfl rfl (Nat.le_of_ble_eq_true rfl) rfl ?_
  refine T_iload_n (pc' := 1) d_Mo_isOne_0 rfl rfl rfl ?_
  refine T_iconst (v := 0) (pc' := 2) d_Mo_isOne_1 rfl (by decide) ?_
  refine T_aload_n (pc' := 3) d_Mo_isOne_2 rfl rfl rfl ?_
  refine T_get (pc' := 6) d_Mo_isOne_3 rfl g_Mo_17 (by first | assumption | exact e_put_s | simp [e_put, *]) rfl ?_
  refine T_iconst (v := 0) (pc' := 7) d_Mo_isOne_6 rfl (by decide) ?_
  refine T_ialoadL 0 (pc' := 8) d_Mo_isOne_7 rfl (by first | assumption | exact e_put_s | simp [e_put, *]) (by decide) ?_
  refine T_iconst (v := 1) (pc' := 9) d_Mo_isOne_8 rfl (by decide) ?_
  refine T_isub (pc' := 10) d_Mo_isOne_9 rfl ?_
  rw [e2]
  refine T_S3i (pc' := 13) d_Mo_isOne_10 rfl l_Mo_78 v_Mo_in (Nat.le_of_ble_eq_true rfl) (c_Mo_in X d h p 0 (nI n - 1)) (fun v h9 hq => ?_)
  obtain ⟨rfl, hq⟩ := hq
  rw [s_pred (by omega)] at hq
  have hv : v = 0 ∨ v = 1 := hq.elim (fun q => Or.inr q.2) (fun q => Or.inl q.2)
  refine T_zret d_Mo_isOne_13 rfl (by first | assumption | exact Or.inl rfl | exact Or.inr rfl) ?_
  exact ⟨_, rfl, rfl, hq⟩
theorem c_Mo_isThought (n m : Nat) (wi we br li fa : Nat → Int32) (p : Int32) (hm : m ≤ 4) (mt : MT h n m wi we br li fa) : Ci X (d + 1) M_Mo_isThought [.ref 86, .int p] h (fun v h1 => h1 = h ∧ (isP m p ∧ v = 1 ∨ ¬ isP m p ∧ v = 0)) := by
  obtain ⟨⟨sc, tc, h0⟩, -, -, -, -, ⟨f5, h5, e5⟩, -⟩ := mt
  refine C_of_T rfl rfl (Nat.le_of_ble_eq_true rfl) rfl ?_
  refine T_iload_n (pc' := 1) d_Mo_isThought_0 rfl rfl rfl ?_
  refine T_iconst (v := 0) (pc' := 2) d_Mo_isThought_1 rfl (by decide) ?_
  refine T_aload_n (pc' := 3) d_Mo_isThought_2 rfl rfl rfl ?_
  refine T_get (pc' := 6) d_Mo_isThought_3 rfl g_Mo_29 (by first | assumption | exact e_put_s | simp [e_put, *]) rfl ?_
  refine T_iconst (v := 0) (pc' := 7) d_Mo_isThought_6 rfl (by decide) ?_
  refine T_ialoadL 0 (pc' := 8) d_Mo_isThought_7 rfl (by first | assumption | exact e_put_s | simp [e_put, *]) (by decide) ?_
  refine T_iconst (v := 1) (pc' := 9) d_Mo_isThought_8 rfl (by decide) ?_
  refine T_isub (pc' := 10) d_Mo_isThought_9 rfl ?_
  rw [e5]
  refine T_S3i (pc' := 13) d_Mo_isThought_10 rfl l_Mo_78 v_Mo_in (Nat.le_of_ble_eq_true rfl) (c_Mo_in X d h p 0 (nI m - 1)) (fun v h9 hq => ?_)
  obtain ⟨rfl, hq⟩ := hq
  rw [s_pred (by omega)] at hq
  have hv : v = 0 ∨ v = 1 := hq.elim (fun q => Or.inr q.2) (fun q => Or.inl q.2)
  refine T_zret d_Mo_isThought_13 rfl (by first | assumption | exact Or.inl rfl | exact Or.inr rfl) ?_
  exact ⟨_, rfl, rfl, hq⟩
theorem l_Mo_liftsOf (n m : Nat) (wi we br li fa : Nat → Int32) (p : Nat) (hp : p < n) (hn : n ≤ 3) (hm : m ≤ 4) (mt : MT h n m wi we br li fa) (Q : Option Value → AH → Prop) (hQ : Q (some (.int (sLi li (we p) m))) h) : ∀ (k i : Nat), i + k = m → T X d M_Mo_liftsOf 4 [.ref 86, .int (nI p), .int (sLi li (we p) i), .int (nI i)] [] h Q
  | 0, i, hi => by
    have : i = m := by omega
    subst this
    obtain ⟨⟨sc, tc, h0⟩, -, -, -, -, ⟨f5, h5, e5⟩, -⟩ := mt
    refine T_iload_n (pc' := 5) d_Mo_liftsOf_4 rfl rfl rfl ?_
    refine T_aload_n (pc' := 6) d_Mo_liftsOf_5 rfl rfl rfl ?_
    refine T_get (pc' := 9) d_Mo_liftsOf_6 rfl g_Mo_29 (by first | assumption | exact e_put_s | simp [e_put, *]) rfl ?_
    refine T_iconst (v := 0) (pc' := 10) d_Mo_liftsOf_9 rfl (by decide) ?_
    refine T_ialoadL 0 (pc' := 11) d_Mo_liftsOf_10 rfl (by first | assumption | exact e_put_s | simp [e_put, *]) (by decide) ?_
    rw [e5]
    refine T_icmp_ge (pc' := 14) (tgt := 45) d_Mo_liftsOf_11 rfl (by decide) (fun _ => ?_) (fun hzz => absurd (Int32.le_refl _) hzz)
    refine T_iload_n (pc' := 46) d_Mo_liftsOf_45 rfl rfl rfl ?_
    refine T_iret d_Mo_liftsOf_46 rfl ?_
    exact hQ
  | k + 1, i, hi => by
    have ih := l_Mo_liftsOf n m wi we br li fa p hp hn hm mt Q hQ k (i + 1) (by omega)
    obtain ⟨⟨sc, tc, h0⟩, ⟨f1, h1, e1⟩, ⟨f2, h2, e2⟩, ⟨f3, h3, e3⟩, ⟨f4, h4, e4⟩, ⟨f5, h5, e5⟩, ⟨f6, h6, e6⟩, ⟨f7, h7, e7⟩⟩ := mt
    refine T_iload_n (pc' := 5) d_Mo_liftsOf_4 rfl rfl rfl ?_
    refine T_aload_n (pc' := 6) d_Mo_liftsOf_5 rfl rfl rfl ?_
    refine T_get (pc' := 9) d_Mo_liftsOf_6 rfl g_Mo_29 (by first | assumption | exact e_put_s | simp [e_put, *]) rfl ?_
    refine T_iconst (v := 0) (pc' := 10) d_Mo_liftsOf_9 rfl (by decide) ?_
    refine T_ialoadL 0 (pc' := 11) d_Mo_liftsOf_10 rfl (by first | assumption | exact e_put_s | simp [e_put, *]) (by decide) ?_
    rw [e5]
    refine T_icmp_ge (pc' := 14) (tgt := 45) d_Mo_liftsOf_11 rfl (by decide) (fun hzz => absurd hzz (nI_ge (by omega) (by omega))) (fun _ => ?_)
    refine T_iload_n (pc' := 15) d_Mo_liftsOf_14 rfl rfl rfl ?_
    refine T_aload_n (pc' := 16) d_Mo_liftsOf_15 rfl rfl rfl ?_
    refine T_get (pc' := 19) d_Mo_liftsOf_16 rfl g_Mo_32 (by first | assumption | exact e_put_s | simp [e_put, *]) rfl ?_
    refine T_iload_n (pc' := 20) d_Mo_liftsOf_19 rfl rfl rfl ?_
    refine T_ialoadN i (pc' := 21) d_Mo_liftsOf_20 rfl h6 ⟨by omega, by decide⟩ ?_
    refine T_aload_n (pc' := 22) d_Mo_liftsOf_21 rfl rfl rfl ?_
    refine T_get (pc' := 25) d_Mo_liftsOf_22 rfl g_Mo_20 (by first | assumption | exact e_put_s | simp [e_put, *]) rfl ?_
    refine T_iload_n (pc' := 26) d_Mo_liftsOf_25 rfl rfl rfl ?_
    refine T_ialoadN p (pc' := 27) d_Mo_liftsOf_26 rfl h3 ⟨by omega, by decide⟩ ?_
    rw [e6 i (by omega), e3 p hp]
    by_cases hw : we p < li i
    · refine T_icmp_le (pc' := 30) (tgt := 36) d_Mo_liftsOf_27 rfl (by decide) (fun hzz => absurd hzz (Int32.not_le.mpr hw)) (fun _ => ?_)
      refine T_iconst (v := 1) (pc' := 31) d_Mo_liftsOf_30 rfl (by decide) ?_
      refine T_iload_n (pc' := 32) d_Mo_liftsOf_31 rfl rfl rfl ?_
      refine T_ishl (pc' := 33) d_Mo_liftsOf_32 rfl ?_
      refine T_goto (pc' := 37) d_Mo_liftsOf_33 (by decide) ?_
      refine T_ior (pc' := 38) d_Mo_liftsOf_37 rfl ?_
      refine T_is_n2 (pc' := 39) d_Mo_liftsOf_38 rfl rfl (Nat.le_of_ble_eq_true rfl) rfl ?_
      refine T_ii3 (c := 1) (pc' := 42) d_Mo_liftsOf_39 rfl (by decide) (Nat.le_of_ble_eq_true rfl) rfl ?_
      rw [nI_1]
      refine T_goto (pc' := 4) d_Mo_liftsOf_42 (by decide) ?_
      rw [sLi, if_pos hw] at ih
      exact ih
    · refine T_icmp_le (pc' := 30) (tgt := 36) d_Mo_liftsOf_27 rfl (by decide) (fun _ => ?_) (fun hzz => absurd (Int32.not_lt.mp hw) hzz)
      refine T_iconst (v := 0) (pc' := 37) d_Mo_liftsOf_36 rfl (by decide) ?_
      refine T_ior (pc' := 38) d_Mo_liftsOf_37 rfl ?_
      refine T_is_n2 (pc' := 39) d_Mo_liftsOf_38 rfl rfl (Nat.le_of_ble_eq_true rfl) rfl ?_
      refine T_ii3 (c := 1) (pc' := 42) d_Mo_liftsOf_39 rfl (by decide) (Nat.le_of_ble_eq_true rfl) rfl ?_
      rw [nI_1]
      refine T_goto (pc' := 4) d_Mo_liftsOf_42 (by decide) ?_
      rw [sLi, if_neg hw] at ih
      exact ih
theorem c_Mo_liftsOf (n m : Nat) (wi we br li fa : Nat → Int32) (p : Nat) (hp : p < n) (hn : n ≤ 3) (hm : m ≤ 4) (mt : MT h n m wi we br li fa) : Ci X d M_Mo_liftsOf [.ref 86, .int (nI p)] h (fun v h1 => h1 = h ∧ v = sLi li (we p) m) := by
  refine C_of_T rfl rfl (Nat.le_of_ble_eq_true rfl) rfl ?_
  refine T_iconst (v := 0) (pc' := 1) d_Mo_liftsOf_0 rfl (by decide) ?_
  refine T_is_n2 (pc' := 2) d_Mo_liftsOf_1 rfl rfl (Nat.le_of_ble_eq_true rfl) rfl ?_
  refine T_iconst (v := 0) (pc' := 3) d_Mo_liftsOf_2 rfl (by decide) ?_
  refine T_is_n3 (pc' := 4) d_Mo_liftsOf_3 rfl rfl (Nat.le_of_ble_eq_true rfl) rfl ?_
  exact l_Mo_liftsOf X d h n m wi we br li fa p hp hn hm mt _ ⟨_, rfl, rfl, rfl⟩ m 0 (by omega)
theorem i_8 (x : Int32) : x.toInt8.toInt32.toInt8.toInt32 = x.toInt8.toInt32 := by simp
theorem p_Mo_type (c : Int32) (mi : MI h σ) (si : SI σ) : Ci X (d + 20) M_Mo_type [.ref 86, .int c] h (fun v h1 => v = (a_type σ c).1 ∧ MI h1 (a_type σ c).2 ∧ Fr 86 109 h h1) := by
  have mi' := mi
  obtain ⟨⟨sc, r0, q0, q8, q9⟩, ⟨f1, r1, q1⟩, -⟩ := mi
  have htl := si.1.1
  refine C_of_T rfl rfl (Nat.le_of_ble_eq_true rfl) rfl ?_
  refine T_iload_n (pc' := 1) d_Mo_type_0 rfl rfl rfl ?_
  refine T_iconst (v := 0) (pc' := 2) d_Mo_type_1 rfl (by decide) ?_
  refine T_sipush (v := 255) (pc' := 5) d_Mo_type_2 rfl (by decide) ?_
  refine T_S3i (pc' := 8) d_Mo_type_5 rfl l_Mo_78 v_Mo_in (Nat.le_of_ble_eq_true rfl) (c_Mo_in X _ h c 0 255) (fun v h1 hq => ?_)
  obtain ⟨rfl, ⟨hp, rfl⟩ | ⟨hp, rfl⟩⟩ := hq
  · refine T_if_ne (pc' := 11) (tgt := 13) d_Mo_type_8 rfl (by decide) (fun _ => ?_) (fun hzz => absurd hzz (by decide))
    refine T_aload_n (pc' := 14) d_Mo_type_13 rfl rfl rfl ?_
    refine T_get (pc' := 17) d_Mo_type_14 rfl g_Mo_82 (by first | assumption | exact e_put_s | simp [e_put, *]) rfl ?_
    refine T_bipush (v := 120) (pc' := 19) d_Mo_type_17 rfl (by decide) ?_
    rw [q0]
    by_cases hs : σ.1 0 < 120
    · refine T_icmp_ne (pc' := 22) (tgt := 25) d_Mo_type_19 rfl (by decide) (fun _ => ?_) (fun hzz => absurd hzz (fun q => by have := (nI_eq (b := 120) (by omega) (by decide)).mp q; omega))
      refine T_aload_n (pc' := 26) d_Mo_type_25 rfl rfl rfl ?_
      refine T_get (pc' := 29) d_Mo_type_26 rfl g_Mo_7 (by first | assumption | exact e_put_s | simp [e_put, *]) rfl ?_
      refine T_aload_n (pc' := 30) d_Mo_type_29 rfl rfl rfl ?_
      refine T_get (pc' := 33) d_Mo_type_30 rfl g_Mo_82 (by first | assumption | exact e_put_s | simp [e_put, *]) rfl ?_
      refine T_iload_n (pc' := 34) d_Mo_type_33 rfl rfl rfl ?_
      rw [q0]
      refine T_i2b (pc' := 35) d_Mo_type_34 rfl ?_
      have hin : vp_in (nI (σ.1 0)) 120 := vp_in_nI hs (by decide)
      refine T_bastore (pc' := 36) d_Mo_type_35 rfl (by first | assumption | exact e_put_s | simp [e_put, *]) (by first | assumption | exact in_dec rfl) ?_
      rw [nI_clamp (by omega), i_8]
      refine T_aload_n (pc' := 37) d_Mo_type_36 rfl rfl rfl ?_
      refine T_dup (pc' := 38) d_Mo_type_37 rfl rfl ?_
      refine T_get (pc' := 41) d_Mo_type_38 rfl g_Mo_82 ((e_put_n (by decide)).trans r0) rfl ?_
      refine T_iconst (v := 1) (pc' := 42) d_Mo_type_41 rfl (by decide) ?_
      refine T_iadd (pc' := 43) d_Mo_type_42 rfl ?_
      refine T_puti1 (pc' := 46) d_Mo_type_43 rfl f_Mo_82 (fun z => absurd z Bool.false_ne_true) ((e_put_n (by decide)).trans r0) ?_
      rw [q0, nI_1]
      refine T_aload_n (pc' := 47) d_Mo_type_46 rfl rfl rfl ?_
      refine T_get (pc' := 50) d_Mo_type_47 rfl g_Mo_82 e_put_s rfl ?_
      refine T_iret d_Mo_type_50 rfl ?_
      refine ⟨_, rfl, ?_⟩
      rw [a_type, if_pos hp, if_pos hs]
      have ex : Ex [86, 87] h1 (e_put (e_put h1 87 (.inl (1, 120, e_up f1 (σ.1 0) c.toInt8.toInt32))) 86 (oMo (fun j => if j = 0 then nI (σ.1 0 + 1) else sc j) σ.2.2)) := (Ex.rf.put (by decide)).put (by decide)
      refine ⟨rfl, MI_text (sc := fun j => if j = 0 then nI (σ.1 0 + 1) else sc j) (f := e_up f1 (σ.1 0) c.toInt8.toInt32) mi' ex e_put_s rfl q8 q9 ((e_put_n (by decide)).trans e_put_s) (fun i hi => ?_), ex.fr (by decide)⟩
      by_cases hi0 : i = σ.1 0
      · subst hi0; rw [e_upL, if_pos rfl, e_upL, if_pos rfl]
      · rw [e_upL, if_neg hi0, e_upL, if_neg hi0]
        exact q1 i (by omega)
    · have h120 : σ.1 0 = 120 := by omega
      refine T_icmp_ne (pc' := 22) (tgt := 25) d_Mo_type_19 rfl (by decide) (fun hzz => absurd (by rw [h120]; rfl) hzz) (fun _ => ?_)
      refine T_bipush (v := (-3)) (pc' := 24) d_Mo_type_22 rfl (by decide) ?_
      refine T_iret d_Mo_type_24 rfl ?_
      refine ⟨_, rfl, ?_⟩
      rw [a_type, if_pos hp, if_neg hs]
      exact ⟨rfl, mi', Fr.rf⟩
  · refine T_if_ne (pc' := 11) (tgt := 13) d_Mo_type_8 rfl (by decide) (fun hzz => absurd (by decide) hzz) (fun _ => ?_)
    refine T_iconst (v := (-1)) (pc' := 12) d_Mo_type_11 rfl (by decide) ?_
    refine T_iret d_Mo_type_12 rfl ?_
    refine ⟨_, rfl, ?_⟩
    rw [a_type, if_neg hp]
    exact ⟨rfl, mi', Fr.rf⟩
theorem p_Mo_clear (mi : MI h σ) (si : SI σ) : Ci X (d + 20) M_Mo_clear [.ref 86] h (fun v h1 => v = (a_clear σ).1 ∧ MI h1 (a_clear σ).2 ∧ Fr 86 109 h h1) := by
  have mi' := mi
  obtain ⟨⟨sc, r0, q0, q8, q9⟩, ⟨f1, r1, q1⟩, -⟩ := mi
  refine C_of_T rfl rfl (Nat.le_of_ble_eq_true rfl) rfl ?_
  refine T_aload_n (pc' := 1) d_Mo_clear_0 rfl rfl rfl ?_
  refine T_get (pc' := 4) d_Mo_clear_1 rfl g_Mo_82 (by first | assumption | exact e_put_s | simp [e_put, *]) rfl ?_
  refine T_is_n1 (pc' := 5) d_Mo_clear_4 rfl rfl (Nat.le_of_ble_eq_true rfl) rfl ?_
  refine T_aload_n (pc' := 6) d_Mo_clear_5 rfl rfl rfl ?_
  refine T_iconst (v := 0) (pc' := 7) d_Mo_clear_6 rfl (by decide) ?_
  refine T_puti1 (pc' := 10) d_Mo_clear_7 rfl f_Mo_82 (fun z => absurd z Bool.false_ne_true) (by first | assumption | exact e_put_s | simp [e_put, *]) ?_
  refine T_iload_n (pc' := 11) d_Mo_clear_10 rfl rfl rfl ?_
  refine T_iret d_Mo_clear_11 rfl ?_
  have ex : Ex [86, 87] h (e_put h 86 (oMo (fun j => if j = 0 then 0 else sc j) σ.2.2)) := Ex.rf.put (by decide)
  exact ⟨_, rfl, q0, MI_text (sc := fun j => if j = 0 then 0 else sc j) (f := f1) mi' ex e_put_s rfl q8 q9 ((e_put_n (by decide)).trans r1) (fun i hi => by omega), ex.fr (by decide)⟩
theorem p_Mo_wind (p : Int32) (mi : MI h σ) (si : SI σ) : Ci X (d + 20) M_Mo_wind [.ref 86, .int p] h (fun v h1 => v = q_wind σ p ∧ MI h1 σ ∧ Fr 86 109 h h1) := by
  have mi' := mi
  obtain ⟨-, -, ⟨⟨sc, tc, h0⟩, ⟨f1, h1, e1⟩, -⟩, -⟩ := mi
  refine C_of_T rfl rfl (Nat.le_of_ble_eq_true rfl) rfl ?_
  refine T_iload_n (pc' := 1) d_Mo_wind_0 rfl rfl rfl ?_
  refine T_iconst (v := 0) (pc' := 2) d_Mo_wind_1 rfl (by decide) ?_
  refine T_bipush (v := 9) (pc' := 4) d_Mo_wind_2 rfl (by decide) ?_
  refine T_S3i (pc' := 7) d_Mo_wind_4 rfl l_Mo_78 v_Mo_in (Nat.le_of_ble_eq_true rfl) (c_Mo_in X _ h p 0 9) (fun v h9 hq => ?_)
  obtain ⟨rfl, ⟨hp, rfl⟩ | ⟨hp, rfl⟩⟩ := hq
  · refine T_if_eq (pc' := 10) (tgt := 27) d_Mo_wind_7 rfl (by decide) (fun hzz => absurd hzz (by decide)) (fun _ => ?_)
    obtain ⟨k, hk, rfl⟩ := s_09 hp
    refine T_iload_n (pc' := 11) d_Mo_wind_10 rfl rfl rfl ?_
    by_cases hz : nI k = 0
    · refine T_if_ne (pc' := 14) (tgt := 18) d_Mo_wind_11 rfl (by decide) (fun hzz => absurd hz hzz) (fun _ => ?_)
      refine T_iconst (v := 0) (pc' := 15) d_Mo_wind_14 rfl (by decide) ?_
      refine T_goto (pc' := 29) d_Mo_wind_15 (by decide) ?_
      refine T_iret d_Mo_wind_29 rfl ?_
      refine ⟨_, rfl, ?_, mi', Fr.rf⟩
      rw [q_wind, if_pos hp, hz]
      exact si.2.1.1.symm
    · refine T_if_ne (pc' := 14) (tgt := 18) d_Mo_wind_11 rfl (by decide) (fun _ => ?_) (fun hzz => absurd hzz hz)
      refine T_aload_n (pc' := 19) d_Mo_wind_18 rfl rfl rfl ?_
      refine T_get (pc' := 22) d_Mo_wind_19 rfl g_Mo_13 (by first | assumption | exact e_put_s | simp [e_put, *]) rfl ?_
      refine T_iload_n (pc' := 23) d_Mo_wind_22 rfl rfl rfl ?_
      refine T_ialoadN k (pc' := 24) d_Mo_wind_23 rfl h1 ⟨by omega, by decide⟩ ?_
      refine T_goto (pc' := 29) d_Mo_wind_24 (by decide) ?_
      refine T_iret d_Mo_wind_29 rfl ?_
      refine ⟨_, rfl, ?_, mi', Fr.rf⟩
      rw [q_wind, if_pos hp, nI_clamp (by omega)]
      refine e1 k (by omega) ?_
      rcases Nat.eq_zero_or_pos k with z | z
      · subst z; exact absurd rfl hz
      · exact z
  · refine T_if_eq (pc' := 10) (tgt := 27) d_Mo_wind_7 rfl (by decide) (fun _ => ?_) (fun hzz => absurd (by decide) hzz)
    refine T_ldc (pc' := 29) d_Mo_wind_27 rfl ck_Mo_151 ?_
    refine T_iret d_Mo_wind_29 rfl ?_
    exact ⟨_, rfl, (if_neg hp).symm, mi', Fr.rf⟩
theorem p_Mo_one (p w : Int32) (mi : MI h σ) (si : SI σ) : Ci X (d + 20) M_Mo_one [.ref 86, .int p, .int w] h (fun v h1 => v = q_one σ p w ∧ MI h1 σ ∧ Fr 86 109 h h1) := by
  have mi' := mi
  have hn := si.1.2.1
  have hm := si.1.2.2.1
  obtain ⟨⟨sc, r0, -⟩, -, mt, -, -, r5, -⟩ := mi
  obtain ⟨-, ⟨f1, h1, e1⟩, ⟨f2, h2, e2⟩, ⟨f3, h3, e3⟩, ⟨f4, h4, e4⟩, ⟨f5, h5, e5⟩, ⟨f6, h6, e6⟩, ⟨f7, h7, e7⟩⟩ := id mt
  refine C_of_T rfl rfl (Nat.le_of_ble_eq_true rfl) rfl ?_
  refine T_aload_n (pc' := 1) d_Mo_one_0 rfl rfl rfl ?_
  refine T_iload_n (pc' := 2) d_Mo_one_1 rfl rfl rfl ?_
  refine T_V1i (pc' := 5) d_Mo_one_2 rfl l_Mo_152 v_Mo_isOne (by first | assumption | exact e_put_s | simp [e_put, *]) (Nat.le_of_ble_eq_true rfl) (c_Mo_isOne X _ h _ _ _ _ _ _ _ p hn mt) (fun v h9 hq => ?_)
  obtain ⟨rfl, ⟨hp, rfl⟩ | ⟨hp, rfl⟩⟩ := hq
  · refine T_if_ne (pc' := 8) (tgt := 10) d_Mo_one_5 rfl (by decide) (fun _ => ?_) (fun hzz => absurd hzz (by decide))
    have hok : okP (σ.1 1) p := (isP_iff (by omega) p).mp hp
    obtain ⟨i, hi, rfl⟩ := hp
    refine T_iload_n (pc' := 11) d_Mo_one_10 rfl rfl rfl ?_
    refine sw_Mo_one_11 (fun hx => ?_) (fun hx => ?_) (fun hx => ?_) (fun hx => ?_) (fun hx => ?_) (fun x0 x1 x2 x3 x4 => ?_)
    · subst hx
      refine T_aload_n (pc' := 45) d_Mo_one_44 rfl rfl rfl ?_
      refine T_get (pc' := 48) d_Mo_one_45 rfl g_Mo_20 (by first | assumption | exact e_put_s | simp [e_put, *]) rfl ?_
      refine T_iload_n (pc' := 49) d_Mo_one_48 rfl rfl rfl ?_
      refine T_ialoadN i (pc' := 50) d_Mo_one_49 rfl h3 ⟨by omega, by decide⟩ ?_
      refine T_iret d_Mo_one_50 rfl ?_
      exact ⟨_, rfl, by rw [q_one, if_pos hok, nI_clamp (by omega)]; exact e3 i hi, mi', Fr.rf⟩
    · subst hx
      refine T_aload_n (pc' := 52) d_Mo_one_51 rfl rfl rfl ?_
      refine T_get (pc' := 55) d_Mo_one_52 rfl g_Mo_23 (by first | assumption | exact e_put_s | simp [e_put, *]) rfl ?_
      refine T_iload_n (pc' := 56) d_Mo_one_55 rfl rfl rfl ?_
      refine T_ialoadN i (pc' := 57) d_Mo_one_56 rfl h4 ⟨by omega, by decide⟩ ?_
      refine T_iret d_Mo_one_57 rfl ?_
      exact ⟨_, rfl, by rw [q_one, if_pos hok, nI_clamp (by omega)]; exact e4 i hi, mi', Fr.rf⟩
    · subst hx
      refine T_aload_n (pc' := 59) d_Mo_one_58 rfl rfl rfl ?_
      refine T_get (pc' := 62) d_Mo_one_59 rfl g_Mo_41 (by first | assumption | exact e_put_s | simp [e_put, *]) rfl ?_
      refine T_bipush (v := 6) (pc' := 64) d_Mo_one_62 rfl (by decide) ?_
      refine T_ialoadL 6 (pc' := 65) d_Mo_one_64 rfl (by first | assumption | exact e_put_s | simp [e_put, *]) (by decide) ?_
      refine T_iload_n (pc' := 66) d_Mo_one_65 rfl rfl rfl ?_
      refine T_S2i (pc' := 69) d_Mo_one_66 rfl l_Mo_140 v_Mo_has (Nat.le_of_ble_eq_true rfl) (c_Mo_has X _ h9 (σ.2.1 6 6) (nI i)) (fun v h10 hq => ?_)
      obtain ⟨rfl, ⟨hq2, rfl⟩ | ⟨hq2, rfl⟩⟩ := hq
      · refine T_if_eq (pc' := 72) (tgt := 76) d_Mo_one_69 rfl (by decide) (fun hzz => absurd hzz (by decide)) (fun _ => ?_)
        refine T_iconst (v := 1) (pc' := 73) d_Mo_one_72 rfl (by decide) ?_
        refine T_goto (pc' := 77) d_Mo_one_73 (by decide) ?_
        refine T_iret d_Mo_one_77 rfl ?_
        exact ⟨_, rfl, by rw [q_one, if_pos hok]; exact (if_pos hq2).symm, mi', Fr.rf⟩
      · refine T_if_eq (pc' := 72) (tgt := 76) d_Mo_one_69 rfl (by decide) (fun _ => ?_) (fun hzz => absurd (by decide) hzz)
        refine T_iconst (v := 0) (pc' := 77) d_Mo_one_76 rfl (by decide) ?_
        refine T_iret d_Mo_one_77 rfl ?_
        exact ⟨_, rfl, by rw [q_one, if_pos hok]; exact (if_neg hq2).symm, mi', Fr.rf⟩
    · subst hx
      refine T_aload_n (pc' := 79) d_Mo_one_78 rfl rfl rfl ?_
      refine T_get (pc' := 82) d_Mo_one_79 rfl g_Mo_41 (by first | assumption | exact e_put_s | simp [e_put, *]) rfl ?_
      refine T_bipush (v := 7) (pc' := 84) d_Mo_one_82 rfl (by decide) ?_
      refine T_iload_n (pc' := 85) d_Mo_one_84 rfl rfl rfl ?_
      refine T_iadd (pc' := 86) d_Mo_one_85 rfl ?_
      rw [show (7 : Int32) + nI i = nI (7 + i) from nI_add 7 i]
      refine T_ialoadN (7 + i) (pc' := 87) d_Mo_one_86 rfl r5 ⟨by omega, by decide⟩ ?_
      refine T_iret d_Mo_one_87 rfl ?_
      exact ⟨_, rfl, by rw [q_one, if_pos hok, nI_clamp (by omega)]; rfl, mi', Fr.rf⟩
    · subst hx
      refine T_aload_n (pc' := 89) d_Mo_one_88 rfl rfl rfl ?_
      refine T_iload_n (pc' := 90) d_Mo_one_89 rfl rfl rfl ?_
      refine T_V1i (pc' := 93) d_Mo_one_90 rfl l_Mo_155 v_Mo_liftsOf (by first | assumption | exact e_put_s | simp [e_put, *]) (Nat.le_of_ble_eq_true rfl) (c_Mo_liftsOf X _ h9 _ _ _ _ _ _ _ i hi hn hm mt) (fun v h10 hq => ?_)
      obtain ⟨rfl, rfl⟩ := hq
      refine T_iret d_Mo_one_93 rfl ?_
      exact ⟨_, rfl, by rw [q_one, if_pos hok, nI_clamp (by omega)]; rfl, mi', Fr.rf⟩
    · refine T_iconst (v := (-1)) (pc' := 95) d_Mo_one_94 rfl (by decide) ?_
      refine T_iret d_Mo_one_95 rfl ?_
      exact ⟨_, rfl, by rw [q_one, if_pos hok, if_neg x0, if_neg x1, if_neg x2, if_neg x3, if_neg x4], mi', Fr.rf⟩
  · refine T_if_ne (pc' := 8) (tgt := 10) d_Mo_one_5 rfl (by decide) (fun hzz => absurd (by decide) hzz) (fun _ => ?_)
    refine T_iconst (v := (-1)) (pc' := 9) d_Mo_one_8 rfl (by decide) ?_
    refine T_iret d_Mo_one_9 rfl ?_
    exact ⟨_, rfl, by rw [q_one, if_neg (fun q => hp ((isP_iff (by omega) p).mpr q))], mi', Fr.rf⟩
theorem s_01 {p : Int32} (h : 0 ≤ p ∧ p ≤ 1) : p = 0 ∨ p = 1 := by
  obtain ⟨k, hk, rfl⟩ := nI_of2 (M := 1) (n := 1) (by decide) (Int32.not_lt.mpr h.1) h.2
  have : k = 0 ∨ k = 1 := by omega
  rcases this with rfl | rfl
  · exact Or.inl rfl
  · exact Or.inr rfl
theorem p_Mo_thought (p w : Int32) (mi : MI h σ) (si : SI σ) : Ci X (d + 20) M_Mo_thought [.ref 86, .int p, .int w] h (fun v h1 => v = q_thought σ p w ∧ MI h1 σ ∧ Fr 86 109 h h1) := by
  have mi' := mi
  have hm := si.1.2.2.1
  obtain ⟨⟨sc, r0, -⟩, -, mt, -⟩ := mi
  obtain ⟨-, ⟨f1, h1, e1⟩, ⟨f2, h2, e2⟩, ⟨f3, h3, e3⟩, ⟨f4, h4, e4⟩, ⟨f5, h5, e5⟩, ⟨f6, h6, e6⟩, ⟨f7, h7, e7⟩⟩ := id mt
  refine C_of_T rfl rfl (Nat.le_of_ble_eq_true rfl) rfl ?_
  refine T_aload_n (pc' := 1) d_Mo_thought_0 rfl rfl rfl ?_
  refine T_iload_n (pc' := 2) d_Mo_thought_1 rfl rfl rfl ?_
  refine T_V1i (pc' := 5) d_Mo_thought_2 rfl l_Mo_159 v_Mo_isThought (by first | assumption | exact e_put_s | simp [e_put, *]) (Nat.le_of_ble_eq_true rfl) (c_Mo_isThought X _ h _ _ _ _ _ _ _ p hm mt) (fun v h9 hq => ?_)
  obtain ⟨rfl, ⟨hp, rfl⟩ | ⟨hp, rfl⟩⟩ := hq
  · refine T_if_eq (pc' := 8) (tgt := 17) d_Mo_thought_5 rfl (by decide) (fun hzz => absurd hzz (by decide)) (fun _ => ?_)
    have hok : okP (σ.1 2) p := (isP_iff (by omega) p).mp hp
    obtain ⟨i, hi, rfl⟩ := hp
    refine T_iload_n (pc' := 9) d_Mo_thought_8 rfl rfl rfl ?_
    refine T_iconst (v := 0) (pc' := 10) d_Mo_thought_9 rfl (by decide) ?_
    refine T_iconst (v := 1) (pc' := 11) d_Mo_thought_10 rfl (by decide) ?_
    refine T_S3i (pc' := 14) d_Mo_thought_11 rfl l_Mo_78 v_Mo_in (Nat.le_of_ble_eq_true rfl) (c_Mo_in X _ h9 w 0 1) (fun v h10 hq => ?_)
    obtain ⟨rfl, ⟨hw, rfl⟩ | ⟨hw, rfl⟩⟩ := hq
    · refine T_if_ne (pc' := 17) (tgt := 19) d_Mo_thought_14 rfl (by decide) (fun _ => ?_) (fun hzz => absurd hzz (by decide))
      rcases s_01 hw with rfl | rfl
      · refine T_iload_n (pc' := 20) d_Mo_thought_19 rfl rfl rfl ?_
        refine T_if_ne (pc' := 23) (tgt := 32) d_Mo_thought_20 rfl (by decide) (fun hzz => absurd (by decide) hzz) (fun _ => ?_)
        refine T_aload_n (pc' := 24) d_Mo_thought_23 rfl rfl rfl ?_
        refine T_get (pc' := 27) d_Mo_thought_24 rfl g_Mo_32 (by first | assumption | exact e_put_s | simp [e_put, *]) rfl ?_
        refine T_iload_n (pc' := 28) d_Mo_thought_27 rfl rfl rfl ?_
        refine T_ialoadN i (pc' := 29) d_Mo_thought_28 rfl h6 ⟨by omega, by decide⟩ ?_
        refine T_goto (pc' := 38) d_Mo_thought_29 (by decide) ?_
        refine T_iret d_Mo_thought_38 rfl ?_
        exact ⟨_, rfl, by rw [q_thought, if_pos hok, nI_clamp (by omega)]; exact e6 i hi, mi', Fr.rf⟩
      · refine T_iload_n (pc' := 20) d_Mo_thought_19 rfl rfl rfl ?_
        refine T_if_ne (pc' := 23) (tgt := 32) d_Mo_thought_20 rfl (by decide) (fun _ => ?_) (fun hzz => absurd hzz (by decide))
        refine T_aload_n (pc' := 33) d_Mo_thought_32 rfl rfl rfl ?_
        refine T_get (pc' := 36) d_Mo_thought_33 rfl g_Mo_35 (by first | assumption | exact e_put_s | simp [e_put, *]) rfl ?_
        refine T_iload_n (pc' := 37) d_Mo_thought_36 rfl rfl rfl ?_
        refine T_ialoadN i (pc' := 38) d_Mo_thought_37 rfl h7 ⟨by omega, by decide⟩ ?_
        refine T_iret d_Mo_thought_38 rfl ?_
        exact ⟨_, rfl, by rw [q_thought, if_pos hok, nI_clamp (by omega)]; exact e7 i hi, mi', Fr.rf⟩
    · refine T_if_ne (pc' := 17) (tgt := 19) d_Mo_thought_14 rfl (by decide) (fun hzz => absurd (by decide) hzz) (fun _ => ?_)
      refine T_iconst (v := (-1)) (pc' := 18) d_Mo_thought_17 rfl (by decide) ?_
      refine T_iret d_Mo_thought_18 rfl ?_
      refine ⟨_, rfl, ?_, mi', Fr.rf⟩
      rw [q_thought, if_pos hok, if_neg (fun q => hw (by rw [q]; decide)), if_neg (fun q => hw (by rw [q]; decide))]
  · refine T_if_eq (pc' := 8) (tgt := 17) d_Mo_thought_5 rfl (by decide) (fun _ => ?_) (fun hzz => absurd (by decide) hzz)
    refine T_iconst (v := (-1)) (pc' := 18) d_Mo_thought_17 rfl (by decide) ?_
    refine T_iret d_Mo_thought_18 rfl ?_
    exact ⟨_, rfl, by rw [q_thought, if_neg (fun q => hp ((isP_iff (by omega) p).mpr q))], mi', Fr.rf⟩
theorem p_Mo_count (w : Int32) (mi : MI h σ) (si : SI σ) : Ci X (d + 20) M_Mo_count [.ref 86, .int w] h (fun v h1 => v = q_count σ w ∧ MI h1 σ ∧ Fr 86 109 h h1) := by
  have mi' := mi
  obtain ⟨⟨sc, r0, q0, q8, q9⟩, -, ⟨-, -, ⟨f2, h2, e2⟩, -, -, ⟨f5, h5, e5⟩, -⟩, -, ⟨f4, r4, q4⟩, -, ⟨f6, r6, q6, -⟩, -⟩ := mi
  refine C_of_T rfl rfl (Nat.le_of_ble_eq_true rfl) rfl ?_
  refine T_iload_n (pc' := 1) d_Mo_count_0 rfl rfl rfl ?_
  refine sw_Mo_count_1 (fun hx => ?_) (fun hx => ?_) (fun hx => ?_) (fun hx => ?_) (fun hx => ?_) (fun hx => ?_) (fun hx => ?_) (fun x0 x1 x2 x3 x4 x5 x6 => ?_)
  · subst hx
    refine T_aload_n (pc' := 45) d_Mo_count_44 rfl rfl rfl ?_
    refine T_get (pc' := 48) d_Mo_count_45 rfl g_Mo_17 (by first | assumption | exact e_put_s | simp [e_put, *]) rfl ?_
    refine T_iconst (v := 0) (pc' := 49) d_Mo_count_48 rfl (by decide) ?_
    refine T_ialoadL 0 (pc' := 50) d_Mo_count_49 rfl (by first | assumption | exact e_put_s | simp [e_put, *]) (by decide) ?_
    refine T_iret d_Mo_count_50 rfl ?_
    exact ⟨_, rfl, e2, mi', Fr.rf⟩
  · subst hx
    refine T_aload_n (pc' := 52) d_Mo_count_51 rfl rfl rfl ?_
    refine T_get (pc' := 55) d_Mo_count_52 rfl g_Mo_29 (by first | assumption | exact e_put_s | simp [e_put, *]) rfl ?_
    refine T_iconst (v := 0) (pc' := 56) d_Mo_count_55 rfl (by decide) ?_
    refine T_ialoadL 0 (pc' := 57) d_Mo_count_56 rfl (by first | assumption | exact e_put_s | simp [e_put, *]) (by decide) ?_
    refine T_iret d_Mo_count_57 rfl ?_
    exact ⟨_, rfl, e5, mi', Fr.rf⟩
  · subst hx
    refine T_aload_n (pc' := 59) d_Mo_count_58 rfl rfl rfl ?_
    refine T_get (pc' := 62) d_Mo_count_59 rfl g_Mo_38 (by first | assumption | exact e_put_s | simp [e_put, *]) rfl ?_
    refine T_iconst (v := 0) (pc' := 63) d_Mo_count_62 rfl (by decide) ?_
    refine T_ialoadL 0 (pc' := 64) d_Mo_count_63 rfl (by first | assumption | exact e_put_s | simp [e_put, *]) (by decide) ?_
    refine T_iret d_Mo_count_64 rfl ?_
    exact ⟨_, rfl, q4, mi', Fr.rf⟩
  · subst hx
    refine T_aload_n (pc' := 66) d_Mo_count_65 rfl rfl rfl ?_
    refine T_get (pc' := 69) d_Mo_count_66 rfl g_Mo_134 (by first | assumption | exact e_put_s | simp [e_put, *]) rfl ?_
    refine T_iret d_Mo_count_69 rfl ?_
    exact ⟨_, rfl, q8, mi', Fr.rf⟩
  · subst hx
    refine T_aload_n (pc' := 71) d_Mo_count_70 rfl rfl rfl ?_
    refine T_get (pc' := 74) d_Mo_count_71 rfl g_Mo_137 (by first | assumption | exact e_put_s | simp [e_put, *]) rfl ?_
    refine T_iret d_Mo_count_74 rfl ?_
    exact ⟨_, rfl, q9, mi', Fr.rf⟩
  · subst hx
    refine T_aload_n (pc' := 76) d_Mo_count_75 rfl rfl rfl ?_
    refine T_get (pc' := 79) d_Mo_count_76 rfl g_Mo_44 (by first | assumption | exact e_put_s | simp [e_put, *]) rfl ?_
    refine T_iconst (v := 0) (pc' := 80) d_Mo_count_79 rfl (by decide) ?_
    refine T_ialoadL 0 (pc' := 81) d_Mo_count_80 rfl (by first | assumption | exact e_put_s | simp [e_put, *]) (by decide) ?_
    refine T_iret d_Mo_count_81 rfl ?_
    exact ⟨_, rfl, q6, mi', Fr.rf⟩
  · subst hx
    refine T_aload_n (pc' := 83) d_Mo_count_82 rfl rfl rfl ?_
    refine T_get (pc' := 86) d_Mo_count_83 rfl g_Mo_82 (by first | assumption | exact e_put_s | simp [e_put, *]) rfl ?_
    refine T_iret d_Mo_count_86 rfl ?_
    exact ⟨_, rfl, q0, mi', Fr.rf⟩
  · refine T_iconst (v := (-1)) (pc' := 88) d_Mo_count_87 rfl (by decide) ?_
    refine T_iret d_Mo_count_88 rfl ?_
    exact ⟨_, rfl, by rw [q_count, if_neg x0, if_neg x1, if_neg x2, if_neg x3, if_neg x4, if_neg x5, if_neg x6], mi', Fr.rf⟩
theorem p_Mo_trace (mi : MI h σ) (si : SI σ) : Cl X (d + 20) M_Mo_trace [.ref 86] h (fun v h1 => v = σ.2.2 ∧ MI h1 σ ∧ Fr 86 109 h h1) := by
  have mi' := mi
  obtain ⟨⟨sc, r0, -⟩, -⟩ := mi
  refine C_of_T rfl rfl (Nat.le_of_ble_eq_true rfl) rfl ?_
  refine T_aload_n (pc' := 1) d_Mo_trace_0 rfl rfl rfl ?_
  refine T_get (pc' := 4) d_Mo_trace_1 rfl g_Mo_204 (by first | assumption | exact e_put_s | simp [e_put, *]) rfl ?_
  refine T_lret d_Mo_trace_4 rfl ?_
  exact ⟨_, rfl, rfl, mi', Fr.rf⟩
end MPUB1
