section MPUB3
variable (X : EX) (d : Nat) (h : AH) (σ : Sp)
/-- so many minutes of a row at b -/
theorem l_Mo_min (b N : Nat) (sc : Nat → Int32) (tc : Int64) (g : Nat → Int32) (n m : Nat) (wi we br li fa : Nat → Int32) (hn : n ≤ 3) (hm : m ≤ 4) (hw0 : wi 0 = 0) (hb9 : 96 ≤ b) (hN : N < 2 ^ 31) (h0 : h.2 86 = some (oMo sc tc)) (mt : MT h n m wi we br li fa) (hg : GI n m g) (hbn : b = 97) (Q : Option Value → AH → Prop) (hk : T X (d + 3) M_Mo_minutes 53 [.ref 86, .int (nI N), .int (nI N)] [] (e_put h b (.inl (0, 11, sPassN n wi we br li fa g N))) Q) : ∀ (k i : Nat), i + k = N → T X (d + 3) M_Mo_minutes 34 [.ref 86, .int (nI N), .int (nI i)] [] (e_put h b (.inl (0, 11, sPassN n wi we br li fa g i))) Q
  | 0, i, hi => by
    have : i = N := by omega
    subst this
    refine T_iload_n (pc' := 35) d_Mo_minutes_34 rfl rfl rfl ?_
    refine T_iload_n (pc' := 36) d_Mo_minutes_35 rfl rfl rfl ?_
    refine T_icmp_ge (pc' := 39) (tgt := 53) d_Mo_minutes_36 rfl (by decide) (fun _ => ?_) (fun hzz => absurd (Int32.le_refl _) hzz)
    exact hk
  | k + 1, i, hi => by
    have ih := l_Mo_min b N sc tc g n m wi we br li fa hn hm hw0 hb9 hN h0 mt hg hbn Q hk k (i + 1) (by omega)
    subst hbn
    refine T_iload_n (pc' := 35) d_Mo_minutes_34 rfl rfl rfl ?_
    refine T_iload_n (pc' := 36) d_Mo_minutes_35 rfl rfl rfl ?_
    refine T_icmp_ge (pc' := 39) (tgt := 53) d_Mo_minutes_36 rfl (by decide) (fun hzz => absurd hzz (nI_ge (by omega) hN)) (fun _ => ?_)
    refine T_aload_n (pc' := 40) d_Mo_minutes_39 rfl rfl rfl ?_
    refine T_aload_n (pc' := 41) d_Mo_minutes_40 rfl rfl rfl ?_
    refine T_get (pc' := 44) d_Mo_minutes_41 rfl g_Mo_41 ((e_put_n (by decide)).trans h0) rfl ?_
    refine T_V1v (pc' := 47) d_Mo_minutes_44 rfl l_Mo_173 v_Mo_passOn ((e_put_n (by decide)).trans h0) (Nat.le_of_ble_eq_true rfl) (c_Mo_passOn X d _ n m wi we br li fa 97 _ hn hm hw0 (MT_put mt hb9) hb9 e_put_s (GI_passN hg i)) (fun h1 hq => ?_)
    subst hq
    rw [e_pp]
    refine T_ii2 (c := 1) (pc' := 50) d_Mo_minutes_47 rfl (by decide) (Nat.le_of_ble_eq_true rfl) rfl ?_
    rw [nI_1]
    refine T_goto (pc' := 34) d_Mo_minutes_50 (by decide) ?_
    exact ih
theorem p_Mo_minutes (k : Int32) (mi : MI h σ) (si : SI σ) : Ci X (d + 20) M_Mo_minutes [.ref 86, .int k] h (fun v h1 => v = (a_minutes σ k).1 ∧ MI h1 (a_minutes σ k).2 ∧ Fr 86 109 h h1) := by
  have hn := si.1.2.1
  have hm := si.1.2.2.1
  have r5 := mi.2.2.2.2.2.1
  obtain ⟨sc, r0, -⟩ := mi.1
  refine C_of_T rfl rfl (Nat.le_of_ble_eq_true rfl) rfl ?_
  refine T_iload_n (pc' := 1) d_Mo_minutes_0 rfl rfl rfl ?_
  refine T_iconst (v := 1) (pc' := 2) d_Mo_minutes_1 rfl (by decide) ?_
  refine T_bipush (v := 9) (pc' := 4) d_Mo_minutes_2 rfl (by decide) ?_
  refine T_S3i (pc' := 7) d_Mo_minutes_4 rfl l_Mo_78 v_Mo_in (Nat.le_of_ble_eq_true rfl) (c_Mo_in X _ h k 1 9) (fun v h1 hq => ?_)
  obtain ⟨rfl, ⟨hk, rfl⟩ | ⟨hk, rfl⟩⟩ := hq
  · refine T_if_ne (pc' := 10) (tgt := 12) d_Mo_minutes_7 rfl (by decide) (fun _ => ?_) (fun hzz => absurd hzz (by decide))
    have hk9 : 0 ≤ k ∧ k ≤ 9 := ⟨Int32.le_trans (by decide) hk.1, hk.2⟩
    obtain ⟨kk, hkk, rfl⟩ := s_09 hk9
    refine T_aload_n (pc' := 13) d_Mo_minutes_12 rfl rfl rfl ?_
    refine T_get (pc' := 16) d_Mo_minutes_13 rfl g_Mo_41 (by first | assumption | exact e_put_s | simp [e_put, *]) rfl ?_
    refine T_iconst (v := 0) (pc' := 17) d_Mo_minutes_16 rfl (by decide) ?_
    refine T_ialoadL 0 (pc' := 18) d_Mo_minutes_17 rfl (by first | assumption | exact e_put_s | simp [e_put, *]) (by decide) ?_
    refine T_iload_n (pc' := 19) d_Mo_minutes_18 rfl rfl rfl ?_
    refine T_iadd (pc' := 20) d_Mo_minutes_19 rfl ?_
    refine T_bipush (v := 99) (pc' := 22) d_Mo_minutes_20 rfl (by decide) ?_
    by_cases h99 : σ.2.1 6 0 + nI kk ≤ 99
    · refine T_icmp_le (pc' := 25) (tgt := 28) d_Mo_minutes_22 rfl (by decide) (fun _ => ?_) (fun hzz => absurd h99 hzz)
      refine T_aload_n (pc' := 29) d_Mo_minutes_28 rfl rfl rfl ?_
      refine T_V0v (pc' := 32) d_Mo_minutes_29 rfl l_Mo_166 v_Mo_know (by first | assumption | exact e_put_s | simp [e_put, *]) (Nat.le_of_ble_eq_true rfl) (c_Mo_know X _ h1 σ mi si) (fun h4 hq => ?_)
      obtain ⟨mi4, ex4⟩ := hq
      have k0 : h4.2 86 = _ := (ex4.2 _ (by decide)).trans r0
      have k5 : h4.2 97 = _ := (ex4.2 _ (by decide)).trans r5
      refine T_iconst (v := 0) (pc' := 33) d_Mo_minutes_32 rfl (by decide) ?_
      refine T_is_n2 (pc' := 34) d_Mo_minutes_33 rfl rfl (Nat.le_of_ble_eq_true rfl) rfl ?_
      have hs : h4 = e_put h4 97 (.inl (0, 11, pN σ (σ.2.1 6) 0)) := (e_put_self k5).symm
      rw [hs]
      refine l_Mo_min X _ h4 97 kk sc _ (σ.2.1 6) _ _ _ _ _ _ _ hn hm si.2.1.1 (by decide) (by omega) k0 mi4.2.2.1 si.2.2.1 rfl _ ?_ kk 0 (by omega)
      have ex5 : Ex [97] h4 (e_put h4 97 (.inl (0, 11, pN σ (σ.2.1 6) kk))) := Ex.rf.put (by decide)
      have mi5 := MI_now mi4 ex5 e_put_s
      refine T_aload_n (pc' := 54) d_Mo_minutes_53 rfl rfl rfl ?_
      refine T_get (pc' := 57) d_Mo_minutes_54 rfl g_Mo_41 (by first | exact (e_put_n (by decide)).trans k0 | exact e_put_s) rfl ?_
      refine T_iconst (v := 1) (pc' := 58) d_Mo_minutes_57 rfl (by decide) ?_
      refine T_ialoadL 1 (pc' := 59) d_Mo_minutes_58 rfl (by first | exact (e_put_n (by decide)).trans k0 | exact e_put_s) (by decide) ?_
      refine T_iret d_Mo_minutes_59 rfl ?_
      refine ⟨_, rfl, ?_⟩
      rw [a_minutes, if_pos hk, if_pos h99, nI_clamp (by omega)]
      exact ⟨rfl, mi5, ((ex4.mono (S' := [98, 99, 97]) (by decide)).tr (ex5.mono (by decide))).fr (by decide)⟩
    · refine T_icmp_le (pc' := 25) (tgt := 28) d_Mo_minutes_22 rfl (by decide) (fun hzz => absurd hzz h99) (fun _ => ?_)
      refine T_bipush (v := (-2)) (pc' := 27) d_Mo_minutes_25 rfl (by decide) ?_
      refine T_iret d_Mo_minutes_27 rfl ?_
      refine ⟨_, rfl, ?_⟩
      rw [a_minutes, if_pos hk, if_neg h99]
      exact ⟨rfl, mi, Fr.rf⟩
  · refine T_if_ne (pc' := 10) (tgt := 12) d_Mo_minutes_7 rfl (by decide) (fun hzz => absurd (by decide) hzz) (fun _ => ?_)
    refine T_iconst (v := (-1)) (pc' := 11) d_Mo_minutes_10 rfl (by decide) ?_
    refine T_iret d_Mo_minutes_11 rfl ?_
    refine ⟨_, rfl, ?_⟩
    rw [a_minutes, if_neg hk]
    exact ⟨rfl, mi, Fr.rf⟩
theorem c_Mo_isAtRest (sc : Nat → Int32) (tc : Int64) (g : Nat → Int32) (h0 : h.2 86 = some (oMo sc tc)) (hb : h.2 97 = some (.inl (0, 11, g))) : Ci X d M_Mo_isAtRest [.ref 86] h (fun v h1 => h1 = h ∧ ((g 2 = 0 ∧ g 10 = 0) ∧ v = 1 ∨ ¬ (g 2 = 0 ∧ g 10 = 0) ∧ v = 0)) := by
  refine C_of_T rfl rfl (Nat.le_of_ble_eq_true rfl) rfl ?_
  refine T_aload_n (pc' := 1) d_Mo_isAtRest_0 rfl rfl rfl ?_
  refine T_get (pc' := 4) d_Mo_isAtRest_1 rfl g_Mo_41 (by first | assumption | exact e_put_s | simp [e_put, *]) rfl ?_
  refine T_iconst (v := 2) (pc' := 5) d_Mo_isAtRest_4 rfl (by decide) ?_
  refine T_ialoadL 2 (pc' := 6) d_Mo_isAtRest_5 rfl (by first | assumption | exact e_put_s | simp [e_put, *]) (by decide) ?_
  refine T_if_ne (pc' := 9) (tgt := 23) d_Mo_isAtRest_6 rfl (by decide) (fun hc => ?_) (fun hc => ?_)
  · refine T_iconst (v := 0) (pc' := 24) d_Mo_isAtRest_23 rfl (by decide) ?_
    refine T_zret d_Mo_isAtRest_24 rfl (by first | assumption | exact Or.inl rfl | exact Or.inr rfl) ?_
    exact ⟨_, rfl, rfl, Or.inr ⟨fun q => hc q.1, rfl⟩⟩
  · have hc2 : g 2 = 0 := hc
    refine T_aload_n (pc' := 10) d_Mo_isAtRest_9 rfl rfl rfl ?_
    refine T_get (pc' := 13) d_Mo_isAtRest_10 rfl g_Mo_41 (by first | assumption | exact e_put_s | simp [e_put, *]) rfl ?_
    refine T_bipush (v := 10) (pc' := 15) d_Mo_isAtRest_13 rfl (by decide) ?_
    refine T_ialoadL 10 (pc' := 16) d_Mo_isAtRest_15 rfl (by first | assumption | exact e_put_s | simp [e_put, *]) (by decide) ?_
    refine T_if_ne (pc' := 19) (tgt := 23) d_Mo_isAtRest_16 rfl (by decide) (fun hc => ?_) (fun hc => ?_)
    · refine T_iconst (v := 0) (pc' := 24) d_Mo_isAtRest_23 rfl (by decide) ?_
      refine T_zret d_Mo_isAtRest_24 rfl (by first | assumption | exact Or.inl rfl | exact Or.inr rfl) ?_
      exact ⟨_, rfl, rfl, Or.inr ⟨fun q => hc q.2, rfl⟩⟩
    · refine T_iconst (v := 1) (pc' := 20) d_Mo_isAtRest_19 rfl (by decide) ?_
      refine T_goto (pc' := 24) d_Mo_isAtRest_20 (by decide) ?_
      refine T_zret d_Mo_isAtRest_24 rfl (by first | assumption | exact Or.inl rfl | exact Or.inr rfl) ?_
      exact ⟨_, rfl, rfl, Or.inl ⟨⟨hc2, hc⟩, rfl⟩⟩
theorem p_Mo_enters (p : Int32) (mi : MI h σ) (si : SI σ) : Ci X (d + 20) M_Mo_enters [.ref 86, .int p] h (fun v h1 => v = (a_enters σ p).1 ∧ MI h1 (a_enters σ p).2 ∧ Fr 86 109 h h1) := by
  have hn := si.1.2.1
  have mt := mi.2.2.1
  have r5 := mi.2.2.2.2.2.1
  obtain ⟨sc, r0, -⟩ := mi.1
  refine C_of_T rfl rfl (Nat.le_of_ble_eq_true rfl) rfl ?_
  refine T_aload_n (pc' := 1) d_Mo_enters_0 rfl rfl rfl ?_
  refine T_iload_n (pc' := 2) d_Mo_enters_1 rfl rfl rfl ?_
  refine T_V1i (pc' := 5) d_Mo_enters_2 rfl l_Mo_152 v_Mo_isOne (by first | assumption | exact e_put_s | simp [e_put, *]) (Nat.le_of_ble_eq_true rfl) (c_Mo_isOne X _ h _ _ _ _ _ _ _ p hn mt) (fun v h1 hq => ?_)
  obtain ⟨rfl, ⟨hp, rfl⟩ | ⟨hp, rfl⟩⟩ := hq
  · refine T_if_ne (pc' := 8) (tgt := 10) d_Mo_enters_5 rfl (by decide) (fun _ => ?_) (fun hzz => absurd hzz (by decide))
    have hok : okP (σ.1 1) p := (isP_iff (by omega) p).mp hp
    obtain ⟨i, hi, rfl⟩ := hp
    refine T_aload_n (pc' := 11) d_Mo_enters_10 rfl rfl rfl ?_
    refine T_get (pc' := 14) d_Mo_enters_11 rfl g_Mo_41 (by first | assumption | exact e_put_s | simp [e_put, *]) rfl ?_
    refine T_bipush (v := 6) (pc' := 16) d_Mo_enters_14 rfl (by decide) ?_
    refine T_ialoadL 6 (pc' := 17) d_Mo_enters_16 rfl (by first | assumption | exact e_put_s | simp [e_put, *]) (by decide) ?_
    refine T_iload_n (pc' := 18) d_Mo_enters_17 rfl rfl rfl ?_
    refine T_S2i (pc' := 21) d_Mo_enters_18 rfl l_Mo_140 v_Mo_has (Nat.le_of_ble_eq_true rfl) (c_Mo_has X _ h1 (σ.2.1 6 6) (nI i)) (fun v h2 hq => ?_)
    obtain ⟨rfl, ⟨ha, rfl⟩ | ⟨ha, rfl⟩⟩ := hq
    · refine T_if_ne (pc' := 24) (tgt := 31) d_Mo_enters_21 rfl (by decide) (fun _ => ?_) (fun hzz => absurd hzz (by decide))
      refine T_bipush (v := (-2)) (pc' := 33) d_Mo_enters_31 rfl (by decide) ?_
      refine T_iret d_Mo_enters_33 rfl ?_
      refine ⟨_, rfl, ?_⟩
      rw [a_enters, if_pos hok, if_neg (fun q => q.1 ha)]
      exact ⟨rfl, mi, Fr.rf⟩
    · refine T_if_ne (pc' := 24) (tgt := 31) d_Mo_enters_21 rfl (by decide) (fun hzz => absurd (by decide) hzz) (fun _ => ?_)
      refine T_aload_n (pc' := 25) d_Mo_enters_24 rfl rfl rfl ?_
      refine T_V0i (pc' := 28) d_Mo_enters_25 rfl l_Mo_177 v_Mo_isAtRest (by first | assumption | exact e_put_s | simp [e_put, *]) (Nat.le_of_ble_eq_true rfl) (c_Mo_isAtRest X _ h2 sc _ _ r0 r5) (fun v h3 hq => ?_)
      obtain ⟨rfl, ⟨hb, rfl⟩ | ⟨hb, rfl⟩⟩ := hq
      · refine T_if_ne (pc' := 31) (tgt := 34) d_Mo_enters_28 rfl (by decide) (fun _ => ?_) (fun hzz => absurd hzz (by decide))
        refine T_aload_n (pc' := 35) d_Mo_enters_34 rfl rfl rfl ?_
        refine T_V0v (pc' := 38) d_Mo_enters_35 rfl l_Mo_166 v_Mo_know (by first | assumption | exact e_put_s | simp [e_put, *]) (Nat.le_of_ble_eq_true rfl) (c_Mo_know X _ h3 σ mi si) (fun h4 hq => ?_)
        obtain ⟨mi4, ex4⟩ := hq
        have k0 : h4.2 86 = _ := (ex4.2 _ (by decide)).trans r0
        have k5 : h4.2 97 = _ := (ex4.2 _ (by decide)).trans r5
        refine T_aload_n (pc' := 39) d_Mo_enters_38 rfl rfl rfl ?_
        refine T_get (pc' := 42) d_Mo_enters_39 rfl g_Mo_41 (by first | assumption | exact e_put_s | simp [e_put, *]) rfl ?_
        refine T_bipush (v := 6) (pc' := 44) d_Mo_enters_42 rfl (by decide) ?_
        refine T_dup2 (pc' := 45) d_Mo_enters_44 rfl rfl rfl ?_
        refine T_ialoadL 6 (pc' := 46) d_Mo_enters_45 rfl (by first | assumption | exact e_put_s | simp [e_put, *]) (by decide) ?_
        refine T_iconst (v := 1) (pc' := 47) d_Mo_enters_46 rfl (by decide) ?_
        refine T_iload_n (pc' := 48) d_Mo_enters_47 rfl rfl rfl ?_
        refine T_ishl (pc' := 49) d_Mo_enters_48 rfl ?_
        refine T_ior (pc' := 50) d_Mo_enters_49 rfl ?_
        refine T_iastoreL 6 (pc' := 51) d_Mo_enters_50 rfl (by first | assumption | exact e_put_s | simp [e_put, *]) (by decide) ?_
        have ex5 : Ex [97] h4 (e_put h4 97 (.inl (0, 11, sIn (σ.2.1 6) i))) := Ex.rf.put (by decide)
        have mi5 := MI_now mi4 ex5 e_put_s
        refine T_aload_n (pc' := 52) d_Mo_enters_51 rfl rfl rfl ?_
        refine T_get (pc' := 55) d_Mo_enters_52 rfl g_Mo_41 (by first | exact (e_put_n (by decide)).trans k0 | exact e_put_s) rfl ?_
        refine T_bipush (v := 6) (pc' := 57) d_Mo_enters_55 rfl (by decide) ?_
        refine T_ialoadL 6 (pc' := 58) d_Mo_enters_57 rfl (by first | exact (e_put_n (by decide)).trans k0 | exact e_put_s) (by decide) ?_
        refine T_S1i (pc' := 61) d_Mo_enters_58 rfl l_Mo_181 v_Mo_bitsOf (Nat.le_of_ble_eq_true rfl) (c_Mo_bitsOf X _ _ _) (fun v h6 hq => ?_)
        obtain ⟨rfl, rfl⟩ := hq
        refine T_iret d_Mo_enters_61 rfl ?_
        refine ⟨_, rfl, ?_⟩
        rw [a_enters, if_pos hok, if_pos ⟨ha, hb⟩, nI_clamp (by omega)]
        exact ⟨rfl, mi5, ((ex4.mono (S' := [98, 99, 97]) (by decide)).tr (ex5.mono (by decide))).fr (by decide)⟩
      · refine T_if_ne (pc' := 31) (tgt := 34) d_Mo_enters_28 rfl (by decide) (fun hzz => absurd (by decide) hzz) (fun _ => ?_)
        refine T_bipush (v := (-2)) (pc' := 33) d_Mo_enters_31 rfl (by decide) ?_
        refine T_iret d_Mo_enters_33 rfl ?_
        refine ⟨_, rfl, ?_⟩
        rw [a_enters, if_pos hok, if_neg (fun q => hb q.2)]
        exact ⟨rfl, mi, Fr.rf⟩
  · refine T_if_ne (pc' := 8) (tgt := 10) d_Mo_enters_5 rfl (by decide) (fun hzz => absurd (by decide) hzz) (fun _ => ?_)
    refine T_iconst (v := (-1)) (pc' := 9) d_Mo_enters_8 rfl (by decide) ?_
    refine T_iret d_Mo_enters_9 rfl ?_
    refine ⟨_, rfl, ?_⟩
    rw [a_enters, if_neg (fun q => hp ((isP_iff (by omega) p).mpr q))]
    exact ⟨rfl, mi, Fr.rf⟩
theorem p_Mo_leaves (p : Int32) (mi : MI h σ) (si : SI σ) : Ci X (d + 20) M_Mo_leaves [.ref 86, .int p] h (fun v h1 => v = (a_leaves σ p).1 ∧ MI h1 (a_leaves σ p).2 ∧ Fr 86 109 h h1) := by
  have hn := si.1.2.1
  have mt := mi.2.2.1
  have r5 := mi.2.2.2.2.2.1
  obtain ⟨sc, r0, -⟩ := mi.1
  refine C_of_T rfl rfl (Nat.le_of_ble_eq_true rfl) rfl ?_
  refine T_aload_n (pc' := 1) d_Mo_leaves_0 rfl rfl rfl ?_
  refine T_iload_n (pc' := 2) d_Mo_leaves_1 rfl rfl rfl ?_
  refine T_V1i (pc' := 5) d_Mo_leaves_2 rfl l_Mo_152 v_Mo_isOne (by first | assumption | exact e_put_s | simp [e_put, *]) (Nat.le_of_ble_eq_true rfl) (c_Mo_isOne X _ h _ _ _ _ _ _ _ p hn mt) (fun v h1 hq => ?_)
  obtain ⟨rfl, ⟨hp, rfl⟩ | ⟨hp, rfl⟩⟩ := hq
  · refine T_if_ne (pc' := 8) (tgt := 10) d_Mo_leaves_5 rfl (by decide) (fun _ => ?_) (fun hzz => absurd hzz (by decide))
    have hok : okP (σ.1 1) p := (isP_iff (by omega) p).mp hp
    obtain ⟨i, hi, rfl⟩ := hp
    refine T_aload_n (pc' := 11) d_Mo_leaves_10 rfl rfl rfl ?_
    refine T_get (pc' := 14) d_Mo_leaves_11 rfl g_Mo_41 (by first | assumption | exact e_put_s | simp [e_put, *]) rfl ?_
    refine T_bipush (v := 6) (pc' := 16) d_Mo_leaves_14 rfl (by decide) ?_
    refine T_ialoadL 6 (pc' := 17) d_Mo_leaves_16 rfl (by first | assumption | exact e_put_s | simp [e_put, *]) (by decide) ?_
    refine T_iload_n (pc' := 18) d_Mo_leaves_17 rfl rfl rfl ?_
    refine T_S2i (pc' := 21) d_Mo_leaves_18 rfl l_Mo_140 v_Mo_has (Nat.le_of_ble_eq_true rfl) (c_Mo_has X _ h1 (σ.2.1 6 6) (nI i)) (fun v h2 hq => ?_)
    obtain ⟨rfl, ⟨ha, rfl⟩ | ⟨ha, rfl⟩⟩ := hq
    · refine T_if_eq (pc' := 24) (tgt := 31) d_Mo_leaves_21 rfl (by decide) (fun hzz => absurd hzz (by decide)) (fun _ => ?_)
      refine T_aload_n (pc' := 25) d_Mo_leaves_24 rfl rfl rfl ?_
      refine T_V0i (pc' := 28) d_Mo_leaves_25 rfl l_Mo_177 v_Mo_isAtRest (by first | assumption | exact e_put_s | simp [e_put, *]) (Nat.le_of_ble_eq_true rfl) (c_Mo_isAtRest X _ h2 sc _ _ r0 r5) (fun v h3 hq => ?_)
      obtain ⟨rfl, ⟨hb, rfl⟩ | ⟨hb, rfl⟩⟩ := hq
      · refine T_if_ne (pc' := 31) (tgt := 34) d_Mo_leaves_28 rfl (by decide) (fun _ => ?_) (fun hzz => absurd hzz (by decide))
        refine T_aload_n (pc' := 35) d_Mo_leaves_34 rfl rfl rfl ?_
        refine T_V0v (pc' := 38) d_Mo_leaves_35 rfl l_Mo_166 v_Mo_know (by first | assumption | exact e_put_s | simp [e_put, *]) (Nat.le_of_ble_eq_true rfl) (c_Mo_know X _ h3 σ mi si) (fun h4 hq => ?_)
        obtain ⟨mi4, ex4⟩ := hq
        have k0 : h4.2 86 = _ := (ex4.2 _ (by decide)).trans r0
        have k5 : h4.2 97 = _ := (ex4.2 _ (by decide)).trans r5
        have fin : ∀ g', g' = sOut (σ.2.1 6) i → T X (d + 19 + 1) M_Mo_leaves 79 [.ref 86, .int (nI i)] [] (e_put h4 97 (.inl (0, 11, g'))) (fun r h1 => ∃ v : Int32, r = some (.int v) ∧ v = (a_leaves σ (nI i)).1 ∧ MI h1 (a_leaves σ (nI i)).2 ∧ Fr 86 109 h3 h1) := by
          intro g' hg'
          subst hg'
          have ex5 : Ex [97] h4 (e_put h4 97 (.inl (0, 11, sOut (σ.2.1 6) i))) := Ex.rf.put (by decide)
          have mi5 := MI_now mi4 ex5 e_put_s
          refine T_aload_n (pc' := 80) d_Mo_leaves_79 rfl rfl rfl ?_
          refine T_get (pc' := 83) d_Mo_leaves_80 rfl g_Mo_41 (by first | exact (e_put_n (by decide)).trans k0 | exact e_put_s) rfl ?_
          refine T_bipush (v := 6) (pc' := 85) d_Mo_leaves_83 rfl (by decide) ?_
          refine T_ialoadL 6 (pc' := 86) d_Mo_leaves_85 rfl (by first | exact (e_put_n (by decide)).trans k0 | exact e_put_s) (by decide) ?_
          refine T_S1i (pc' := 89) d_Mo_leaves_86 rfl l_Mo_181 v_Mo_bitsOf (Nat.le_of_ble_eq_true rfl) (c_Mo_bitsOf X _ _ _) (fun v h6 hq => ?_)
          obtain ⟨rfl, rfl⟩ := hq
          refine T_iret d_Mo_leaves_89 rfl ?_
          refine ⟨_, rfl, ?_⟩
          rw [a_leaves, if_pos hok, if_pos ⟨ha, hb⟩, nI_clamp (by omega)]
          exact ⟨rfl, mi5, ((ex4.mono (S' := [98, 99, 97]) (by decide)).tr (ex5.mono (by decide))).fr (by decide)⟩
        refine T_aload_n (pc' := 39) d_Mo_leaves_38 rfl rfl rfl ?_
        refine T_get (pc' := 42) d_Mo_leaves_39 rfl g_Mo_41 (by first | assumption | exact e_put_s | simp [e_put, *]) rfl ?_
        refine T_bipush (v := 6) (pc' := 44) d_Mo_leaves_42 rfl (by decide) ?_
        refine T_dup2 (pc' := 45) d_Mo_leaves_44 rfl rfl rfl ?_
        refine T_ialoadL 6 (pc' := 46) d_Mo_leaves_45 rfl (by first | assumption | exact e_put_s | simp [e_put, *]) (by decide) ?_
        refine T_iconst (v := 1) (pc' := 47) d_Mo_leaves_46 rfl (by decide) ?_
        refine T_iload_n (pc' := 48) d_Mo_leaves_47 rfl rfl rfl ?_
        refine T_ishl (pc' := 49) d_Mo_leaves_48 rfl ?_
        refine T_iconst (v := (-1)) (pc' := 50) d_Mo_leaves_49 rfl (by decide) ?_
        refine T_ixor (pc' := 51) d_Mo_leaves_50 rfl ?_
        refine T_iand (pc' := 52) d_Mo_leaves_51 rfl ?_
        refine T_iastoreL 6 (pc' := 53) d_Mo_leaves_52 rfl (by first | assumption | exact e_put_s | simp [e_put, *]) (by decide) ?_
        refine T_aload_n (pc' := 54) d_Mo_leaves_53 rfl rfl rfl ?_
        refine T_get (pc' := 57) d_Mo_leaves_54 rfl g_Mo_41 (by first | exact (e_put_n (by decide)).trans k0 | exact e_put_s) rfl ?_
        refine T_iconst (v := 3) (pc' := 58) d_Mo_leaves_57 rfl (by decide) ?_
        refine T_ialoadL 3 (pc' := 59) d_Mo_leaves_58 rfl (by first | exact (e_put_n (by decide)).trans k0 | exact e_put_s) (by decide) ?_
        refine T_iload_n (pc' := 60) d_Mo_leaves_59 rfl rfl rfl ?_
        have e3 : e_up (σ.2.1 6) 6 (σ.2.1 6 6 &&& (1 <<< (nI i &&& 31) ^^^ -1)) 3 = σ.2.1 6 3 := rfl
        rw [e3]
        by_cases hw : σ.2.1 6 3 = nI i
        · refine T_icmp_ne (pc' := 63) (tgt := 79) d_Mo_leaves_60 rfl (by decide) (fun hzz => absurd hw hzz) (fun _ => ?_)
          refine T_aload_n (pc' := 64) d_Mo_leaves_63 rfl rfl rfl ?_
          refine T_get (pc' := 67) d_Mo_leaves_64 rfl g_Mo_41 (by first | exact (e_put_n (by decide)).trans k0 | exact e_put_s) rfl ?_
          refine T_iconst (v := 3) (pc' := 68) d_Mo_leaves_67 rfl (by decide) ?_
          refine T_bipush (v := (-9)) (pc' := 70) d_Mo_leaves_68 rfl (by decide) ?_
          refine T_iastoreL 3 (pc' := 71) d_Mo_leaves_70 rfl (by first | exact (e_put_n (by decide)).trans k0 | exact e_put_s) (by decide) ?_
          rw [e_pp]
          refine T_aload_n (pc' := 72) d_Mo_leaves_71 rfl rfl rfl ?_
          refine T_get (pc' := 75) d_Mo_leaves_72 rfl g_Mo_41 (by first | exact (e_put_n (by decide)).trans k0 | exact e_put_s) rfl ?_
          refine T_iconst (v := 4) (pc' := 76) d_Mo_leaves_75 rfl (by decide) ?_
          refine T_bipush (v := (-9)) (pc' := 78) d_Mo_leaves_76 rfl (by decide) ?_
          refine T_iastoreL 4 (pc' := 79) d_Mo_leaves_78 rfl (by first | exact (e_put_n (by decide)).trans k0 | exact e_put_s) (by decide) ?_
          rw [e_pp]
          refine fin _ ?_
          funext k
          rw [e_upL, e_upL, e_upL, sOut]
          by_cases k6 : k = 6
          · subst k6; rfl
          · rw [if_neg k6, if_neg k6]
            by_cases k3 : k = 3
            · subst k3; rw [if_neg (by decide), if_pos rfl, if_pos ⟨hw, Or.inl rfl⟩]
            · by_cases k4 : k = 4
              · subst k4; rw [if_pos rfl, if_pos ⟨hw, Or.inr rfl⟩]
              · rw [if_neg k4, if_neg k3, if_neg (fun q => q.2.elim k3 k4)]
        · refine T_icmp_ne (pc' := 63) (tgt := 79) d_Mo_leaves_60 rfl (by decide) (fun _ => ?_) (fun hzz => absurd hzz hw)
          refine fin _ ?_
          funext k
          rw [e_upL, sOut]
          by_cases k6 : k = 6
          · subst k6; rfl
          · rw [if_neg k6, if_neg k6, if_neg (fun q => hw q.1)]
      · refine T_if_ne (pc' := 31) (tgt := 34) d_Mo_leaves_28 rfl (by decide) (fun hzz => absurd (by decide) hzz) (fun _ => ?_)
        refine T_bipush (v := (-2)) (pc' := 33) d_Mo_leaves_31 rfl (by decide) ?_
        refine T_iret d_Mo_leaves_33 rfl ?_
        refine ⟨_, rfl, ?_⟩
        rw [a_leaves, if_pos hok, if_neg (fun q => hb q.2)]
        exact ⟨rfl, mi, Fr.rf⟩
    · refine T_if_eq (pc' := 24) (tgt := 31) d_Mo_leaves_21 rfl (by decide) (fun _ => ?_) (fun hzz => absurd (by decide) hzz)
      refine T_bipush (v := (-2)) (pc' := 33) d_Mo_leaves_31 rfl (by decide) ?_
      refine T_iret d_Mo_leaves_33 rfl ?_
      refine ⟨_, rfl, ?_⟩
      rw [a_leaves, if_pos hok, if_neg (fun q => ha q.1)]
      exact ⟨rfl, mi, Fr.rf⟩
  · refine T_if_ne (pc' := 8) (tgt := 10) d_Mo_leaves_5 rfl (by decide) (fun hzz => absurd (by decide) hzz) (fun _ => ?_)
    refine T_iconst (v := (-1)) (pc' := 9) d_Mo_leaves_8 rfl (by decide) ?_
    refine T_iret d_Mo_leaves_9 rfl ?_
    refine ⟨_, rfl, ?_⟩
    rw [a_leaves, if_neg (fun q => hp ((isP_iff (by omega) p).mpr q))]
    exact ⟨rfl, mi, Fr.rf⟩
theorem sCp_s (f g : Nat → Int32) (i : Nat) : e_up (sCp f g i) i (f i) = sCp f g (i + 1) := by
  funext j
  by_cases h1 : j = i
  · subst h1; rw [e_upL, if_pos rfl, sCp, if_pos (by omega)]
  · rw [e_upL, if_neg h1, sCp, sCp]
    by_cases h2 : j < i
    · rw [if_pos h2, if_pos (by omega)]
    · rw [if_neg h2, if_neg (by omega)]
theorem sCp_0 (f g : Nat → Int32) : sCp f g 0 = g := by
  funext j; rw [sCp, if_neg (by omega)]
theorem l_undo (sc : Nat → Int32) (tc : Int64) (f g kf row : Nat → Int32) (kn : Nat) (hkn : kn < 10) (h0 : h.2 86 = some (oMo sc tc)) (hf : h.2 99 = some (.inl (0, 330, f))) (hr : ∀ k, k < 11 → f (11 * kn + k) = row k) (hkf : h.2 98 = some (.inl (0, 3, kf))) (hk0 : kf 0 = nI kn) (Q : Option Value → AH → Prop) (hQ : Q (some (.int (nI kn))) (e_put h 97 (.inl (0, 11, sCp row g 11)))) : ∀ (k i : Nat), i + k = 11 → T X d M_Mo_undo 24 [.ref 86, .int (nI i)] [] (e_put h 97 (.inl (0, 11, sCp row g i))) Q
  | 0, i, hi => by
    have : i = 11 := by omega
    subst this
    refine T_iload_n (pc' := 25) d_Mo_undo_24 rfl rfl rfl ?_
    refine T_bipush (v := 11) (pc' := 27) d_Mo_undo_25 rfl (by decide) ?_
    refine T_icmp_ge (pc' := 30) (tgt := 58) d_Mo_undo_27 rfl (by decide) (fun _ => ?_) (fun hzz => absurd (by decide) hzz)
    refine T_aload_n (pc' := 59) d_Mo_undo_58 rfl rfl rfl ?_
    refine T_get (pc' := 62) d_Mo_undo_59 rfl g_Mo_44 (by first | exact (e_put_n (by decide)).trans h0 | exact (e_put_n (by decide)).trans hkf) rfl ?_
    refine T_iconst (v := 0) (pc' := 63) d_Mo_undo_62 rfl (by decide) ?_
    refine T_ialoadL 0 (pc' := 64) d_Mo_undo_63 rfl (by first | exact (e_put_n (by decide)).trans h0 | exact (e_put_n (by decide)).trans hkf) (by decide) ?_
    rw [hk0]
    refine T_iret d_Mo_undo_64 rfl ?_
    exact hQ
  | k + 1, i, hi => by
    refine T_iload_n (pc' := 25) d_Mo_undo_24 rfl rfl rfl ?_
    refine T_bipush (v := 11) (pc' := 27) d_Mo_undo_25 rfl (by decide) ?_
    refine T_icmp_ge (pc' := 30) (tgt := 58) d_Mo_undo_27 rfl (by decide) (fun hzz => absurd hzz (nI_ge (a := i) (b := 11) (by omega) (by decide))) (fun _ => ?_)
    refine T_aload_n (pc' := 31) d_Mo_undo_30 rfl rfl rfl ?_
    refine T_get (pc' := 34) d_Mo_undo_31 rfl g_Mo_41 (by first | exact (e_put_n (by decide)).trans h0 | exact (e_put_n (by decide)).trans hkf) rfl ?_
    refine T_iload_n (pc' := 35) d_Mo_undo_34 rfl rfl rfl ?_
    refine T_aload_n (pc' := 36) d_Mo_undo_35 rfl rfl rfl ?_
    refine T_get (pc' := 39) d_Mo_undo_36 rfl g_Mo_47 (by first | exact (e_put_n (by decide)).trans h0 | exact (e_put_n (by decide)).trans hkf) rfl ?_
    refine T_bipush (v := 11) (pc' := 41) d_Mo_undo_39 rfl (by decide) ?_
    refine T_aload_n (pc' := 42) d_Mo_undo_41 rfl rfl rfl ?_
    refine T_get (pc' := 45) d_Mo_undo_42 rfl g_Mo_44 (by first | exact (e_put_n (by decide)).trans h0 | exact (e_put_n (by decide)).trans hkf) rfl ?_
    refine T_iconst (v := 0) (pc' := 46) d_Mo_undo_45 rfl (by decide) ?_
    refine T_ialoadL 0 (pc' := 47) d_Mo_undo_46 rfl (by first | exact (e_put_n (by decide)).trans h0 | exact (e_put_n (by decide)).trans hkf) (by decide) ?_
    refine T_imul (pc' := 48) d_Mo_undo_47 rfl ?_
    refine T_iload_n (pc' := 49) d_Mo_undo_48 rfl rfl rfl ?_
    refine T_iadd (pc' := 50) d_Mo_undo_49 rfl ?_
    rw [hk0, s_11 kn (by omega), nI_add]
    refine T_ialoadN (11 * kn + i) (pc' := 51) d_Mo_undo_50 rfl ((e_put_n (by decide)).trans hf) ⟨by omega, by decide⟩ ?_
    refine T_iastoreN i (pc' := 52) d_Mo_undo_51 rfl e_put_s ⟨by omega, by decide⟩ ?_
    rw [e_pp, hr i (by omega), sCp_s]
    refine T_ii1 (c := 1) (pc' := 55) d_Mo_undo_52 rfl (by decide) (Nat.le_of_ble_eq_true rfl) rfl ?_
    rw [nI_1]
    refine T_goto (pc' := 24) d_Mo_undo_55 (by decide) ?_
    exact l_undo sc tc f g kf row kn hkn h0 hf hr hkf hk0 Q hQ k (i + 1) (by omega)
theorem p_Mo_undo (mi : MI h σ) (si : SI σ) : Ci X (d + 20) M_Mo_undo [.ref 86] h (fun v h1 => v = (a_undo σ).1 ∧ MI h1 (a_undo σ).2 ∧ Fr 86 109 h h1) := by
  have mi' := mi
  have hkn := si.1.2.2.2.1
  obtain ⟨⟨sc, r0, -⟩, -, -, -, -, r5, ⟨f6, r6, q6, q6a, q6b⟩, ⟨f7, r7, q7, q7a, q7b⟩, -⟩ := mi
  refine C_of_T rfl rfl (Nat.le_of_ble_eq_true rfl) rfl ?_
  refine T_aload_n (pc' := 1) d_Mo_undo_0 rfl rfl rfl ?_
  refine T_get (pc' := 4) d_Mo_undo_1 rfl g_Mo_44 (by first | assumption | exact e_put_s | simp [e_put, *]) rfl ?_
  refine T_iconst (v := 0) (pc' := 5) d_Mo_undo_4 rfl (by decide) ?_
  refine T_ialoadL 0 (pc' := 6) d_Mo_undo_5 rfl (by first | assumption | exact e_put_s | simp [e_put, *]) (by decide) ?_
  rw [q6]
  by_cases hz : σ.1 3 = 0
  · refine T_if_ne (pc' := 9) (tgt := 12) d_Mo_undo_6 rfl (by decide) (fun hzz => absurd (by rw [hz]; rfl) hzz) (fun _ => ?_)
    refine T_bipush (v := (-2)) (pc' := 11) d_Mo_undo_9 rfl (by decide) ?_
    refine T_iret d_Mo_undo_11 rfl ?_
    refine ⟨_, rfl, ?_⟩
    rw [a_undo, if_pos hz]
    exact ⟨rfl, mi', Fr.rf⟩
  · refine T_if_ne (pc' := 9) (tgt := 12) d_Mo_undo_6 rfl (by decide) (fun _ => ?_) (fun hzz => absurd hzz (nI_ne0 (by omega) (by omega)))
    obtain ⟨kn, hk⟩ : ∃ kn, σ.1 3 = kn + 1 := ⟨σ.1 3 - 1, by omega⟩
    refine T_aload_n (pc' := 13) d_Mo_undo_12 rfl rfl rfl ?_
    refine T_get (pc' := 16) d_Mo_undo_13 rfl g_Mo_44 (by first | assumption | exact e_put_s | simp [e_put, *]) rfl ?_
    refine T_iconst (v := 0) (pc' := 17) d_Mo_undo_16 rfl (by decide) ?_
    refine T_dup2 (pc' := 18) d_Mo_undo_17 rfl rfl rfl ?_
    refine T_ialoadL 0 (pc' := 19) d_Mo_undo_18 rfl (by first | assumption | exact e_put_s | simp [e_put, *]) (by decide) ?_
    refine T_iconst (v := 1) (pc' := 20) d_Mo_undo_19 rfl (by decide) ?_
    refine T_isub (pc' := 21) d_Mo_undo_20 rfl ?_
    refine T_iastoreL 0 (pc' := 22) d_Mo_undo_21 rfl (by first | assumption | exact e_put_s | simp [e_put, *]) (by decide) ?_
    rw [q6, hk, nI_pred]
    refine T_iconst (v := 0) (pc' := 23) d_Mo_undo_22 rfl (by decide) ?_
    refine T_is_n1 (pc' := 24) d_Mo_undo_23 rfl rfl (Nat.le_of_ble_eq_true rfl) rfl ?_
    generalize hH : e_put h 98 (.inl (0, 3, e_up f6 0 (nI kn))) = H
    have exH : Ex [98, 99] h H := by rw [← hH]; exact Ex.rf.put (by decide)
    have kH : H.2 98 = some (.inl (0, 3, e_up f6 0 (nI kn))) := by rw [← hH]; exact e_put_s
    have nH : H.2 97 = some (.inl (0, 11, σ.2.1 6)) := (exH.2 _ (by decide)).trans r5
    have bH : H.2 99 = some (.inl (0, 330, f7)) := by rw [← hH]; exact (e_put_n (by decide)).trans r7
    have miH : MI H (sH σ kn (fun i => σ.2.1 (20 + i))) := MI_hist (by omega) mi' exH kH rfl q6a q6b bH (fun i hi k hk2 => q7 i (by omega) k hk2) q7a q7b
    have hs : H = e_put H 97 (.inl (0, 11, sCp (σ.2.1 (20 + kn)) (σ.2.1 6) 0)) := by rw [sCp_0]; exact (e_put_self nH).symm
    rw [hs]
    refine l_undo X _ H sc σ.2.2 f7 (σ.2.1 6) _ (σ.2.1 (20 + kn)) kn (by omega) ((exH.2 _ (by decide)).trans r0) bH (fun k hk2 => q7 kn (by omega) k hk2) kH rfl _ ⟨_, rfl, ?_⟩ 11 0 rfl
    rw [a_undo, if_neg hz, hk]
    have exN : Ex [97] H (e_put H 97 (.inl (0, 11, sCp (σ.2.1 (20 + kn)) (σ.2.1 6) 11))) := Ex.rf.put (by decide)
    exact ⟨rfl, MI_now miH exN e_put_s, ((exH.mono (S' := [98, 99, 97]) (by decide)).tr (exN.mono (by decide))).fr (by decide)⟩
end MPUB3
