/-! Told: what the text has told -/
abbrev oTo (w1 w2 w3 w4 w5 : Nat) (pe tn sta ab : Int32) : AC := .inr (.inr (7, [.ref w1, .ref w2, .ref w3, .ref w4, .ref w5, .int pe, .int tn, .int sta, .int ab]))
def TR (h : AH) (a n m : Nat) (wi we br li fa : Nat → Int32) (sta ab : Int32) : Prop := h.2 a = some (oTo (a + 1) (a + 2) (a + 3) (a + 4) (a + 5) (nI n) (nI m) sta ab) ∧ h.2 (a + 1) = some (.inl (0, 10, wi)) ∧ h.2 (a + 2) = some (.inl (0, 3, we)) ∧ h.2 (a + 3) = some (.inl (0, 3, br)) ∧ h.2 (a + 4) = some (.inl (0, 4, li)) ∧ h.2 (a + 5) = some (.inl (0, 4, fa))
theorem TR_put {h : AH} {a n m b : Nat} {wi we br li fa : Nat → Int32} {sta ab : Int32} {c : AC} (tr : TR h a n m wi we br li fa sta ab) (hb : b < a ∨ a + 5 < b) : TR (e_put h b c) a n m wi we br li fa sta ab := by
  obtain ⟨t0, t1, t2, t3, t4, t5⟩ := tr
  exact ⟨(e_put_n (by omega)).trans t0, (e_put_n (by omega)).trans t1, (e_put_n (by omega)).trans t2, (e_put_n (by omega)).trans t3, (e_put_n (by omega)).trans t4, (e_put_n (by omega)).trans t5⟩
section TO
variable (X : EX) (d : Nat) (h : AH) (a n m : Nat) (wi we br li fa : Nat → Int32) (sta abf : Int32) (hn : n ≤ 3) (hm : m ≤ 4) (tr : TR h a n m wi we br li fa sta abf)
theorem c_To_hasPerson (p : Int32) (hn : n ≤ 3) (tr : TR h a n m wi we br li fa sta abf) : Ci X d M_To_hasPerson [.ref a, .int p] h (fun v h1 => h1 = h ∧ (isP n p ∧ v = 1 ∨ ¬ isP n p ∧ v = 0)) := by
  obtain ⟨t0, t1, t2, t3, t4, t5⟩ := tr
  have hi := isP_iff (n := n) (by omega) p
  refine C_of_T rfl rfl (Nat.le_of_ble_eq_true rfl) rfl ?_
  refine T_iload_n (pc' := 1) d_To_hasPerson_0 rfl rfl rfl ?_
  refine T_if_lt (pc' := 4) (tgt := 16) d_To_hasPerson_1 rfl (by decide) (fun hc => ?_) (fun hc => ?_)
  · refine T_iconst (v := 0) (pc' := 17) d_To_hasPerson_16 rfl (by decide) ?_
    refine T_zret d_To_hasPerson_17 rfl (by first | assumption | exact Or.inl rfl | exact Or.inr rfl) ?_
    exact ⟨_, rfl, rfl, Or.inr ⟨fun q => (hi.mp q).1 hc, rfl⟩⟩
  · refine T_iload_n (pc' := 5) d_To_hasPerson_4 rfl rfl rfl ?_
    refine T_aload_n (pc' := 6) d_To_hasPerson_5 rfl rfl rfl ?_
    refine T_get (pc' := 9) d_To_hasPerson_6 rfl g_To_27 (by first | assumption | exact e_put_s | simp [e_put, *]) rfl ?_
    refine T_icmp_ge (pc' := 12) (tgt := 16) d_To_hasPerson_9 rfl (by decide) (fun hc => ?_) (fun hc => ?_)
    · refine T_iconst (v := 0) (pc' := 17) d_To_hasPerson_16 rfl (by decide) ?_
      refine T_zret d_To_hasPerson_17 rfl (by first | assumption | exact Or.inl rfl | exact Or.inr rfl) ?_
      exact ⟨_, rfl, rfl, Or.inr ⟨fun q => absurd (hi.mp q).2 (Int32.not_lt.mpr hc), rfl⟩⟩
    · refine T_iconst (v := 1) (pc' := 13) d_To_hasPerson_12 rfl (by decide) ?_
      refine T_goto (pc' := 17) d_To_hasPerson_13 (by decide) ?_
      refine T_zret d_To_hasPerson_17 rfl (by first | assumption | exact Or.inl rfl | exact Or.inr rfl) ?_
      exact ⟨_, rfl, rfl, Or.inl ⟨hi.mpr ⟨‹_›, Int32.not_le.mp hc⟩, rfl⟩⟩
theorem c_To_hasThought (p : Int32) (hm : m ≤ 4) (tr : TR h a n m wi we br li fa sta abf) : Ci X d M_To_hasThought [.ref a, .int p] h (fun v h1 => h1 = h ∧ (isP m p ∧ v = 1 ∨ ¬ isP m p ∧ v = 0)) := by
  obtain ⟨t0, t1, t2, t3, t4, t5⟩ := tr
  have hi := isP_iff (n := m) (by omega) p
  refine C_of_T rfl rfl (Nat.le_of_ble_eq_true rfl) rfl ?_
  refine T_iload_n (pc' := 1) d_To_hasThought_0 rfl rfl rfl ?_
  refine T_if_lt (pc' := 4) (tgt := 16) d_To_hasThought_1 rfl (by decide) (fun hc => ?_) (fun hc => ?_)
  · refine T_iconst (v := 0) (pc' := 17) d_To_hasThought_16 rfl (by decide) ?_
    refine T_zret d_To_hasThought_17 rfl (by first | assumption | exact Or.inl rfl | exact Or.inr rfl) ?_
    exact ⟨_, rfl, rfl, Or.inr ⟨fun q => (hi.mp q).1 hc, rfl⟩⟩
  · refine T_iload_n (pc' := 5) d_To_hasThought_4 rfl rfl rfl ?_
    refine T_aload_n (pc' := 6) d_To_hasThought_5 rfl rfl rfl ?_
    refine T_get (pc' := 9) d_To_hasThought_6 rfl g_To_31 (by first | assumption | exact e_put_s | simp [e_put, *]) rfl ?_
    refine T_icmp_ge (pc' := 12) (tgt := 16) d_To_hasThought_9 rfl (by decide) (fun hc => ?_) (fun hc => ?_)
    · refine T_iconst (v := 0) (pc' := 17) d_To_hasThought_16 rfl (by decide) ?_
      refine T_zret d_To_hasThought_17 rfl (by first | assumption | exact Or.inl rfl | exact Or.inr rfl) ?_
      exact ⟨_, rfl, rfl, Or.inr ⟨fun q => absurd (hi.mp q).2 (Int32.not_lt.mpr hc), rfl⟩⟩
    · refine T_iconst (v := 1) (pc' := 13) d_To_hasThought_12 rfl (by decide) ?_
      refine T_goto (pc' := 17) d_To_hasThought_13 (by decide) ?_
      refine T_zret d_To_hasThought_17 rfl (by first | assumption | exact Or.inl rfl | exact Or.inr rfl) ?_
      exact ⟨_, rfl, rfl, Or.inl ⟨hi.mpr ⟨‹_›, Int32.not_le.mp hc⟩, rfl⟩⟩
theorem c_To_windAt (p : Int32) (k : Nat) (hk : k ≤ 9) (hp : p = nI k) (tr : TR h a n m wi we br li fa sta abf) : Ci X (d + 1) M_To_windAt [.ref a, .int p] h (fun v h1 => h1 = h ∧ v = wi p.toNatClampNeg) := by
  obtain ⟨t0, t1, t2, t3, t4, t5⟩ := tr
  subst hp
  refine C_of_T rfl rfl (Nat.le_of_ble_eq_true rfl) rfl ?_
  refine T_iload_n (pc' := 1) d_To_windAt_0 rfl rfl rfl ?_
  refine T_iconst (v := 0) (pc' := 2) d_To_windAt_1 rfl (by decide) ?_
  refine T_bipush (v := 9) (pc' := 4) d_To_windAt_2 rfl (by decide) ?_
  refine T_S3i (pc' := 7) d_To_windAt_4 rfl l_To_52 v_Tb_within (Nat.le_of_ble_eq_true rfl) (c_Tb_within X d h (nI k) 0 9) (fun v h1 hq => ?_)
  obtain ⟨rfl, ⟨hp, rfl⟩ | ⟨hp, rfl⟩⟩ := hq
  · refine T_if_eq (pc' := 10) (tgt := 19) d_To_windAt_7 rfl (by decide) (fun hzz => absurd hzz (by decide)) (fun _ => ?_)
    have hin : vp_in (nI k) 10 := vp_in_nI (by omega) (by decide)
    refine T_aload_n (pc' := 11) d_To_windAt_10 rfl rfl rfl ?_
    refine T_get (pc' := 14) d_To_windAt_11 rfl g_To_9 (by first | assumption | exact e_put_s | simp [e_put, *]) rfl ?_
    refine T_iload_n (pc' := 15) d_To_windAt_14 rfl rfl rfl ?_
    refine T_iaload (pc' := 16) d_To_windAt_15 rfl (by first | assumption | exact e_put_s | simp [e_put, *]) (by first | assumption | exact in_dec rfl) ?_
    refine T_goto (pc' := 20) d_To_windAt_16 (by decide) ?_
    refine T_iret d_To_windAt_20 rfl ?_
    exact ⟨_, rfl, rfl, rfl⟩
  · exact absurd ⟨nI_pos' (by omega), nI_le (b := 9) hk (by decide)⟩ hp
theorem c_To_faded (l f e : Int32) : Ci X (d + 1) M_To_faded [.int l, .int f, .int e] h (fun v h1 => h1 = h ∧ v = sPos (l - e * f)) := by
  refine C_of_T rfl rfl (Nat.le_of_ble_eq_true rfl) rfl ?_
  refine T_iconst (v := 0) (pc' := 1) d_To_faded_0 rfl (by decide) ?_
  refine T_iload_n (pc' := 2) d_To_faded_1 rfl rfl rfl ?_
  refine T_iload_n (pc' := 3) d_To_faded_2 rfl rfl rfl ?_
  refine T_iload_n (pc' := 4) d_To_faded_3 rfl rfl rfl ?_
  refine T_imul (pc' := 5) d_To_faded_4 rfl ?_
  refine T_isub (pc' := 6) d_To_faded_5 rfl ?_
  refine T_mmax (pc' := 9) d_To_faded_6 rfl l_To_56 (Nat.le_of_ble_eq_true rfl) ?_
  refine T_iret d_To_faded_9 rfl ?_
  exact ⟨_, rfl, rfl, sPos_max _⟩
theorem c_To_hold (b : Nat) (mi ce he th id si ab us lo : Int32) (hn : n ≤ 3) (hm : m ≤ 4) (tr : TR h a n m wi we br li fa sta abf) (hb : h.2 b = some (oFl mi ce he th id si ab us lo)) (hw : (th = -9 ∧ id = -9) ∨ (isP n th ∧ isP m id)) : Ci X (d + 2) M_To_hold [.ref a, .ref b] h (fun v h1 => h1 = h ∧ v = sHold br li fa th id (mi - si)) := by
  have tr' := tr
  obtain ⟨t0, t1, t2, t3, t4, t5⟩ := tr
  refine C_of_T rfl rfl (Nat.le_of_ble_eq_true rfl) rfl ?_
  refine T_aload_n (pc' := 1) d_To_hold_0 rfl rfl rfl ?_
  refine T_get (pc' := 4) d_To_hold_1 rfl g_To_62 (by first | assumption | exact e_put_s | simp [e_put, *]) rfl ?_
  refine T_is_n2 (pc' := 5) d_To_hold_4 rfl rfl (Nat.le_of_ble_eq_true rfl) rfl ?_
  refine T_aload_n (pc' := 6) d_To_hold_5 rfl rfl rfl ?_
  refine T_get (pc' := 9) d_To_hold_6 rfl g_To_67 (by first | assumption | exact e_put_s | simp [e_put, *]) rfl ?_
  refine T_is_n3 (pc' := 10) d_To_hold_9 rfl rfl (Nat.le_of_ble_eq_true rfl) rfl ?_
  refine T_aload_n (pc' := 11) d_To_hold_10 rfl rfl rfl ?_
  refine T_get (pc' := 14) d_To_hold_11 rfl g_To_70 (by first | assumption | exact e_put_s | simp [e_put, *]) rfl ?_
  refine T_aload_n (pc' := 15) d_To_hold_14 rfl rfl rfl ?_
  refine T_get (pc' := 18) d_To_hold_15 rfl g_To_73 (by first | assumption | exact e_put_s | simp [e_put, *]) rfl ?_
  refine T_isub (pc' := 19) d_To_hold_18 rfl ?_
  refine T_is4 (pc' := 21) d_To_hold_19 rfl (Nat.le_of_ble_eq_true rfl) rfl ?_
  refine T_aload_n (pc' := 22) d_To_hold_21 rfl rfl rfl ?_
  refine T_iload_n (pc' := 23) d_To_hold_22 rfl rfl rfl ?_
  refine T_V1i (pc' := 26) d_To_hold_23 rfl l_To_76 v_To_hasPerson (by first | assumption | exact e_put_s | simp [e_put, *]) (Nat.le_of_ble_eq_true rfl) (c_To_hasPerson X (d + 1) h a n m wi we br li fa sta abf th hn tr') (fun v h1 hq => ?_)
  obtain ⟨rfl, ⟨hp, rfl⟩ | ⟨hp, rfl⟩⟩ := hq
  · refine T_if_eq (pc' := 29) (tgt := 48) d_To_hold_26 rfl (by decide) (fun hzz => absurd hzz (by decide)) (fun _ => ?_)
    refine T_aload_n (pc' := 30) d_To_hold_29 rfl rfl rfl ?_
    refine T_iload_n (pc' := 31) d_To_hold_30 rfl rfl rfl ?_
    refine T_V1i (pc' := 34) d_To_hold_31 rfl l_To_80 v_To_hasThought (by first | assumption | exact e_put_s | simp [e_put, *]) (Nat.le_of_ble_eq_true rfl) (c_To_hasThought X (d + 1) h1 a n m wi we br li fa sta abf id hm tr') (fun v h2 hq => ?_)
    have hth : ¬ th = -9 := by
      intro z
      obtain ⟨i, hi, hz⟩ := hp
      rw [z] at hz
      have : (nI i).toInt = i := nI_toInt (by omega)
      rw [← hz] at this
      have h9 : ((-9 : Int32)).toInt = -9 := by decide
      omega
    have hid : isP m id := hw.elim (fun q => absurd q.1 hth) (fun q => q.2)
    obtain ⟨rfl, ⟨hp2, rfl⟩ | ⟨hp2, rfl⟩⟩ := hq
    · refine T_if_eq (pc' := 37) (tgt := 48) d_To_hold_34 rfl (by decide) (fun hzz => absurd hzz (by decide)) (fun _ => ?_)
      have hin1 : vp_in th 3 := isP_in hp hn (by decide)
      have hin2 : vp_in id 4 := isP_in hp2 hm (by decide)
      refine T_iload (pc' := 39) d_To_hold_37 rfl rfl ?_
      refine T_aload_n (pc' := 40) d_To_hold_39 rfl rfl rfl ?_
      refine T_get (pc' := 43) d_To_hold_40 rfl g_To_18 (by first | assumption | exact e_put_s | simp [e_put, *]) rfl ?_
      refine T_iload_n (pc' := 44) d_To_hold_43 rfl rfl rfl ?_
      refine T_iaload (pc' := 45) d_To_hold_44 rfl (by first | assumption | exact e_put_s | simp [e_put, *]) (by first | assumption | exact in_dec rfl) ?_
      refine T_icmp_le (pc' := 48) (tgt := 50) d_To_hold_45 rfl (by decide) (fun hc => ?_) (fun hc => ?_)
      · refine T_aload_n (pc' := 51) d_To_hold_50 rfl rfl rfl ?_
        refine T_get (pc' := 54) d_To_hold_51 rfl g_To_21 (by first | assumption | exact e_put_s | simp [e_put, *]) rfl ?_
        refine T_iload_n (pc' := 55) d_To_hold_54 rfl rfl rfl ?_
        refine T_iaload (pc' := 56) d_To_hold_55 rfl (by first | assumption | exact e_put_s | simp [e_put, *]) (by first | assumption | exact in_dec rfl) ?_
        refine T_aload_n (pc' := 57) d_To_hold_56 rfl rfl rfl ?_
        refine T_get (pc' := 60) d_To_hold_57 rfl g_To_24 (by first | assumption | exact e_put_s | simp [e_put, *]) rfl ?_
        refine T_iload_n (pc' := 61) d_To_hold_60 rfl rfl rfl ?_
        refine T_iaload (pc' := 62) d_To_hold_61 rfl (by first | assumption | exact e_put_s | simp [e_put, *]) (by first | assumption | exact in_dec rfl) ?_
        refine T_iload (pc' := 64) d_To_hold_62 rfl rfl ?_
        refine T_S3i (pc' := 67) d_To_hold_64 rfl l_To_83 v_To_faded (Nat.le_of_ble_eq_true rfl) (c_To_faded X d h2 _ _ _) (fun v h3 hq => ?_)
        obtain ⟨rfl, rfl⟩ := hq
        refine T_iret d_To_hold_67 rfl ?_
        exact ⟨_, rfl, rfl, by rw [sHold, if_neg (fun q => q.elim hth (fun q => absurd hc (Int32.not_le.mpr q)))]⟩
      · refine T_iconst (v := 0) (pc' := 49) d_To_hold_48 rfl (by decide) ?_
        refine T_iret d_To_hold_49 rfl ?_
        exact ⟨_, rfl, rfl, by rw [sHold, if_pos (Or.inr (Int32.not_le.mp hc))]⟩
    · exact absurd hid hp2
  · refine T_if_eq (pc' := 29) (tgt := 48) d_To_hold_26 rfl (by decide) (fun _ => ?_) (fun hzz => absurd (by decide) hzz)
    refine T_iconst (v := 0) (pc' := 49) d_To_hold_48 rfl (by decide) ?_
    refine T_iret d_To_hold_49 rfl ?_
    have hth : th = -9 := hw.elim (fun q => q.1) (fun q => absurd q.1 hp)
    exact ⟨_, rfl, rfl, by rw [sHold, if_pos (Or.inl hth)]⟩
theorem l_To_load (b : Nat) (mi ce he th id si ab us lo : Int32) (hn : n ≤ 3) (tr : TR h a n m wi we br li fa sta abf) (hb : h.2 b = some (oFl mi ce he th id si ab us lo)) (Q : Option Value → AH → Prop) (hQ : Q (some (.int (sW we ab n))) h) : ∀ (k i : Nat), i + k = n → T X (d + 1) M_To_load 4 [.ref a, .ref b, .int (sW we ab i), .int (nI i)] [] h Q
  | 0, i, hi => by
    have : i = n := by omega
    subst this
    obtain ⟨t0, t1, t2, t3, t4, t5⟩ := tr
    refine T_iload_n (pc' := 5) d_To_load_4 rfl rfl rfl ?_
    refine T_aload_n (pc' := 6) d_To_load_5 rfl rfl rfl ?_
    refine T_get (pc' := 9) d_To_load_6 rfl g_To_27 (by first | assumption | exact e_put_s | simp [e_put, *]) rfl ?_
    refine T_icmp_ge (pc' := 12) (tgt := 39) d_To_load_9 rfl (by decide) (fun _ => ?_) (fun hzz => absurd (Int32.le_refl _) hzz)
    refine T_iload_n (pc' := 40) d_To_load_39 rfl rfl rfl ?_
    refine T_iret d_To_load_40 rfl ?_
    exact hQ
  | k + 1, i, hi => by
    have ih := l_To_load b mi ce he th id si ab us lo hn tr hb Q hQ k (i + 1) (by omega)
    obtain ⟨t0, t1, t2, t3, t4, t5⟩ := tr
    refine T_iload_n (pc' := 5) d_To_load_4 rfl rfl rfl ?_
    refine T_aload_n (pc' := 6) d_To_load_5 rfl rfl rfl ?_
    refine T_get (pc' := 9) d_To_load_6 rfl g_To_27 (by first | assumption | exact e_put_s | simp [e_put, *]) rfl ?_
    refine T_icmp_ge (pc' := 12) (tgt := 39) d_To_load_9 rfl (by decide) (fun hzz => absurd hzz (nI_ge (by omega) (by omega))) (fun _ => ?_)
    refine T_iload_n (pc' := 13) d_To_load_12 rfl rfl rfl ?_
    refine T_aload_n (pc' := 14) d_To_load_13 rfl rfl rfl ?_
    refine T_iload_n (pc' := 15) d_To_load_14 rfl rfl rfl ?_
    refine T_V1i (pc' := 18) d_To_load_15 rfl l_To_87 v_Fl_hasAboard (by first | assumption | exact e_put_s | simp [e_put, *]) (Nat.le_of_ble_eq_true rfl) (c_Fl_hasAboard X d h b _ _ _ _ _ _ _ _ _ (nI i) hb) (fun v h1 hq => ?_)
    obtain ⟨rfl, ⟨hp, rfl⟩ | ⟨hp, rfl⟩⟩ := hq
    · refine T_if_eq (pc' := 21) (tgt := 30) d_To_load_18 rfl (by decide) (fun hzz => absurd hzz (by decide)) (fun _ => ?_)
      have hin1 : vp_in (nI i) 3 := vp_in_nI (by omega) (by decide)
      refine T_aload_n (pc' := 22) d_To_load_21 rfl rfl rfl ?_
      refine T_get (pc' := 25) d_To_load_22 rfl g_To_15 (by first | assumption | exact e_put_s | simp [e_put, *]) rfl ?_
      refine T_iload_n (pc' := 26) d_To_load_25 rfl rfl rfl ?_
      refine T_iaload (pc' := 27) d_To_load_26 rfl (by first | assumption | exact e_put_s | simp [e_put, *]) (by first | assumption | exact in_dec rfl) ?_
      refine T_goto (pc' := 31) d_To_load_27 (by decide) ?_
      refine T_iadd (pc' := 32) d_To_load_31 rfl ?_
      refine T_is_n2 (pc' := 33) d_To_load_32 rfl rfl (Nat.le_of_ble_eq_true rfl) rfl ?_
      refine T_ii3 (c := 1) (pc' := 36) d_To_load_33 rfl (by decide) (Nat.le_of_ble_eq_true rfl) rfl ?_
      rw [nI_1, nI_clamp (by omega)]
      refine T_goto (pc' := 4) d_To_load_36 (by decide) ?_
      have e1 : sW we ab (i + 1) = sW we ab i + we i := by rw [sW, if_pos hp]
      rw [e1] at ih
      exact ih
    · refine T_if_eq (pc' := 21) (tgt := 30) d_To_load_18 rfl (by decide) (fun _ => ?_) (fun hzz => absurd (by decide) hzz)
      refine T_iconst (v := 0) (pc' := 31) d_To_load_30 rfl (by decide) ?_
      refine T_iadd (pc' := 32) d_To_load_31 rfl ?_
      refine T_is_n2 (pc' := 33) d_To_load_32 rfl rfl (Nat.le_of_ble_eq_true rfl) rfl ?_
      refine T_ii3 (c := 1) (pc' := 36) d_To_load_33 rfl (by decide) (Nat.le_of_ble_eq_true rfl) rfl ?_
      rw [nI_1]
      refine T_goto (pc' := 4) d_To_load_36 (by decide) ?_
      have e1 : sW we ab (i + 1) = sW we ab i + 0 := by rw [sW, if_neg hp]
      rw [e1] at ih
      exact ih
theorem c_To_load (b : Nat) (mi ce he th id si ab us lo : Int32) (hn : n ≤ 3) (tr : TR h a n m wi we br li fa sta abf) (hb : h.2 b = some (oFl mi ce he th id si ab us lo)) : Ci X (d + 1) M_To_load [.ref a, .ref b] h (fun v h1 => h1 = h ∧ v = sW we ab n) := by
  refine C_of_T rfl rfl (Nat.le_of_ble_eq_true rfl) rfl ?_
  refine T_iconst (v := 0) (pc' := 1) d_To_load_0 rfl (by decide) ?_
  refine T_is_n2 (pc' := 2) d_To_load_1 rfl rfl (Nat.le_of_ble_eq_true rfl) rfl ?_
  refine T_iconst (v := 0) (pc' := 3) d_To_load_2 rfl (by decide) ?_
  refine T_is_n3 (pc' := 4) d_To_load_3 rfl rfl (Nat.le_of_ble_eq_true rfl) rfl ?_
  exact l_To_load X d h a n m wi we br li fa sta abf b mi ce he th id si ab us lo hn tr hb _ ⟨_, rfl, rfl, rfl⟩ n 0 (by omega)
end TO
