/-! the model: its object, what was told -/
/-- scalars: 0 typed, 1 at, 2 stands, 3 sort, 4 value, 5 isWrong, 6 items, 7 isStarted, 8 sights, 9 tales -/
abbrev oMo (sc : Nat → Int32) (tc : Int64) : AC := .inr (.inr (9, [.ref 87, .int (sc 0), .ref 88, .ref 89, .ref 90, .ref 91, .ref 92, .ref 93, .ref 94, .ref 95, .ref 96, .int (sc 1), .int (sc 2), .int (sc 3), .int (sc 4), .int (sc 5), .int (sc 6), .int (sc 7), .ref 97, .ref 98, .ref 99, .ref 100, .ref 101, .ref 102, .ref 103, .ref 104, .ref 105, .ref 106, .int (sc 8), .ref 107, .ref 108, .int (sc 9), .long tc]))
/-- what was told, as the model holds it -/
def MT (h : AH) (n m : Nat) (wi we br li fa : Nat → Int32) : Prop := (∃ sc tc, h.2 86 = some (oMo sc tc)) ∧ (∃ f, h.2 88 = some (.inl (0, 20, f)) ∧ ∀ i, i < 10 → 0 < i → f i = wi i) ∧ (∃ f, h.2 89 = some (.inl (0, 2, f)) ∧ f 0 = nI n) ∧ (∃ f, h.2 90 = some (.inl (0, 6, f)) ∧ ∀ i, i < n → f i = we i) ∧ (∃ f, h.2 91 = some (.inl (0, 6, f)) ∧ ∀ i, i < n → f i = br i) ∧ (∃ f, h.2 93 = some (.inl (0, 2, f)) ∧ f 0 = nI m) ∧ (∃ f, h.2 94 = some (.inl (0, 8, f)) ∧ ∀ i, i < m → f i = li i) ∧ (∃ f, h.2 95 = some (.inl (0, 8, f)) ∧ ∀ i, i < m → f i = fa i)
theorem MT_put {h : AH} {n m b : Nat} {wi we br li fa : Nat → Int32} {c : AC} (mt : MT h n m wi we br li fa) (hb : 96 ≤ b) : MT (e_put h b c) n m wi we br li fa := by
  obtain ⟨⟨sc, tc, h0⟩, ⟨f1, h1, e1⟩, ⟨f2, h2, e2⟩, ⟨f3, h3, e3⟩, ⟨f4, h4, e4⟩, ⟨f5, h5, e5⟩, ⟨f6, h6, e6⟩, ⟨f7, h7, e7⟩⟩ := mt
  exact ⟨⟨sc, tc, (e_put_n (by omega)).trans h0⟩, ⟨f1, (e_put_n (by omega)).trans h1, e1⟩, ⟨f2, (e_put_n (by omega)).trans h2, e2⟩, ⟨f3, (e_put_n (by omega)).trans h3, e3⟩, ⟨f4, (e_put_n (by omega)).trans h4, e4⟩, ⟨f5, (e_put_n (by omega)).trans h5, e5⟩, ⟨f6, (e_put_n (by omega)).trans h6, e6⟩, ⟨f7, (e_put_n (by omega)).trans h7, e7⟩⟩
theorem isP_cl {n : Nat} {p : Int32} (h : isP n p) (hn : n < 1000) : p.toNatClampNeg < n := by
  obtain ⟨i, hi, rfl⟩ := h
  rw [nI_clamp (by omega)]; exact hi
theorem isP_ne9 {n : Nat} {p : Int32} (h : isP n p) (hn : n < 1000) : ¬ p = -9 := by
  intro z
  obtain ⟨i, hi, hz⟩ := h
  rw [z] at hz
  have : (nI i).toInt = i := nI_toInt (by omega)
  rw [← hz] at this
  have h9 : ((-9 : Int32)).toInt = -9 := by decide
  omega
section MO
variable (X : EX) (d : Nat) (h : AH) (n m : Nat) (wi we br li fa : Nat → Int32)
theorem c_Mo_hold (b : Nat) (g : Nat → Int32) (hn : n ≤ 3) (hm : m ≤ 4) (mt : MT h n m wi we br li fa) (hb : h.2 b = some (.inl (0, 11, g))) (hw : (g 3 = -9 ∧ g 4 = -9) ∨ (isP n (g 3) ∧ isP m (g 4))) : Ci X d M_Mo_hold [.ref 86, .ref b] h (fun v h1 => h1 = h ∧ v = sHold br li fa (g 3) (g 4) (g 5)) := by
  obtain ⟨⟨sc, tc, h0⟩, ⟨f1, h1, e1⟩, ⟨f2, h2, e2⟩, ⟨f3, h3, e3⟩, ⟨f4, h4, e4⟩, ⟨f5, h5, e5⟩, ⟨f6, h6, e6⟩, ⟨f7, h7, e7⟩⟩ := mt
  refine C_of_T rfl rfl (Nat.le_of_ble_eq_true rfl) rfl ?_
  refine T_aload_n (pc' := 1) d_Mo_hold_0 rfl rfl rfl ?_
  refine T_iconst (v := 3) (pc' := 2) d_Mo_hold_1 rfl (by decide) ?_
  refine T_ialoadL 3 (pc' := 3) d_Mo_hold_2 rfl (by first | assumption | exact e_put_s | simp [e_put, *]) (by decide) ?_
  refine T_bipush (v := (-9)) (pc' := 5) d_Mo_hold_3 rfl (by decide) ?_
  refine T_icmp_eq (pc' := 8) (tgt := 22) d_Mo_hold_5 rfl (by decide) (fun hc => ?_) (fun hc => ?_)
  · refine T_iconst (v := 0) (pc' := 23) d_Mo_hold_22 rfl (by decide) ?_
    refine T_iret d_Mo_hold_23 rfl ?_
    exact ⟨_, rfl, rfl, by rw [sHold, if_pos (Or.inl hc)]⟩
  · obtain ⟨hp, hq⟩ := hw.resolve_left (fun q => hc q.1)
    have hin1 : vp_in (g 3) 6 := isP_in hp (by omega) (by decide)
    have hin2 : vp_in (g 4) 8 := isP_in hq (by omega) (by decide)
    have k4 := e4 _ (isP_cl hp (by omega))
    have k6 := e6 _ (isP_cl hq (by omega))
    have k7 := e7 _ (isP_cl hq (by omega))
    have h39 : ¬ g 3 = -9 := hc
    refine T_aload_n (pc' := 9) d_Mo_hold_8 rfl rfl rfl ?_
    refine T_iconst (v := 5) (pc' := 10) d_Mo_hold_9 rfl (by decide) ?_
    refine T_ialoadL 5 (pc' := 11) d_Mo_hold_10 rfl (by first | assumption | exact e_put_s | simp [e_put, *]) (by decide) ?_
    refine T_aload_n (pc' := 12) d_Mo_hold_11 rfl rfl rfl ?_
    refine T_get (pc' := 15) d_Mo_hold_12 rfl g_Mo_23 (by first | assumption | exact e_put_s | simp [e_put, *]) rfl ?_
    refine T_aload_n (pc' := 16) d_Mo_hold_15 rfl rfl rfl ?_
    refine T_iconst (v := 3) (pc' := 17) d_Mo_hold_16 rfl (by decide) ?_
    refine T_ialoadL 3 (pc' := 18) d_Mo_hold_17 rfl (by first | assumption | exact e_put_s | simp [e_put, *]) (by decide) ?_
    refine T_iaload (pc' := 19) d_Mo_hold_18 rfl (by first | assumption | exact e_put_s | simp [e_put, *]) (by first | assumption | exact in_dec rfl) ?_
    refine T_icmp_le (pc' := 22) (tgt := 24) d_Mo_hold_19 rfl (by decide) (fun hc => ?_) (fun hc => ?_)
    · rw [k4] at hc
      have hno : ¬ (g 3 = -9 ∨ br (g 3).toNatClampNeg < g 5) := fun q => q.elim h39 (fun q => absurd hc (Int32.not_le.mpr q))
      refine T_aload_n (pc' := 25) d_Mo_hold_24 rfl rfl rfl ?_
      refine T_get (pc' := 28) d_Mo_hold_25 rfl g_Mo_32 (by first | assumption | exact e_put_s | simp [e_put, *]) rfl ?_
      refine T_aload_n (pc' := 29) d_Mo_hold_28 rfl rfl rfl ?_
      refine T_iconst (v := 4) (pc' := 30) d_Mo_hold_29 rfl (by decide) ?_
      refine T_ialoadL 4 (pc' := 31) d_Mo_hold_30 rfl (by first | assumption | exact e_put_s | simp [e_put, *]) (by decide) ?_
      refine T_iaload (pc' := 32) d_Mo_hold_31 rfl (by first | assumption | exact e_put_s | simp [e_put, *]) (by first | assumption | exact in_dec rfl) ?_
      refine T_aload_n (pc' := 33) d_Mo_hold_32 rfl rfl rfl ?_
      refine T_iconst (v := 5) (pc' := 34) d_Mo_hold_33 rfl (by decide) ?_
      refine T_ialoadL 5 (pc' := 35) d_Mo_hold_34 rfl (by first | assumption | exact e_put_s | simp [e_put, *]) (by decide) ?_
      refine T_aload_n (pc' := 36) d_Mo_hold_35 rfl rfl rfl ?_
      refine T_get (pc' := 39) d_Mo_hold_36 rfl g_Mo_35 (by first | assumption | exact e_put_s | simp [e_put, *]) rfl ?_
      refine T_aload_n (pc' := 40) d_Mo_hold_39 rfl rfl rfl ?_
      refine T_iconst (v := 4) (pc' := 41) d_Mo_hold_40 rfl (by decide) ?_
      refine T_ialoadL 4 (pc' := 42) d_Mo_hold_41 rfl (by first | assumption | exact e_put_s | simp [e_put, *]) (by decide) ?_
      refine T_iaload (pc' := 43) d_Mo_hold_42 rfl (by first | assumption | exact e_put_s | simp [e_put, *]) (by first | assumption | exact in_dec rfl) ?_
      refine T_imul (pc' := 44) d_Mo_hold_43 rfl ?_
      refine T_isub (pc' := 45) d_Mo_hold_44 rfl ?_
      refine T_is_n2 (pc' := 46) d_Mo_hold_45 rfl rfl (Nat.le_of_ble_eq_true rfl) rfl ?_
      refine T_iload_n (pc' := 47) d_Mo_hold_46 rfl rfl rfl ?_
      refine T_if_ge (pc' := 50) (tgt := 54) d_Mo_hold_47 rfl (by decide) (fun hc => ?_) (fun hc => ?_)
      · refine T_iload_n (pc' := 55) d_Mo_hold_54 rfl rfl rfl ?_
        refine T_iret d_Mo_hold_55 rfl ?_
        refine ⟨_, rfl, rfl, ?_⟩
        rw [sHold, if_neg hno, sPos, ← k6, ← k7, if_neg (Int32.not_lt.mpr hc)]
      · refine T_iconst (v := 0) (pc' := 51) d_Mo_hold_50 rfl (by decide) ?_
        refine T_goto (pc' := 55) d_Mo_hold_51 (by decide) ?_
        refine T_iret d_Mo_hold_55 rfl ?_
        refine ⟨_, rfl, rfl, ?_⟩
        rw [sHold, if_neg hno, sPos, ← k6, ← k7, if_pos (Int32.not_le.mp hc)]
    · rw [k4] at hc
      refine T_iconst (v := 0) (pc' := 23) d_Mo_hold_22 rfl (by decide) ?_
      refine T_iret d_Mo_hold_23 rfl ?_
      exact ⟨_, rfl, rfl, by rw [sHold, if_pos (Or.inr (Int32.not_le.mp hc))]⟩
theorem l_Mo_weights (b : Nat) (g : Nat → Int32) (hn : n ≤ 3) (mt : MT h n m wi we br li fa) (hb : h.2 b = some (.inl (0, 11, g))) (Q : Option Value → AH → Prop) (hQ : Q (some (.int (sW we (g 6) n))) h) : ∀ (k i : Nat), i + k = n → T X (d + 1) M_Mo_weights 4 [.ref 86, .ref b, .int (sW we (g 6) i), .int (nI i)] [] h Q
  | 0, i, hi => by
    have : i = n := by omega
    subst this
    obtain ⟨⟨sc, tc, h0⟩, ⟨f1, h1, e1⟩, ⟨f2, h2, e2⟩, ⟨f3, h3, e3⟩, ⟨f4, h4, e4⟩, ⟨f5, h5, e5⟩, ⟨f6, h6, e6⟩, ⟨f7, h7, e7⟩⟩ := mt
    refine T_iload_n (pc' := 5) d_Mo_weights_4 rfl rfl rfl ?_
    refine T_aload_n (pc' := 6) d_Mo_weights_5 rfl rfl rfl ?_
    refine T_get (pc' := 9) d_Mo_weights_6 rfl g_Mo_17 (by first | assumption | exact e_put_s | simp [e_put, *]) rfl ?_
    refine T_iconst (v := 0) (pc' := 10) d_Mo_weights_9 rfl (by decide) ?_
    refine T_ialoadL 0 (pc' := 11) d_Mo_weights_10 rfl (by first | assumption | exact e_put_s | simp [e_put, *]) (by decide) ?_
    rw [e2]
    refine T_icmp_ge (pc' := 14) (tgt := 44) d_Mo_weights_11 rfl (by decide) (fun _ => ?_) (fun hzz => absurd (Int32.le_refl _) hzz)
    refine T_iload_n (pc' := 45) d_Mo_weights_44 rfl rfl rfl ?_
    refine T_iret d_Mo_weights_45 rfl ?_
    exact hQ
  | k + 1, i, hi => by
    have ih := l_Mo_weights b g hn mt hb Q hQ k (i + 1) (by omega)
    obtain ⟨⟨sc, tc, h0⟩, ⟨f1, h1, e1⟩, ⟨f2, h2, e2⟩, ⟨f3, h3, e3⟩, ⟨f4, h4, e4⟩, ⟨f5, h5, e5⟩, ⟨f6, h6, e6⟩, ⟨f7, h7, e7⟩⟩ := mt
    refine T_iload_n (pc' := 5) d_Mo_weights_4 rfl rfl rfl ?_
    refine T_aload_n (pc' := 6) d_Mo_weights_5 rfl rfl rfl ?_
    refine T_get (pc' := 9) d_Mo_weights_6 rfl g_Mo_17 (by first | assumption | exact e_put_s | simp [e_put, *]) rfl ?_
    refine T_iconst (v := 0) (pc' := 10) d_Mo_weights_9 rfl (by decide) ?_
    refine T_ialoadL 0 (pc' := 11) d_Mo_weights_10 rfl (by first | assumption | exact e_put_s | simp [e_put, *]) (by decide) ?_
    rw [e2]
    refine T_icmp_ge (pc' := 14) (tgt := 44) d_Mo_weights_11 rfl (by decide) (fun hzz => absurd hzz (nI_ge (by omega) (by omega))) (fun _ => ?_)
    refine T_iload_n (pc' := 15) d_Mo_weights_14 rfl rfl rfl ?_
    refine T_aload_n (pc' := 16) d_Mo_weights_15 rfl rfl rfl ?_
    refine T_bipush (v := 6) (pc' := 18) d_Mo_weights_16 rfl (by decide) ?_
    refine T_ialoadL 6 (pc' := 19) d_Mo_weights_18 rfl (by first | assumption | exact e_put_s | simp [e_put, *]) (by decide) ?_
    refine T_iload_n (pc' := 20) d_Mo_weights_19 rfl rfl rfl ?_
    refine T_S2i (pc' := 23) d_Mo_weights_20 rfl l_Mo_140 v_Mo_has (Nat.le_of_ble_eq_true rfl) (c_Mo_has X d h (g 6) (nI i)) (fun v h9 hq => ?_)
    obtain ⟨rfl, ⟨hp, rfl⟩ | ⟨hp, rfl⟩⟩ := hq
    · refine T_if_eq (pc' := 26) (tgt := 35) d_Mo_weights_23 rfl (by decide) (fun hzz => absurd hzz (by decide)) (fun _ => ?_)
      have hin1 : vp_in (nI i) 6 := vp_in_nI (by omega) (by decide)
      refine T_aload_n (pc' := 27) d_Mo_weights_26 rfl rfl rfl ?_
      refine T_get (pc' := 30) d_Mo_weights_27 rfl g_Mo_20 (by first | assumption | exact e_put_s | simp [e_put, *]) rfl ?_
      refine T_iload_n (pc' := 31) d_Mo_weights_30 rfl rfl rfl ?_
      refine T_iaload (pc' := 32) d_Mo_weights_31 rfl (by first | assumption | exact e_put_s | simp [e_put, *]) (by first | assumption | exact in_dec rfl) ?_
      refine T_goto (pc' := 36) d_Mo_weights_32 (by decide) ?_
      refine T_iadd (pc' := 37) d_Mo_weights_36 rfl ?_
      refine T_is_n2 (pc' := 38) d_Mo_weights_37 rfl rfl (Nat.le_of_ble_eq_true rfl) rfl ?_
      refine T_ii3 (c := 1) (pc' := 41) d_Mo_weights_38 rfl (by decide) (Nat.le_of_ble_eq_true rfl) rfl ?_
      rw [nI_1, nI_clamp (by omega), e3 i (by omega)]
      refine T_goto (pc' := 4) d_Mo_weights_41 (by decide) ?_
      have e1 : sW we (g 6) (i + 1) = sW we (g 6) i + we i := by rw [sW, if_pos hp]
      rw [e1] at ih
      exact ih
    · refine T_if_eq (pc' := 26) (tgt := 35) d_Mo_weights_23 rfl (by decide) (fun _ => ?_) (fun hzz => absurd (by decide) hzz)
      refine T_iconst (v := 0) (pc' := 36) d_Mo_weights_35 rfl (by decide) ?_
      refine T_iadd (pc' := 37) d_Mo_weights_36 rfl ?_
      refine T_is_n2 (pc' := 38) d_Mo_weights_37 rfl rfl (Nat.le_of_ble_eq_true rfl) rfl ?_
      refine T_ii3 (c := 1) (pc' := 41) d_Mo_weights_38 rfl (by decide) (Nat.le_of_ble_eq_true rfl) rfl ?_
      rw [nI_1]
      refine T_goto (pc' := 4) d_Mo_weights_41 (by decide) ?_
      have e1 : sW we (g 6) (i + 1) = sW we (g 6) i + 0 := by rw [sW, if_neg hp]
      rw [e1] at ih
      exact ih
theorem c_Mo_weights (b : Nat) (g : Nat → Int32) (hn : n ≤ 3) (mt : MT h n m wi we br li fa) (hb : h.2 b = some (.inl (0, 11, g))) : Ci X (d + 1) M_Mo_weights [.ref 86, .ref b] h (fun v h1 => h1 = h ∧ v = sW we (g 6) n) := by
  refine C_of_T rfl rfl (Nat.le_of_ble_eq_true rfl) rfl ?_
  refine T_iconst (v := 0) (pc' := 1) d_Mo_weights_0 rfl (by decide) ?_
  refine T_is_n2 (pc' := 2) d_Mo_weights_1 rfl rfl (Nat.le_of_ble_eq_true rfl) rfl ?_
  refine T_iconst (v := 0) (pc' := 3) d_Mo_weights_2 rfl (by decide) ?_
  refine T_is_n3 (pc' := 4) d_Mo_weights_3 rfl rfl (Nat.le_of_ble_eq_true rfl) rfl ?_
  exact l_Mo_weights X d h n m wi we br li fa b g hn mt hb _ ⟨_, rfl, rfl, rfl⟩ n 0 (by omega)
end MO
