def sRot (ρ : Nat → Nat) (i : Nat) : Nat := if i = 9 then ρ 0 else ρ (i + 1)
section HIST2
variable (X : EX) (d : Nat) (h : AH) (a : Nat)
theorem l_Hi_drop (b : Nat) (ρ : Nat → Nat) (Q : Option Value → AH → Prop) (hρ : ∀ i, i < 10 → a + 2 ≤ ρ i ∧ ρ i < a + 12) (hfl : ∀ i, a + 2 ≤ i → i < a + 12 → ∃ c, h.2 i = some c ∧ isFl c) (kn : Nat) (h0 : h.2 a = some (oHi (a + 1) (nI kn))) (hb : b = ρ 0) (hQ : ∀ r, (∀ j, j < 9 → r j = some (ρ (j + 1))) → r 9 = some (ρ 0) → Q none (e_put (e_put h (a + 1) (.inr (.inl (3, 10, r)))) a (oHi (a + 1) 9))) : ∀ (k i : Nat), i + k = 9 → ∀ r : Nat → Option Nat, (∀ j, j < 10 → r j = if j < i then some (ρ (j + 1)) else some (ρ j)) → T X d M_Hi_dropOldest 9 [.ref a, .ref b, .int (nI (i + 1))] [] (e_put h (a + 1) (.inr (.inl (3, 10, r)))) Q
  | 0, i, hi, r, hr => by
    have : i = 9 := by omega
    subst this
    have h0' : ∀ c, (e_put h (a + 1) c).2 a = some (oHi (a + 1) (nI kn)) := fun c => (e_put_n (by omega)).trans h0
    refine T_iload_n (pc' := 10) d_Hi_dropOldest_9 rfl rfl rfl ?_
    refine T_bipush (v := 10) (pc' := 12) d_Hi_dropOldest_10 rfl (by decide) ?_
    refine T_icmp_ge (pc' := 15) (tgt := 35) d_Hi_dropOldest_12 rfl (by decide) (fun _ => ?_) (fun hzz => absurd (by decide) hzz)
    refine T_aload_n (pc' := 36) d_Hi_dropOldest_35 rfl rfl rfl ?_
    refine T_get (pc' := 39) d_Hi_dropOldest_36 rfl g_Hi_11 (h0' _) rfl ?_
    refine T_bipush (v := 9) (pc' := 41) d_Hi_dropOldest_39 rfl (by decide) ?_
    refine T_aload_n (pc' := 42) d_Hi_dropOldest_41 rfl rfl rfl ?_
    obtain ⟨cb, hcb, mi, ce, he, th, id, si, ab, us, lo, rfl, -⟩ := hfl (ρ 0) (hρ 0 (by decide)).1 (hρ 0 (by decide)).2
    have hbb := hρ 0 (by decide)
    refine T_aastoreL 9 (ci := 0) (pc' := 43) d_Hi_dropOldest_42 rfl e_put_s (Or.inl ⟨rfl, rfl⟩) (by decide) ((e_put_n (show b ≠ a + 1 by omega)).trans (by rw [hb]; exact hcb)) ?_
    rw [e_pp]
    refine T_aload_n (pc' := 44) d_Hi_dropOldest_43 rfl rfl rfl ?_
    refine T_bipush (v := 9) (pc' := 46) d_Hi_dropOldest_44 rfl (by decide) ?_
    refine T_puti1 (pc' := 49) d_Hi_dropOldest_46 rfl f_Hi_17 (fun z => absurd z Bool.false_ne_true) (h0' _) ?_
    refine T_vret d_Hi_dropOldest_49 rfl ?_
    refine hQ _ (fun j hj => ?_) ?_
    · rw [e_upr, if_neg (by omega), hr j (by omega), if_pos hj]
    · rw [e_upr, if_pos rfl, hb]
  | k + 1, i, hi, r, hr => by
    have h0' : ∀ c, (e_put h (a + 1) c).2 a = some (oHi (a + 1) (nI kn)) := fun c => (e_put_n (by omega)).trans h0
    refine T_iload_n (pc' := 10) d_Hi_dropOldest_9 rfl rfl rfl ?_
    refine T_bipush (v := 10) (pc' := 12) d_Hi_dropOldest_10 rfl (by decide) ?_
    refine T_icmp_ge (pc' := 15) (tgt := 35) d_Hi_dropOldest_12 rfl (by decide) (fun hzz => absurd hzz (nI_ge (a := i + 1) (b := 10) (by omega) (by decide))) (fun _ => ?_)
    refine T_aload_n (pc' := 16) d_Hi_dropOldest_15 rfl rfl rfl ?_
    refine T_get (pc' := 19) d_Hi_dropOldest_16 rfl g_Hi_11 (h0' _) rfl ?_
    refine T_iload_n (pc' := 20) d_Hi_dropOldest_19 rfl rfl rfl ?_
    refine T_iconst (v := 1) (pc' := 21) d_Hi_dropOldest_20 rfl (by decide) ?_
    refine T_isub (pc' := 22) d_Hi_dropOldest_21 rfl ?_
    refine T_aload_n (pc' := 23) d_Hi_dropOldest_22 rfl rfl rfl ?_
    refine T_get (pc' := 26) d_Hi_dropOldest_23 rfl g_Hi_11 (h0' _) rfl ?_
    refine T_iload_n (pc' := 27) d_Hi_dropOldest_26 rfl rfl rfl ?_
    refine T_aaloadN (i + 1) (b := ρ (i + 1)) (pc' := 28) d_Hi_dropOldest_27 rfl e_put_s (by decide) ⟨by omega, by decide⟩ (by rw [hr (i + 1) (by omega), if_neg (by omega)]) ?_
    obtain ⟨cb, hcb, mi, ce, he, th, id, si, ab, us, lo, rfl, -⟩ := hfl (ρ (i + 1)) (hρ (i + 1) (by omega)).1 (hρ (i + 1) (by omega)).2
    have hbb := hρ (i + 1) (by omega)
    rw [nI_pred]
    refine T_aastoreN i (ci := 0) (pc' := 29) d_Hi_dropOldest_28 rfl e_put_s (Or.inl ⟨rfl, rfl⟩) ⟨by omega, by decide⟩ ((e_put_n (show ρ (i + 1) ≠ a + 1 by omega)).trans hcb) ?_
    rw [e_pp]
    refine T_ii2 (c := 1) (pc' := 32) d_Hi_dropOldest_29 rfl (by decide) (Nat.le_of_ble_eq_true rfl) rfl ?_
    rw [nI_1]
    refine T_goto (pc' := 9) d_Hi_dropOldest_32 (by decide) ?_
    refine l_Hi_drop b ρ Q hρ hfl kn h0 hb hQ k (i + 1) (by omega) _ (fun j hj => ?_)
    by_cases hji : j = i
    · subst hji; rw [e_upr, if_pos rfl, if_pos (by omega)]
    · rw [e_upr, if_neg hji, hr j hj]
      by_cases hl : j < i
      · rw [if_pos hl, if_pos (by omega)]
      · rw [if_neg hl, if_neg (by omega)]
theorem c_Hi_dropOldest (rows : Nat → Nat → Int32) (hr : HR h a 10 rows) : Cv X d M_Hi_dropOldest [.ref a] h (fun h1 => HR h1 a 9 (fun i => rows (i + 1)) ∧ Fr a (a + 12) h h1) := by
  obtain ⟨ρ, h0, ⟨r, h2, h3⟩, h4, h5, h6, h7⟩ := hr
  refine C_of_T rfl rfl (Nat.le_of_ble_eq_true rfl) rfl ?_
  refine T_aload_n (pc' := 1) d_Hi_dropOldest_0 rfl rfl rfl ?_
  refine T_get (pc' := 4) d_Hi_dropOldest_1 rfl g_Hi_11 (by first | assumption | exact e_put_s | simp [e_put, *]) rfl ?_
  refine T_iconst (v := 0) (pc' := 5) d_Hi_dropOldest_4 rfl (by decide) ?_
  refine T_aaloadL 0 (b := ρ 0) (pc' := 6) d_Hi_dropOldest_5 rfl h2 (by decide) (by decide) (h3 0 (by decide)) ?_
  refine T_as_n1 (pc' := 7) d_Hi_dropOldest_6 rfl rfl (Nat.le_of_ble_eq_true rfl) rfl ?_
  refine T_iconst (v := 1) (pc' := 8) d_Hi_dropOldest_7 rfl (by decide) ?_
  refine T_is_n2 (pc' := 9) d_Hi_dropOldest_8 rfl rfl (Nat.le_of_ble_eq_true rfl) rfl ?_
  have hs : h = e_put h (a + 1) (.inr (.inl (3, 10, r))) := (e_put_self h2).symm
  rw [hs]
  refine l_Hi_drop X d h a (ρ 0) ρ _ h4 h6 10 h0 rfl (fun r' k1 k2 => ⟨rfl, ?_, ?_⟩) 9 0 rfl r (fun j hj => by rw [if_neg (by omega)]; exact h3 j hj)
  · refine ⟨sRot ρ, e_put_s, ⟨r', (e_put_n (by omega)).trans e_put_s, fun i hi => ?_⟩, fun i hi => ?_, fun i hi j hj hij => ?_, fun i g1 g2 => ?_, fun i hi => ?_⟩
    · by_cases h9 : i = 9
      · subst h9; rw [sRot, if_pos rfl]; exact k2
      · rw [sRot, if_neg h9]; exact k1 i (by omega)
    · by_cases h9 : i = 9
      · subst h9; rw [sRot, if_pos rfl]; exact h4 0 (by decide)
      · rw [sRot, if_neg h9]; exact h4 (i + 1) (by omega)
    · by_cases h9 : i = 9
      · by_cases j9 : j = 9
        · omega
        · rw [sRot, sRot, if_pos h9, if_neg j9] at hij
          have := h5 0 (by decide) (j + 1) (by omega) hij
          omega
      · by_cases j9 : j = 9
        · rw [sRot, sRot, if_neg h9, if_pos j9] at hij
          have := h5 (i + 1) (by omega) 0 (by decide) hij
          omega
        · rw [sRot, sRot, if_neg h9, if_neg j9] at hij
          have := h5 (i + 1) (by omega) (j + 1) (by omega) hij
          omega
    · obtain ⟨c, c1, c2⟩ := h6 i g1 g2
      exact ⟨c, (e_put_n (by omega)).trans ((e_put_n (by omega)).trans c1), c2⟩
    · obtain ⟨c, c1, c2⟩ := h7 (i + 1) (by omega)
      have := h4 (i + 1) (by omega)
      rw [sRot, if_neg (by omega)]
      exact ⟨c, (e_put_n (by omega)).trans ((e_put_n (by omega)).trans c1), c2⟩
  · rw [← hs]
    exact (Fr.rf.put ⟨by omega, by omega⟩).put ⟨by omega, by omega⟩
/-- rows behind a push: if ten are known the oldest is lost -/
def sPush (kn : Nat) (rows : Nat → Nat → Int32) (g : Nat → Int32) : Nat → Nat → Int32 := fun i => if kn < 10 then (if i = kn then g else rows i) else (if i = 9 then g else rows (i + 1))
def sPushN (kn : Nat) : Nat := if kn < 10 then kn + 1 else 10
theorem t_Hi_push (b kn : Nat) (rows : Nat → Nat → Int32) (g : Nat → Int32) (cb : AC) (hkn : kn < 10) (hr : HR h a kn rows) (hb : h.2 b = some cb) (hf : FC cb g) (fl : isFl cb) (hbo : b < a ∨ a + 12 ≤ b) (Q : Option Value → AH → Prop) (hQ : ∀ h1, HR h1 a (kn + 1) (fun i => if i = kn then g else rows i) → Fr a (a + 12) h h1 → Q none h1) : T X (d + 1) M_Hi_push 13 [.ref a, .ref b] [] h Q := by
  obtain ⟨ρ, h0, ⟨r, h2, h3⟩, h4, h5, h6, h7⟩ := hr
  obtain ⟨ca, k1, k2⟩ := h6 (ρ kn) (h4 kn hkn).1 (h4 kn hkn).2
  have hρk := h4 kn hkn
  refine T_aload_n (pc' := 14) d_Hi_push_13 rfl rfl rfl ?_
  refine T_get (pc' := 17) d_Hi_push_14 rfl g_Hi_11 (by first | assumption | exact e_put_s | simp [e_put, *]) rfl ?_
  refine T_aload_n (pc' := 18) d_Hi_push_17 rfl rfl rfl ?_
  refine T_get (pc' := 21) d_Hi_push_18 rfl g_Hi_17 (by first | assumption | exact e_put_s | simp [e_put, *]) rfl ?_
  refine T_aaloadN kn (b := ρ kn) (pc' := 22) d_Hi_push_21 rfl h2 (by decide) ⟨hkn, by decide⟩ (h3 kn hkn) ?_
  refine T_aload_n (pc' := 23) d_Hi_push_22 rfl rfl rfl ?_
  obtain ⟨mi, ce, he, th, id, si, ab, us, lo, rfl, hlo⟩ := k2
  refine T_V1v (pc' := 26) d_Hi_push_23 rfl l_Hi_25 v_Fl_copyFrom (by first | assumption | exact e_put_s | simp [e_put, *]) (Nat.le_of_ble_eq_true rfl) (c_Fl_copy X d h (ρ kn) b _ cb (by omega) k1 hb ⟨_, _, _, _, _, _, _, _, _, rfl, hlo⟩ fl) (fun h1 hq => ?_)
  subst hq
  refine T_aload_n (pc' := 27) d_Hi_push_26 rfl rfl rfl ?_
  refine T_dup (pc' := 28) d_Hi_push_27 rfl rfl ?_
  refine T_get (pc' := 31) d_Hi_push_28 rfl g_Hi_17 ((e_put_n (by omega)).trans h0) rfl ?_
  refine T_iconst (v := 1) (pc' := 32) d_Hi_push_31 rfl (by decide) ?_
  refine T_iadd (pc' := 33) d_Hi_push_32 rfl ?_
  refine T_puti1 (pc' := 36) d_Hi_push_33 rfl f_Hi_17 (fun z => absurd z Bool.false_ne_true) ((e_put_n (by omega)).trans h0) ?_
  refine T_vret d_Hi_push_36 rfl ?_
  rw [nI_1]
  refine hQ _ ⟨ρ, e_put_s, ⟨r, (e_put_n (by omega)).trans ((e_put_n (by omega)).trans h2), h3⟩, h4, h5, fun i g1 g2 => ?_, fun i hi => ?_⟩ ((Fr.rf.put ⟨by omega, by omega⟩).put ⟨by omega, by omega⟩)
  · by_cases hi : i = ρ kn
    · subst hi; exact ⟨cb, (e_put_n (by omega)).trans e_put_s, fl⟩
    · obtain ⟨c, c1, c2⟩ := h6 i g1 g2
      exact ⟨c, (e_put_n (by omega)).trans ((e_put_n hi).trans c1), c2⟩
  · by_cases hik : i = kn
    · subst hik; dsimp only; rw [if_pos rfl]; exact ⟨cb, (e_put_n (by omega)).trans e_put_s, hf⟩
    · dsimp only; rw [if_neg hik]
      obtain ⟨c, c1, c2⟩ := h7 i (by omega)
      have := h4 i (by omega)
      exact ⟨c, (e_put_n (by omega)).trans ((e_put_n (fun q => hik (h5 i (by omega) kn hkn q))).trans c1), c2⟩
theorem c_Hi_push (b kn : Nat) (rows : Nat → Nat → Int32) (g : Nat → Int32) (cb : AC) (hkn : kn ≤ 10) (hr : HR h a kn rows) (hb : h.2 b = some cb) (hf : FC cb g) (fl : isFl cb) (hbo : b < a ∨ a + 12 ≤ b) : Cv X (d + 1) M_Hi_push [.ref a, .ref b] h (fun h1 => HR h1 a (sPushN kn) (sPush kn rows g) ∧ Fr a (a + 12) h h1) := by
  refine C_of_T rfl rfl (Nat.le_of_ble_eq_true rfl) rfl ?_
  have hr' := hr
  obtain ⟨ρ, h0, -⟩ := hr
  refine T_aload_n (pc' := 1) d_Hi_push_0 rfl rfl rfl ?_
  refine T_get (pc' := 4) d_Hi_push_1 rfl g_Hi_17 (by first | assumption | exact e_put_s | simp [e_put, *]) rfl ?_
  refine T_bipush (v := 10) (pc' := 6) d_Hi_push_4 rfl (by decide) ?_
  by_cases hk : kn < 10
  · refine T_icmp_lt (pc' := 9) (tgt := 13) d_Hi_push_6 rfl (by decide) (fun _ => ?_) (fun hzz => absurd (nI_lt (b := 10) hk (by decide)) hzz)
    refine t_Hi_push X d h a b kn rows g cb hk hr' hb hf fl hbo _ (fun h1 k1 k2 => ⟨rfl, ?_, k2⟩)
    have e1 : sPushN kn = kn + 1 := if_pos hk
    have e2 : sPush kn rows g = fun i => if i = kn then g else rows i := by funext i; exact if_pos hk
    rw [e1, e2]; exact k1
  · have : kn = 10 := by omega
    subst this
    refine T_icmp_lt (pc' := 9) (tgt := 13) d_Hi_push_6 rfl (by decide) (fun hzz => absurd hzz (by decide)) (fun _ => ?_)
    refine T_aload_n (pc' := 10) d_Hi_push_9 rfl rfl rfl ?_
    refine T_V0v (pc' := 13) d_Hi_push_10 rfl l_Hi_22 v_Hi_dropOldest (by first | assumption | exact e_put_s | simp [e_put, *]) (Nat.le_of_ble_eq_true rfl) (c_Hi_dropOldest X d h a rows hr') (fun h1 hq => ?_)
    obtain ⟨q1, q2⟩ := hq
    refine t_Hi_push X d h1 a b 9 _ g cb (by decide) q1 ((q2.2 _ (by omega)).trans hb) hf fl hbo _ (fun h2 k1 k2 => ⟨rfl, ?_, q2.tr k2⟩)
    have e2 : sPush 10 rows g = fun i => if i = 9 then g else rows (i + 1) := by funext i; rfl
    rw [e2]; exact k1
theorem c_Hi_pop (b kn : Nat) (rows : Nat → Nat → Int32) (cb : AC) (hkn : kn < 10) (hr : HR h a (kn + 1) rows) (hb : h.2 b = some cb) (fl : isFl cb) (hbo : b < a ∨ a + 12 ≤ b) (hlo : rows kn 10 = 0 ∨ rows kn 10 = 1) : Cv X (d + 1) M_Hi_pop [.ref a, .ref b] h (fun h1 => ∃ c, FC c (rows kn) ∧ h1 = e_put (e_put h a (oHi (a + 1) (nI kn))) b c) := by
  obtain ⟨ρ, h0, ⟨r, h2, h3⟩, h4, h5, h6, h7⟩ := hr
  obtain ⟨c, k1, k2⟩ := h7 kn (by omega)
  have hρk := h4 kn hkn
  have k3 : isFl c := by
    obtain ⟨si, us, rfl, -, -⟩ := k2
    exact ⟨_, _, _, _, _, _, _, _, _, rfl, hlo⟩
  obtain ⟨mi, ce, he, th, id, si, ab, us, lo, rfl, hlo2⟩ := fl
  refine C_of_T rfl rfl (Nat.le_of_ble_eq_true rfl) rfl ?_
  refine T_aload_n (pc' := 1) d_Hi_pop_0 rfl rfl rfl ?_
  refine T_get (pc' := 4) d_Hi_pop_1 rfl g_Hi_17 (by first | assumption | exact e_put_s | simp [e_put, *]) rfl ?_
  refine T_if_le (pc' := 7) (tgt := 30) d_Hi_pop_4 rfl (by decide) (fun hzz => absurd hzz (nI_nle (by omega) (by omega))) (fun _ => ?_)
  refine T_aload_n (pc' := 8) d_Hi_pop_7 rfl rfl rfl ?_
  refine T_dup (pc' := 9) d_Hi_pop_8 rfl rfl ?_
  refine T_get (pc' := 12) d_Hi_pop_9 rfl g_Hi_17 (by first | assumption | exact e_put_s | simp [e_put, *]) rfl ?_
  refine T_iconst (v := 1) (pc' := 13) d_Hi_pop_12 rfl (by decide) ?_
  refine T_isub (pc' := 14) d_Hi_pop_13 rfl ?_
  refine T_puti1 (pc' := 17) d_Hi_pop_14 rfl f_Hi_17 (fun z => absurd z Bool.false_ne_true) (by first | assumption | exact e_put_s | simp [e_put, *]) ?_
  rw [nI_pred]
  refine T_aload_n (pc' := 18) d_Hi_pop_17 rfl rfl rfl ?_
  refine T_aload_n (pc' := 19) d_Hi_pop_18 rfl rfl rfl ?_
  refine T_get (pc' := 22) d_Hi_pop_19 rfl g_Hi_11 e_put_s rfl ?_
  refine T_aload_n (pc' := 23) d_Hi_pop_22 rfl rfl rfl ?_
  refine T_get (pc' := 26) d_Hi_pop_23 rfl g_Hi_17 e_put_s rfl ?_
  refine T_aaloadN kn (b := ρ kn) (pc' := 27) d_Hi_pop_26 rfl ((e_put_n (by omega)).trans h2) (by decide) ⟨hkn, by decide⟩ (h3 kn hkn) ?_
  refine T_V1v (pc' := 30) d_Hi_pop_27 rfl l_Hi_25 v_Fl_copyFrom ((e_put_n (by omega)).trans hb) (Nat.le_of_ble_eq_true rfl) (c_Fl_copy X d _ b (ρ kn) _ c (by omega) ((e_put_n (by omega)).trans hb) ((e_put_n (by omega)).trans k1) ⟨_, _, _, _, _, _, _, _, _, rfl, hlo2⟩ k3) (fun h1 hq => ?_)
  subst hq
  refine T_vret d_Hi_pop_30 rfl ?_
  exact ⟨rfl, c, k2, rfl⟩
end HIST2
theorem HR_congr {h : AH} {a kn : Nat} {r1 r2 : Nat → Nat → Int32} (hr : HR h a kn r1) (he : ∀ i, i < kn → r1 i = r2 i) : HR h a kn r2 := by
  obtain ⟨ρ, h0, h2, h4, h5, h6, h7⟩ := hr
  exact ⟨ρ, h0, h2, h4, h5, h6, fun i hi => by rw [← he i hi]; exact h7 i hi⟩
