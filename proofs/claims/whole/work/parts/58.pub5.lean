/-! calls: which, look, laws -/
section PUB5
variable (X : EX) (d : Nat) (h : AH) (σ : Sp)
theorem l_hl (p t N : Nat) (ci : CI h σ) (si : SI σ) (hp : p < σ.1 1) (ht : t < σ.1 2) (hN : N < 2 ^ 31) (Q : Option Value → AH → Prop) (hQ : ∀ h1, CI h1 σ → Fr 17 18 h h1 → Q (some (.int (sHL σ p t N))) h1) : ∀ (k i : Nat), i + k = N → ∀ c, FC c (pN σ (sThink (σ.2.1 6) p t) i) → T X (d + 4) M_Tb_heightLater 23 [.ref 0, .int (nI p), .int (nI t), .int (nI N), .int (nI i)] [] (e_put h 17 c) Q
  | 0, i, hi, c, fc => by
    have : i = N := by omega
    subst this
    have h0 := ci.1
    have fr : Fr 17 18 h (e_put h 17 c) := Fr.rf.put ⟨by omega, by omega⟩
    have gi := GI_passN (wi := σ.2.1 1) (we := σ.2.1 2) (br := σ.2.1 3) (li := σ.2.1 4) (fa := σ.2.1 5) (GI_think si.2.2.1 hp ht) i
    have ci2 := CI_trial ci si fr e_put_s (fc.fl gi)
    obtain ⟨si5, us5, rfl, q5, q6⟩ := id fc
    refine T_iload (pc' := 25) d_Tb_heightLater_23 rfl rfl ?_
    refine T_iload_n (pc' := 26) d_Tb_heightLater_25 rfl rfl rfl ?_
    refine T_icmp_ge (pc' := 29) (tgt := 46) d_Tb_heightLater_26 rfl (by decide) (fun _ => ?_) (fun hzz => absurd (Int32.le_refl _) hzz)
    refine T_aload_n (pc' := 47) d_Tb_heightLater_46 rfl rfl rfl ?_
    refine T_get (pc' := 50) d_Tb_heightLater_47 rfl g_Tb_33 ((e_put_n (by decide)).trans h0) rfl ?_
    refine T_get (pc' := 53) d_Tb_heightLater_50 rfl g_Tb_193 e_put_s rfl ?_
    refine T_iret d_Tb_heightLater_53 rfl ?_
    exact hQ _ ci2 fr
  | k + 1, i, hi, c, fc => by
    have h0 := ci.1
    obtain ⟨ab, tr⟩ := ci.2.2.1
    have t0 := tr.1
    have frp : ∀ c, Fr 17 18 h (e_put h 17 c) := fun c => Fr.rf.put ⟨by omega, by omega⟩
    have gi := GI_passN (wi := σ.2.1 1) (we := σ.2.1 2) (br := σ.2.1 3) (li := σ.2.1 4) (fa := σ.2.1 5) (GI_think si.2.2.1 hp ht) i
    refine T_iload (pc' := 25) d_Tb_heightLater_23 rfl rfl ?_
    refine T_iload_n (pc' := 26) d_Tb_heightLater_25 rfl rfl rfl ?_
    refine T_icmp_ge (pc' := 29) (tgt := 46) d_Tb_heightLater_26 rfl (by decide) (fun hzz => absurd hzz (nI_ge (by omega) hN)) (fun _ => ?_)
    refine T_aload_n (pc' := 30) d_Tb_heightLater_29 rfl rfl rfl ?_
    refine T_get (pc' := 33) d_Tb_heightLater_30 rfl g_Tb_19 ((e_put_n (by decide)).trans h0) rfl ?_
    refine T_aload_n (pc' := 34) d_Tb_heightLater_33 rfl rfl rfl ?_
    refine T_get (pc' := 37) d_Tb_heightLater_34 rfl g_Tb_33 ((e_put_n (by decide)).trans h0) rfl ?_
    refine T_V1v (pc' := 40) d_Tb_heightLater_37 rfl l_Tb_210 v_To_passMinute ((e_put_n (by decide)).trans t0) (Nat.le_of_ble_eq_true rfl) (c_To_passMinute X _ _ 4 _ _ _ _ _ _ _ _ _ 17 c _ si.1.2.1 si.1.2.2.1 (TR_fr (frp c) (by decide) tr) (by decide) e_put_s fc gi) (fun h1 hq => ?_)
    obtain ⟨c', rfl, fc'⟩ := hq
    rw [e_pp]
    refine T_ii4 (c := 1) (pc' := 43) d_Tb_heightLater_40 rfl (by decide) (Nat.le_of_ble_eq_true rfl) rfl ?_
    rw [nI_1]
    refine T_goto (pc' := 23) d_Tb_heightLater_43 (by decide) ?_
    exact l_hl p t N ci si hp ht hN Q hQ k (i + 1) (by omega) c' fc'
theorem c_heightLater (p t N : Nat) (ci : CI h σ) (si : SI σ) (hp : p < σ.1 1) (ht : t < σ.1 2) (hN : N < 2 ^ 31) : Ci X (d + 4) M_Tb_heightLater [.ref 0, .int (nI p), .int (nI t), .int (nI N)] h (fun v h1 => v = sHL σ p t N ∧ CI h1 σ ∧ Fr 17 18 h h1) := by
  have h0 := ci.1
  obtain ⟨c17, r17, mi7, ce7, he7, th7, id7, si7, ab7, us7, lo7, rfl, hlo7⟩ := ci.2.2.2.2.2.1
  refine C_of_T rfl rfl (Nat.le_of_ble_eq_true rfl) rfl ?_
  refine T_aload_n (pc' := 1) d_Tb_heightLater_0 rfl rfl rfl ?_
  refine T_get (pc' := 4) d_Tb_heightLater_1 rfl g_Tb_33 (by first | assumption | exact e_put_s | simp [e_put, *]) rfl ?_
  refine T_aload_n (pc' := 5) d_Tb_heightLater_4 rfl rfl rfl ?_
  refine T_get (pc' := 8) d_Tb_heightLater_5 rfl g_Tb_29 (by first | assumption | exact e_put_s | simp [e_put, *]) rfl ?_
  refine T_V1v (pc' := 11) d_Tb_heightLater_8 rfl l_Tb_208 v_Fl_copyFrom (by first | assumption | exact e_put_s | simp [e_put, *]) (Nat.le_of_ble_eq_true rfl) (c_trial X _ h σ ci si) (fun h1 hq => ?_)
  obtain ⟨c, rfl, fc⟩ := hq
  obtain ⟨si5, us5, rfl, q5, q6⟩ := id fc
  refine T_aload_n (pc' := 12) d_Tb_heightLater_11 rfl rfl rfl ?_
  refine T_get (pc' := 15) d_Tb_heightLater_12 rfl g_Tb_33 ((e_put_n (by decide)).trans h0) rfl ?_
  refine T_iload_n (pc' := 16) d_Tb_heightLater_15 rfl rfl rfl ?_
  refine T_iload_n (pc' := 17) d_Tb_heightLater_16 rfl rfl rfl ?_
  refine T_V2v (pc' := 20) d_Tb_heightLater_17 rfl l_Tb_318 v_Fl_think e_put_s (Nat.le_of_ble_eq_true rfl) (c_Fl_think X _ _ 17 _ _ _ _ _ _ _ _ _ (nI p) (nI t) e_put_s) (fun h1 hq => ?_)
  subst hq
  rw [e_pp]
  refine T_iconst (v := 0) (pc' := 21) d_Tb_heightLater_20 rfl (by decide) ?_
  refine T_is4 (pc' := 23) d_Tb_heightLater_21 rfl (Nat.le_of_ble_eq_true rfl) rfl ?_
  exact l_hl X d h σ p t N ci si hp ht hN _ (fun h1 q1 q2 => ⟨_, rfl, rfl, q1, q2⟩) N 0 (by omega) _ (FC_think q6)
theorem l_fits (p t : Nat) (si : SI σ) (hp : p < σ.1 1) (ht : t < σ.1 2) (Q : Option Value → AH → Prop) (hQ1 : ∀ h1, CI h1 σ → Fr 17 18 h h1 → sFitB σ p t (σ.1 4) = true → Q (some (.int 1)) h1) (hQ0 : ∀ h1, CI h1 σ → Fr 17 18 h h1 → ¬ sFitB σ p t (σ.1 4) = true → Q (some (.int 0)) h1) : ∀ (k i : Nat), i + k = σ.1 4 → (∀ j, j < i → sFit1 σ p t j) → ∀ h1, CI h1 σ → Fr 17 18 h h1 → T X (d + 5) M_Tb_fits 2 [.ref 0, .int (nI p), .int (nI t), .int (nI i)] [] h1 Q
  | 0, i, hi, hc, h1, ci, fr => by
    have : i = σ.1 4 := by omega
    subst this
    have h0 := ci.1
    have rr := ci.2.2.2.2.2.2.2.2.2.2.1
    have rr0 := rr.1
    refine T_iload_n (pc' := 3) d_Tb_fits_2 rfl rfl rfl ?_
    refine T_aload_n (pc' := 4) d_Tb_fits_3 rfl rfl rfl ?_
    refine T_get (pc' := 7) d_Tb_fits_4 rfl g_Tb_66 (by first | assumption | exact e_put_s | simp [e_put, *]) rfl ?_
    refine T_get (pc' := 10) d_Tb_fits_7 rfl g_Tb_295 (by first | assumption | exact e_put_s | simp [e_put, *]) rfl ?_
    refine T_icmp_ge (pc' := 13) (tgt := 61) d_Tb_fits_10 rfl (by decide) (fun _ => ?_) (fun hzz => absurd (Int32.le_refl _) hzz)
    refine T_iconst (v := 1) (pc' := 62) d_Tb_fits_61 rfl (by decide) ?_
    refine T_zret d_Tb_fits_62 rfl (by first | assumption | exact Or.inl rfl | exact Or.inr rfl) ?_
    exact hQ1 h1 ci fr ((sFitB_iff _ _ _ _).mpr hc)
  | k + 1, i, hi, hc, h1, ci, fr => by
    have ih := l_fits p t si hp ht Q hQ1 hQ0 k (i + 1) (by omega)
    have h0 := ci.1
    have rr := ci.2.2.2.2.2.2.2.2.2.2.1
    obtain ⟨rr0, rr1, rr2, rr3⟩ := rr
    have h6 := si.1.2.2.2.2.1
    obtain ⟨mj, hm1, hm2, hm3⟩ := si.2.2.2.2.2.2.1 i (by omega)
    refine T_iload_n (pc' := 3) d_Tb_fits_2 rfl rfl rfl ?_
    refine T_aload_n (pc' := 4) d_Tb_fits_3 rfl rfl rfl ?_
    refine T_get (pc' := 7) d_Tb_fits_4 rfl g_Tb_66 (by first | assumption | exact e_put_s | simp [e_put, *]) rfl ?_
    refine T_get (pc' := 10) d_Tb_fits_7 rfl g_Tb_295 (by first | assumption | exact e_put_s | simp [e_put, *]) rfl ?_
    refine T_icmp_ge (pc' := 13) (tgt := 61) d_Tb_fits_10 rfl (by decide) (fun hzz => absurd hzz (nI_ge (by omega) (by omega))) (fun _ => ?_)
    refine T_aload_n (pc' := 14) d_Tb_fits_13 rfl rfl rfl ?_
    refine T_get (pc' := 17) d_Tb_fits_14 rfl g_Tb_66 (by first | assumption | exact e_put_s | simp [e_put, *]) rfl ?_
    refine T_get (pc' := 20) d_Tb_fits_17 rfl g_Tb_307 (by first | assumption | exact e_put_s | simp [e_put, *]) rfl ?_
    refine T_iload_n (pc' := 21) d_Tb_fits_20 rfl rfl rfl ?_
    refine T_ialoadN i (pc' := 22) d_Tb_fits_21 rfl rr1 ⟨by omega, by decide⟩ ?_
    refine T_iload_n (pc' := 23) d_Tb_fits_22 rfl rfl rfl ?_
    by_cases hpp : σ.2.1 7 i = nI p
    · refine T_icmp_ne (pc' := 26) (tgt := 55) d_Tb_fits_23 rfl (by decide) (fun hzz => absurd hpp hzz) (fun _ => ?_)
      refine T_aload_n (pc' := 27) d_Tb_fits_26 rfl rfl rfl ?_
      refine T_iload_n (pc' := 28) d_Tb_fits_27 rfl rfl rfl ?_
      refine T_iload_n (pc' := 29) d_Tb_fits_28 rfl rfl rfl ?_
      refine T_aload_n (pc' := 30) d_Tb_fits_29 rfl rfl rfl ?_
      refine T_get (pc' := 33) d_Tb_fits_30 rfl g_Tb_66 (by first | assumption | exact e_put_s | simp [e_put, *]) rfl ?_
      refine T_get (pc' := 36) d_Tb_fits_33 rfl g_Tb_309 (by first | assumption | exact e_put_s | simp [e_put, *]) rfl ?_
      refine T_iload_n (pc' := 37) d_Tb_fits_36 rfl rfl rfl ?_
      refine T_ialoadN i (pc' := 38) d_Tb_fits_37 rfl rr2 ⟨by omega, by decide⟩ ?_
      rw [hm3]
      refine T_V3i (pc' := 41) d_Tb_fits_38 rfl l_Tb_312 v_Tb_heightLater (by first | assumption | exact e_put_s | simp [e_put, *]) (Nat.le_of_ble_eq_true rfl) (c_heightLater X _ h1 σ p t mj ci si hp ht (by omega)) (fun v h2 hq => ?_)
      obtain ⟨rfl, ci2, fr2⟩ := hq
      have k0 := ci2.1
      obtain ⟨ss0, ss1, ss2, ss3⟩ := ci2.2.2.2.2.2.2.2.2.2.2.1
      refine T_aload_n (pc' := 42) d_Tb_fits_41 rfl rfl rfl ?_
      refine T_get (pc' := 45) d_Tb_fits_42 rfl g_Tb_66 (by first | assumption | exact e_put_s | simp [e_put, *]) rfl ?_
      refine T_get (pc' := 48) d_Tb_fits_45 rfl g_Tb_315 (by first | assumption | exact e_put_s | simp [e_put, *]) rfl ?_
      refine T_iload_n (pc' := 49) d_Tb_fits_48 rfl rfl rfl ?_
      refine T_ialoadN i (pc' := 50) d_Tb_fits_49 rfl ss3 ⟨by omega, by decide⟩ ?_
      have ef : sFit1 σ p t i ↔ sHL σ p t mj = σ.2.1 9 i := by
        have e1 : (σ.2.1 8 i).toNatClampNeg = mj := by rw [hm3, nI_clamp (by omega)]
        constructor
        · intro q
          have := q hpp
          rw [e1] at this
          exact this
        · intro q _
          rw [e1]; exact q
      by_cases he : sHL σ p t mj = σ.2.1 9 i
      · refine T_icmp_eq (pc' := 53) (tgt := 55) d_Tb_fits_50 rfl (by decide) (fun _ => ?_) (fun hzz => absurd he hzz)
        refine T_ii3 (c := 1) (pc' := 58) d_Tb_fits_55 rfl (by decide) (Nat.le_of_ble_eq_true rfl) rfl ?_
        rw [nI_1]
        refine T_goto (pc' := 2) d_Tb_fits_58 (by decide) ?_
        refine ih (fun j hj => ?_) h2 ci2 (fr.tr fr2)
        by_cases hji : j = i
        · rw [hji]; exact ef.mpr he
        · exact hc j (by omega)
      · refine T_icmp_eq (pc' := 53) (tgt := 55) d_Tb_fits_50 rfl (by decide) (fun hzz => absurd hzz he) (fun _ => ?_)
        refine T_iconst (v := 0) (pc' := 54) d_Tb_fits_53 rfl (by decide) ?_
        refine T_zret d_Tb_fits_54 rfl (by first | assumption | exact Or.inl rfl | exact Or.inr rfl) ?_
        exact hQ0 h2 ci2 (fr.tr fr2) (fun q => he (ef.mp ((sFitB_iff _ _ _ _).mp q i (by omega))))
    · refine T_icmp_ne (pc' := 26) (tgt := 55) d_Tb_fits_23 rfl (by decide) (fun _ => ?_) (fun hzz => absurd hzz hpp)
      refine T_ii3 (c := 1) (pc' := 58) d_Tb_fits_55 rfl (by decide) (Nat.le_of_ble_eq_true rfl) rfl ?_
      rw [nI_1]
      refine T_goto (pc' := 2) d_Tb_fits_58 (by decide) ?_
      refine ih (fun j hj => ?_) h1 ci fr
      by_cases hji : j = i
      · rw [hji]; exact fun q => absurd q hpp
      · exact hc j (by omega)
theorem c_fits (p t : Nat) (ci : CI h σ) (si : SI σ) (hp : p < σ.1 1) (ht : t < σ.1 2) : Ci X (d + 5) M_Tb_fits [.ref 0, .int (nI p), .int (nI t)] h (fun v h1 => (sFitB σ p t (σ.1 4) = true ∧ v = 1 ∨ ¬ sFitB σ p t (σ.1 4) = true ∧ v = 0) ∧ CI h1 σ ∧ Fr 17 18 h h1) := by
  refine C_of_T rfl rfl (Nat.le_of_ble_eq_true rfl) rfl ?_
  refine T_iconst (v := 0) (pc' := 1) d_Tb_fits_0 rfl (by decide) ?_
  refine T_is_n3 (pc' := 2) d_Tb_fits_1 rfl rfl (Nat.le_of_ble_eq_true rfl) rfl ?_
  exact l_fits X d h σ p t si hp ht _ (fun h1 q1 q2 q3 => ⟨_, rfl, Or.inl ⟨q3, rfl⟩, q1, q2⟩) (fun h1 q1 q2 q3 => ⟨_, rfl, Or.inr ⟨q3, rfl⟩, q1, q2⟩) (σ.1 4) 0 (by omega) (fun j hj => absurd hj (by omega)) h ci Fr.rf
theorem l_fitting (p : Nat) (si : SI σ) (hp : p < σ.1 1) (Q : Option Value → AH → Prop) (hQ : ∀ h1, CI h1 σ → Fr 17 18 h h1 → Q (some (.int (sWh σ p (σ.1 2)))) h1) : ∀ (k i : Nat), i + k = σ.1 2 → ∀ h1, CI h1 σ → Fr 17 18 h h1 → T X (d + 6) M_Tb_fitting 4 [.ref 0, .int (nI p), .int (sWh σ p i), .int (nI i)] [] h1 Q
  | 0, i, hi, h1, ci, fr => by
    have : i = σ.1 2 := by omega
    subst this
    have h0 := ci.1
    obtain ⟨ab, t0, -⟩ := ci.2.2.1
    refine T_iload_n (pc' := 5) d_Tb_fitting_4 rfl rfl rfl ?_
    refine T_aload_n (pc' := 6) d_Tb_fitting_5 rfl rfl rfl ?_
    refine T_get (pc' := 9) d_Tb_fitting_6 rfl g_Tb_19 (by first | assumption | exact e_put_s | simp [e_put, *]) rfl ?_
    refine T_get (pc' := 12) d_Tb_fitting_9 rfl g_Tb_289 (by first | assumption | exact e_put_s | simp [e_put, *]) rfl ?_
    refine T_icmp_ge (pc' := 15) (tgt := 36) d_Tb_fitting_12 rfl (by decide) (fun _ => ?_) (fun hzz => absurd (Int32.le_refl _) hzz)
    refine T_iload_n (pc' := 37) d_Tb_fitting_36 rfl rfl rfl ?_
    refine T_iret d_Tb_fitting_37 rfl ?_
    exact hQ h1 ci fr
  | k + 1, i, hi, h1, ci, fr => by
    have ih := l_fitting p si hp Q hQ k (i + 1) (by omega)
    have h0 := ci.1
    obtain ⟨ab, t0, -⟩ := ci.2.2.1
    have hm := si.1.2.2.1
    refine T_iload_n (pc' := 5) d_Tb_fitting_4 rfl rfl rfl ?_
    refine T_aload_n (pc' := 6) d_Tb_fitting_5 rfl rfl rfl ?_
    refine T_get (pc' := 9) d_Tb_fitting_6 rfl g_Tb_19 (by first | assumption | exact e_put_s | simp [e_put, *]) rfl ?_
    refine T_get (pc' := 12) d_Tb_fitting_9 rfl g_Tb_289 (by first | assumption | exact e_put_s | simp [e_put, *]) rfl ?_
    refine T_icmp_ge (pc' := 15) (tgt := 36) d_Tb_fitting_12 rfl (by decide) (fun hzz => absurd hzz (nI_ge (by omega) (by omega))) (fun _ => ?_)
    refine T_aload_n (pc' := 16) d_Tb_fitting_15 rfl rfl rfl ?_
    refine T_iload_n (pc' := 17) d_Tb_fitting_16 rfl rfl rfl ?_
    refine T_iload_n (pc' := 18) d_Tb_fitting_17 rfl rfl rfl ?_
    refine T_V2i (pc' := 21) d_Tb_fitting_18 rfl l_Tb_304 v_Tb_fits (by first | assumption | exact e_put_s | simp [e_put, *]) (Nat.le_of_ble_eq_true rfl) (c_fits X _ h1 σ p i ci si hp (by omega)) (fun v h2 hq => ?_)
    obtain ⟨⟨hf, rfl⟩ | ⟨hf, rfl⟩, ci2, fr2⟩ := hq
    · refine T_if_eq (pc' := 24) (tgt := 30) d_Tb_fitting_21 rfl (by decide) (fun hzz => absurd hzz (by decide)) (fun _ => ?_)
      refine T_iload_n (pc' := 25) d_Tb_fitting_24 rfl rfl rfl ?_
      refine T_iconst (v := 1) (pc' := 26) d_Tb_fitting_25 rfl (by decide) ?_
      refine T_iload_n (pc' := 27) d_Tb_fitting_26 rfl rfl rfl ?_
      refine T_ishl (pc' := 28) d_Tb_fitting_27 rfl ?_
      refine T_ior (pc' := 29) d_Tb_fitting_28 rfl ?_
      refine T_is_n2 (pc' := 30) d_Tb_fitting_29 rfl rfl (Nat.le_of_ble_eq_true rfl) rfl ?_
      refine T_ii3 (c := 1) (pc' := 33) d_Tb_fitting_30 rfl (by decide) (Nat.le_of_ble_eq_true rfl) rfl ?_
      rw [nI_1]
      refine T_goto (pc' := 4) d_Tb_fitting_33 (by decide) ?_
      rw [sWh, if_pos hf] at ih
      exact ih h2 ci2 (fr.tr fr2)
    · refine T_if_eq (pc' := 24) (tgt := 30) d_Tb_fitting_21 rfl (by decide) (fun _ => ?_) (fun hzz => absurd (by decide) hzz)
      refine T_ii3 (c := 1) (pc' := 33) d_Tb_fitting_30 rfl (by decide) (Nat.le_of_ble_eq_true rfl) rfl ?_
      rw [nI_1]
      refine T_goto (pc' := 4) d_Tb_fitting_33 (by decide) ?_
      rw [sWh, if_neg hf, i_or0] at ih
      exact ih h2 ci2 (fr.tr fr2)
theorem c_fitting (p : Nat) (ci : CI h σ) (si : SI σ) (hp : p < σ.1 1) : Ci X (d + 6) M_Tb_fitting [.ref 0, .int (nI p)] h (fun v h1 => v = sWh σ p (σ.1 2) ∧ CI h1 σ ∧ Fr 17 18 h h1) := by
  refine C_of_T rfl rfl (Nat.le_of_ble_eq_true rfl) rfl ?_
  refine T_iconst (v := 0) (pc' := 1) d_Tb_fitting_0 rfl (by decide) ?_
  refine T_is_n2 (pc' := 2) d_Tb_fitting_1 rfl rfl (Nat.le_of_ble_eq_true rfl) rfl ?_
  refine T_iconst (v := 0) (pc' := 3) d_Tb_fitting_2 rfl (by decide) ?_
  refine T_is_n3 (pc' := 4) d_Tb_fitting_3 rfl rfl (Nat.le_of_ble_eq_true rfl) rfl ?_
  exact l_fitting X d h σ p si hp _ (fun h1 q1 q2 => ⟨_, rfl, rfl, q1, q2⟩) (σ.1 2) 0 (by omega) h ci Fr.rf
theorem p_Tb_which (p : Int32) (ci : CI h σ) (si : SI σ) : Ci X (d + 20) M_Tb_which [.ref 0, .int p] h (fun v h1 => v = q_which σ p ∧ CI h1 σ ∧ Fr 0 86 h h1) := by
  have h0 := ci.1
  obtain ⟨ab, tr⟩ := ci.2.2.1
  have t0 := tr.1
  have hn := si.1.2.1
  refine C_of_T rfl rfl (Nat.le_of_ble_eq_true rfl) rfl ?_
  refine T_aload_n (pc' := 1) d_Tb_which_0 rfl rfl rfl ?_
  refine T_get (pc' := 4) d_Tb_which_1 rfl g_Tb_19 (by first | assumption | exact e_put_s | simp [e_put, *]) rfl ?_
  refine T_iload_n (pc' := 5) d_Tb_which_4 rfl rfl rfl ?_
  refine T_V1i (pc' := 8) d_Tb_which_5 rfl l_Tb_109 v_To_hasPerson (by first | assumption | exact e_put_s | simp [e_put, *]) (Nat.le_of_ble_eq_true rfl) (c_To_hasPerson X _ h 4 _ _ _ _ _ _ _ _ _ p hn tr) (fun v h1 hq => ?_)
  obtain ⟨rfl, ⟨hp, rfl⟩ | ⟨hp, rfl⟩⟩ := hq
  · refine T_if_eq (pc' := 11) (tgt := 19) d_Tb_which_8 rfl (by decide) (fun hzz => absurd hzz (by decide)) (fun _ => ?_)
    have hok : okP (σ.1 1) p := (isP_iff (by omega) p).mp hp
    obtain ⟨i, hi, rfl⟩ := hp
    refine T_aload_n (pc' := 12) d_Tb_which_11 rfl rfl rfl ?_
    refine T_iload_n (pc' := 13) d_Tb_which_12 rfl rfl rfl ?_
    refine T_V1i (pc' := 16) d_Tb_which_13 rfl l_Tb_248 v_Tb_fitting (by first | assumption | exact e_put_s | simp [e_put, *]) (Nat.le_of_ble_eq_true rfl) (c_fitting X _ h1 σ i ci si hi) (fun v h2 hq => ?_)
    obtain ⟨rfl, ci2, fr2⟩ := hq
    refine T_goto (pc' := 20) d_Tb_which_16 (by decide) ?_
    refine T_iret d_Tb_which_20 rfl ?_
    exact ⟨_, rfl, by rw [q_which, if_pos hok, nI_clamp (by omega)], ci2, fr2.wide (by omega) (by omega)⟩
  · refine T_if_eq (pc' := 11) (tgt := 19) d_Tb_which_8 rfl (by decide) (fun _ => ?_) (fun hzz => absurd (by decide) hzz)
    refine T_iconst (v := (-1)) (pc' := 20) d_Tb_which_19 rfl (by decide) ?_
    refine T_iret d_Tb_which_20 rfl ?_
    exact ⟨_, rfl, by rw [q_which, if_neg (fun q => hp ((isP_iff (by omega) p).mpr q))], ci, Fr.rf⟩
theorem l_alike (p m : Nat) (set : Int32) (si : SI σ) (hp : p < σ.1 1) (hm9 : m < 100) (Q : Option Value → AH → Prop) (hQ : ∀ h1, CI h1 σ → Fr 17 58 h h1 → Q (some (.int (nI (sGr set (fun t => sHN σ p t m) (σ.1 2))))) h1) : ∀ (k i : Nat), i + k = σ.1 2 → ∀ (h1 : AH) (f : Nat → Int32), CI h1 σ → Fr 17 58 h h1 → h1.2 57 = some (.inl (0, 10, f)) → (∀ x, x < 10 → f x = nI (sCnt set (fun t => sHN σ p t m) x i)) → T X (d + 5) M_Tb_greatestAlike 14 [.ref 0, .int (nI p), .int set, .int (nI m), .int (nI (sGr set (fun t => sHN σ p t m) i)), .int (nI i), .null] [] h1 Q
  | 0, i, hi, h1, f, ci, fr, h57, hf => by
    have : i = σ.1 2 := by omega
    subst this
    have h0 := ci.1
    obtain ⟨ab, t0, -⟩ := ci.2.2.1
    refine T_iload (pc' := 16) d_Tb_greatestAlike_14 rfl rfl ?_
    refine T_aload_n (pc' := 17) d_Tb_greatestAlike_16 rfl rfl rfl ?_
    refine T_get (pc' := 20) d_Tb_greatestAlike_17 rfl g_Tb_19 (by first | assumption | exact e_put_s | simp [e_put, *]) rfl ?_
    refine T_get (pc' := 23) d_Tb_greatestAlike_20 rfl g_Tb_289 (by first | assumption | exact e_put_s | simp [e_put, *]) rfl ?_
    refine T_icmp_ge (pc' := 26) (tgt := 77) d_Tb_greatestAlike_23 rfl (by decide) (fun _ => ?_) (fun hzz => absurd (Int32.le_refl _) hzz)
    refine T_iload (pc' := 79) d_Tb_greatestAlike_77 rfl rfl ?_
    refine T_iret d_Tb_greatestAlike_79 rfl ?_
    exact hQ h1 ci fr
  | k + 1, i, hi, h1, f, ci, fr, h57, hf => by
    have ih := l_alike p m set si hp hm9 Q hQ k (i + 1) (by omega)
    have h0 := ci.1
    obtain ⟨ab, t0, -⟩ := ci.2.2.1
    have hm := si.1.2.2.1
    refine T_iload (pc' := 16) d_Tb_greatestAlike_14 rfl rfl ?_
    refine T_aload_n (pc' := 17) d_Tb_greatestAlike_16 rfl rfl rfl ?_
    refine T_get (pc' := 20) d_Tb_greatestAlike_17 rfl g_Tb_19 (by first | assumption | exact e_put_s | simp [e_put, *]) rfl ?_
    refine T_get (pc' := 23) d_Tb_greatestAlike_20 rfl g_Tb_289 (by first | assumption | exact e_put_s | simp [e_put, *]) rfl ?_
    refine T_icmp_ge (pc' := 26) (tgt := 77) d_Tb_greatestAlike_23 rfl (by decide) (fun hzz => absurd hzz (nI_ge (by omega) (by omega))) (fun _ => ?_)
    refine T_iload_n (pc' := 27) d_Tb_greatestAlike_26 rfl rfl rfl ?_
    refine T_iload (pc' := 29) d_Tb_greatestAlike_27 rfl rfl ?_
    refine T_ishr (pc' := 30) d_Tb_greatestAlike_29 rfl ?_
    refine T_iconst (v := 1) (pc' := 31) d_Tb_greatestAlike_30 rfl (by decide) ?_
    refine T_iand (pc' := 32) d_Tb_greatestAlike_31 rfl ?_
    refine T_iconst (v := 1) (pc' := 33) d_Tb_greatestAlike_32 rfl (by decide) ?_
    by_cases hs : sHas set (nI i)
    · refine T_icmp_ne (pc' := 36) (tgt := 71) d_Tb_greatestAlike_33 rfl (by decide) (fun hzz => absurd hs hzz) (fun _ => ?_)
      refine T_aload_n (pc' := 37) d_Tb_greatestAlike_36 rfl rfl rfl ?_
      refine T_iload_n (pc' := 38) d_Tb_greatestAlike_37 rfl rfl rfl ?_
      refine T_iload (pc' := 40) d_Tb_greatestAlike_38 rfl rfl ?_
      refine T_iload_n (pc' := 41) d_Tb_greatestAlike_40 rfl rfl rfl ?_
      refine T_V3i (pc' := 44) d_Tb_greatestAlike_41 rfl l_Tb_312 v_Tb_heightLater (by first | assumption | exact e_put_s | simp [e_put, *]) (Nat.le_of_ble_eq_true rfl) (c_heightLater X _ h1 σ p i m ci si hp (by omega) (by omega)) (fun v h2 hq => ?_)
      obtain ⟨rfl, ci2, fr2⟩ := hq
      have k0 := ci2.1
      have k57 : h2.2 57 = some (.inl (0, 10, f)) := (fr2.2 57 (by decide)).trans h57
      obtain ⟨b9, eh⟩ := sHL_in si hp (show i < σ.1 2 by omega) m
      rw [eh]
      refine T_is6 (pc' := 46) d_Tb_greatestAlike_44 rfl (Nat.le_of_ble_eq_true rfl) rfl ?_
      refine T_aload_n (pc' := 47) d_Tb_greatestAlike_46 rfl rfl rfl ?_
      refine T_get (pc' := 50) d_Tb_greatestAlike_47 rfl g_Tb_73 (by first | assumption | exact e_put_s | simp [e_put, *]) rfl ?_
      refine T_iload (pc' := 52) d_Tb_greatestAlike_50 rfl rfl ?_
      refine T_dup2 (pc' := 53) d_Tb_greatestAlike_52 rfl rfl rfl ?_
      refine T_ialoadN (sHN σ p i m) (pc' := 54) d_Tb_greatestAlike_53 rfl k57 ⟨by omega, by decide⟩ ?_
      refine T_iconst (v := 1) (pc' := 55) d_Tb_greatestAlike_54 rfl (by decide) ?_
      refine T_iadd (pc' := 56) d_Tb_greatestAlike_55 rfl ?_
      refine T_iastoreN (sHN σ p i m) (pc' := 57) d_Tb_greatestAlike_56 rfl k57 ⟨by omega, by decide⟩ ?_
      have fr3 : Fr 57 58 h2 (e_put h2 57 (.inl (0, 10, e_up f (sHN σ p i m) (f (sHN σ p i m) + 1)))) := Fr.rf.put ⟨by omega, by omega⟩
      have ci3 := CI_alike ci2 si fr3 e_put_s
      refine T_iload (pc' := 59) d_Tb_greatestAlike_57 rfl rfl ?_
      refine T_aload_n (pc' := 60) d_Tb_greatestAlike_59 rfl rfl rfl ?_
      refine T_get (pc' := 63) d_Tb_greatestAlike_60 rfl g_Tb_73 ((e_put_n (by decide)).trans k0) rfl ?_
      refine T_iload (pc' := 65) d_Tb_greatestAlike_63 rfl rfl ?_
      refine T_ialoadN (sHN σ p i m) (pc' := 66) d_Tb_greatestAlike_65 rfl e_put_s ⟨by omega, by decide⟩ ?_
      have ec : e_up f (sHN σ p i m) (f (sHN σ p i m) + 1) (sHN σ p i m) = nI (sCnt set (fun t => sHN σ p t m) (sHN σ p i m) (i + 1)) := by
        rw [e_upL, if_pos rfl, hf _ (by omega), nI_1, sCnt, if_pos ⟨hs, rfl⟩]
      rw [ec]
      refine T_mmax (pc' := 69) d_Tb_greatestAlike_66 rfl l_Tb_327 (Nat.le_of_ble_eq_true rfl) ?_
      have b1 := sGr_bd set (fun t => sHN σ p t m) i
      have b2 := sCnt_le set (fun t => sHN σ p t m) (sHN σ p i m) (i + 1)
      have em : (if nI (sGr set (fun t => sHN σ p t m) i) < nI (sCnt set (fun t => sHN σ p t m) (sHN σ p i m) (i + 1)) then nI (sCnt set (fun t => sHN σ p t m) (sHN σ p i m) (i + 1)) else nI (sGr set (fun t => sHN σ p t m) i)) = nI (sGr set (fun t => sHN σ p t m) (i + 1)) := by
        rw [sGr, if_pos hs]
        by_cases hlt : sGr set (fun t => sHN σ p t m) i < sCnt set (fun t => sHN σ p t m) (sHN σ p i m) (i + 1)
        · rw [if_pos (nI_lt hlt (by omega)), Nat.max_eq_right (by omega)]
        · rw [if_neg (nI_nlt (by omega) (by omega)), Nat.max_eq_left (by omega)]
      rw [em]
      refine T_is4 (pc' := 71) d_Tb_greatestAlike_69 rfl (Nat.le_of_ble_eq_true rfl) rfl ?_
      refine T_ii5 (c := 1) (pc' := 74) d_Tb_greatestAlike_71 rfl (by decide) (Nat.le_of_ble_eq_true rfl) rfl ?_
      rw [nI_1]
      refine T_goto (pc' := 14) d_Tb_greatestAlike_74 (by decide) ?_
      refine T_fg (ls' := [.ref 0, .int (nI p), .int set, .int (nI m), .int (nI (sGr set (fun t => sHN σ p t m) (i + 1))), .int (nI (i + 1)), .null]) (by simp [e_le]) ?_
      refine ih _ _ ci3 ((fr.tr (fr2.wide (by omega) (by omega))).tr (fr3.wide (by omega) (by omega))) e_put_s (fun x hx => ?_)
      by_cases hxi : x = sHN σ p i m
      · rw [hxi]; exact ec
      · rw [e_upL, if_neg hxi, hf x hx, sCnt, if_neg (fun q => hxi q.2.symm)]
        rfl
    · refine T_icmp_ne (pc' := 36) (tgt := 71) d_Tb_greatestAlike_33 rfl (by decide) (fun _ => ?_) (fun hzz => absurd hzz hs)
      refine T_ii5 (c := 1) (pc' := 74) d_Tb_greatestAlike_71 rfl (by decide) (Nat.le_of_ble_eq_true rfl) rfl ?_
      rw [nI_1]
      refine T_goto (pc' := 14) d_Tb_greatestAlike_74 (by decide) ?_
      rw [sGr, if_neg hs] at ih
      refine ih h1 f ci fr h57 (fun x hx => ?_)
      rw [hf x hx, sCnt, if_neg (fun q => hs q.1)]
      rfl
theorem c_alike (p m : Nat) (set : Int32) (ci : CI h σ) (si : SI σ) (hp : p < σ.1 1) (hm9 : m < 100) : Ci X (d + 5) M_Tb_greatestAlike [.ref 0, .int (nI p), .int set, .int (nI m)] h (fun v h1 => v = nI (sGr set (fun t => sHN σ p t m) (σ.1 2)) ∧ CI h1 σ ∧ Fr 17 58 h h1) := by
  have h0 := ci.1
  obtain ⟨f, h57⟩ := ci.2.2.2.2.2.2.2.2.2.2.2.2.1
  refine C_of_T rfl rfl (Nat.le_of_ble_eq_true rfl) rfl ?_
  refine T_aload_n (pc' := 1) d_Tb_greatestAlike_0 rfl rfl rfl ?_
  refine T_get (pc' := 4) d_Tb_greatestAlike_1 rfl g_Tb_73 (by first | assumption | exact e_put_s | simp [e_put, *]) rfl ?_
  refine T_iconst (v := 0) (pc' := 5) d_Tb_greatestAlike_4 rfl (by decide) ?_
  refine T_S2v (pc' := 8) d_Tb_greatestAlike_5 rfl l_Tb_321 v_Ar_fill (Nat.le_of_ble_eq_true rfl) (c_Ar_fill X _ h 57 10 f 0 (by decide) h57) (fun h1 hq => ?_)
  subst hq
  have fr : Fr 57 58 h (e_put h 57 (.inl (0, 10, sFill f 0 10))) := Fr.rf.put ⟨by omega, by omega⟩
  refine T_iconst (v := 0) (pc' := 9) d_Tb_greatestAlike_8 rfl (by decide) ?_
  refine T_is4 (pc' := 11) d_Tb_greatestAlike_9 rfl (Nat.le_of_ble_eq_true rfl) rfl ?_
  refine T_iconst (v := 0) (pc' := 12) d_Tb_greatestAlike_11 rfl (by decide) ?_
  refine T_is5 (pc' := 14) d_Tb_greatestAlike_12 rfl (Nat.le_of_ble_eq_true rfl) rfl ?_
  refine l_alike X d h σ p m set si hp hm9 _ (fun h1 q1 q2 => ⟨_, rfl, rfl, q1, q2⟩) (σ.1 2) 0 (by omega) _ _ (CI_alike ci si fr e_put_s) (fr.wide (by omega) (by omega)) e_put_s (fun x hx => ?_)
  rw [sFill, if_pos hx]
  rfl
theorem sAl_bd {σ : Sp} (si : SI σ) (p m : Nat) : sAl σ p m ≤ 4 := Nat.le_trans (sGr_bd _ _ _) si.1.2.2.1
theorem l_look (p : Nat) (si : SI σ) (hp : p < σ.1 1) (Q : Option Value → AH → Prop) (hQ : ∀ h1, CI h1 σ → Fr 17 58 h h1 → Q (some (.int (nI (sLk (sAl σ p) 8).1))) h1) : ∀ (k i : Nat), i + k = 8 → ∀ h1, CI h1 σ → Fr 17 58 h h1 → T X (d + 6) M_Tb_look 40 [.ref 0, .int (nI p), .int (sWh σ p (σ.1 2)), .int (nI (sLk (sAl σ p) i).1), .int (nI (sLk (sAl σ p) i).2), .int (nI (i + 2)), .null] [] h1 Q
  | 0, i, hi, h1, ci, fr => by
    have : i = 8 := by omega
    subst this
    refine T_iload (pc' := 42) d_Tb_look_40 rfl rfl ?_
    refine T_bipush (v := 9) (pc' := 44) d_Tb_look_42 rfl (by decide) ?_
    refine T_icmp_gt (pc' := 47) (tgt := 77) d_Tb_look_44 rfl (by decide) (fun _ => ?_) (fun hzz => absurd (by decide) hzz)
    refine T_iload_n (pc' := 78) d_Tb_look_77 rfl rfl rfl ?_
    refine T_iret d_Tb_look_78 rfl ?_
    exact hQ h1 ci fr
  | k + 1, i, hi, h1, ci, fr => by
    have ih := l_look p si hp Q hQ k (i + 1) (by omega)
    have h0 := ci.1
    refine T_iload (pc' := 42) d_Tb_look_40 rfl rfl ?_
    refine T_bipush (v := 9) (pc' := 44) d_Tb_look_42 rfl (by decide) ?_
    refine T_icmp_gt (pc' := 47) (tgt := 77) d_Tb_look_44 rfl (by decide) (fun hzz => absurd hzz (nI_nlt (a := 9) (b := i + 2) (by omega) (by decide))) (fun _ => ?_)
    refine T_aload_n (pc' := 48) d_Tb_look_47 rfl rfl rfl ?_
    refine T_iload_n (pc' := 49) d_Tb_look_48 rfl rfl rfl ?_
    refine T_iload_n (pc' := 50) d_Tb_look_49 rfl rfl rfl ?_
    refine T_iload (pc' := 52) d_Tb_look_50 rfl rfl ?_
    refine T_V3i (pc' := 55) d_Tb_look_52 rfl l_Tb_251 v_Tb_greatestAlike (by first | assumption | exact e_put_s | simp [e_put, *]) (Nat.le_of_ble_eq_true rfl) (c_alike X _ h1 σ p (i + 2) _ ci si hp (by omega)) (fun v h2 hq => ?_)
    obtain ⟨rfl, ci2, fr2⟩ := hq
    have eA : sGr (sWh σ p (σ.1 2)) (fun t => sHN σ p t (i + 2)) (σ.1 2) = sAl σ p (i + 2) := rfl
    rw [eA]
    have b1 := sAl_bd si p (i + 2)
    have b2 := sLk_bd (sAl σ p) (sAl_bd si p) i
    refine T_is6 (pc' := 57) d_Tb_look_55 rfl (Nat.le_of_ble_eq_true rfl) rfl ?_
    refine T_iload (pc' := 59) d_Tb_look_57 rfl rfl ?_
    refine T_iload (pc' := 61) d_Tb_look_59 rfl rfl ?_
    by_cases hlt : sAl σ p (i + 2) < (sLk (sAl σ p) i).2
    · refine T_icmp_ge (pc' := 64) (tgt := 71) d_Tb_look_61 rfl (by decide) (fun hzz => absurd hzz (nI_ge hlt (by omega))) (fun _ => ?_)
      refine T_iload (pc' := 66) d_Tb_look_64 rfl rfl ?_
      refine T_is4 (pc' := 68) d_Tb_look_66 rfl (Nat.le_of_ble_eq_true rfl) rfl ?_
      refine T_iload (pc' := 70) d_Tb_look_68 rfl rfl ?_
      refine T_is_n3 (pc' := 71) d_Tb_look_70 rfl rfl (Nat.le_of_ble_eq_true rfl) rfl ?_
      refine T_ii5 (c := 1) (pc' := 74) d_Tb_look_71 rfl (by decide) (Nat.le_of_ble_eq_true rfl) rfl ?_
      rw [nI_1]
      refine T_goto (pc' := 40) d_Tb_look_74 (by decide) ?_
      refine T_fg (ls' := [.ref 0, .int (nI p), .int (sWh σ p (σ.1 2)), .int (nI (i + 2)), .int (nI (sAl σ p (i + 2))), .int (nI (i + 1 + 2)), .null]) (by simp [e_le]) ?_
      rw [sLk, if_pos hlt] at ih
      exact ih h2 ci2 (fr.tr fr2)
    · refine T_icmp_ge (pc' := 64) (tgt := 71) d_Tb_look_61 rfl (by decide) (fun _ => ?_) (fun hzz => absurd (nI_le (by omega) (by omega)) hzz)
      refine T_ii5 (c := 1) (pc' := 74) d_Tb_look_71 rfl (by decide) (Nat.le_of_ble_eq_true rfl) rfl ?_
      rw [nI_1]
      refine T_goto (pc' := 40) d_Tb_look_74 (by decide) ?_
      refine T_fg (ls' := [.ref 0, .int (nI p), .int (sWh σ p (σ.1 2)), .int (nI (sLk (sAl σ p) i).1), .int (nI (sLk (sAl σ p) i).2), .int (nI (i + 1 + 2)), .null]) (by simp [e_le]) ?_
      rw [sLk, if_neg hlt] at ih
      exact ih h2 ci2 (fr.tr fr2)
theorem p_Tb_look (p : Int32) (ci : CI h σ) (si : SI σ) : Ci X (d + 20) M_Tb_look [.ref 0, .int p] h (fun v h1 => v = q_look σ p ∧ CI h1 σ ∧ Fr 0 86 h h1) := by
  have h0 := ci.1
  obtain ⟨ab, tr⟩ := ci.2.2.1
  have t0 := tr.1
  have hn := si.1.2.1
  refine C_of_T rfl rfl (Nat.le_of_ble_eq_true rfl) rfl ?_
  refine T_aload_n (pc' := 1) d_Tb_look_0 rfl rfl rfl ?_
  refine T_get (pc' := 4) d_Tb_look_1 rfl g_Tb_19 (by first | assumption | exact e_put_s | simp [e_put, *]) rfl ?_
  refine T_iload_n (pc' := 5) d_Tb_look_4 rfl rfl rfl ?_
  refine T_V1i (pc' := 8) d_Tb_look_5 rfl l_Tb_109 v_To_hasPerson (by first | assumption | exact e_put_s | simp [e_put, *]) (Nat.le_of_ble_eq_true rfl) (c_To_hasPerson X _ h 4 _ _ _ _ _ _ _ _ _ p hn tr) (fun v h1 hq => ?_)
  obtain ⟨rfl, ⟨hp, rfl⟩ | ⟨hp, rfl⟩⟩ := hq
  · refine T_if_ne (pc' := 11) (tgt := 13) d_Tb_look_8 rfl (by decide) (fun _ => ?_) (fun hzz => absurd hzz (by decide))
    have hok : okP (σ.1 1) p := (isP_iff (by omega) p).mp hp
    obtain ⟨i, hi, rfl⟩ := hp
    rw [q_look]
    simp only [hok, and_self, if_true, nI_clamp (show i < 2 ^ 31 by omega)]
    refine T_aload_n (pc' := 14) d_Tb_look_13 rfl rfl rfl ?_
    refine T_iload_n (pc' := 15) d_Tb_look_14 rfl rfl rfl ?_
    refine T_V1i (pc' := 18) d_Tb_look_15 rfl l_Tb_248 v_Tb_fitting (by first | assumption | exact e_put_s | simp [e_put, *]) (Nat.le_of_ble_eq_true rfl) (c_fitting X _ h1 σ i ci si hi) (fun v h2 hq => ?_)
    obtain ⟨rfl, ci2, fr2⟩ := hq
    have k0 := ci2.1
    refine T_is_n2 (pc' := 19) d_Tb_look_18 rfl rfl (Nat.le_of_ble_eq_true rfl) rfl ?_
    refine T_iload_n (pc' := 20) d_Tb_look_19 rfl rfl rfl ?_
    by_cases hz : sWh σ i (σ.1 2) = 0
    · refine T_if_ne (pc' := 23) (tgt := 26) d_Tb_look_20 rfl (by decide) (fun hzz => absurd hz hzz) (fun _ => ?_)
      refine T_bipush (v := (-9)) (pc' := 25) d_Tb_look_23 rfl (by decide) ?_
      refine T_iret d_Tb_look_25 rfl ?_
      exact ⟨_, rfl, by rw [if_pos hz, if_pos hok], ci2, fr2.wide (by omega) (by omega)⟩
    · refine T_if_ne (pc' := 23) (tgt := 26) d_Tb_look_20 rfl (by decide) (fun _ => ?_) (fun hzz => absurd hzz hz)
      refine T_iconst (v := 1) (pc' := 27) d_Tb_look_26 rfl (by decide) ?_
      refine T_is_n3 (pc' := 28) d_Tb_look_27 rfl rfl (Nat.le_of_ble_eq_true rfl) rfl ?_
      refine T_aload_n (pc' := 29) d_Tb_look_28 rfl rfl rfl ?_
      refine T_iload_n (pc' := 30) d_Tb_look_29 rfl rfl rfl ?_
      refine T_iload_n (pc' := 31) d_Tb_look_30 rfl rfl rfl ?_
      refine T_iconst (v := 1) (pc' := 32) d_Tb_look_31 rfl (by decide) ?_
      refine T_V3i (pc' := 35) d_Tb_look_32 rfl l_Tb_251 v_Tb_greatestAlike (by first | assumption | exact e_put_s | simp [e_put, *]) (Nat.le_of_ble_eq_true rfl) (c_alike X _ h2 σ i 1 _ ci2 si hi (by omega)) (fun v h3 hq => ?_)
      obtain ⟨rfl, ci3, fr3⟩ := hq
      refine T_is4 (pc' := 37) d_Tb_look_35 rfl (Nat.le_of_ble_eq_true rfl) rfl ?_
      refine T_iconst (v := 2) (pc' := 38) d_Tb_look_37 rfl (by decide) ?_
      refine T_is5 (pc' := 40) d_Tb_look_38 rfl (Nat.le_of_ble_eq_true rfl) rfl ?_
      refine l_look X _ h1 σ i si hi _ (fun h4 q1 q2 => ⟨_, rfl, by rw [if_neg hz, if_pos hok], q1, q2.wide (by omega) (by omega)⟩) 8 0 rfl h3 ci3 ((fr2.wide (by omega) (by omega)).tr fr3)
  · refine T_if_ne (pc' := 11) (tgt := 13) d_Tb_look_8 rfl (by decide) (fun hzz => absurd (by decide) hzz) (fun _ => ?_)
    refine T_iconst (v := (-1)) (pc' := 12) d_Tb_look_11 rfl (by decide) ?_
    refine T_iret d_Tb_look_12 rfl ?_
    exact ⟨_, rfl, by rw [q_look, if_neg (fun q => hp ((isP_iff (by omega) p).mpr q))], ci, Fr.rf⟩
theorem l_isLaw (l f : Nat) (ci : CI h σ) (si : SI σ) (Q : Option Value → AH → Prop) (hQ1 : sLawB σ l f (σ.1 5) = true → Q (some (.int 1)) h) (hQ0 : ¬ sLawB σ l f (σ.1 5) = true → Q (some (.int 0)) h) : ∀ (k i : Nat), i + k = σ.1 5 → (∀ j, j < i → sLaw1 σ l f j) → T X (d + 2) M_Tb_isLaw 2 [.ref 0, .int (nI l), .int (nI f), .int (nI i)] [] h Q
  | 0, i, hi, hc => by
    have : i = σ.1 5 := by omega
    subst this
    have h0 := ci.1
    obtain ⟨ff, rr0, -⟩ := ci.2.2.2.2.2.2.2.2.2.2.2.1
    refine T_iload_n (pc' := 3) d_Tb_isLaw_2 rfl rfl rfl ?_
    refine T_aload_n (pc' := 4) d_Tb_isLaw_3 rfl rfl rfl ?_
    refine T_get (pc' := 7) d_Tb_isLaw_4 rfl g_Tb_70 (by first | assumption | exact e_put_s | simp [e_put, *]) rfl ?_
    refine T_get (pc' := 10) d_Tb_isLaw_7 rfl g_Tb_295 (by first | assumption | exact e_put_s | simp [e_put, *]) rfl ?_
    refine T_icmp_ge (pc' := 13) (tgt := 47) d_Tb_isLaw_10 rfl (by decide) (fun _ => ?_) (fun hzz => absurd (Int32.le_refl _) hzz)
    refine T_iconst (v := 1) (pc' := 48) d_Tb_isLaw_47 rfl (by decide) ?_
    refine T_zret d_Tb_isLaw_48 rfl (by first | assumption | exact Or.inl rfl | exact Or.inr rfl) ?_
    exact hQ1 ((sLawB_iff _ _ _ _).mpr hc)
  | k + 1, i, hi, hc => by
    have ih := l_isLaw l f ci si Q hQ1 hQ0 k (i + 1) (by omega)
    have h0 := ci.1
    obtain ⟨ff, rr0, rr1, rr2, rr3⟩ := ci.2.2.2.2.2.2.2.2.2.2.2.1
    have h6 := si.1.2.2.2.2.2.1
    refine T_iload_n (pc' := 3) d_Tb_isLaw_2 rfl rfl rfl ?_
    refine T_aload_n (pc' := 4) d_Tb_isLaw_3 rfl rfl rfl ?_
    refine T_get (pc' := 7) d_Tb_isLaw_4 rfl g_Tb_70 (by first | assumption | exact e_put_s | simp [e_put, *]) rfl ?_
    refine T_get (pc' := 10) d_Tb_isLaw_7 rfl g_Tb_295 (by first | assumption | exact e_put_s | simp [e_put, *]) rfl ?_
    refine T_icmp_ge (pc' := 13) (tgt := 47) d_Tb_isLaw_10 rfl (by decide) (fun hzz => absurd hzz (nI_ge (by omega) (by omega))) (fun _ => ?_)
    refine T_iload_n (pc' := 14) d_Tb_isLaw_13 rfl rfl rfl ?_
    refine T_iload_n (pc' := 15) d_Tb_isLaw_14 rfl rfl rfl ?_
    refine T_aload_n (pc' := 16) d_Tb_isLaw_15 rfl rfl rfl ?_
    refine T_get (pc' := 19) d_Tb_isLaw_16 rfl g_Tb_70 (by first | assumption | exact e_put_s | simp [e_put, *]) rfl ?_
    refine T_get (pc' := 22) d_Tb_isLaw_19 rfl g_Tb_309 (by first | assumption | exact e_put_s | simp [e_put, *]) rfl ?_
    refine T_iload_n (pc' := 23) d_Tb_isLaw_22 rfl rfl rfl ?_
    refine T_ialoadN i (pc' := 24) d_Tb_isLaw_23 rfl rr2 ⟨by omega, by decide⟩ ?_
    refine T_S3i (pc' := 27) d_Tb_isLaw_24 rfl l_Tb_332 v_To_faded (Nat.le_of_ble_eq_true rfl) (c_To_faded X _ h (nI l) (nI f) (σ.2.1 10 i)) (fun v h1 hq => ?_)
    obtain ⟨rfl, rfl⟩ := hq
    refine T_aload_n (pc' := 28) d_Tb_isLaw_27 rfl rfl rfl ?_
    refine T_get (pc' := 31) d_Tb_isLaw_28 rfl g_Tb_70 (by first | assumption | exact e_put_s | simp [e_put, *]) rfl ?_
    refine T_get (pc' := 34) d_Tb_isLaw_31 rfl g_Tb_315 (by first | assumption | exact e_put_s | simp [e_put, *]) rfl ?_
    refine T_iload_n (pc' := 35) d_Tb_isLaw_34 rfl rfl rfl ?_
    refine T_ialoadN i (pc' := 36) d_Tb_isLaw_35 rfl rr3 ⟨by omega, by decide⟩ ?_
    by_cases he : sLaw1 σ l f i
    · refine T_icmp_eq (pc' := 39) (tgt := 41) d_Tb_isLaw_36 rfl (by decide) (fun _ => ?_) (fun hzz => absurd he hzz)
      refine T_ii3 (c := 1) (pc' := 44) d_Tb_isLaw_41 rfl (by decide) (Nat.le_of_ble_eq_true rfl) rfl ?_
      rw [nI_1]
      refine T_goto (pc' := 2) d_Tb_isLaw_44 (by decide) ?_
      refine ih (fun j hj => ?_)
      by_cases hji : j = i
      · rw [hji]; exact he
      · exact hc j (by omega)
    · refine T_icmp_eq (pc' := 39) (tgt := 41) d_Tb_isLaw_36 rfl (by decide) (fun hzz => absurd hzz he) (fun _ => ?_)
      refine T_iconst (v := 0) (pc' := 40) d_Tb_isLaw_39 rfl (by decide) ?_
      refine T_zret d_Tb_isLaw_40 rfl (by first | assumption | exact Or.inl rfl | exact Or.inr rfl) ?_
      exact hQ0 (fun q => he ((sLawB_iff _ _ _ _).mp q i (by omega)))
theorem c_isLaw (l f : Nat) (ci : CI h σ) (si : SI σ) : Ci X (d + 2) M_Tb_isLaw [.ref 0, .int (nI l), .int (nI f)] h (fun v h1 => h1 = h ∧ (sLawB σ l f (σ.1 5) = true ∧ v = 1 ∨ ¬ sLawB σ l f (σ.1 5) = true ∧ v = 0)) := by
  refine C_of_T rfl rfl (Nat.le_of_ble_eq_true rfl) rfl ?_
  refine T_iconst (v := 0) (pc' := 1) d_Tb_isLaw_0 rfl (by decide) ?_
  refine T_is_n3 (pc' := 2) d_Tb_isLaw_1 rfl rfl (Nat.le_of_ble_eq_true rfl) rfl ?_
  exact l_isLaw X d h σ l f ci si _ (fun q => ⟨_, rfl, rfl, Or.inl ⟨q, rfl⟩⟩) (fun q => ⟨_, rfl, rfl, Or.inr ⟨q, rfl⟩⟩) (σ.1 5) 0 (by omega) (fun j hj => absurd hj (by omega))
theorem l_laws1 (w : Int32) (l : Nat) (hl : l ≤ 29) (ci : CI h σ) (si : SI σ) (Q : Option Value → AH → Prop) (hk : T X (d + 3) M_Tb_laws 74 [.ref 0, .int w, .int (nI (sLo σ (l + 1)).1), .int (sLo σ (l + 1)).2, .int (nI (l + 1)), .null] [] h Q) : ∀ (k f : Nat), f + k = 6 → T X (d + 3) M_Tb_laws 29 [.ref 0, .int w, .int (nI (sLn σ (l + 1) (sLo σ l) f).1), .int (sLn σ (l + 1) (sLo σ l) f).2, .int (nI (l + 1)), .int (nI f)] [] h Q
  | 0, f, hf => by
    have : f = 6 := by omega
    subst this
    refine T_iload (pc' := 31) d_Tb_laws_29 rfl rfl ?_
    refine T_iconst (v := 5) (pc' := 32) d_Tb_laws_31 rfl (by decide) ?_
    refine T_icmp_gt (pc' := 35) (tgt := 74) d_Tb_laws_32 rfl (by decide) (fun _ => ?_) (fun hzz => absurd (by decide) hzz)
    exact T_fg (by simp [e_le, sLo]) hk
  | k + 1, f, hf => by
    have ih := l_laws1 w l hl ci si Q hk k (f + 1) (by omega)
    have h0 := ci.1
    have inv := LwI_n σ (show l + 1 < 31 by omega) (LwI_o σ l (by omega)) f (by omega)
    refine T_iload (pc' := 31) d_Tb_laws_29 rfl rfl ?_
    refine T_iconst (v := 5) (pc' := 32) d_Tb_laws_31 rfl (by decide) ?_
    refine T_icmp_gt (pc' := 35) (tgt := 74) d_Tb_laws_32 rfl (by decide) (fun hzz => absurd hzz (nI_nlt (a := 5) (b := f) (by omega) (by decide))) (fun _ => ?_)
    refine T_aload_n (pc' := 36) d_Tb_laws_35 rfl rfl rfl ?_
    refine T_iload (pc' := 38) d_Tb_laws_36 rfl rfl ?_
    refine T_iload (pc' := 40) d_Tb_laws_38 rfl rfl ?_
    refine T_V2i (pc' := 43) d_Tb_laws_40 rfl l_Tb_254 v_Tb_isLaw (by first | assumption | exact e_put_s | simp [e_put, *]) (Nat.le_of_ble_eq_true rfl) (c_isLaw X _ h σ (l + 1) f ci si) (fun v h1 hq => ?_)
    rw [sLn, sLs] at ih
    generalize sLn σ (l + 1) (sLo σ l) f = s at ih inv
    obtain ⟨rfl, ⟨hb, rfl⟩ | ⟨hb, rfl⟩⟩ := hq
    · refine T_if_eq (pc' := 46) (tgt := 68) d_Tb_laws_43 rfl (by decide) (fun hzz => absurd hzz (by decide)) (fun _ => ?_)
      rw [if_pos hb] at ih
      refine T_ii2 (c := 1) (pc' := 49) d_Tb_laws_46 rfl (by decide) (Nat.le_of_ble_eq_true rfl) rfl ?_
      rw [nI_1]
      refine T_iload_n (pc' := 50) d_Tb_laws_49 rfl rfl rfl ?_
      refine T_bipush (v := (-9)) (pc' := 52) d_Tb_laws_50 rfl (by decide) ?_
      rcases inv with ⟨i1, i2⟩ | ⟨i1, i2, i3⟩
      · refine T_icmp_ne (pc' := 55) (tgt := 66) d_Tb_laws_52 rfl (by decide) (fun hzz => absurd i2 hzz) (fun _ => ?_)
        refine T_bipush (v := 10) (pc' := 57) d_Tb_laws_55 rfl (by decide) ?_
        refine T_iload (pc' := 59) d_Tb_laws_57 rfl rfl ?_
        refine T_imul (pc' := 60) d_Tb_laws_59 rfl ?_
        refine T_iload (pc' := 62) d_Tb_laws_60 rfl rfl ?_
        refine T_iadd (pc' := 63) d_Tb_laws_62 rfl ?_
        refine T_goto (pc' := 67) d_Tb_laws_63 (by decide) ?_
        refine T_is_n3 (pc' := 68) d_Tb_laws_67 rfl rfl (Nat.le_of_ble_eq_true rfl) rfl ?_
        refine T_ii5 (c := 1) (pc' := 71) d_Tb_laws_68 rfl (by decide) (Nat.le_of_ble_eq_true rfl) rfl ?_
        rw [nI_1]
        refine T_goto (pc' := 29) d_Tb_laws_71 (by decide) ?_
        rw [if_pos i1] at ih
        exact ih
      · refine T_icmp_ne (pc' := 55) (tgt := 66) d_Tb_laws_52 rfl (by decide) (fun _ => ?_) (fun hzz => absurd hzz i3)
        refine T_iload_n (pc' := 67) d_Tb_laws_66 rfl rfl rfl ?_
        refine T_is_n3 (pc' := 68) d_Tb_laws_67 rfl rfl (Nat.le_of_ble_eq_true rfl) rfl ?_
        refine T_ii5 (c := 1) (pc' := 71) d_Tb_laws_68 rfl (by decide) (Nat.le_of_ble_eq_true rfl) rfl ?_
        rw [nI_1]
        refine T_goto (pc' := 29) d_Tb_laws_71 (by decide) ?_
        rw [if_neg (by omega)] at ih
        exact ih
    · refine T_if_eq (pc' := 46) (tgt := 68) d_Tb_laws_43 rfl (by decide) (fun _ => ?_) (fun hzz => absurd (by decide) hzz)
      rw [if_neg hb] at ih
      refine T_ii5 (c := 1) (pc' := 71) d_Tb_laws_68 rfl (by decide) (Nat.le_of_ble_eq_true rfl) rfl ?_
      rw [nI_1]
      refine T_goto (pc' := 29) d_Tb_laws_71 (by decide) ?_
      exact ih
theorem l_laws (w : Int32) (ci : CI h σ) (si : SI σ) (Q : Option Value → AH → Prop) (hk : T X (d + 3) M_Tb_laws 80 [.ref 0, .int w, .int (nI (sLo σ 30).1), .int (sLo σ 30).2, .null, .null] [] h Q) : ∀ (k l : Nat), l + k = 30 → T X (d + 3) M_Tb_laws 19 [.ref 0, .int w, .int (nI (sLo σ l).1), .int (sLo σ l).2, .int (nI (l + 1)), .null] [] h Q
  | 0, l, hl => by
    have : l = 30 := by omega
    subst this
    refine T_iload (pc' := 21) d_Tb_laws_19 rfl rfl ?_
    refine T_bipush (v := 30) (pc' := 23) d_Tb_laws_21 rfl (by decide) ?_
    refine T_icmp_gt (pc' := 26) (tgt := 80) d_Tb_laws_23 rfl (by decide) (fun _ => ?_) (fun hzz => absurd (by decide) hzz)
    exact T_fg (by simp [e_le]) hk
  | k + 1, l, hl => by
    have ih := l_laws w ci si Q hk k (l + 1) (by omega)
    refine T_iload (pc' := 21) d_Tb_laws_19 rfl rfl ?_
    refine T_bipush (v := 30) (pc' := 23) d_Tb_laws_21 rfl (by decide) ?_
    refine T_icmp_gt (pc' := 26) (tgt := 80) d_Tb_laws_23 rfl (by decide) (fun hzz => absurd hzz (nI_nlt (a := 30) (b := l + 1) (by omega) (by decide))) (fun _ => ?_)
    refine T_iconst (v := 0) (pc' := 27) d_Tb_laws_26 rfl (by decide) ?_
    refine T_is5 (pc' := 29) d_Tb_laws_27 rfl (Nat.le_of_ble_eq_true rfl) rfl ?_
    refine l_laws1 X d h σ w l (by omega) ci si Q ?_ 6 0 rfl
    refine T_ii4 (c := 1) (pc' := 77) d_Tb_laws_74 rfl (by decide) (Nat.le_of_ble_eq_true rfl) rfl ?_
    rw [nI_1]
    refine T_goto (pc' := 19) d_Tb_laws_77 (by decide) ?_
    exact ih
theorem p_Tb_laws (w : Int32) (ci : CI h σ) (si : SI σ) : Ci X (d + 20) M_Tb_laws [.ref 0, .int w] h (fun v h1 => v = q_laws σ w ∧ CI h1 σ ∧ Fr 0 86 h h1) := by
  refine C_of_T rfl rfl (Nat.le_of_ble_eq_true rfl) rfl ?_
  refine T_iload_n (pc' := 1) d_Tb_laws_0 rfl rfl rfl ?_
  refine T_iconst (v := 0) (pc' := 2) d_Tb_laws_1 rfl (by decide) ?_
  refine T_iconst (v := 1) (pc' := 3) d_Tb_laws_2 rfl (by decide) ?_
  refine T_S3i (pc' := 6) d_Tb_laws_3 rfl l_Tb_85 v_Tb_within (Nat.le_of_ble_eq_true rfl) (c_Tb_within X _ h w 0 1) (fun v h1 hq => ?_)
  obtain ⟨rfl, ⟨hw, rfl⟩ | ⟨hw, rfl⟩⟩ := hq
  · refine T_if_ne (pc' := 9) (tgt := 11) d_Tb_laws_6 rfl (by decide) (fun _ => ?_) (fun hzz => absurd hzz (by decide))
    refine T_iconst (v := 0) (pc' := 12) d_Tb_laws_11 rfl (by decide) ?_
    refine T_is_n2 (pc' := 13) d_Tb_laws_12 rfl rfl (Nat.le_of_ble_eq_true rfl) rfl ?_
    refine T_bipush (v := (-9)) (pc' := 15) d_Tb_laws_13 rfl (by decide) ?_
    refine T_is_n3 (pc' := 16) d_Tb_laws_15 rfl rfl (Nat.le_of_ble_eq_true rfl) rfl ?_
    refine T_iconst (v := 1) (pc' := 17) d_Tb_laws_16 rfl (by decide) ?_
    refine T_is4 (pc' := 19) d_Tb_laws_17 rfl (Nat.le_of_ble_eq_true rfl) rfl ?_
    refine l_laws X _ h1 σ w ci si _ ?_ 30 0 rfl
    rw [q_laws]
    simp only [hw, and_self, if_true]
    rcases s_01 hw with rfl | rfl
    · refine T_iload_n (pc' := 81) d_Tb_laws_80 rfl rfl rfl ?_
      refine T_if_ne (pc' := 84) (tgt := 88) d_Tb_laws_81 rfl (by decide) (fun hzz => absurd (by decide) hzz) (fun _ => ?_)
      refine T_iload_n (pc' := 85) d_Tb_laws_84 rfl rfl rfl ?_
      refine T_goto (pc' := 89) d_Tb_laws_85 (by decide) ?_
      refine T_iret d_Tb_laws_89 rfl ?_
      exact ⟨_, rfl, rfl, ci, Fr.rf⟩
    · refine T_iload_n (pc' := 81) d_Tb_laws_80 rfl rfl rfl ?_
      refine T_if_ne (pc' := 84) (tgt := 88) d_Tb_laws_81 rfl (by decide) (fun _ => ?_) (fun hzz => absurd hzz (by decide))
      refine T_iload_n (pc' := 89) d_Tb_laws_88 rfl rfl rfl ?_
      refine T_iret d_Tb_laws_89 rfl ?_
      exact ⟨_, rfl, rfl, ci, Fr.rf⟩
  · refine T_if_ne (pc' := 9) (tgt := 11) d_Tb_laws_6 rfl (by decide) (fun hzz => absurd (by decide) hzz) (fun _ => ?_)
    refine T_iconst (v := (-1)) (pc' := 10) d_Tb_laws_9 rfl (by decide) ?_
    refine T_iret d_Tb_laws_10 rfl ?_
    exact ⟨_, rfl, by rw [q_laws, if_neg hw], ci, Fr.rf⟩
end PUB5
