/-- alike in the eleven numbers -/
def FE (g g' : Nat → Int32) : Prop := ∀ k, k < 11 → g k = g' k
theorem FE_pass {n : Nat} {wi we br li fa g g' : Nat → Int32} (he : FE g g') : FE (sPass n wi we br li fa g) (sPass n wi we br li fa g') := by
  have e0 := he 0 (by decide)
  have e1 := he 1 (by decide)
  have e2 := he 2 (by decide)
  have e3 := he 3 (by decide)
  have e4 := he 4 (by decide)
  have e5 := he 5 (by decide)
  have e6 := he 6 (by decide)
  have e10 := he 10 (by decide)
  have hm : sMore n we br li fa g = sMore n we br li fa g' := by rw [sMore, sMore, e3, e4, e5, e6]
  have ht : sTo n wi we br li fa g = sTo n wi we br li fa g' := by rw [sTo, sTo, hm, e1, e2]
  intro k hk
  rw [sPass, sPass, e0, e5, e10, he k hk, hm, ht, e2]
theorem FE_passN {n : Nat} {wi we br li fa g g' : Nat → Int32} (he : FE g g') : ∀ i, FE (sPassN n wi we br li fa g i) (sPassN n wi we br li fa g' i)
  | 0 => he
  | i + 1 => FE_pass (FE_passN he i)
theorem FE_cp (g f : Nat → Int32) : FE (sCp g f 11) g := fun k hk => if_pos hk
theorem FE_GI {n m : Nat} {g g' : Nat → Int32} (he : FE g g') (hg : GI n m g') : GI n m g := by
  obtain ⟨h1, h2, h3, h4, h5, h6⟩ := hg
  exact ⟨by rw [he 1 (by decide)]; exact h1, by rw [he 2 (by decide)]; exact h2, by rw [he 3 (by decide), he 4 (by decide)]; exact h3, by rw [he 10 (by decide)]; exact h4, by rw [he 6 (by decide)]; exact h5, fun p hp => by rw [he (7 + p) (by omega)]; exact h6 p hp⟩
section MPUB5
variable (X : EX) (d : Nat) (h : AH) (σ : Sp)
/-- behind a use of the row that is tried -/
theorem MI_tried {f : Nat → Int32} (mi : MI h σ) : MI (e_put h 102 (.inl (0, 11, f))) σ ∧ Fr 86 109 h (e_put h 102 (.inl (0, 11, f))) := by
  obtain ⟨g, r11⟩ := mi.2.2.2.2.2.2.2.2.2.2.2.1
  have ex : Ex [102, 103] h (e_put h 102 (.inl (0, 11, f))) := Ex.rf.put (by decide)
  exact ⟨MI_scr mi ex e_put_s ((e_put_n (by decide)).trans r11), ex.fr (by decide)⟩
theorem l_Mo_after (N : Nat) (w : Int32) (g : Nat → Int32) (mi : MI h σ) (si : SI σ) (hN : N < 2 ^ 31) (hg : GI (σ.1 1) (σ.1 2) g) (Q : Option Value → AH → Prop) (hk : T X (d + 3) M_Mo_after 46 [.ref 86, .int (nI N), .int w, .int (nI N)] [] (e_put h 102 (.inl (0, 11, pN σ g N))) Q) : ∀ (k i : Nat), i + k = N → T X (d + 3) M_Mo_after 27 [.ref 86, .int (nI N), .int w, .int (nI i)] [] (e_put h 102 (.inl (0, 11, pN σ g i))) Q
  | 0, i, hi => by
    have : i = N := by omega
    subst this
    refine T_iload_n (pc' := 28) d_Mo_after_27 rfl rfl rfl ?_
    refine T_iload_n (pc' := 29) d_Mo_after_28 rfl rfl rfl ?_
    refine T_icmp_ge (pc' := 32) (tgt := 46) d_Mo_after_29 rfl (by decide) (fun _ => ?_) (fun hzz => absurd (Int32.le_refl _) hzz)
    exact hk
  | k + 1, i, hi => by
    have ih := l_Mo_after N w g mi si hN hg Q hk k (i + 1) (by omega)
    obtain ⟨sc, r0, -⟩ := mi.1
    refine T_iload_n (pc' := 28) d_Mo_after_27 rfl rfl rfl ?_
    refine T_iload_n (pc' := 29) d_Mo_after_28 rfl rfl rfl ?_
    refine T_icmp_ge (pc' := 32) (tgt := 46) d_Mo_after_29 rfl (by decide) (fun hzz => absurd hzz (nI_ge (by omega) hN)) (fun _ => ?_)
    refine T_aload_n (pc' := 33) d_Mo_after_32 rfl rfl rfl ?_
    refine T_aload_n (pc' := 34) d_Mo_after_33 rfl rfl rfl ?_
    refine T_get (pc' := 37) d_Mo_after_34 rfl g_Mo_57 ((e_put_n (by decide)).trans r0) rfl ?_
    refine T_V1v (pc' := 40) d_Mo_after_37 rfl l_Mo_173 v_Mo_passOn ((e_put_n (by decide)).trans r0) (Nat.le_of_ble_eq_true rfl) (c_Mo_passOn X d _ _ _ _ _ _ _ _ 102 _ si.1.2.1 si.1.2.2.1 si.2.1.1 (MT_put mi.2.2.1 (by decide)) (by decide) e_put_s (GI_passN hg i)) (fun h1 hq => ?_)
    subst hq
    rw [e_pp]
    refine T_ii3 (c := 1) (pc' := 43) d_Mo_after_40 rfl (by decide) (Nat.le_of_ble_eq_true rfl) rfl ?_
    rw [nI_1]
    refine T_goto (pc' := 27) d_Mo_after_43 (by decide) ?_
    exact ih
theorem p_Mo_after (k w : Int32) (mi : MI h σ) (si : SI σ) : Ci X (d + 20) M_Mo_after [.ref 86, .int k, .int w] h (fun v h1 => v = q_after σ k w ∧ MI h1 σ ∧ Fr 86 109 h h1) := by
  have hg := si.2.2.1
  obtain ⟨sc, r0, -⟩ := mi.1
  refine C_of_T rfl rfl (Nat.le_of_ble_eq_true rfl) rfl ?_
  refine T_iload_n (pc' := 1) d_Mo_after_0 rfl rfl rfl ?_
  refine T_iconst (v := 0) (pc' := 2) d_Mo_after_1 rfl (by decide) ?_
  refine T_bipush (v := 30) (pc' := 4) d_Mo_after_2 rfl (by decide) ?_
  refine T_S3i (pc' := 7) d_Mo_after_4 rfl l_Mo_78 v_Mo_in (Nat.le_of_ble_eq_true rfl) (c_Mo_in X _ h k 0 30) (fun v h1 hq => ?_)
  obtain ⟨rfl, ⟨hk, rfl⟩ | ⟨hk, rfl⟩⟩ := hq
  · refine T_if_eq (pc' := 10) (tgt := 19) d_Mo_after_7 rfl (by decide) (fun hzz => absurd hzz (by decide)) (fun _ => ?_)
    refine T_iload_n (pc' := 11) d_Mo_after_10 rfl rfl rfl ?_
    refine T_iconst (v := 0) (pc' := 12) d_Mo_after_11 rfl (by decide) ?_
    refine T_iconst (v := 1) (pc' := 13) d_Mo_after_12 rfl (by decide) ?_
    refine T_S3i (pc' := 16) d_Mo_after_13 rfl l_Mo_78 v_Mo_in (Nat.le_of_ble_eq_true rfl) (c_Mo_in X _ h1 w 0 1) (fun v h2 hq => ?_)
    obtain ⟨rfl, ⟨hw, rfl⟩ | ⟨hw, rfl⟩⟩ := hq
    · refine T_if_ne (pc' := 19) (tgt := 21) d_Mo_after_16 rfl (by decide) (fun _ => ?_) (fun hzz => absurd hzz (by decide))
      obtain ⟨kk, hkk, rfl⟩ := nI_of2 (M := 30) (n := 30) (by decide) (Int32.not_lt.mpr hk.1) hk.2
      refine T_aload_n (pc' := 22) d_Mo_after_21 rfl rfl rfl ?_
      refine T_V0v (pc' := 25) d_Mo_after_22 rfl l_Mo_187 v_Mo_take (by first | assumption | exact e_put_s | simp [e_put, *]) (Nat.le_of_ble_eq_true rfl) (c_Mo_take X _ h2 σ mi) (fun h3 hq => ?_)
      obtain ⟨f, rfl⟩ := hq
      refine T_iconst (v := 0) (pc' := 26) d_Mo_after_25 rfl (by decide) ?_
      refine T_is_n3 (pc' := 27) d_Mo_after_26 rfl rfl (Nat.le_of_ble_eq_true rfl) rfl ?_
      have fe := FE_passN (n := σ.1 1) (wi := σ.2.1 1) (we := σ.2.1 2) (br := σ.2.1 3) (li := σ.2.1 4) (fa := σ.2.1 5) (FE_cp (σ.2.1 6) f) kk
      refine l_Mo_after X _ h2 σ kk w (sCp (σ.2.1 6) f 11) mi si (by omega) (GI_cp hg) _ ?_ kk 0 (by omega)
      obtain ⟨mi5, fr5⟩ := MI_tried h2 σ (f := pN σ (sCp (σ.2.1 6) f 11) kk) mi
      rcases s_01 hw with rfl | rfl
      · refine T_iload_n (pc' := 47) d_Mo_after_46 rfl rfl rfl ?_
        refine T_if_ne (pc' := 50) (tgt := 59) d_Mo_after_47 rfl (by decide) (fun hzz => absurd (by decide) hzz) (fun _ => ?_)
        refine T_aload_n (pc' := 51) d_Mo_after_50 rfl rfl rfl ?_
        refine T_get (pc' := 54) d_Mo_after_51 rfl g_Mo_57 (by first | exact (e_put_n (by decide)).trans r0 | exact e_put_s) rfl ?_
        refine T_iconst (v := 1) (pc' := 55) d_Mo_after_54 rfl (by decide) ?_
        refine T_ialoadL 1 (pc' := 56) d_Mo_after_55 rfl (by first | exact (e_put_n (by decide)).trans r0 | exact e_put_s) (by decide) ?_
        refine T_goto (pc' := 65) d_Mo_after_56 (by decide) ?_
        refine T_iret d_Mo_after_65 rfl ?_
        refine ⟨_, rfl, ?_, mi5, fr5⟩
        rw [q_after, if_pos ⟨hk, hw⟩, nI_clamp (by omega)]
        exact fe 1 (by decide)
      · refine T_iload_n (pc' := 47) d_Mo_after_46 rfl rfl rfl ?_
        refine T_if_ne (pc' := 50) (tgt := 59) d_Mo_after_47 rfl (by decide) (fun _ => ?_) (fun hzz => absurd hzz (by decide))
        refine T_aload_n (pc' := 60) d_Mo_after_59 rfl rfl rfl ?_
        refine T_get (pc' := 63) d_Mo_after_60 rfl g_Mo_57 (by first | exact (e_put_n (by decide)).trans r0 | exact e_put_s) rfl ?_
        refine T_iconst (v := 2) (pc' := 64) d_Mo_after_63 rfl (by decide) ?_
        refine T_ialoadL 2 (pc' := 65) d_Mo_after_64 rfl (by first | exact (e_put_n (by decide)).trans r0 | exact e_put_s) (by decide) ?_
        refine T_iret d_Mo_after_65 rfl ?_
        refine ⟨_, rfl, ?_, mi5, fr5⟩
        rw [q_after, if_pos ⟨hk, hw⟩, nI_clamp (by omega)]
        exact fe 2 (by decide)
    · refine T_if_ne (pc' := 19) (tgt := 21) d_Mo_after_16 rfl (by decide) (fun hzz => absurd (by decide) hzz) (fun _ => ?_)
      refine T_iconst (v := (-1)) (pc' := 20) d_Mo_after_19 rfl (by decide) ?_
      refine T_iret d_Mo_after_20 rfl ?_
      exact ⟨_, rfl, by rw [q_after, if_neg (fun q => hw q.2)], mi, Fr.rf⟩
  · refine T_if_eq (pc' := 10) (tgt := 19) d_Mo_after_7 rfl (by decide) (fun _ => ?_) (fun hzz => absurd (by decide) hzz)
    refine T_iconst (v := (-1)) (pc' := 20) d_Mo_after_19 rfl (by decide) ?_
    refine T_iret d_Mo_after_20 rfl ?_
    exact ⟨_, rfl, by rw [q_after, if_neg (fun q => hk q.1)], mi, Fr.rf⟩
theorem l_Mo_down (g : Nat → Int32) (mi : MI h σ) (si : SI σ) (fe : FE g (σ.2.1 6)) (Q : Option Value → AH → Prop) (hQ : ∀ h1, MI h1 σ → Fr 86 109 h h1 → Q (some (.int (sDn σ (σ.2.1 6) 60 1))) h1) : ∀ (k i : Nat), i + k = 60 → sDn σ (σ.2.1 6) k (i + 1) = sDn σ (σ.2.1 6) 60 1 → T X (d + 3) M_Mo_down 6 [.ref 86, .int (nI (i + 1))] [] (e_put h 102 (.inl (0, 11, pN σ g i))) Q
  | 0, i, hi, hs => by
    have : i = 60 := by omega
    subst this
    obtain ⟨mi5, fr5⟩ := MI_tried h σ (f := pN σ g 60) mi
    refine T_iload_n (pc' := 7) d_Mo_down_6 rfl rfl rfl ?_
    refine T_bipush (v := 60) (pc' := 9) d_Mo_down_7 rfl (by decide) ?_
    refine T_icmp_gt (pc' := 12) (tgt := 51) d_Mo_down_9 rfl (by decide) (fun _ => ?_) (fun hzz => absurd (by decide) hzz)
    refine T_bipush (v := (-9)) (pc' := 53) d_Mo_down_51 rfl (by decide) ?_
    refine T_iret d_Mo_down_53 rfl ?_
    have := hQ _ mi5 fr5
    rw [← hs] at this
    exact this
  | k + 1, i, hi, hs => by
    obtain ⟨sc, r0, -⟩ := mi.1
    have ih := l_Mo_down g mi si fe Q hQ k (i + 1) (by omega)
    have hgg : GI (σ.1 1) (σ.1 2) g := FE_GI fe si.2.2.1
    obtain ⟨mi5, fr5⟩ := MI_tried h σ (f := pN σ g (i + 1)) mi
    have fe1 := FE_passN (n := σ.1 1) (wi := σ.2.1 1) (we := σ.2.1 2) (br := σ.2.1 3) (li := σ.2.1 4) (fa := σ.2.1 5) fe (i + 1)
    have f10 := fe1 10 (by decide)
    have f2 := fe1 2 (by decide)
    refine T_iload_n (pc' := 7) d_Mo_down_6 rfl rfl rfl ?_
    refine T_bipush (v := 60) (pc' := 9) d_Mo_down_7 rfl (by decide) ?_
    refine T_icmp_gt (pc' := 12) (tgt := 51) d_Mo_down_9 rfl (by decide) (fun hzz => absurd hzz (nI_nlt (a := 60) (b := i + 1) (by omega) (by decide))) (fun _ => ?_)
    refine T_aload_n (pc' := 13) d_Mo_down_12 rfl rfl rfl ?_
    refine T_aload_n (pc' := 14) d_Mo_down_13 rfl rfl rfl ?_
    refine T_get (pc' := 17) d_Mo_down_14 rfl g_Mo_57 ((e_put_n (by decide)).trans r0) rfl ?_
    refine T_V1v (pc' := 20) d_Mo_down_17 rfl l_Mo_173 v_Mo_passOn ((e_put_n (by decide)).trans r0) (Nat.le_of_ble_eq_true rfl) (c_Mo_passOn X d _ _ _ _ _ _ _ _ 102 _ si.1.2.1 si.1.2.2.1 si.2.1.1 (MT_put mi.2.2.1 (by decide)) (by decide) e_put_s (GI_passN hgg i)) (fun h1 hq => ?_)
    subst hq
    rw [e_pp]
    rw [sDn] at hs
    refine T_aload_n (pc' := 21) d_Mo_down_20 rfl rfl rfl ?_
    refine T_get (pc' := 24) d_Mo_down_21 rfl g_Mo_57 (by first | exact (e_put_n (by decide)).trans r0 | exact e_put_s) rfl ?_
    refine T_bipush (v := 10) (pc' := 26) d_Mo_down_24 rfl (by decide) ?_
    refine T_ialoadL 10 (pc' := 27) d_Mo_down_26 rfl (by first | exact (e_put_n (by decide)).trans r0 | exact e_put_s) (by decide) ?_
    refine T_iconst (v := 1) (pc' := 28) d_Mo_down_27 rfl (by decide) ?_
    have f10' : sPass (σ.1 1) (σ.2.1 1) (σ.2.1 2) (σ.2.1 3) (σ.2.1 4) (σ.2.1 5) (sPassN (σ.1 1) (σ.2.1 1) (σ.2.1 2) (σ.2.1 3) (σ.2.1 4) (σ.2.1 5) g i) 10 = pN σ (σ.2.1 6) (i + 1) 10 := f10
    have f2' : sPass (σ.1 1) (σ.2.1 1) (σ.2.1 2) (σ.2.1 3) (σ.2.1 4) (σ.2.1 5) (sPassN (σ.1 1) (σ.2.1 1) (σ.2.1 2) (σ.2.1 3) (σ.2.1 4) (σ.2.1 5) g i) 2 = pN σ (σ.2.1 6) (i + 1) 2 := f2
    rw [f10']
    by_cases hlo : pN σ (σ.2.1 6) (i + 1) 10 = 1
    · refine T_icmp_ne (pc' := 31) (tgt := 34) d_Mo_down_28 rfl (by decide) (fun hzz => absurd hlo hzz) (fun _ => ?_)
      refine T_bipush (v := (-9)) (pc' := 33) d_Mo_down_31 rfl (by decide) ?_
      refine T_iret d_Mo_down_33 rfl ?_
      rw [if_pos hlo] at hs
      have := hQ _ mi5 fr5
      rw [← hs] at this
      exact this
    · refine T_icmp_ne (pc' := 31) (tgt := 34) d_Mo_down_28 rfl (by decide) (fun _ => ?_) (fun hzz => absurd hzz hlo)
      rw [if_neg hlo] at hs
      refine T_aload_n (pc' := 35) d_Mo_down_34 rfl rfl rfl ?_
      refine T_get (pc' := 38) d_Mo_down_35 rfl g_Mo_57 (by first | exact (e_put_n (by decide)).trans r0 | exact e_put_s) rfl ?_
      refine T_iconst (v := 2) (pc' := 39) d_Mo_down_38 rfl (by decide) ?_
      refine T_ialoadL 2 (pc' := 40) d_Mo_down_39 rfl (by first | exact (e_put_n (by decide)).trans r0 | exact e_put_s) (by decide) ?_
      rw [f2']
      by_cases hz : pN σ (σ.2.1 6) (i + 1) 2 = 0
      · refine T_if_ne (pc' := 43) (tgt := 45) d_Mo_down_40 rfl (by decide) (fun hzz => absurd hz hzz) (fun _ => ?_)
        refine T_iload_n (pc' := 44) d_Mo_down_43 rfl rfl rfl ?_
        refine T_iret d_Mo_down_44 rfl ?_
        rw [if_pos hz] at hs
        have := hQ _ mi5 fr5
        rw [← hs] at this
        exact this
      · refine T_if_ne (pc' := 43) (tgt := 45) d_Mo_down_40 rfl (by decide) (fun _ => ?_) (fun hzz => absurd hzz hz)
        refine T_ii1 (c := 1) (pc' := 48) d_Mo_down_45 rfl (by decide) (Nat.le_of_ble_eq_true rfl) rfl ?_
        rw [nI_1]
        refine T_goto (pc' := 6) d_Mo_down_48 (by decide) ?_
        rw [if_neg hz] at hs
        exact ih hs
theorem p_Mo_down (mi : MI h σ) (si : SI σ) : Ci X (d + 20) M_Mo_down [.ref 86] h (fun v h1 => v = sDn σ (σ.2.1 6) 60 1 ∧ MI h1 σ ∧ Fr 86 109 h h1) := by
  obtain ⟨sc, r0, -⟩ := mi.1
  refine C_of_T rfl rfl (Nat.le_of_ble_eq_true rfl) rfl ?_
  refine T_aload_n (pc' := 1) d_Mo_down_0 rfl rfl rfl ?_
  refine T_V0v (pc' := 4) d_Mo_down_1 rfl l_Mo_187 v_Mo_take (by first | assumption | exact e_put_s | simp [e_put, *]) (Nat.le_of_ble_eq_true rfl) (c_Mo_take X _ h σ mi) (fun h1 hq => ?_)
  obtain ⟨f, rfl⟩ := hq
  refine T_iconst (v := 1) (pc' := 5) d_Mo_down_4 rfl (by decide) ?_
  refine T_is_n1 (pc' := 6) d_Mo_down_5 rfl rfl (Nat.le_of_ble_eq_true rfl) rfl ?_
  exact l_Mo_down X _ h σ (sCp (σ.2.1 6) f 11) mi si (FE_cp _ _) _ (fun h1 q1 q2 => ⟨_, rfl, rfl, q1, q2⟩) 60 0 rfl rfl
end MPUB5
