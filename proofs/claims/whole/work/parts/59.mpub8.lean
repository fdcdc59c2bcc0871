/-! the model: which, look, laws -/
section MPUB8
variable (X : EX) (d : Nat) (h : AH) (σ : Sp)
theorem l_hb (p t N : Nat) (g : Nat → Int32) (mi : MI h σ) (si : SI σ) (hp : p < σ.1 1) (ht : t < σ.1 2) (hN : N < 2 ^ 31) (hg : GI (σ.1 1) (σ.1 2) g) (ft : FT g (sThink (σ.2.1 6) p t)) (Q : Option Value → AH → Prop) (hQ : ∀ h1, MI h1 σ → Fr 86 109 h h1 → Q (some (.int (sHL σ p t N))) h1) : ∀ (k i : Nat), i + k = N → T X (d + 3) M_Mo_heightBy 16 [.ref 86, .int (nI p), .int (nI t), .int (nI N), .int (nI i)] [] (e_put h 102 (.inl (0, 11, pN σ g i))) Q
  | 0, i, hi => by
    have : i = N := by omega
    subst this
    obtain ⟨sc, r0, -⟩ := mi.1
    obtain ⟨mi5, fr5⟩ := MI_tried h σ (f := pN σ g i) mi
    have e2 := FT_passN (n := σ.1 1) (wi := σ.2.1 1) (we := σ.2.1 2) (br := σ.2.1 3) (li := σ.2.1 4) (fa := σ.2.1 5) ft i 2 (by omega)
    refine T_iload (pc' := 18) d_Mo_heightBy_16 rfl rfl ?_
    refine T_iload_n (pc' := 19) d_Mo_heightBy_18 rfl rfl rfl ?_
    refine T_icmp_ge (pc' := 22) (tgt := 36) d_Mo_heightBy_19 rfl (by decide) (fun _ => ?_) (fun hzz => absurd (Int32.le_refl _) hzz)
    refine T_aload_n (pc' := 37) d_Mo_heightBy_36 rfl rfl rfl ?_
    refine T_get (pc' := 40) d_Mo_heightBy_37 rfl g_Mo_57 (by first | exact (e_put_n (by decide)).trans r0 | exact e_put_s) rfl ?_
    refine T_iconst (v := 2) (pc' := 41) d_Mo_heightBy_40 rfl (by decide) ?_
    refine T_ialoadL 2 (pc' := 42) d_Mo_heightBy_41 rfl (by first | exact (e_put_n (by decide)).trans r0 | exact e_put_s) (by decide) ?_
    have e3 : sHL σ p t i = pN σ g i 2 := e2.symm
    have := hQ _ mi5 fr5
    rw [e3] at this
    refine T_iret d_Mo_heightBy_42 rfl ?_
    exact this
  | k + 1, i, hi => by
    have ih := l_hb p t N g mi si hp ht hN hg ft Q hQ k (i + 1) (by omega)
    obtain ⟨sc, r0, -⟩ := mi.1
    refine T_iload (pc' := 18) d_Mo_heightBy_16 rfl rfl ?_
    refine T_iload_n (pc' := 19) d_Mo_heightBy_18 rfl rfl rfl ?_
    refine T_icmp_ge (pc' := 22) (tgt := 36) d_Mo_heightBy_19 rfl (by decide) (fun hzz => absurd hzz (nI_ge (by omega) hN)) (fun _ => ?_)
    refine T_aload_n (pc' := 23) d_Mo_heightBy_22 rfl rfl rfl ?_
    refine T_aload_n (pc' := 24) d_Mo_heightBy_23 rfl rfl rfl ?_
    refine T_get (pc' := 27) d_Mo_heightBy_24 rfl g_Mo_57 ((e_put_n (by decide)).trans r0) rfl ?_
    refine T_V1v (pc' := 30) d_Mo_heightBy_27 rfl l_Mo_173 v_Mo_passOn ((e_put_n (by decide)).trans r0) (Nat.le_of_ble_eq_true rfl) (c_Mo_passOn X d _ _ _ _ _ _ _ _ 102 _ si.1.2.1 si.1.2.2.1 si.2.1.1 (MT_put mi.2.2.1 (by decide)) (by decide) e_put_s (GI_passN hg i)) (fun h1 hq => ?_)
    subst hq
    rw [e_pp]
    refine T_ii4 (c := 1) (pc' := 33) d_Mo_heightBy_30 rfl (by decide) (Nat.le_of_ble_eq_true rfl) rfl ?_
    rw [nI_1]
    refine T_goto (pc' := 16) d_Mo_heightBy_33 (by decide) ?_
    exact ih
theorem c_heightBy (p t N : Nat) (mi : MI h σ) (si : SI σ) (hp : p < σ.1 1) (ht : t < σ.1 2) (hN : N < 2 ^ 31) : Ci X (d + 3) M_Mo_heightBy [.ref 86, .int (nI p), .int (nI t), .int (nI N)] h (fun v h1 => v = sHL σ p t N ∧ MI h1 σ ∧ Fr 86 109 h h1) := by
  obtain ⟨sc, r0, -⟩ := mi.1
  have hn := si.1.2.1
  have hm := si.1.2.2.1
  refine C_of_T rfl rfl (Nat.le_of_ble_eq_true rfl) rfl ?_
  refine T_aload_n (pc' := 1) d_Mo_heightBy_0 rfl rfl rfl ?_
  refine T_V0v (pc' := 4) d_Mo_heightBy_1 rfl l_Mo_187 v_Mo_take (by first | assumption | exact e_put_s | simp [e_put, *]) (Nat.le_of_ble_eq_true rfl) (c_Mo_take X _ h σ mi) (fun h1 hq => ?_)
  obtain ⟨f, rfl⟩ := hq
  refine T_aload_n (pc' := 5) d_Mo_heightBy_4 rfl rfl rfl ?_
  refine T_get (pc' := 8) d_Mo_heightBy_5 rfl g_Mo_57 ((e_put_n (by decide)).trans r0) rfl ?_
  refine T_iload_n (pc' := 9) d_Mo_heightBy_8 rfl rfl rfl ?_
  refine T_iload_n (pc' := 10) d_Mo_heightBy_9 rfl rfl rfl ?_
  refine T_S3v (pc' := 13) d_Mo_heightBy_10 rfl l_Mo_169 v_Mo_begin (Nat.le_of_ble_eq_true rfl) (c_Mo_begin X _ _ 102 _ p t (by omega) e_put_s) (fun h1 hq => ?_)
  subst hq
  rw [e_pp]
  refine T_iconst (v := 0) (pc' := 14) d_Mo_heightBy_13 rfl (by decide) ?_
  refine T_is4 (pc' := 16) d_Mo_heightBy_14 rfl (Nat.le_of_ble_eq_true rfl) rfl ?_
  exact l_hb X d h σ p t N (sBegin (sCp (σ.2.1 6) f 11) p t) mi si hp ht hN (GI_begin (GI_cp si.2.2.1) hp ht hn hm) (FT_begin p t (by omega) (FE_cp _ _)) _ (fun h1 q1 q2 => ⟨_, rfl, rfl, q1, q2⟩) N 0 (by omega)
theorem l_wb1 (p t : Nat) (set : Int32) (si : SI σ) (hp : p < σ.1 1) (ht : t < σ.1 2) (Q : Option Value → AH → Prop) (hk : ∀ h1, MI h1 σ → Fr 86 109 h h1 → T X (d + 4) M_Mo_whichBy 81 [.ref 86, .int (nI p), .int set, .int (nI t), .int (bi (sFitB σ p t (σ.1 4))), .null] [] h1 Q) : ∀ (k i : Nat), i + k = σ.1 4 → ∀ h1, MI h1 σ → Fr 86 109 h h1 → T X (d + 4) M_Mo_whichBy 20 [.ref 86, .int (nI p), .int set, .int (nI t), .int (bi (sFitB σ p t i)), .int (nI i)] [] h1 Q
  | 0, i, hi, h1, mi, fr => by
    have : i = σ.1 4 := by omega
    subst this
    obtain ⟨sc, r0, q0, q8, q9⟩ := mi.1
    refine T_iload (pc' := 22) d_Mo_whichBy_20 rfl rfl ?_
    refine T_aload_n (pc' := 23) d_Mo_whichBy_22 rfl rfl rfl ?_
    refine T_get (pc' := 26) d_Mo_whichBy_23 rfl g_Mo_134 (by first | assumption | exact e_put_s | simp [e_put, *]) rfl ?_
    rw [q8]
    refine T_icmp_ge (pc' := 29) (tgt := 81) d_Mo_whichBy_26 rfl (by decide) (fun _ => ?_) (fun hzz => absurd (Int32.le_refl _) hzz)
    exact T_fg (by simp [e_le]) (hk h1 mi fr)
  | k + 1, i, hi, h1, mi, fr => by
    have ih := l_wb1 p t set si hp ht Q hk k (i + 1) (by omega)
    have mi' := mi
    obtain ⟨⟨sc, r0, q0, q8, q9⟩, -, -, -, -, -, -, -, -, -, -, -, ⟨f12, r12, q12⟩, ⟨f13, r13, q13⟩, ⟨f14, r14, q14⟩, -⟩ := mi
    have h6 := si.1.2.2.2.2.1
    obtain ⟨mj, hm1, hm2, hm3⟩ := si.2.2.2.2.2.2.1 i (by omega)
    refine T_iload (pc' := 22) d_Mo_whichBy_20 rfl rfl ?_
    refine T_aload_n (pc' := 23) d_Mo_whichBy_22 rfl rfl rfl ?_
    refine T_get (pc' := 26) d_Mo_whichBy_23 rfl g_Mo_134 (by first | assumption | exact e_put_s | simp [e_put, *]) rfl ?_
    rw [q8]
    refine T_icmp_ge (pc' := 29) (tgt := 81) d_Mo_whichBy_26 rfl (by decide) (fun hzz => absurd hzz (nI_ge (by omega) (by omega))) (fun _ => ?_)
    refine T_iload (pc' := 31) d_Mo_whichBy_29 rfl rfl ?_
    rw [sFitB] at ih
    by_cases hb : sFitB σ p t i = true
    · rw [hb] at ih ⊢
      rw [Bool.true_and] at ih
      refine T_if_eq (pc' := 34) (tgt := 72) d_Mo_whichBy_31 rfl (by decide) (fun hzz => absurd hzz (by decide)) (fun _ => ?_)
      refine T_aload_n (pc' := 35) d_Mo_whichBy_34 rfl rfl rfl ?_
      refine T_get (pc' := 38) d_Mo_whichBy_35 rfl g_Mo_63 (by first | assumption | exact e_put_s | simp [e_put, *]) rfl ?_
      refine T_iload (pc' := 40) d_Mo_whichBy_38 rfl rfl ?_
      refine T_ialoadN i (pc' := 41) d_Mo_whichBy_40 rfl r12 ⟨by omega, by decide⟩ ?_
      rw [q12 i (by omega)]
      refine T_iload_n (pc' := 42) d_Mo_whichBy_41 rfl rfl rfl ?_
      by_cases hpp : σ.2.1 7 i = nI p
      · refine T_icmp_ne (pc' := 45) (tgt := 68) d_Mo_whichBy_42 rfl (by decide) (fun hzz => absurd hpp hzz) (fun _ => ?_)
        refine T_aload_n (pc' := 46) d_Mo_whichBy_45 rfl rfl rfl ?_
        refine T_iload_n (pc' := 47) d_Mo_whichBy_46 rfl rfl rfl ?_
        refine T_iload_n (pc' := 48) d_Mo_whichBy_47 rfl rfl rfl ?_
        refine T_aload_n (pc' := 49) d_Mo_whichBy_48 rfl rfl rfl ?_
        refine T_get (pc' := 52) d_Mo_whichBy_49 rfl g_Mo_66 (by first | assumption | exact e_put_s | simp [e_put, *]) rfl ?_
        refine T_iload (pc' := 54) d_Mo_whichBy_52 rfl rfl ?_
        refine T_ialoadN i (pc' := 55) d_Mo_whichBy_54 rfl r13 ⟨by omega, by decide⟩ ?_
        rw [q13 i (by omega), hm3]
        refine T_V3i (pc' := 58) d_Mo_whichBy_55 rfl l_Mo_194 v_Mo_heightBy (by first | assumption | exact e_put_s | simp [e_put, *]) (Nat.le_of_ble_eq_true rfl) (c_heightBy X _ h1 σ p t mj mi' si hp ht (by omega)) (fun v h2 hq => ?_)
        obtain ⟨rfl, mi2, fr2⟩ := hq
        have ef : sFit1 σ p t i ↔ sHL σ p t mj = σ.2.1 9 i := by
          have e1 : (σ.2.1 8 i).toNatClampNeg = mj := by rw [hm3, nI_clamp (by omega)]
          constructor
          · intro q
            have := q hpp
            rw [e1] at this
            exact this
          · intro q _
            rw [e1]; exact q
        have mi2' := mi2
        obtain ⟨⟨sc2, z0, -⟩, -, -, -, -, -, -, -, -, -, -, -, -, -, ⟨g14, z14, y14⟩, -⟩ := mi2
        refine T_aload_n (pc' := 59) d_Mo_whichBy_58 rfl rfl rfl ?_
        refine T_get (pc' := 62) d_Mo_whichBy_59 rfl g_Mo_69 (by first | assumption | exact e_put_s | simp [e_put, *]) rfl ?_
        refine T_iload (pc' := 64) d_Mo_whichBy_62 rfl rfl ?_
        refine T_ialoadN i (pc' := 65) d_Mo_whichBy_64 rfl z14 ⟨by omega, by decide⟩ ?_
        rw [y14 i (by omega)]
        by_cases he : sHL σ p t mj = σ.2.1 9 i
        · rw [show decide (sFit1 σ p t i) = true from decide_eq_true (ef.mpr he)] at ih
          refine T_icmp_ne (pc' := 68) (tgt := 72) d_Mo_whichBy_65 rfl (by decide) (fun hzz => absurd he hzz) (fun _ => ?_)
          refine T_iconst (v := 1) (pc' := 69) d_Mo_whichBy_68 rfl (by decide) ?_
          refine T_goto (pc' := 73) d_Mo_whichBy_69 (by decide) ?_
          refine T_is4 (pc' := 75) d_Mo_whichBy_73 rfl (Nat.le_of_ble_eq_true rfl) rfl ?_
          refine T_ii5 (c := 1) (pc' := 78) d_Mo_whichBy_75 rfl (by decide) (Nat.le_of_ble_eq_true rfl) rfl ?_
          rw [nI_1]
          refine T_goto (pc' := 20) d_Mo_whichBy_78 (by decide) ?_
          exact ih h2 mi2' (fr.tr fr2)
        · rw [show decide (sFit1 σ p t i) = false from decide_eq_false (fun q => he (ef.mp q))] at ih
          refine T_icmp_ne (pc' := 68) (tgt := 72) d_Mo_whichBy_65 rfl (by decide) (fun _ => ?_) (fun hzz => absurd hzz he)
          refine T_iconst (v := 0) (pc' := 73) d_Mo_whichBy_72 rfl (by decide) ?_
          refine T_is4 (pc' := 75) d_Mo_whichBy_73 rfl (Nat.le_of_ble_eq_true rfl) rfl ?_
          refine T_ii5 (c := 1) (pc' := 78) d_Mo_whichBy_75 rfl (by decide) (Nat.le_of_ble_eq_true rfl) rfl ?_
          rw [nI_1]
          refine T_goto (pc' := 20) d_Mo_whichBy_78 (by decide) ?_
          exact ih h2 mi2' (fr.tr fr2)
      · rw [show decide (sFit1 σ p t i) = true from decide_eq_true (fun q => absurd q hpp)] at ih
        refine T_icmp_ne (pc' := 45) (tgt := 68) d_Mo_whichBy_42 rfl (by decide) (fun _ => ?_) (fun hzz => absurd hzz hpp)
        refine T_iconst (v := 1) (pc' := 69) d_Mo_whichBy_68 rfl (by decide) ?_
        refine T_goto (pc' := 73) d_Mo_whichBy_69 (by decide) ?_
        refine T_is4 (pc' := 75) d_Mo_whichBy_73 rfl (Nat.le_of_ble_eq_true rfl) rfl ?_
        refine T_ii5 (c := 1) (pc' := 78) d_Mo_whichBy_75 rfl (by decide) (Nat.le_of_ble_eq_true rfl) rfl ?_
        rw [nI_1]
        refine T_goto (pc' := 20) d_Mo_whichBy_78 (by decide) ?_
        exact ih h1 mi' fr
    · have hb' : sFitB σ p t i = false := by simpa using hb
      rw [hb'] at ih ⊢
      rw [Bool.false_and] at ih
      refine T_if_eq (pc' := 34) (tgt := 72) d_Mo_whichBy_31 rfl (by decide) (fun _ => ?_) (fun hzz => absurd (by decide) hzz)
      refine T_iconst (v := 0) (pc' := 73) d_Mo_whichBy_72 rfl (by decide) ?_
      refine T_is4 (pc' := 75) d_Mo_whichBy_73 rfl (Nat.le_of_ble_eq_true rfl) rfl ?_
      refine T_ii5 (c := 1) (pc' := 78) d_Mo_whichBy_75 rfl (by decide) (Nat.le_of_ble_eq_true rfl) rfl ?_
      rw [nI_1]
      refine T_goto (pc' := 20) d_Mo_whichBy_78 (by decide) ?_
      exact ih h1 mi' fr
theorem l_wb (p : Nat) (si : SI σ) (hp : p < σ.1 1) (Q : Option Value → AH → Prop) (hQ : ∀ h1, MI h1 σ → Fr 86 109 h h1 → Q (some (.int (sWh σ p (σ.1 2)))) h1) : ∀ (k i : Nat), i + k = σ.1 2 → ∀ h1, MI h1 σ → Fr 86 109 h h1 → T X (d + 4) M_Mo_whichBy 4 [.ref 86, .int (nI p), .int (sWh σ p i), .int (nI i), .null, .null] [] h1 Q
  | 0, i, hi, h1, mi, fr => by
    have : i = σ.1 2 := by omega
    subst this
    have mt := mi.2.2.1
    obtain ⟨⟨sc, tc, h0⟩, -, -, -, -, ⟨f5, h5, e5⟩, -⟩ := mt
    refine T_iload_n (pc' := 5) d_Mo_whichBy_4 rfl rfl rfl ?_
    refine T_aload_n (pc' := 6) d_Mo_whichBy_5 rfl rfl rfl ?_
    refine T_get (pc' := 9) d_Mo_whichBy_6 rfl g_Mo_29 (by first | assumption | exact e_put_s | simp [e_put, *]) rfl ?_
    refine T_iconst (v := 0) (pc' := 10) d_Mo_whichBy_9 rfl (by decide) ?_
    refine T_ialoadL 0 (pc' := 11) d_Mo_whichBy_10 rfl (by first | assumption | exact e_put_s | simp [e_put, *]) (by decide) ?_
    rw [e5]
    refine T_icmp_ge (pc' := 14) (tgt := 102) d_Mo_whichBy_11 rfl (by decide) (fun _ => ?_) (fun hzz => absurd (Int32.le_refl _) hzz)
    refine T_iload_n (pc' := 103) d_Mo_whichBy_102 rfl rfl rfl ?_
    refine T_iret d_Mo_whichBy_103 rfl ?_
    exact hQ h1 mi fr
  | k + 1, i, hi, h1, mi, fr => by
    have ih := l_wb p si hp Q hQ k (i + 1) (by omega)
    have mt := mi.2.2.1
    obtain ⟨⟨sc, tc, h0⟩, -, -, -, -, ⟨f5, h5, e5⟩, -⟩ := mt
    have hm := si.1.2.2.1
    refine T_iload_n (pc' := 5) d_Mo_whichBy_4 rfl rfl rfl ?_
    refine T_aload_n (pc' := 6) d_Mo_whichBy_5 rfl rfl rfl ?_
    refine T_get (pc' := 9) d_Mo_whichBy_6 rfl g_Mo_29 (by first | assumption | exact e_put_s | simp [e_put, *]) rfl ?_
    refine T_iconst (v := 0) (pc' := 10) d_Mo_whichBy_9 rfl (by decide) ?_
    refine T_ialoadL 0 (pc' := 11) d_Mo_whichBy_10 rfl (by first | assumption | exact e_put_s | simp [e_put, *]) (by decide) ?_
    rw [e5]
    refine T_icmp_ge (pc' := 14) (tgt := 102) d_Mo_whichBy_11 rfl (by decide) (fun hzz => absurd hzz (nI_ge (by omega) (by omega))) (fun _ => ?_)
    refine T_iconst (v := 1) (pc' := 15) d_Mo_whichBy_14 rfl (by decide) ?_
    refine T_is4 (pc' := 17) d_Mo_whichBy_15 rfl (Nat.le_of_ble_eq_true rfl) rfl ?_
    refine T_iconst (v := 0) (pc' := 18) d_Mo_whichBy_17 rfl (by decide) ?_
    refine T_is5 (pc' := 20) d_Mo_whichBy_18 rfl (Nat.le_of_ble_eq_true rfl) rfl ?_
    refine l_wb1 X d h σ p i (sWh σ p i) si hp (by omega) Q (fun h2 mi2 fr2 => ?_) (σ.1 4) 0 (by omega) h1 mi fr
    refine T_iload_n (pc' := 82) d_Mo_whichBy_81 rfl rfl rfl ?_
    refine T_iload (pc' := 84) d_Mo_whichBy_82 rfl rfl ?_
    rw [sWh] at ih
    by_cases hb : sFitB σ p i (σ.1 4) = true
    · rw [hb]
      rw [if_pos hb] at ih
      refine T_if_eq (pc' := 87) (tgt := 93) d_Mo_whichBy_84 rfl (by decide) (fun hzz => absurd hzz (by decide)) (fun _ => ?_)
      refine T_iconst (v := 1) (pc' := 88) d_Mo_whichBy_87 rfl (by decide) ?_
      refine T_iload_n (pc' := 89) d_Mo_whichBy_88 rfl rfl rfl ?_
      refine T_ishl (pc' := 90) d_Mo_whichBy_89 rfl ?_
      refine T_goto (pc' := 94) d_Mo_whichBy_90 (by decide) ?_
      refine T_ior (pc' := 95) d_Mo_whichBy_94 rfl ?_
      refine T_is_n2 (pc' := 96) d_Mo_whichBy_95 rfl rfl (Nat.le_of_ble_eq_true rfl) rfl ?_
      refine T_ii3 (c := 1) (pc' := 99) d_Mo_whichBy_96 rfl (by decide) (Nat.le_of_ble_eq_true rfl) rfl ?_
      rw [nI_1]
      refine T_goto (pc' := 4) d_Mo_whichBy_99 (by decide) ?_
      exact T_fg (by simp [e_le]) (ih h2 mi2 fr2)
    · have hb' : sFitB σ p i (σ.1 4) = false := by simpa using hb
      rw [hb']
      rw [if_neg hb] at ih
      refine T_if_eq (pc' := 87) (tgt := 93) d_Mo_whichBy_84 rfl (by decide) (fun _ => ?_) (fun hzz => absurd (by decide) hzz)
      refine T_iconst (v := 0) (pc' := 94) d_Mo_whichBy_93 rfl (by decide) ?_
      refine T_ior (pc' := 95) d_Mo_whichBy_94 rfl ?_
      refine T_is_n2 (pc' := 96) d_Mo_whichBy_95 rfl rfl (Nat.le_of_ble_eq_true rfl) rfl ?_
      refine T_ii3 (c := 1) (pc' := 99) d_Mo_whichBy_96 rfl (by decide) (Nat.le_of_ble_eq_true rfl) rfl ?_
      rw [nI_1]
      refine T_goto (pc' := 4) d_Mo_whichBy_99 (by decide) ?_
      exact T_fg (by simp [e_le]) (ih h2 mi2 fr2)
theorem c_whichBy (p : Nat) (mi : MI h σ) (si : SI σ) (hp : p < σ.1 1) : Ci X (d + 4) M_Mo_whichBy [.ref 86, .int (nI p)] h (fun v h1 => v = sWh σ p (σ.1 2) ∧ MI h1 σ ∧ Fr 86 109 h h1) := by
  refine C_of_T rfl rfl (Nat.le_of_ble_eq_true rfl) rfl ?_
  refine T_iconst (v := 0) (pc' := 1) d_Mo_whichBy_0 rfl (by decide) ?_
  refine T_is_n2 (pc' := 2) d_Mo_whichBy_1 rfl rfl (Nat.le_of_ble_eq_true rfl) rfl ?_
  refine T_iconst (v := 0) (pc' := 3) d_Mo_whichBy_2 rfl (by decide) ?_
  refine T_is_n3 (pc' := 4) d_Mo_whichBy_3 rfl rfl (Nat.le_of_ble_eq_true rfl) rfl ?_
  exact l_wb X d h σ p si hp _ (fun h1 q1 q2 => ⟨_, rfl, rfl, q1, q2⟩) (σ.1 2) 0 (by omega) h mi Fr.rf
theorem p_Mo_which (p : Int32) (mi : MI h σ) (si : SI σ) : Ci X (d + 20) M_Mo_which [.ref 86, .int p] h (fun v h1 => v = q_which σ p ∧ MI h1 σ ∧ Fr 86 109 h h1) := by
  have hn := si.1.2.1
  obtain ⟨sc, r0, -⟩ := mi.1
  refine C_of_T rfl rfl (Nat.le_of_ble_eq_true rfl) rfl ?_
  refine T_aload_n (pc' := 1) d_Mo_which_0 rfl rfl rfl ?_
  refine T_iload_n (pc' := 2) d_Mo_which_1 rfl rfl rfl ?_
  refine T_V1i (pc' := 5) d_Mo_which_2 rfl l_Mo_152 v_Mo_isOne (by first | assumption | exact e_put_s | simp [e_put, *]) (Nat.le_of_ble_eq_true rfl) (c_Mo_isOne X _ h _ _ _ _ _ _ _ p hn mi.2.2.1) (fun v h1 hq => ?_)
  obtain ⟨rfl, ⟨hp, rfl⟩ | ⟨hp, rfl⟩⟩ := hq
  · refine T_if_eq (pc' := 8) (tgt := 16) d_Mo_which_5 rfl (by decide) (fun hzz => absurd hzz (by decide)) (fun _ => ?_)
    have hok : okP (σ.1 1) p := (isP_iff (by omega) p).mp hp
    obtain ⟨i, hi, rfl⟩ := hp
    refine T_aload_n (pc' := 9) d_Mo_which_8 rfl rfl rfl ?_
    refine T_iload_n (pc' := 10) d_Mo_which_9 rfl rfl rfl ?_
    refine T_V1i (pc' := 13) d_Mo_which_10 rfl l_Mo_198 v_Mo_whichBy (by first | assumption | exact e_put_s | simp [e_put, *]) (Nat.le_of_ble_eq_true rfl) (c_whichBy X _ h1 σ i mi si hi) (fun v h2 hq => ?_)
    obtain ⟨rfl, mi2, fr2⟩ := hq
    refine T_goto (pc' := 17) d_Mo_which_13 (by decide) ?_
    refine T_iret d_Mo_which_17 rfl ?_
    exact ⟨_, rfl, by rw [q_which, if_pos hok, nI_clamp (by omega)], mi2, fr2⟩
  · refine T_if_eq (pc' := 8) (tgt := 16) d_Mo_which_5 rfl (by decide) (fun _ => ?_) (fun hzz => absurd (by decide) hzz)
    refine T_iconst (v := (-1)) (pc' := 17) d_Mo_which_16 rfl (by decide) ?_
    refine T_iret d_Mo_which_17 rfl ?_
    exact ⟨_, rfl, by rw [q_which, if_neg (fun q => hp ((isP_iff (by omega) p).mpr q))], mi, Fr.rf⟩
theorem l_lk1 (p t m : Nat) (set fd ls_ ms : Int32) (si : SI σ) (hp : p < σ.1 1) (ht : t < σ.1 2) (hm9 : m < 100) (Q : Option Value → AH → Prop) (hk : ∀ h1, MI h1 σ → Fr 86 109 h h1 → T X (d + 4) M_Mo_look 125 [.ref 86, .int (nI p), .int set, .int fd, .int ls_, .int (nI m), .int ms, .int (nI t), .int (nI (if sHas set (nI t) then sCnt set (fun t => sHN σ p t m) (sHN σ p t m) (σ.1 2) else 0)), .null] [] h1 Q) : ∀ (k o : Nat), o + k = σ.1 2 → ∀ h1, MI h1 σ → Fr 86 109 h h1 → T X (d + 4) M_Mo_look 59 [.ref 86, .int (nI p), .int set, .int fd, .int ls_, .int (nI m), .int ms, .int (nI t), .int (nI (if sHas set (nI t) then sCnt set (fun t => sHN σ p t m) (sHN σ p t m) o else 0)), .int (nI o)] [] h1 Q
  | 0, o, ho, h1, mi, fr => by
    have : o = σ.1 2 := by omega
    subst this
    have mt := mi.2.2.1
    obtain ⟨⟨sc, tc, h0⟩, -, -, -, -, ⟨f5, h5, e5⟩, -⟩ := mt
    refine T_iload (pc' := 61) d_Mo_look_59 rfl rfl ?_
    refine T_aload_n (pc' := 62) d_Mo_look_61 rfl rfl rfl ?_
    refine T_get (pc' := 65) d_Mo_look_62 rfl g_Mo_29 (by first | assumption | exact e_put_s | simp [e_put, *]) rfl ?_
    refine T_iconst (v := 0) (pc' := 66) d_Mo_look_65 rfl (by decide) ?_
    refine T_ialoadL 0 (pc' := 67) d_Mo_look_66 rfl (by first | assumption | exact e_put_s | simp [e_put, *]) (by decide) ?_
    rw [e5]
    refine T_icmp_ge (pc' := 70) (tgt := 125) d_Mo_look_67 rfl (by decide) (fun _ => ?_) (fun hzz => absurd (Int32.le_refl _) hzz)
    exact T_fg (by simp [e_le]) (hk h1 mi fr)
  | k + 1, o, ho, h1, mi, fr => by
    have ih := l_lk1 p t m set fd ls_ ms si hp ht hm9 Q hk k (o + 1) (by omega)
    have mt := mi.2.2.1
    obtain ⟨⟨sc, tc, h0⟩, -, -, -, -, ⟨f5, h5, e5⟩, -⟩ := mt
    have hm := si.1.2.2.1
    refine T_iload (pc' := 61) d_Mo_look_59 rfl rfl ?_
    refine T_aload_n (pc' := 62) d_Mo_look_61 rfl rfl rfl ?_
    refine T_get (pc' := 65) d_Mo_look_62 rfl g_Mo_29 (by first | assumption | exact e_put_s | simp [e_put, *]) rfl ?_
    refine T_iconst (v := 0) (pc' := 66) d_Mo_look_65 rfl (by decide) ?_
    refine T_ialoadL 0 (pc' := 67) d_Mo_look_66 rfl (by first | assumption | exact e_put_s | simp [e_put, *]) (by decide) ?_
    rw [e5]
    refine T_icmp_ge (pc' := 70) (tgt := 125) d_Mo_look_67 rfl (by decide) (fun hzz => absurd hzz (nI_ge (by omega) (by omega))) (fun _ => ?_)
    refine T_iload (pc' := 72) d_Mo_look_70 rfl rfl ?_
    refine T_iload_n (pc' := 73) d_Mo_look_72 rfl rfl rfl ?_
    refine T_iload (pc' := 75) d_Mo_look_73 rfl rfl ?_
    refine T_S2i (pc' := 78) d_Mo_look_75 rfl l_Mo_140 v_Mo_has (Nat.le_of_ble_eq_true rfl) (c_Mo_has X _ _ set (nI t)) (fun v h2 hq => ?_)
    obtain ⟨rfl, ⟨hst, rfl⟩ | ⟨hst, rfl⟩⟩ := hq
    · rw [if_pos hst] at ih ⊢
      rw [sCnt] at ih
      refine T_if_eq (pc' := 81) (tgt := 115) d_Mo_look_78 rfl (by decide) (fun hzz => absurd hzz (by decide)) (fun _ => ?_)
      refine T_iload_n (pc' := 82) d_Mo_look_81 rfl rfl rfl ?_
      refine T_iload (pc' := 84) d_Mo_look_82 rfl rfl ?_
      refine T_S2i (pc' := 87) d_Mo_look_84 rfl l_Mo_140 v_Mo_has (Nat.le_of_ble_eq_true rfl) (c_Mo_has X _ _ set (nI o)) (fun v h3 hq => ?_)
      obtain ⟨rfl, ⟨hso, rfl⟩ | ⟨hso, rfl⟩⟩ := hq
      · refine T_if_eq (pc' := 90) (tgt := 115) d_Mo_look_87 rfl (by decide) (fun hzz => absurd hzz (by decide)) (fun _ => ?_)
        refine T_aload_n (pc' := 91) d_Mo_look_90 rfl rfl rfl ?_
        refine T_iload_n (pc' := 92) d_Mo_look_91 rfl rfl rfl ?_
        refine T_iload (pc' := 94) d_Mo_look_92 rfl rfl ?_
        refine T_iload (pc' := 96) d_Mo_look_94 rfl rfl ?_
        refine T_V3i (pc' := 99) d_Mo_look_96 rfl l_Mo_194 v_Mo_heightBy (by first | assumption | exact e_put_s | simp [e_put, *]) (Nat.le_of_ble_eq_true rfl) (c_heightBy X _ h3 σ p o m mi si hp (by omega) (by omega)) (fun v h4 hq => ?_)
        obtain ⟨rfl, mi4, fr4⟩ := hq
        obtain ⟨sc4, z0, -⟩ := mi4.1
        refine T_aload_n (pc' := 100) d_Mo_look_99 rfl rfl rfl ?_
        refine T_iload_n (pc' := 101) d_Mo_look_100 rfl rfl rfl ?_
        refine T_iload (pc' := 103) d_Mo_look_101 rfl rfl ?_
        refine T_iload (pc' := 105) d_Mo_look_103 rfl rfl ?_
        refine T_V3i (pc' := 108) d_Mo_look_105 rfl l_Mo_194 v_Mo_heightBy (by first | assumption | exact e_put_s | simp [e_put, *]) (Nat.le_of_ble_eq_true rfl) (c_heightBy X _ h4 σ p t m mi4 si hp ht (by omega)) (fun v h5 hq => ?_)
        obtain ⟨rfl, mi5, fr5⟩ := hq
        obtain ⟨b1, e1⟩ := sHL_in si hp (show o < σ.1 2 by omega) m
        obtain ⟨b2, e2⟩ := sHL_in si hp ht m
        rw [e1, e2]
        by_cases he : sHN σ p o m = sHN σ p t m
        · refine T_icmp_ne (pc' := 111) (tgt := 115) d_Mo_look_108 rfl (by decide) (fun hzz => absurd (by rw [he]) hzz) (fun _ => ?_)
          rw [if_pos ⟨hso, he⟩] at ih
          refine T_iconst (v := 1) (pc' := 112) d_Mo_look_111 rfl (by decide) ?_
          refine T_goto (pc' := 116) d_Mo_look_112 (by decide) ?_
          refine T_iadd (pc' := 117) d_Mo_look_116 rfl ?_
          refine T_is8 (pc' := 119) d_Mo_look_117 rfl (Nat.le_of_ble_eq_true rfl) rfl ?_
          rw [nI_1]
          refine T_ii9 (c := 1) (pc' := 122) d_Mo_look_119 rfl (by decide) (Nat.le_of_ble_eq_true rfl) rfl ?_
          rw [nI_1]
          refine T_goto (pc' := 59) d_Mo_look_122 (by decide) ?_
          exact ih h5 mi5 ((fr.tr fr4).tr fr5)
        · refine T_icmp_ne (pc' := 111) (tgt := 115) d_Mo_look_108 rfl (by decide) (fun _ => ?_) (fun hzz => absurd hzz (fun q => he ((nI_eq (by omega) (by omega)).mp q)))
          rw [if_neg (fun q => he q.2)] at ih
          refine T_iconst (v := 0) (pc' := 116) d_Mo_look_115 rfl (by decide) ?_
          refine T_iadd (pc' := 117) d_Mo_look_116 rfl ?_
          refine T_is8 (pc' := 119) d_Mo_look_117 rfl (Nat.le_of_ble_eq_true rfl) rfl ?_
          rw [show ∀ x : Nat, nI x + 0 = nI (x + 0) from fun x => nI_add x 0]
          refine T_ii9 (c := 1) (pc' := 122) d_Mo_look_119 rfl (by decide) (Nat.le_of_ble_eq_true rfl) rfl ?_
          rw [nI_1]
          refine T_goto (pc' := 59) d_Mo_look_122 (by decide) ?_
          exact ih h5 mi5 ((fr.tr fr4).tr fr5)
      · refine T_if_eq (pc' := 90) (tgt := 115) d_Mo_look_87 rfl (by decide) (fun _ => ?_) (fun hzz => absurd (by decide) hzz)
        rw [if_neg (fun q => hso q.1)] at ih
        refine T_iconst (v := 0) (pc' := 116) d_Mo_look_115 rfl (by decide) ?_
        refine T_iadd (pc' := 117) d_Mo_look_116 rfl ?_
        refine T_is8 (pc' := 119) d_Mo_look_117 rfl (Nat.le_of_ble_eq_true rfl) rfl ?_
        rw [show ∀ x : Nat, nI x + 0 = nI (x + 0) from fun x => nI_add x 0]
        refine T_ii9 (c := 1) (pc' := 122) d_Mo_look_119 rfl (by decide) (Nat.le_of_ble_eq_true rfl) rfl ?_
        rw [nI_1]
        refine T_goto (pc' := 59) d_Mo_look_122 (by decide) ?_
        exact ih h3 mi fr
    · rw [if_neg hst] at ih ⊢
      refine T_if_eq (pc' := 81) (tgt := 115) d_Mo_look_78 rfl (by decide) (fun _ => ?_) (fun hzz => absurd (by decide) hzz)
      refine T_iconst (v := 0) (pc' := 116) d_Mo_look_115 rfl (by decide) ?_
      refine T_iadd (pc' := 117) d_Mo_look_116 rfl ?_
      refine T_is8 (pc' := 119) d_Mo_look_117 rfl (Nat.le_of_ble_eq_true rfl) rfl ?_
      rw [show ∀ x : Nat, nI x + 0 = nI (x + 0) from fun x => nI_add x 0]
      refine T_ii9 (c := 1) (pc' := 122) d_Mo_look_119 rfl (by decide) (Nat.le_of_ble_eq_true rfl) rfl ?_
      rw [nI_1]
      refine T_goto (pc' := 59) d_Mo_look_122 (by decide) ?_
      exact ih h2 mi fr
theorem l_lk2 (p m : Nat) (set fd ls_ : Int32) (si : SI σ) (hp : p < σ.1 1) (hm9 : m < 100) (Q : Option Value → AH → Prop) (hk : ∀ h1, MI h1 σ → Fr 86 109 h h1 → T X (d + 4) M_Mo_look 147 [.ref 86, .int (nI p), .int set, .int fd, .int ls_, .int (nI m), .int (nI (sMs set (fun t => sHN σ p t m) (σ.1 2) (σ.1 2))), .null, .null, .null] [] h1 Q) : ∀ (k t : Nat), t + k = σ.1 2 → ∀ h1, MI h1 σ → Fr 86 109 h h1 → T X (d + 4) M_Mo_look 42 [.ref 86, .int (nI p), .int set, .int fd, .int ls_, .int (nI m), .int (nI (sMs set (fun t => sHN σ p t m) (σ.1 2) t)), .int (nI t), .null, .null] [] h1 Q
  | 0, t, ht, h1, mi, fr => by
    have : t = σ.1 2 := by omega
    subst this
    have mt := mi.2.2.1
    obtain ⟨⟨sc, tc, h0⟩, -, -, -, -, ⟨f5, h5, e5⟩, -⟩ := mt
    refine T_iload (pc' := 44) d_Mo_look_42 rfl rfl ?_
    refine T_aload_n (pc' := 45) d_Mo_look_44 rfl rfl rfl ?_
    refine T_get (pc' := 48) d_Mo_look_45 rfl g_Mo_29 (by first | assumption | exact e_put_s | simp [e_put, *]) rfl ?_
    refine T_iconst (v := 0) (pc' := 49) d_Mo_look_48 rfl (by decide) ?_
    refine T_ialoadL 0 (pc' := 50) d_Mo_look_49 rfl (by first | assumption | exact e_put_s | simp [e_put, *]) (by decide) ?_
    rw [e5]
    refine T_icmp_ge (pc' := 53) (tgt := 147) d_Mo_look_50 rfl (by decide) (fun _ => ?_) (fun hzz => absurd (Int32.le_refl _) hzz)
    exact T_fg (by simp [e_le]) (hk h1 mi fr)
  | k + 1, t, ht, h1, mi, fr => by
    have ih := l_lk2 p m set fd ls_ si hp hm9 Q hk k (t + 1) (by omega)
    have mt := mi.2.2.1
    obtain ⟨⟨sc, tc, h0⟩, -, -, -, -, ⟨f5, h5, e5⟩, -⟩ := mt
    have hm := si.1.2.2.1
    refine T_iload (pc' := 44) d_Mo_look_42 rfl rfl ?_
    refine T_aload_n (pc' := 45) d_Mo_look_44 rfl rfl rfl ?_
    refine T_get (pc' := 48) d_Mo_look_45 rfl g_Mo_29 (by first | assumption | exact e_put_s | simp [e_put, *]) rfl ?_
    refine T_iconst (v := 0) (pc' := 49) d_Mo_look_48 rfl (by decide) ?_
    refine T_ialoadL 0 (pc' := 50) d_Mo_look_49 rfl (by first | assumption | exact e_put_s | simp [e_put, *]) (by decide) ?_
    rw [e5]
    refine T_icmp_ge (pc' := 53) (tgt := 147) d_Mo_look_50 rfl (by decide) (fun hzz => absurd hzz (nI_ge (by omega) (by omega))) (fun _ => ?_)
    refine T_iconst (v := 0) (pc' := 54) d_Mo_look_53 rfl (by decide) ?_
    refine T_is8 (pc' := 56) d_Mo_look_54 rfl (Nat.le_of_ble_eq_true rfl) rfl ?_
    refine T_iconst (v := 0) (pc' := 57) d_Mo_look_56 rfl (by decide) ?_
    refine T_is9 (pc' := 59) d_Mo_look_57 rfl (Nat.le_of_ble_eq_true rfl) rfl ?_
    have es : (0 : Int32) = nI (if sHas set (nI t) then sCnt set (fun t => sHN σ p t m) (sHN σ p t m) 0 else 0) := by
      split <;> rfl
    refine T_fg (ls' := [.ref 86, .int (nI p), .int set, .int fd, .int ls_, .int (nI m), .int (nI (sMs set (fun t => sHN σ p t m) (σ.1 2) t)), .int (nI t), .int (nI (if sHas set (nI t) then sCnt set (fun t => sHN σ p t m) (sHN σ p t m) 0 else 0)), .int (nI 0)]) (by rw [← es]; simp [e_le]; rfl) ?_
    refine l_lk1 X d h σ p t m set fd ls_ _ si hp (by omega) hm9 Q (fun h2 mi2 fr2 => ?_) (σ.1 2) 0 (by omega) h1 mi fr
    rw [sMs] at ih
    have b1 := sMs_bd set (fun t => sHN σ p t m) (σ.1 2) t
    have b2 : (if sHas set (nI t) then sCnt set (fun t => sHN σ p t m) (sHN σ p t m) (σ.1 2) else 0) ≤ σ.1 2 := by
      split
      · exact sCnt_le _ _ _ _
      · omega
    generalize (if sHas set (nI t) then sCnt set (fun t => sHN σ p t m) (sHN σ p t m) (σ.1 2) else 0) = c at ih b2
    generalize sMs set (fun t => sHN σ p t m) (σ.1 2) t = e at ih b1
    refine T_iload (pc' := 127) d_Mo_look_125 rfl rfl ?_
    refine T_iload (pc' := 129) d_Mo_look_127 rfl rfl ?_
    by_cases hlt : e < c
    · refine T_icmp_le (pc' := 132) (tgt := 137) d_Mo_look_129 rfl (by decide) (fun hzz => absurd hzz (nI_ge hlt (by omega))) (fun _ => ?_)
      refine T_iload (pc' := 134) d_Mo_look_132 rfl rfl ?_
      refine T_goto (pc' := 139) d_Mo_look_134 (by decide) ?_
      refine T_is6 (pc' := 141) d_Mo_look_139 rfl (Nat.le_of_ble_eq_true rfl) rfl ?_
      refine T_ii7 (c := 1) (pc' := 144) d_Mo_look_141 rfl (by decide) (Nat.le_of_ble_eq_true rfl) rfl ?_
      rw [nI_1]
      refine T_goto (pc' := 42) d_Mo_look_144 (by decide) ?_
      rw [Nat.max_eq_right (by omega)] at ih
      exact T_fg (by simp [e_le]) (ih h2 mi2 fr2)
    · refine T_icmp_le (pc' := 132) (tgt := 137) d_Mo_look_129 rfl (by decide) (fun _ => ?_) (fun hzz => absurd (nI_le (by omega) (by omega)) hzz)
      refine T_iload (pc' := 139) d_Mo_look_137 rfl rfl ?_
      refine T_is6 (pc' := 141) d_Mo_look_139 rfl (Nat.le_of_ble_eq_true rfl) rfl ?_
      refine T_ii7 (c := 1) (pc' := 144) d_Mo_look_141 rfl (by decide) (Nat.le_of_ble_eq_true rfl) rfl ?_
      rw [nI_1]
      refine T_goto (pc' := 42) d_Mo_look_144 (by decide) ?_
      rw [Nat.max_eq_left (by omega)] at ih
      exact T_fg (by simp [e_le]) (ih h2 mi2 fr2)
theorem l_lk (p : Nat) (si : SI σ) (hp : p < σ.1 1) (hz : ¬ sWh σ p (σ.1 2) = 0) (Q : Option Value → AH → Prop) (hQ : ∀ h1, MI h1 σ → Fr 86 109 h h1 → Q (some (.int (nI (sLk (sAl σ p) 8).1))) h1) : ∀ (k i : Nat), i + k = 8 → ∀ h1, MI h1 σ → Fr 86 109 h h1 → T X (d + 4) M_Mo_look 25 [.ref 86, .int (nI p), .int (sWh σ p (σ.1 2)), .int (nI (sLk (sAl σ p) i).1), .int (nI (sLk (sAl σ p) i).2), .int (nI (i + 2)), .null, .null, .null, .null] [] h1 Q
  | 0, i, hi, h1, mi, fr => by
    have : i = 8 := by omega
    subst this
    refine T_iload (pc' := 27) d_Mo_look_25 rfl rfl ?_
    refine T_bipush (v := 9) (pc' := 29) d_Mo_look_27 rfl (by decide) ?_
    refine T_icmp_gt (pc' := 32) (tgt := 173) d_Mo_look_29 rfl (by decide) (fun _ => ?_) (fun hzz => absurd (by decide) hzz)
    refine T_iload_n (pc' := 174) d_Mo_look_173 rfl rfl rfl ?_
    refine T_iret d_Mo_look_174 rfl ?_
    exact hQ h1 mi fr
  | k + 1, i, hi, h1, mi, fr => by
    have ih := l_lk p si hp hz Q hQ k (i + 1) (by omega)
    have b1 := sAl_bd si p (i + 2)
    have b2 := sLk_bd (sAl σ p) (sAl_bd si p) i
    refine T_iload (pc' := 27) d_Mo_look_25 rfl rfl ?_
    refine T_bipush (v := 9) (pc' := 29) d_Mo_look_27 rfl (by decide) ?_
    refine T_icmp_gt (pc' := 32) (tgt := 173) d_Mo_look_29 rfl (by decide) (fun hzz => absurd hzz (nI_nlt (a := 9) (b := i + 2) (by omega) (by decide))) (fun _ => ?_)
    refine T_iload_n (pc' := 33) d_Mo_look_32 rfl rfl rfl ?_
    refine T_if_eq (pc' := 36) (tgt := 173) d_Mo_look_33 rfl (by decide) (fun hzz => absurd hzz hz) (fun _ => ?_)
    refine T_iconst (v := 0) (pc' := 37) d_Mo_look_36 rfl (by decide) ?_
    refine T_is6 (pc' := 39) d_Mo_look_37 rfl (Nat.le_of_ble_eq_true rfl) rfl ?_
    refine T_iconst (v := 0) (pc' := 40) d_Mo_look_39 rfl (by decide) ?_
    refine T_is7 (pc' := 42) d_Mo_look_40 rfl (Nat.le_of_ble_eq_true rfl) rfl ?_
    refine T_fg (ls' := [.ref 86, .int (nI p), .int (sWh σ p (σ.1 2)), .int (nI (sLk (sAl σ p) i).1), .int (nI (sLk (sAl σ p) i).2), .int (nI (i + 2)), .int (nI (sMs (sWh σ p (σ.1 2)) (fun t => sHN σ p t (i + 2)) (σ.1 2) 0)), .int (nI 0), .null, .null]) (by simp [e_le, sMs]; rfl) ?_
    refine l_lk2 X d h σ p (i + 2) _ _ _ si hp (by omega) Q (fun h2 mi2 fr2 => ?_) (σ.1 2) 0 (by omega) h1 mi fr
    rw [← sGr_ms]
    have eA : sGr (sWh σ p (σ.1 2)) (fun t => sHN σ p t (i + 2)) (σ.1 2) = sAl σ p (i + 2) := rfl
    rw [eA]
    refine T_iload_n (pc' := 148) d_Mo_look_147 rfl rfl rfl ?_
    refine T_bipush (v := (-9)) (pc' := 150) d_Mo_look_148 rfl (by decide) ?_
    have hne9 : ¬ nI (sLk (sAl σ p) i).1 = -9 := fun q => by
      have h1 := congrArg Int32.toInt q
      rw [nI_toInt (by omega), show (-9 : Int32).toInt = -9 by decide] at h1
      omega
    refine T_icmp_eq (pc' := 153) (tgt := 160) d_Mo_look_150 rfl (by decide) (fun hzz => absurd hzz hne9) (fun _ => ?_)
    refine T_iload (pc' := 155) d_Mo_look_153 rfl rfl ?_
    refine T_iload (pc' := 157) d_Mo_look_155 rfl rfl ?_
    by_cases hlt : sAl σ p (i + 2) < (sLk (sAl σ p) i).2
    · refine T_icmp_ge (pc' := 160) (tgt := 167) d_Mo_look_157 rfl (by decide) (fun hzz => absurd hzz (nI_ge hlt (by omega))) (fun _ => ?_)
      refine T_iload (pc' := 162) d_Mo_look_160 rfl rfl ?_
      refine T_is_n3 (pc' := 163) d_Mo_look_162 rfl rfl (Nat.le_of_ble_eq_true rfl) rfl ?_
      refine T_iload (pc' := 165) d_Mo_look_163 rfl rfl ?_
      refine T_is4 (pc' := 167) d_Mo_look_165 rfl (Nat.le_of_ble_eq_true rfl) rfl ?_
      refine T_ii5 (c := 1) (pc' := 170) d_Mo_look_167 rfl (by decide) (Nat.le_of_ble_eq_true rfl) rfl ?_
      rw [nI_1]
      refine T_goto (pc' := 25) d_Mo_look_170 (by decide) ?_
      rw [sLk, if_pos hlt] at ih
      exact T_fg (by simp [e_le]) (ih h2 mi2 fr2)
    · refine T_icmp_ge (pc' := 160) (tgt := 167) d_Mo_look_157 rfl (by decide) (fun _ => ?_) (fun hzz => absurd (nI_le (by omega) (by omega)) hzz)
      refine T_ii5 (c := 1) (pc' := 170) d_Mo_look_167 rfl (by decide) (Nat.le_of_ble_eq_true rfl) rfl ?_
      rw [nI_1]
      refine T_goto (pc' := 25) d_Mo_look_170 (by decide) ?_
      rw [sLk, if_neg hlt] at ih
      exact T_fg (by simp [e_le]) (ih h2 mi2 fr2)
theorem p_Mo_look (p : Int32) (mi : MI h σ) (si : SI σ) : Ci X (d + 20) M_Mo_look [.ref 86, .int p] h (fun v h1 => v = q_look σ p ∧ MI h1 σ ∧ Fr 86 109 h h1) := by
  have hn := si.1.2.1
  obtain ⟨sc, r0, -⟩ := mi.1
  refine C_of_T rfl rfl (Nat.le_of_ble_eq_true rfl) rfl ?_
  refine T_aload_n (pc' := 1) d_Mo_look_0 rfl rfl rfl ?_
  refine T_iload_n (pc' := 2) d_Mo_look_1 rfl rfl rfl ?_
  refine T_V1i (pc' := 5) d_Mo_look_2 rfl l_Mo_152 v_Mo_isOne (by first | assumption | exact e_put_s | simp [e_put, *]) (Nat.le_of_ble_eq_true rfl) (c_Mo_isOne X _ h _ _ _ _ _ _ _ p hn mi.2.2.1) (fun v h1 hq => ?_)
  obtain ⟨rfl, ⟨hp, rfl⟩ | ⟨hp, rfl⟩⟩ := hq
  · refine T_if_ne (pc' := 8) (tgt := 10) d_Mo_look_5 rfl (by decide) (fun _ => ?_) (fun hzz => absurd hzz (by decide))
    have hok : okP (σ.1 1) p := (isP_iff (by omega) p).mp hp
    obtain ⟨i, hi, rfl⟩ := hp
    rw [q_look]
    simp only [nI_clamp (show i < 2 ^ 31 by omega)]
    refine T_aload_n (pc' := 11) d_Mo_look_10 rfl rfl rfl ?_
    refine T_iload_n (pc' := 12) d_Mo_look_11 rfl rfl rfl ?_
    refine T_V1i (pc' := 15) d_Mo_look_12 rfl l_Mo_198 v_Mo_whichBy (by first | assumption | exact e_put_s | simp [e_put, *]) (Nat.le_of_ble_eq_true rfl) (c_whichBy X _ h1 σ i mi si hi) (fun v h2 hq => ?_)
    obtain ⟨rfl, mi2, fr2⟩ := hq
    refine T_is_n2 (pc' := 16) d_Mo_look_15 rfl rfl (Nat.le_of_ble_eq_true rfl) rfl ?_
    refine T_bipush (v := (-9)) (pc' := 18) d_Mo_look_16 rfl (by decide) ?_
    refine T_is_n3 (pc' := 19) d_Mo_look_18 rfl rfl (Nat.le_of_ble_eq_true rfl) rfl ?_
    refine T_iconst (v := 0) (pc' := 20) d_Mo_look_19 rfl (by decide) ?_
    refine T_is4 (pc' := 22) d_Mo_look_20 rfl (Nat.le_of_ble_eq_true rfl) rfl ?_
    refine T_iconst (v := 1) (pc' := 23) d_Mo_look_22 rfl (by decide) ?_
    refine T_is5 (pc' := 25) d_Mo_look_23 rfl (Nat.le_of_ble_eq_true rfl) rfl ?_
    refine T_iload (pc' := 27) d_Mo_look_25 rfl rfl ?_
    refine T_bipush (v := 9) (pc' := 29) d_Mo_look_27 rfl (by decide) ?_
    refine T_icmp_gt (pc' := 32) (tgt := 173) d_Mo_look_29 rfl (by decide) (fun hzz => absurd hzz (by decide)) (fun _ => ?_)
    refine T_iload_n (pc' := 33) d_Mo_look_32 rfl rfl rfl ?_
    by_cases hz : sWh σ i (σ.1 2) = 0
    · refine T_if_eq (pc' := 36) (tgt := 173) d_Mo_look_33 rfl (by decide) (fun _ => ?_) (fun hzz => absurd hz hzz)
      refine T_iload_n (pc' := 174) d_Mo_look_173 rfl rfl rfl ?_
      refine T_iret d_Mo_look_174 rfl ?_
      exact ⟨_, rfl, by rw [if_pos hok, if_pos hz], mi2, fr2⟩
    · refine T_if_eq (pc' := 36) (tgt := 173) d_Mo_look_33 rfl (by decide) (fun hzz => absurd hzz hz) (fun _ => ?_)
      refine T_iconst (v := 0) (pc' := 37) d_Mo_look_36 rfl (by decide) ?_
      refine T_is6 (pc' := 39) d_Mo_look_37 rfl (Nat.le_of_ble_eq_true rfl) rfl ?_
      refine T_iconst (v := 0) (pc' := 40) d_Mo_look_39 rfl (by decide) ?_
      refine T_is7 (pc' := 42) d_Mo_look_40 rfl (Nat.le_of_ble_eq_true rfl) rfl ?_
      refine T_fg (ls' := [.ref 86, .int (nI i), .int (sWh σ i (σ.1 2)), .int (-9), .int 0, .int (nI 1), .int (nI (sMs (sWh σ i (σ.1 2)) (fun t => sHN σ i t 1) (σ.1 2) 0)), .int (nI 0), .null, .null]) (by simp [e_le, sMs]; exact ⟨rfl, rfl⟩) ?_
      refine l_lk2 X _ h1 σ i 1 _ _ _ si hi (by omega) _ (fun h3 mi3 fr3 => ?_) (σ.1 2) 0 (by omega) h2 mi2 fr2
      rw [← sGr_ms]
      have eA : sGr (sWh σ i (σ.1 2)) (fun t => sHN σ i t 1) (σ.1 2) = sAl σ i 1 := rfl
      rw [eA]
      refine T_iload_n (pc' := 148) d_Mo_look_147 rfl rfl rfl ?_
      refine T_bipush (v := (-9)) (pc' := 150) d_Mo_look_148 rfl (by decide) ?_
      refine T_icmp_eq (pc' := 153) (tgt := 160) d_Mo_look_150 rfl (by decide) (fun _ => ?_) (fun hzz => absurd (by decide) hzz)
      refine T_iload (pc' := 162) d_Mo_look_160 rfl rfl ?_
      refine T_is_n3 (pc' := 163) d_Mo_look_162 rfl rfl (Nat.le_of_ble_eq_true rfl) rfl ?_
      refine T_iload (pc' := 165) d_Mo_look_163 rfl rfl ?_
      refine T_is4 (pc' := 167) d_Mo_look_165 rfl (Nat.le_of_ble_eq_true rfl) rfl ?_
      refine T_ii5 (c := 1) (pc' := 170) d_Mo_look_167 rfl (by decide) (Nat.le_of_ble_eq_true rfl) rfl ?_
      rw [nI_1]
      refine T_goto (pc' := 25) d_Mo_look_170 (by decide) ?_
      refine T_fg (ls' := [.ref 86, .int (nI i), .int (sWh σ i (σ.1 2)), .int (nI (sLk (sAl σ i) 0).1), .int (nI (sLk (sAl σ i) 0).2), .int (nI (0 + 2)), .null, .null, .null, .null]) (by simp [e_le, sLk]) ?_
      exact l_lk X _ h1 σ i si hi hz _ (fun h4 q1 q2 => ⟨_, rfl, by rw [if_pos hok, if_neg hz], q1, q2⟩) 8 0 rfl h3 mi3 fr3
  · refine T_if_ne (pc' := 8) (tgt := 10) d_Mo_look_5 rfl (by decide) (fun hzz => absurd (by decide) hzz) (fun _ => ?_)
    refine T_iconst (v := (-1)) (pc' := 9) d_Mo_look_8 rfl (by decide) ?_
    refine T_iret d_Mo_look_9 rfl ?_
    exact ⟨_, rfl, by rw [q_look, if_neg (fun q => hp ((isP_iff (by omega) p).mpr q))], mi, Fr.rf⟩
theorem l_mlaw1 (w nn ff : Int32) (l f : Nat) (mi : MI h σ) (si : SI σ) (Q : Option Value → AH → Prop) (hk : T X d M_Mo_laws 104 [.ref 86, .int w, .int nn, .int ff, .int (nI l), .int (nI f), .int (bi (sLawB σ l f (σ.1 5))), .null, .null] [] h Q) : ∀ (k i : Nat), i + k = σ.1 5 → T X d M_Mo_laws 41 [.ref 86, .int w, .int nn, .int ff, .int (nI l), .int (nI f), .int (bi (sLawB σ l f i)), .int (nI i), .null] [] h Q
  | 0, i, hi => by
    have : i = σ.1 5 := by omega
    subst this
    obtain ⟨sc, r0, q0, q8, q9⟩ := mi.1
    refine T_iload (pc' := 43) d_Mo_laws_41 rfl rfl ?_
    refine T_aload_n (pc' := 44) d_Mo_laws_43 rfl rfl rfl ?_
    refine T_get (pc' := 47) d_Mo_laws_44 rfl g_Mo_137 (by first | assumption | exact e_put_s | simp [e_put, *]) rfl ?_
    rw [q9]
    refine T_icmp_ge (pc' := 50) (tgt := 104) d_Mo_laws_47 rfl (by decide) (fun _ => ?_) (fun hzz => absurd (Int32.le_refl _) hzz)
    exact T_fg (by simp [e_le]) hk
  | k + 1, i, hi => by
    have ih := l_mlaw1 w nn ff l f mi si Q hk k (i + 1) (by omega)
    obtain ⟨⟨sc, r0, q0, q8, q9⟩, -, -, -, -, -, -, -, -, -, -, -, -, -, -, ⟨f15, r15, q15⟩, ⟨f16, r16, q16⟩⟩ := mi
    have h6 := si.1.2.2.2.2.2.1
    refine T_iload (pc' := 43) d_Mo_laws_41 rfl rfl ?_
    refine T_aload_n (pc' := 44) d_Mo_laws_43 rfl rfl rfl ?_
    refine T_get (pc' := 47) d_Mo_laws_44 rfl g_Mo_137 (by first | assumption | exact e_put_s | simp [e_put, *]) rfl ?_
    rw [q9]
    refine T_icmp_ge (pc' := 50) (tgt := 104) d_Mo_laws_47 rfl (by decide) (fun hzz => absurd hzz (nI_ge (by omega) (by omega))) (fun _ => ?_)
    refine T_iload (pc' := 52) d_Mo_laws_50 rfl rfl ?_
    refine T_aload_n (pc' := 53) d_Mo_laws_52 rfl rfl rfl ?_
    refine T_get (pc' := 56) d_Mo_laws_53 rfl g_Mo_72 (by first | assumption | exact e_put_s | simp [e_put, *]) rfl ?_
    refine T_iload (pc' := 58) d_Mo_laws_56 rfl rfl ?_
    refine T_ialoadN i (pc' := 59) d_Mo_laws_58 rfl r15 ⟨by omega, by decide⟩ ?_
    rw [q15 i (by omega)]
    refine T_iload (pc' := 61) d_Mo_laws_59 rfl rfl ?_
    refine T_imul (pc' := 62) d_Mo_laws_61 rfl ?_
    refine T_isub (pc' := 63) d_Mo_laws_62 rfl ?_
    refine T_is8 (pc' := 65) d_Mo_laws_63 rfl (Nat.le_of_ble_eq_true rfl) rfl ?_
    refine T_iload (pc' := 67) d_Mo_laws_65 rfl rfl ?_
    rw [sLawB] at ih
    by_cases hb : sLawB σ l f i = true
    · rw [hb] at ih ⊢
      rw [Bool.true_and] at ih
      refine T_if_eq (pc' := 70) (tgt := 95) d_Mo_laws_67 rfl (by decide) (fun hzz => absurd hzz (by decide)) (fun _ => ?_)
      refine T_iload (pc' := 72) d_Mo_laws_70 rfl rfl ?_
      have fin : ∀ x : Int32, x = sPos (nI l - σ.2.1 10 i * nI f) → T X d M_Mo_laws 81 [.ref 86, .int w, .int nn, .int ff, .int (nI l), .int (nI f), .int (bi true), .int (nI i), .int (nI l - σ.2.1 10 i * nI f)] [.int x] h Q := by
        intro x hx
        refine T_aload_n (pc' := 82) d_Mo_laws_81 rfl rfl rfl ?_
        refine T_get (pc' := 85) d_Mo_laws_82 rfl g_Mo_75 (by first | assumption | exact e_put_s | simp [e_put, *]) rfl ?_
        refine T_iload (pc' := 87) d_Mo_laws_85 rfl rfl ?_
        refine T_ialoadN i (pc' := 88) d_Mo_laws_87 rfl r16 ⟨by omega, by decide⟩ ?_
        rw [q16 i (by omega), hx]
        by_cases he : sLaw1 σ l f i
        · refine T_icmp_ne (pc' := 91) (tgt := 95) d_Mo_laws_88 rfl (by decide) (fun hzz => absurd he hzz) (fun _ => ?_)
          rw [show decide (sLaw1 σ l f i) = true from decide_eq_true he] at ih
          refine T_iconst (v := 1) (pc' := 92) d_Mo_laws_91 rfl (by decide) ?_
          refine T_goto (pc' := 96) d_Mo_laws_92 (by decide) ?_
          refine T_is6 (pc' := 98) d_Mo_laws_96 rfl (Nat.le_of_ble_eq_true rfl) rfl ?_
          refine T_ii7 (c := 1) (pc' := 101) d_Mo_laws_98 rfl (by decide) (Nat.le_of_ble_eq_true rfl) rfl ?_
          rw [nI_1]
          refine T_goto (pc' := 41) d_Mo_laws_101 (by decide) ?_
          exact T_fg (by simp [e_le, bi]) ih
        · refine T_icmp_ne (pc' := 91) (tgt := 95) d_Mo_laws_88 rfl (by decide) (fun _ => ?_) (fun hzz => absurd hzz he)
          rw [show decide (sLaw1 σ l f i) = false from decide_eq_false he] at ih
          refine T_iconst (v := 0) (pc' := 96) d_Mo_laws_95 rfl (by decide) ?_
          refine T_is6 (pc' := 98) d_Mo_laws_96 rfl (Nat.le_of_ble_eq_true rfl) rfl ?_
          refine T_ii7 (c := 1) (pc' := 101) d_Mo_laws_98 rfl (by decide) (Nat.le_of_ble_eq_true rfl) rfl ?_
          rw [nI_1]
          refine T_goto (pc' := 41) d_Mo_laws_101 (by decide) ?_
          exact T_fg (by simp [e_le, bi]) ih
      by_cases hneg : nI l - σ.2.1 10 i * nI f < 0
      · refine T_if_ge (pc' := 75) (tgt := 79) d_Mo_laws_72 rfl (by decide) (fun hzz => absurd hzz (Int32.not_le.mpr hneg)) (fun _ => ?_)
        refine T_iconst (v := 0) (pc' := 76) d_Mo_laws_75 rfl (by decide) ?_
        refine T_goto (pc' := 81) d_Mo_laws_76 (by decide) ?_
        exact fin _ (by rw [sPos, if_pos hneg])
      · refine T_if_ge (pc' := 75) (tgt := 79) d_Mo_laws_72 rfl (by decide) (fun _ => ?_) (fun hzz => absurd (Int32.not_lt.mp hneg) hzz)
        refine T_iload (pc' := 81) d_Mo_laws_79 rfl rfl ?_
        exact fin _ (by rw [sPos, if_neg hneg])
    · have hb' : sLawB σ l f i = false := by simpa using hb
      rw [hb'] at ih ⊢
      rw [Bool.false_and] at ih
      refine T_if_eq (pc' := 70) (tgt := 95) d_Mo_laws_67 rfl (by decide) (fun _ => ?_) (fun hzz => absurd (by decide) hzz)
      refine T_iconst (v := 0) (pc' := 96) d_Mo_laws_95 rfl (by decide) ?_
      refine T_is6 (pc' := 98) d_Mo_laws_96 rfl (Nat.le_of_ble_eq_true rfl) rfl ?_
      refine T_ii7 (c := 1) (pc' := 101) d_Mo_laws_98 rfl (by decide) (Nat.le_of_ble_eq_true rfl) rfl ?_
      rw [nI_1]
      refine T_goto (pc' := 41) d_Mo_laws_101 (by decide) ?_
      exact T_fg (by simp [e_le, bi]) ih
theorem l_mlaws1 (w : Int32) (l : Nat) (hl : l ≤ 29) (mi : MI h σ) (si : SI σ) (Q : Option Value → AH → Prop) (hk : T X d M_Mo_laws 145 [.ref 86, .int w, .int (nI (sLo σ (l + 1)).1), .int (sLo σ (l + 1)).2, .int (nI (l + 1)), .null, .null, .null, .null] [] h Q) : ∀ (k f : Nat), f + k = 6 → T X d M_Mo_laws 29 [.ref 86, .int w, .int (nI (sLn σ (l + 1) (sLo σ l) f).1), .int (sLn σ (l + 1) (sLo σ l) f).2, .int (nI (l + 1)), .int (nI f), .null, .null, .null] [] h Q
  | 0, f, hf => by
    have : f = 6 := by omega
    subst this
    refine T_iload (pc' := 31) d_Mo_laws_29 rfl rfl ?_
    refine T_iconst (v := 5) (pc' := 32) d_Mo_laws_31 rfl (by decide) ?_
    refine T_icmp_gt (pc' := 35) (tgt := 145) d_Mo_laws_32 rfl (by decide) (fun _ => ?_) (fun hzz => absurd (by decide) hzz)
    exact T_fg (by simp [e_le, sLo]) hk
  | k + 1, f, hf => by
    have ih := l_mlaws1 w l hl mi si Q hk k (f + 1) (by omega)
    have inv := LwI_n σ (show l + 1 < 31 by omega) (LwI_o σ l (by omega)) f (by omega)
    refine T_iload (pc' := 31) d_Mo_laws_29 rfl rfl ?_
    refine T_iconst (v := 5) (pc' := 32) d_Mo_laws_31 rfl (by decide) ?_
    refine T_icmp_gt (pc' := 35) (tgt := 145) d_Mo_laws_32 rfl (by decide) (fun hzz => absurd hzz (nI_nlt (a := 5) (b := f) (by omega) (by decide))) (fun _ => ?_)
    refine T_iconst (v := 1) (pc' := 36) d_Mo_laws_35 rfl (by decide) ?_
    refine T_is6 (pc' := 38) d_Mo_laws_36 rfl (Nat.le_of_ble_eq_true rfl) rfl ?_
    refine T_iconst (v := 0) (pc' := 39) d_Mo_laws_38 rfl (by decide) ?_
    refine T_is7 (pc' := 41) d_Mo_laws_39 rfl (Nat.le_of_ble_eq_true rfl) rfl ?_
    refine l_mlaw1 X d h σ w _ _ (l + 1) f mi si Q ?_ (σ.1 5) 0 (by omega)
    rw [sLn, sLs] at ih
    generalize sLn σ (l + 1) (sLo σ l) f = s at ih inv
    refine T_iload (pc' := 106) d_Mo_laws_104 rfl rfl ?_
    by_cases hb : sLawB σ (l + 1) f (σ.1 5) = true
    · rw [if_pos hb] at ih
      rw [hb]
      refine T_if_eq (pc' := 109) (tgt := 124) d_Mo_laws_106 rfl (by decide) (fun hzz => absurd hzz (by decide)) (fun _ => ?_)
      refine T_iload_n (pc' := 110) d_Mo_laws_109 rfl rfl rfl ?_
      rcases inv with ⟨i1, i2⟩ | ⟨i1, i2, i3⟩
      · refine T_if_ne (pc' := 113) (tgt := 124) d_Mo_laws_110 rfl (by decide) (fun hzz => absurd (by rw [i1]; rfl) hzz) (fun _ => ?_)
        refine T_bipush (v := 10) (pc' := 115) d_Mo_laws_113 rfl (by decide) ?_
        refine T_iload (pc' := 117) d_Mo_laws_115 rfl rfl ?_
        refine T_imul (pc' := 118) d_Mo_laws_117 rfl ?_
        refine T_iload (pc' := 120) d_Mo_laws_118 rfl rfl ?_
        refine T_iadd (pc' := 121) d_Mo_laws_120 rfl ?_
        refine T_goto (pc' := 125) d_Mo_laws_121 (by decide) ?_
        refine T_is_n3 (pc' := 126) d_Mo_laws_125 rfl rfl (Nat.le_of_ble_eq_true rfl) rfl ?_
        refine T_iload_n (pc' := 127) d_Mo_laws_126 rfl rfl rfl ?_
        refine T_iload (pc' := 129) d_Mo_laws_127 rfl rfl ?_
        refine T_if_eq (pc' := 132) (tgt := 136) d_Mo_laws_129 rfl (by decide) (fun hzz => absurd hzz (by decide)) (fun _ => ?_)
        refine T_iconst (v := 1) (pc' := 133) d_Mo_laws_132 rfl (by decide) ?_
        refine T_goto (pc' := 137) d_Mo_laws_133 (by decide) ?_
        refine T_iadd (pc' := 138) d_Mo_laws_137 rfl ?_
        rw [nI_1]
        refine T_is_n2 (pc' := 139) d_Mo_laws_138 rfl rfl (Nat.le_of_ble_eq_true rfl) rfl ?_
        refine T_ii5 (c := 1) (pc' := 142) d_Mo_laws_139 rfl (by decide) (Nat.le_of_ble_eq_true rfl) rfl ?_
        rw [nI_1]
        refine T_goto (pc' := 29) d_Mo_laws_142 (by decide) ?_
        rw [if_pos i1] at ih
        exact T_fg (by simp [e_le]) ih
      · refine T_if_ne (pc' := 113) (tgt := 124) d_Mo_laws_110 rfl (by decide) (fun _ => ?_) (fun hzz => absurd hzz (nI_ne0 (by omega) (by omega)))
        refine T_iload_n (pc' := 125) d_Mo_laws_124 rfl rfl rfl ?_
        refine T_is_n3 (pc' := 126) d_Mo_laws_125 rfl rfl (Nat.le_of_ble_eq_true rfl) rfl ?_
        refine T_iload_n (pc' := 127) d_Mo_laws_126 rfl rfl rfl ?_
        refine T_iload (pc' := 129) d_Mo_laws_127 rfl rfl ?_
        refine T_if_eq (pc' := 132) (tgt := 136) d_Mo_laws_129 rfl (by decide) (fun hzz => absurd hzz (by decide)) (fun _ => ?_)
        refine T_iconst (v := 1) (pc' := 133) d_Mo_laws_132 rfl (by decide) ?_
        refine T_goto (pc' := 137) d_Mo_laws_133 (by decide) ?_
        refine T_iadd (pc' := 138) d_Mo_laws_137 rfl ?_
        rw [nI_1]
        refine T_is_n2 (pc' := 139) d_Mo_laws_138 rfl rfl (Nat.le_of_ble_eq_true rfl) rfl ?_
        refine T_ii5 (c := 1) (pc' := 142) d_Mo_laws_139 rfl (by decide) (Nat.le_of_ble_eq_true rfl) rfl ?_
        rw [nI_1]
        refine T_goto (pc' := 29) d_Mo_laws_142 (by decide) ?_
        rw [if_neg (by omega)] at ih
        exact T_fg (by simp [e_le]) ih
    · have hb' : sLawB σ (l + 1) f (σ.1 5) = false := by simpa using hb
      rw [if_neg hb] at ih
      rw [hb']
      refine T_if_eq (pc' := 109) (tgt := 124) d_Mo_laws_106 rfl (by decide) (fun _ => ?_) (fun hzz => absurd (by decide) hzz)
      refine T_iload_n (pc' := 125) d_Mo_laws_124 rfl rfl rfl ?_
      refine T_is_n3 (pc' := 126) d_Mo_laws_125 rfl rfl (Nat.le_of_ble_eq_true rfl) rfl ?_
      refine T_iload_n (pc' := 127) d_Mo_laws_126 rfl rfl rfl ?_
      refine T_iload (pc' := 129) d_Mo_laws_127 rfl rfl ?_
      refine T_if_eq (pc' := 132) (tgt := 136) d_Mo_laws_129 rfl (by decide) (fun _ => ?_) (fun hzz => absurd (by decide) hzz)
      refine T_iconst (v := 0) (pc' := 137) d_Mo_laws_136 rfl (by decide) ?_
      refine T_iadd (pc' := 138) d_Mo_laws_137 rfl ?_
      rw [show nI s.1 + 0 = nI s.1 from nI_add s.1 0]
      refine T_is_n2 (pc' := 139) d_Mo_laws_138 rfl rfl (Nat.le_of_ble_eq_true rfl) rfl ?_
      refine T_ii5 (c := 1) (pc' := 142) d_Mo_laws_139 rfl (by decide) (Nat.le_of_ble_eq_true rfl) rfl ?_
      rw [nI_1]
      refine T_goto (pc' := 29) d_Mo_laws_142 (by decide) ?_
      exact T_fg (by simp [e_le]) ih
theorem l_mlaws (w : Int32) (mi : MI h σ) (si : SI σ) (Q : Option Value → AH → Prop) (hk : T X d M_Mo_laws 151 [.ref 86, .int w, .int (nI (sLo σ 30).1), .int (sLo σ 30).2, .null, .null, .null, .null, .null] [] h Q) : ∀ (k l : Nat), l + k = 30 → T X d M_Mo_laws 19 [.ref 86, .int w, .int (nI (sLo σ l).1), .int (sLo σ l).2, .int (nI (l + 1)), .null, .null, .null, .null] [] h Q
  | 0, l, hl => by
    have : l = 30 := by omega
    subst this
    refine T_iload (pc' := 21) d_Mo_laws_19 rfl rfl ?_
    refine T_bipush (v := 30) (pc' := 23) d_Mo_laws_21 rfl (by decide) ?_
    refine T_icmp_gt (pc' := 26) (tgt := 151) d_Mo_laws_23 rfl (by decide) (fun _ => ?_) (fun hzz => absurd (by decide) hzz)
    exact T_fg (by simp [e_le]) hk
  | k + 1, l, hl => by
    have ih := l_mlaws w mi si Q hk k (l + 1) (by omega)
    refine T_iload (pc' := 21) d_Mo_laws_19 rfl rfl ?_
    refine T_bipush (v := 30) (pc' := 23) d_Mo_laws_21 rfl (by decide) ?_
    refine T_icmp_gt (pc' := 26) (tgt := 151) d_Mo_laws_23 rfl (by decide) (fun hzz => absurd hzz (nI_nlt (a := 30) (b := l + 1) (by omega) (by decide))) (fun _ => ?_)
    refine T_iconst (v := 0) (pc' := 27) d_Mo_laws_26 rfl (by decide) ?_
    refine T_is5 (pc' := 29) d_Mo_laws_27 rfl (Nat.le_of_ble_eq_true rfl) rfl ?_
    refine l_mlaws1 X d h σ w l (by omega) mi si Q ?_ 6 0 rfl
    refine T_ii4 (c := 1) (pc' := 148) d_Mo_laws_145 rfl (by decide) (Nat.le_of_ble_eq_true rfl) rfl ?_
    rw [nI_1]
    refine T_goto (pc' := 19) d_Mo_laws_148 (by decide) ?_
    exact ih
theorem p_Mo_laws (w : Int32) (mi : MI h σ) (si : SI σ) : Ci X (d + 20) M_Mo_laws [.ref 86, .int w] h (fun v h1 => v = q_laws σ w ∧ MI h1 σ ∧ Fr 86 109 h h1) := by
  refine C_of_T rfl rfl (Nat.le_of_ble_eq_true rfl) rfl ?_
  refine T_iload_n (pc' := 1) d_Mo_laws_0 rfl rfl rfl ?_
  refine T_iconst (v := 0) (pc' := 2) d_Mo_laws_1 rfl (by decide) ?_
  refine T_iconst (v := 1) (pc' := 3) d_Mo_laws_2 rfl (by decide) ?_
  refine T_S3i (pc' := 6) d_Mo_laws_3 rfl l_Mo_78 v_Mo_in (Nat.le_of_ble_eq_true rfl) (c_Mo_in X _ h w 0 1) (fun v h1 hq => ?_)
  obtain ⟨rfl, ⟨hw, rfl⟩ | ⟨hw, rfl⟩⟩ := hq
  · refine T_if_ne (pc' := 9) (tgt := 11) d_Mo_laws_6 rfl (by decide) (fun _ => ?_) (fun hzz => absurd hzz (by decide))
    refine T_iconst (v := 0) (pc' := 12) d_Mo_laws_11 rfl (by decide) ?_
    refine T_is_n2 (pc' := 13) d_Mo_laws_12 rfl rfl (Nat.le_of_ble_eq_true rfl) rfl ?_
    refine T_bipush (v := (-9)) (pc' := 15) d_Mo_laws_13 rfl (by decide) ?_
    refine T_is_n3 (pc' := 16) d_Mo_laws_15 rfl rfl (Nat.le_of_ble_eq_true rfl) rfl ?_
    refine T_iconst (v := 1) (pc' := 17) d_Mo_laws_16 rfl (by decide) ?_
    refine T_is4 (pc' := 19) d_Mo_laws_17 rfl (Nat.le_of_ble_eq_true rfl) rfl ?_
    refine l_mlaws X _ h1 σ w mi si _ ?_ 30 0 rfl
    rw [q_laws]
    simp only [hw, and_self, if_true]
    rcases s_01 hw with rfl | rfl
    · refine T_iload_n (pc' := 152) d_Mo_laws_151 rfl rfl rfl ?_
      refine T_if_ne (pc' := 155) (tgt := 159) d_Mo_laws_152 rfl (by decide) (fun hzz => absurd (by decide) hzz) (fun _ => ?_)
      refine T_iload_n (pc' := 156) d_Mo_laws_155 rfl rfl rfl ?_
      refine T_goto (pc' := 160) d_Mo_laws_156 (by decide) ?_
      refine T_iret d_Mo_laws_160 rfl ?_
      exact ⟨_, rfl, rfl, mi, Fr.rf⟩
    · refine T_iload_n (pc' := 152) d_Mo_laws_151 rfl rfl rfl ?_
      refine T_if_ne (pc' := 155) (tgt := 159) d_Mo_laws_152 rfl (by decide) (fun _ => ?_) (fun hzz => absurd hzz (by decide))
      refine T_iload_n (pc' := 160) d_Mo_laws_159 rfl rfl rfl ?_
      refine T_iret d_Mo_laws_160 rfl ?_
      exact ⟨_, rfl, rfl, mi, Fr.rf⟩
  · refine T_if_ne (pc' := 9) (tgt := 11) d_Mo_laws_6 rfl (by decide) (fun hzz => absurd (by decide) hzz) (fun _ => ?_)
    refine T_iconst (v := (-1)) (pc' := 10) d_Mo_laws_9 rfl (by decide) ?_
    refine T_iret d_Mo_laws_10 rfl ?_
    exact ⟨_, rfl, by rw [q_laws, if_neg hw], mi, Fr.rf⟩
end MPUB8
