/-! the model's minute -/
theorem s_up1 : ∀ k, k < 10 → sClamp 0 9 (nI k + 1) = if nI k < 9 then nI k + 1 else nI k := by decide +kernel
theorem s_dn1 : ∀ k, k < 10 → sClamp 0 9 (nI k + -1) = if 0 < nI k then nI k - 1 else nI k := by decide +kernel
theorem s_eq0 : ∀ k, k < 10 → sClamp 0 9 (nI k + 0) = nI k := by decide +kernel
theorem s_cl40 (x : Int32) : (if x < 0 then 0 else if 40 < x then 40 else x) = sClamp 0 40 x := by
  have h40 : (40 : Int32).toInt = 40 := by decide
  have h0 : (0 : Int32).toInt = 0 := by decide
  have hz : (0 : Int32) < 40 := by decide
  unfold sClamp
  by_cases a : x < 0
  · have a' := Int32.lt_iff_toInt_lt.mp a
    have b : x < 40 := Int32.lt_iff_toInt_lt.mpr (by omega)
    have c : ¬ 0 < x := fun q => by have := Int32.lt_iff_toInt_lt.mp q; omega
    rw [if_pos a, if_pos b, if_neg c]
  · rw [if_neg a]
    have a' := Int32.le_iff_toInt_le.mp (Int32.not_lt.mp a)
    by_cases b : x < 40
    · have b' := Int32.lt_iff_toInt_lt.mp b
      rw [if_pos b, if_neg (fun q => by have := Int32.lt_iff_toInt_lt.mp q; omega)]
      by_cases c : 0 < x
      · rw [if_pos c]
      · rw [if_neg c]
        have c' := Int32.le_iff_toInt_le.mp (Int32.not_lt.mp c)
        exact Int32.toInt_inj.mp (by omega)
    · have b' := Int32.le_iff_toInt_le.mp (Int32.not_lt.mp b)
      rw [if_neg b, if_pos hz]
      by_cases c : 40 < x
      · rw [if_pos c]
      · rw [if_neg c]
        have c' := Int32.le_iff_toInt_le.mp (Int32.not_lt.mp c)
        exact Int32.toInt_inj.mp (by omega)
theorem s_in40 (x : Int32) : (0 ≤ x ∧ x ≤ 40) ↔ sClamp 0 40 x = x := by
  rw [← s_cl40]
  have h40 : (40 : Int32).toInt = 40 := by decide
  have h0 : (0 : Int32).toInt = 0 := by decide
  constructor
  · rintro ⟨a, b⟩
    rw [if_neg (Int32.not_lt.mpr a), if_neg (Int32.not_lt.mpr b)]
  · intro q
    by_cases a : x < 0
    · rw [if_pos a] at q
      rw [← q] at a
      exact absurd a (by decide)
    · rw [if_neg a] at q
      by_cases b : 40 < x
      · rw [if_pos b] at q
        rw [← q] at b
        exact absurd b (by decide)
      · exact ⟨Int32.not_lt.mp a, Int32.not_lt.mp b⟩
section MOP
variable (X : EX) (d : Nat) (h : AH) (n m : Nat) (wi we br li fa : Nat → Int32)
theorem c_Mo_passOn (b : Nat) (g : Nat → Int32) (hn : n ≤ 3) (hm : m ≤ 4) (hw0 : wi 0 = 0) (mt : MT h n m wi we br li fa) (hb9 : 96 ≤ b) (hb : h.2 b = some (.inl (0, 11, g))) (hg : GI n m g) : Cv X (d + 2) M_Mo_passOn [.ref 86, .ref b] h (fun h1 => h1 = e_put h b (.inl (0, 11, sPass n wi we br li fa g))) := by
  have mtp : ∀ c, MT (e_put h b c) n m wi we br li fa := fun c => MT_put mt hb9
  refine C_of_T rfl rfl (Nat.le_of_ble_eq_true rfl) rfl ?_
  refine T_aload_n (pc' := 1) d_Mo_passOn_0 rfl rfl rfl ?_
  refine T_iconst (v := 0) (pc' := 2) d_Mo_passOn_1 rfl (by decide) ?_
  refine T_dup2 (pc' := 3) d_Mo_passOn_2 rfl rfl rfl ?_
  refine T_ialoadL 0 (pc' := 4) d_Mo_passOn_3 rfl (by first | assumption | exact e_put_s | simp [e_put, *]) (by decide) ?_
  refine T_iconst (v := 1) (pc' := 5) d_Mo_passOn_4 rfl (by decide) ?_
  refine T_iadd (pc' := 6) d_Mo_passOn_5 rfl ?_
  refine T_iastoreL 0 (pc' := 7) d_Mo_passOn_6 rfl (by first | assumption | exact e_put_s | simp [e_put, *]) (by decide) ?_
  refine T_aload_n (pc' := 8) d_Mo_passOn_7 rfl rfl rfl ?_
  refine T_iconst (v := 5) (pc' := 9) d_Mo_passOn_8 rfl (by decide) ?_
  refine T_dup2 (pc' := 10) d_Mo_passOn_9 rfl rfl rfl ?_
  refine T_ialoadL 5 (pc' := 11) d_Mo_passOn_10 rfl e_put_s (by decide) ?_
  refine T_iconst (v := 1) (pc' := 12) d_Mo_passOn_11 rfl (by decide) ?_
  refine T_iadd (pc' := 13) d_Mo_passOn_12 rfl ?_
  refine T_iastoreL 5 (pc' := 14) d_Mo_passOn_13 rfl e_put_s (by decide) ?_
  refine T_aload_n (pc' := 15) d_Mo_passOn_14 rfl rfl rfl ?_
  refine T_bipush (v := 10) (pc' := 17) d_Mo_passOn_15 rfl (by decide) ?_
  refine T_ialoadL 10 (pc' := 18) d_Mo_passOn_17 rfl e_put_s (by decide) ?_
  refine T_iconst (v := 1) (pc' := 19) d_Mo_passOn_18 rfl (by decide) ?_
  rw [e_pp]
  have hg1 : e_up g 0 (g 0 + 1) 5 = g 5 := rfl
  rw [hg1]
  have hg2 : e_up (e_up g 0 (g 0 + 1)) 5 (g 5 + 1) 10 = g 10 := rfl
  rw [hg2]
  generalize hG : e_up (e_up g 0 (g 0 + 1)) 5 (g 5 + 1) = G
  have G0 : G 0 = g 0 + 1 := by rw [← hG]; rfl
  have G1 : G 1 = g 1 := by rw [← hG]; rfl
  have G2 : G 2 = g 2 := by rw [← hG]; rfl
  have G3 : G 3 = g 3 := by rw [← hG]; rfl
  have G4 : G 4 = g 4 := by rw [← hG]; rfl
  have G5 : G 5 = g 5 + 1 := by rw [← hG]; rfl
  have G6 : G 6 = g 6 := by rw [← hG]; rfl
  have Gk : ∀ k, k ≠ 0 → k ≠ 5 → G k = g k := fun k h1 h2 => by rw [← hG, e_upL, if_neg h2, e_upL, if_neg h1]
  by_cases hlo : g 10 = 1
  · refine T_icmp_ne (pc' := 22) (tgt := 23) d_Mo_passOn_19 rfl (by decide) (fun hzz => absurd hlo hzz) (fun _ => ?_)
    refine T_vret d_Mo_passOn_22 rfl ?_
    refine ⟨rfl, ?_⟩
    congr 4
    funext k
    by_cases k0 : k = 0
    · subst k0; rw [G0]; rfl
    · by_cases k5 : k = 5
      · subst k5; rw [G5]; rfl
      · rw [Gk k k0 k5]; simp [sPass, k0, k5, hlo]
  · refine T_icmp_ne (pc' := 22) (tgt := 23) d_Mo_passOn_19 rfl (by decide) (fun _ => ?_) (fun hzz => absurd hzz hlo)
    refine T_aload_n (pc' := 24) d_Mo_passOn_23 rfl rfl rfl ?_
    refine T_aload_n (pc' := 25) d_Mo_passOn_24 rfl rfl rfl ?_
    obtain ⟨sc, tc, h00⟩ := (mtp (.inl (0, 11, G))).1
    refine T_V1i (pc' := 28) d_Mo_passOn_25 rfl l_Mo_144 v_Mo_hold (by first | assumption | exact e_put_s | simp [e_put, *]) (Nat.le_of_ble_eq_true rfl) (c_Mo_hold X (d + 1) _ n m wi we br li fa b G hn hm (mtp _) e_put_s (by rw [G3, G4]; exact hg.2.2.1)) (fun v h1 hq => ?_)
    obtain ⟨rfl, rfl⟩ := hq
    refine T_aload_n (pc' := 29) d_Mo_passOn_28 rfl rfl rfl ?_
    refine T_aload_n (pc' := 30) d_Mo_passOn_29 rfl rfl rfl ?_
    refine T_V1i (pc' := 33) d_Mo_passOn_30 rfl l_Mo_148 v_Mo_weights (by first | assumption | exact e_put_s | simp [e_put, *]) (Nat.le_of_ble_eq_true rfl) (c_Mo_weights X d _ n m wi we br li fa b G hn (mtp _) e_put_s) (fun v h2 hq => ?_)
    obtain ⟨rfl, rfl⟩ := hq
    rw [G3, G4, G5, G6]
    refine T_isub (pc' := 34) d_Mo_passOn_33 rfl ?_
    refine T_is_n2 (pc' := 35) d_Mo_passOn_34 rfl rfl (Nat.le_of_ble_eq_true rfl) rfl ?_
    have hmo : sHold br li fa (g 3) (g 4) (g 5 + 1) - sW we (g 6) n = sMore n we br li fa g := rfl
    rw [hmo]
    obtain ⟨kh, hkh, hk⟩ := hg.2.1
    -- behind the heights
    have key : ∀ G' : Nat → Int32, G' = e_up G 2 (sHe (sMore n we br li fa g) (g 2)) → T X (d + 1 + 1) M_Mo_passOn 71 [.ref 86, .ref b, .int (sMore n we br li fa g), .null] [] (e_put h b (.inl (0, 11, G'))) (fun r h1 => r = none ∧ h1 = e_put h b (.inl (0, 11, sPass n wi we br li fa g))) := by
      intro G' hG'
      have g1 : G' 1 = g 1 := by rw [hG']; exact G1
      have g2 : G' 2 = sHe (sMore n we br li fa g) (g 2) := by rw [hG']; rfl
      obtain ⟨k2, hk2, hk2e⟩ := sHe_in (sMore n we br li fa g) (g 2)
      have key2 : ∀ to : Int32, to = sTo n wi we br li fa g → T X (d + 1 + 1) M_Mo_passOn 94 [.ref 86, .ref b, .int (sMore n we br li fa g), .int to] [] (e_put h b (.inl (0, 11, G'))) (fun r h1 => r = none ∧ h1 = e_put h b (.inl (0, 11, sPass n wi we br li fa g))) := by
        intro to hto
        have key3 : ∀ lo : Int32, lo = (if sClamp 0 40 to = to then 0 else 1) → T X (d + 1 + 1) M_Mo_passOn 112 [.ref 86, .ref b, .int (sMore n we br li fa g), .int to] [.int lo, .int 10, .ref b] (e_put h b (.inl (0, 11, G'))) (fun r h1 => r = none ∧ h1 = e_put h b (.inl (0, 11, sPass n wi we br li fa g))) := by
          intro lo hlo2
          have key4 : ∀ ce : Int32, ce = sClamp 0 40 to → T X (d + 1 + 1) M_Mo_passOn 135 [.ref 86, .ref b, .int (sMore n we br li fa g), .int to] [.int ce, .int 1, .ref b] (e_put h b (.inl (0, 11, e_up G' 10 lo))) (fun r h1 => r = none ∧ h1 = e_put h b (.inl (0, 11, sPass n wi we br li fa g))) := by
            intro ce hce
            refine T_iastoreL 1 (pc' := 136) d_Mo_passOn_135 rfl e_put_s (by decide) ?_
            rw [e_pp]
            refine T_vret d_Mo_passOn_136 rfl ?_
            refine ⟨rfl, ?_⟩
            congr 4
            funext k
            subst hce; subst hlo2; subst hto; subst hG'
            by_cases k0 : k = 0
            · subst k0; rw [e_upL, e_upL, e_upL]; simp [G0, sPass]
            · by_cases k5 : k = 5
              · subst k5; rw [e_upL, e_upL, e_upL]; simp [G5, sPass]
              · by_cases k1 : k = 1
                · subst k1; simp [e_upL, sPass, hlo]
                · by_cases k10 : k = 10
                  · subst k10; simp [e_upL, sPass, hlo]
                  · by_cases k2 : k = 2
                    · subst k2; simp [e_upL, sPass, hlo]
                    · simp [e_upL, sPass, hlo, k0, k5, k1, k10, k2, Gk k k0 k5]
          refine T_iastoreL 10 (pc' := 113) d_Mo_passOn_112 rfl e_put_s (by decide) ?_
          rw [e_pp]
          refine T_aload_n (pc' := 114) d_Mo_passOn_113 rfl rfl rfl ?_
          refine T_iconst (v := 1) (pc' := 115) d_Mo_passOn_114 rfl (by decide) ?_
          refine T_iload_n (pc' := 116) d_Mo_passOn_115 rfl rfl rfl ?_
          refine T_if_ge (pc' := 119) (tgt := 123) d_Mo_passOn_116 rfl (by decide) (fun hc => ?_) (fun hc => ?_)
          · refine T_iload_n (pc' := 124) d_Mo_passOn_123 rfl rfl rfl ?_
            refine T_bipush (v := 40) (pc' := 126) d_Mo_passOn_124 rfl (by decide) ?_
            refine T_icmp_le (pc' := 129) (tgt := 134) d_Mo_passOn_126 rfl (by decide) (fun hc => ?_) (fun hc => ?_)
            · refine T_iload_n (pc' := 135) d_Mo_passOn_134 rfl rfl rfl ?_
              exact key4 _ (by rw [← s_cl40, if_neg (Int32.not_lt.mpr ‹_›), if_neg (Int32.not_lt.mpr hc)])
            · refine T_bipush (v := 40) (pc' := 131) d_Mo_passOn_129 rfl (by decide) ?_
              refine T_goto (pc' := 135) d_Mo_passOn_131 (by decide) ?_
              exact key4 _ (by rw [← s_cl40, if_neg (Int32.not_lt.mpr ‹_›), if_pos (Int32.not_le.mp hc)])
          · refine T_iconst (v := 0) (pc' := 120) d_Mo_passOn_119 rfl (by decide) ?_
            refine T_goto (pc' := 135) d_Mo_passOn_120 (by decide) ?_
            exact key4 _ (by rw [← s_cl40, if_pos (Int32.not_le.mp hc)])
        refine T_aload_n (pc' := 95) d_Mo_passOn_94 rfl rfl rfl ?_
        refine T_bipush (v := 10) (pc' := 97) d_Mo_passOn_95 rfl (by decide) ?_
        refine T_iload_n (pc' := 98) d_Mo_passOn_97 rfl rfl rfl ?_
        refine T_iconst (v := 0) (pc' := 99) d_Mo_passOn_98 rfl (by decide) ?_
        refine T_bipush (v := 40) (pc' := 101) d_Mo_passOn_99 rfl (by decide) ?_
        refine T_S3i (pc' := 104) d_Mo_passOn_101 rfl l_Mo_78 v_Mo_in (Nat.le_of_ble_eq_true rfl) (c_Mo_in X (d + 1) _ to 0 40) (fun v h1 hq => ?_)
        obtain ⟨rfl, ⟨hp, rfl⟩ | ⟨hp, rfl⟩⟩ := hq
        · refine T_if_eq (pc' := 107) (tgt := 111) d_Mo_passOn_104 rfl (by decide) (fun hzz => absurd hzz (by decide)) (fun _ => ?_)
          refine T_iconst (v := 0) (pc' := 108) d_Mo_passOn_107 rfl (by decide) ?_
          refine T_goto (pc' := 112) d_Mo_passOn_108 (by decide) ?_
          exact key3 0 (by rw [if_pos ((s_in40 to).mp hp)])
        · refine T_if_eq (pc' := 107) (tgt := 111) d_Mo_passOn_104 rfl (by decide) (fun _ => ?_) (fun hzz => absurd (by decide) hzz)
          refine T_iconst (v := 1) (pc' := 112) d_Mo_passOn_111 rfl (by decide) ?_
          exact key3 1 (by rw [if_neg (fun q => hp ((s_in40 to).mpr q))])
      refine T_aload_n (pc' := 72) d_Mo_passOn_71 rfl rfl rfl ?_
      refine T_iconst (v := 1) (pc' := 73) d_Mo_passOn_72 rfl (by decide) ?_
      refine T_ialoadL 1 (pc' := 74) d_Mo_passOn_73 rfl e_put_s (by decide) ?_
      refine T_aload_n (pc' := 75) d_Mo_passOn_74 rfl rfl rfl ?_
      refine T_iconst (v := 2) (pc' := 76) d_Mo_passOn_75 rfl (by decide) ?_
      refine T_ialoadL 2 (pc' := 77) d_Mo_passOn_76 rfl e_put_s (by decide) ?_
      rw [g1, g2]
      by_cases hz : sHe (sMore n we br li fa g) (g 2) = 0
      · refine T_if_ne (pc' := 80) (tgt := 84) d_Mo_passOn_77 rfl (by decide) (fun hzz => absurd hz hzz) (fun _ => ?_)
        refine T_iconst (v := 0) (pc' := 81) d_Mo_passOn_80 rfl (by decide) ?_
        refine T_goto (pc' := 92) d_Mo_passOn_81 (by decide) ?_
        refine T_iadd (pc' := 93) d_Mo_passOn_92 rfl ?_
        refine T_is_n3 (pc' := 94) d_Mo_passOn_93 rfl rfl (Nat.le_of_ble_eq_true rfl) rfl ?_
        exact key2 _ (by rw [sTo, hz]; show g 1 + 0 = g 1 + wi 0; rw [hw0])
      · refine T_if_ne (pc' := 80) (tgt := 84) d_Mo_passOn_77 rfl (by decide) (fun _ => ?_) (fun hzz => absurd hzz hz)
        obtain ⟨⟨sc, tc, h00⟩, ⟨f1, h1, e1⟩, -⟩ := mtp (.inl (0, 11, G'))
        refine T_aload_n (pc' := 85) d_Mo_passOn_84 rfl rfl rfl ?_
        refine T_get (pc' := 88) d_Mo_passOn_85 rfl g_Mo_13 (by first | assumption | exact e_put_s | simp [e_put, *]) rfl ?_
        refine T_aload_n (pc' := 89) d_Mo_passOn_88 rfl rfl rfl ?_
        refine T_iconst (v := 2) (pc' := 90) d_Mo_passOn_89 rfl (by decide) ?_
        refine T_ialoadL 2 (pc' := 91) d_Mo_passOn_90 rfl e_put_s (by decide) ?_
        rw [g2, hk2e]
        refine T_ialoadN k2 (pc' := 92) d_Mo_passOn_91 rfl h1 (by omega) ?_
        refine T_iadd (pc' := 93) d_Mo_passOn_92 rfl ?_
        refine T_is_n3 (pc' := 94) d_Mo_passOn_93 rfl rfl (Nat.le_of_ble_eq_true rfl) rfl ?_
        refine key2 _ ?_
        rw [sTo, hk2e, nI_clamp (by omega), e1 k2 (by omega) (by
          rcases Nat.eq_zero_or_pos k2 with z | z
          · subst z; exact absurd hk2e hz
          · exact z)]
    have hsame : ∀ v : Int32, v = g 2 → e_up G 2 v = G := by
      intro v hv
      funext k
      by_cases k2 : k = 2
      · subst k2; rw [e_upL, if_pos rfl, hv, G2]
      · rw [e_upL, if_neg k2]
    have skip : ¬ sMore n we br li fa g < 0 → ∀ G' : Nat → Int32, G' = e_up G 2 (sHe (sMore n we br li fa g) (g 2)) → T X (d + 1 + 1) M_Mo_passOn 54 [.ref 86, .ref b, .int (sMore n we br li fa g), .null] [] (e_put h b (.inl (0, 11, G'))) (fun r h1 => r = none ∧ h1 = e_put h b (.inl (0, 11, sPass n wi we br li fa g))) := by
      intro hnn G' hG'
      refine T_iload_n (pc' := 55) d_Mo_passOn_54 rfl rfl rfl ?_
      refine T_if_ge (pc' := 58) (tgt := 71) d_Mo_passOn_55 rfl (by decide) (fun _ => ?_) (fun hzz => absurd (Int32.not_lt.mp hnn) hzz)
      exact key G' hG'
    by_cases hpos : 0 < sMore n we br li fa g
    · have hnn : ¬ sMore n we br li fa g < 0 := fun q => by
        have a := Int32.lt_iff_toInt_lt.mp hpos
        have b := Int32.lt_iff_toInt_lt.mp q
        omega
      have hsu : sUp (sMore n we br li fa g) = 1 := by rw [sUp, if_pos hpos]
      refine T_iload_n (pc' := 36) d_Mo_passOn_35 rfl rfl rfl ?_
      refine T_if_le (pc' := 39) (tgt := 54) d_Mo_passOn_36 rfl (by decide) (fun hzz => absurd hzz (Int32.not_le.mpr hpos)) (fun _ => ?_)
      refine T_aload_n (pc' := 40) d_Mo_passOn_39 rfl rfl rfl ?_
      refine T_iconst (v := 2) (pc' := 41) d_Mo_passOn_40 rfl (by decide) ?_
      refine T_ialoadL 2 (pc' := 42) d_Mo_passOn_41 rfl e_put_s (by decide) ?_
      refine T_bipush (v := 9) (pc' := 44) d_Mo_passOn_42 rfl (by decide) ?_
      rw [G2]
      by_cases h9 : g 2 < 9
      · refine T_icmp_ge (pc' := 47) (tgt := 54) d_Mo_passOn_44 rfl (by decide) (fun hzz => absurd hzz (Int32.not_le.mpr h9)) (fun _ => ?_)
        refine T_aload_n (pc' := 48) d_Mo_passOn_47 rfl rfl rfl ?_
        refine T_iconst (v := 2) (pc' := 49) d_Mo_passOn_48 rfl (by decide) ?_
        refine T_dup2 (pc' := 50) d_Mo_passOn_49 rfl rfl rfl ?_
        refine T_ialoadL 2 (pc' := 51) d_Mo_passOn_50 rfl e_put_s (by decide) ?_
        refine T_iconst (v := 1) (pc' := 52) d_Mo_passOn_51 rfl (by decide) ?_
        refine T_iadd (pc' := 53) d_Mo_passOn_52 rfl ?_
        refine T_iastoreL 2 (pc' := 54) d_Mo_passOn_53 rfl e_put_s (by decide) ?_
        rw [e_pp, G2]
        refine skip hnn _ ?_
        rw [sHe, hsu, hk, s_up1 kh (by omega), if_pos (by rw [← hk]; exact h9)]
      · refine T_icmp_ge (pc' := 47) (tgt := 54) d_Mo_passOn_44 rfl (by decide) (fun _ => ?_) (fun hzz => absurd (Int32.not_lt.mp h9) hzz)
        refine skip hnn _ ?_
        rw [sHe, hsu, hk, s_up1 kh (by omega), if_neg (by rw [← hk]; exact h9), ← hk, hsame _ rfl]
    · refine T_iload_n (pc' := 36) d_Mo_passOn_35 rfl rfl rfl ?_
      refine T_if_le (pc' := 39) (tgt := 54) d_Mo_passOn_36 rfl (by decide) (fun _ => ?_) (fun hzz => absurd (Int32.not_lt.mp hpos) hzz)
      by_cases hneg : sMore n we br li fa g < 0
      · have hsu : sUp (sMore n we br li fa g) = -1 := by rw [sUp, if_neg hpos, if_pos hneg]
        refine T_iload_n (pc' := 55) d_Mo_passOn_54 rfl rfl rfl ?_
        refine T_if_ge (pc' := 58) (tgt := 71) d_Mo_passOn_55 rfl (by decide) (fun hzz => absurd hzz (Int32.not_le.mpr hneg)) (fun _ => ?_)
        refine T_aload_n (pc' := 59) d_Mo_passOn_58 rfl rfl rfl ?_
        refine T_iconst (v := 2) (pc' := 60) d_Mo_passOn_59 rfl (by decide) ?_
        refine T_ialoadL 2 (pc' := 61) d_Mo_passOn_60 rfl e_put_s (by decide) ?_
        rw [G2]
        by_cases h0 : 0 < g 2
        · refine T_if_le (pc' := 64) (tgt := 71) d_Mo_passOn_61 rfl (by decide) (fun hzz => absurd hzz (Int32.not_le.mpr h0)) (fun _ => ?_)
          refine T_aload_n (pc' := 65) d_Mo_passOn_64 rfl rfl rfl ?_
          refine T_iconst (v := 2) (pc' := 66) d_Mo_passOn_65 rfl (by decide) ?_
          refine T_dup2 (pc' := 67) d_Mo_passOn_66 rfl rfl rfl ?_
          refine T_ialoadL 2 (pc' := 68) d_Mo_passOn_67 rfl e_put_s (by decide) ?_
          refine T_iconst (v := 1) (pc' := 69) d_Mo_passOn_68 rfl (by decide) ?_
          refine T_isub (pc' := 70) d_Mo_passOn_69 rfl ?_
          refine T_iastoreL 2 (pc' := 71) d_Mo_passOn_70 rfl e_put_s (by decide) ?_
          rw [e_pp, G2]
          refine key _ ?_
          rw [sHe, hsu, hk, s_dn1 kh (by omega), if_pos (by rw [← hk]; exact h0)]
        · refine T_if_le (pc' := 64) (tgt := 71) d_Mo_passOn_61 rfl (by decide) (fun _ => ?_) (fun hzz => absurd (Int32.not_lt.mp h0) hzz)
          refine key _ ?_
          rw [sHe, hsu, hk, s_dn1 kh (by omega), if_neg (by rw [← hk]; exact h0), ← hk, hsame _ rfl]
      · have hsu : sUp (sMore n we br li fa g) = 0 := by rw [sUp, if_neg hpos, if_neg hneg]
        refine skip hneg _ ?_
        rw [sHe, hsu, hk, s_eq0 kh (by omega), ← hk, hsame _ rfl]
end MOP
