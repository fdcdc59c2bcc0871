/-! own: the model -/
theorem s_16 (k : Nat) : (16 : Int32) * nI k = nI (16 * k) := pk_mul 16 k
theorem s_1a (k : Nat) : (1 : Int32) + nI k = nI (1 + k) := nI_add 1 k
theorem i_m1 (x : Int32) : x + -1 = x - 1 := by rw [Int32.sub_eq_add_neg]
theorem gT_lt (A : Nat → Nat) (n m : Nat) (hm : m ≤ 4) : ∀ o, gT A n m o < 16
  | 0 => by show 0 < 16; omega
  | o + 1 => by
    have ih := gT_lt A n m hm o
    rw [gT]
    by_cases hf : gF A n m o (gT A n m o) < m
    · rw [if_pos hf]
      obtain ⟨g1, -, -⟩ := mG_is (A o) (mV A n m (n - (o + 1))) (mV A n m (n - o) (gT A n m o)) m (gT A n m o) m (Nat.le_refl _)
      exact (pc_add _ ih (gF A n m o (gT A n m o)) (by omega) (g1 hf).2.1.2).1
    · rw [if_neg hf]; exact ih
/-- what the row says from person o on -/
def MWO (A : Nat → Nat) (n m : Nat) (F : Nat → Int32) (o : Nat) : Prop := ∀ q, o ≤ q → q ≤ n → ∀ T, T < 16 → F (16 * q + T) = nI (mV A n m (n - q) T)
section OWN3
variable (X : EX) (d : Nat) (h : AH) (n m : Nat) (wi we br li fa : Nat → Int32) (hn : n ≤ 3) (hm : m ≤ 4) (mt : MT h n m wi we br li fa) (p : Int32)
theorem MT_many {h : AH} {n m : Nat} {wi we br li fa : Nat → Int32} {c : AC} (mt : MT h n m wi we br li fa) : MT (e_put h 103 c) n m wi we br li fa := MT_put mt (by decide)
theorem l_mown1 (hn : n ≤ 3) (mt : MT h n m wi we br li fa) (Q : Option Value → AH → Prop) (hk : ∀ F, MWO (oA li we m) n m F n → T X d M_Mo_own 46 [.ref 86, .int p, .null, .null, .null, .null, .null, .null] [] (e_put h 103 (.inl (0, 64, F))) Q) : ∀ (k i : Nat), i + k = 16 → ∀ F, (∀ T, T < i → F (16 * n + T) = 0) → T X d M_Mo_own 17 [.ref 86, .int p, .int (nI i), .null, .null, .null, .null, .null] [] (e_put h 103 (.inl (0, 64, F))) Q
  | 0, i, hi, F, hF => by
    have : i = 16 := by omega
    subst this
    refine T_iload_n (pc' := 18) d_Mo_own_17 rfl rfl rfl ?_
    refine T_bipush (v := 16) (pc' := 20) d_Mo_own_18 rfl (by decide) ?_
    refine T_icmp_ge (pc' := 23) (tgt := 46) d_Mo_own_20 rfl (by decide) (fun _ => ?_) (fun hzz => absurd (by decide) hzz)
    refine T_fg (by simp [e_le]) (hk F (fun q h1 h2 T hT => ?_))
    have : q = n := by omega
    subst this
    rw [hF T hT, show q - q = 0 by omega]
    rfl
  | k + 1, i, hi, F, hF => by
    have ih := l_mown1 hn mt Q hk k (i + 1) (by omega)
    obtain ⟨⟨sc, tc, h0⟩, ⟨f1, h1, e1⟩, ⟨f2, h2, e2⟩, -⟩ := mt
    refine T_iload_n (pc' := 18) d_Mo_own_17 rfl rfl rfl ?_
    refine T_bipush (v := 16) (pc' := 20) d_Mo_own_18 rfl (by decide) ?_
    refine T_icmp_ge (pc' := 23) (tgt := 46) d_Mo_own_20 rfl (by decide) (fun hzz => absurd hzz (nI_ge (a := i) (b := 16) (by omega) (by decide))) (fun _ => ?_)
    refine T_aload_n (pc' := 24) d_Mo_own_23 rfl rfl rfl ?_
    refine T_get (pc' := 27) d_Mo_own_24 rfl g_Mo_60 (by first | exact (e_put_n (by decide)).trans h0 | exact (e_put_n (by decide)).trans h2) rfl ?_
    refine T_bipush (v := 16) (pc' := 29) d_Mo_own_27 rfl (by decide) ?_
    refine T_aload_n (pc' := 30) d_Mo_own_29 rfl rfl rfl ?_
    refine T_get (pc' := 33) d_Mo_own_30 rfl g_Mo_17 (by first | exact (e_put_n (by decide)).trans h0 | exact (e_put_n (by decide)).trans h2) rfl ?_
    refine T_iconst (v := 0) (pc' := 34) d_Mo_own_33 rfl (by decide) ?_
    refine T_ialoadL 0 (pc' := 35) d_Mo_own_34 rfl (by first | exact (e_put_n (by decide)).trans h0 | exact (e_put_n (by decide)).trans h2) (by decide) ?_
    rw [e2]
    refine T_imul (pc' := 36) d_Mo_own_35 rfl ?_
    refine T_iload_n (pc' := 37) d_Mo_own_36 rfl rfl rfl ?_
    refine T_iadd (pc' := 38) d_Mo_own_37 rfl ?_
    refine T_iconst (v := 0) (pc' := 39) d_Mo_own_38 rfl (by decide) ?_
    rw [s_16, nI_add]
    refine T_iastoreN (16 * n + i) (pc' := 40) d_Mo_own_39 rfl e_put_s ⟨by omega, by decide⟩ ?_
    rw [e_pp]
    refine T_ii2 (c := 1) (pc' := 43) d_Mo_own_40 rfl (by decide) (Nat.le_of_ble_eq_true rfl) rfl ?_
    rw [nI_1]
    refine T_goto (pc' := 17) d_Mo_own_43 (by decide) ?_
    refine ih _ (fun T hT => ?_)
    by_cases e : T = i
    · rw [e, e_upL, if_pos rfl]
    · rw [e_upL, if_neg (by omega)]; exact hF T (by omega)
/-- may person o have thought t, as the code asks it: behind it 0 or 1 is in place 6 -/
theorem l_mown2 (hn : n ≤ 3) (hm : m ≤ 4) (mt : MT h n m wi we br li fa) (o T' : Nat) (ho : o < n) (hT : T' < 16) (F : Nat → Int32) (hF : MWO (oA li we m) n m F (o + 1)) (Q : Option Value → AH → Prop) (hk : T X (d + 1) M_Mo_own 178 [.ref 86, .int p, .int (nI o), .int (nI T'), .int (nI (mV (oA li we m) n m (n - o) T')), .null, .null, .null] [] (e_put h 103 (.inl (0, 64, F))) Q) : ∀ (k t : Nat), t + k = m → T X (d + 1) M_Mo_own 85 [.ref 86, .int p, .int (nI o), .int (nI T'), .int (nI (mT (oA li we m o) (mV (oA li we m) n m (n - (o + 1))) T' t)), .int (nI t), .null, .null] [] (e_put h 103 (.inl (0, 64, F))) Q
  | 0, t, ht => by
    have : t = m := by omega
    subst this
    rw [mV_at (oA li we t) n t hn ho] at hk
    obtain ⟨⟨sc, tc, h0⟩, -, -, -, -, ⟨f5, h5, e5⟩, -⟩ := mt
    refine T_iload (pc' := 87) d_Mo_own_85 rfl rfl ?_
    refine T_aload_n (pc' := 88) d_Mo_own_87 rfl rfl rfl ?_
    refine T_get (pc' := 91) d_Mo_own_88 rfl g_Mo_29 (by first | exact (e_put_n (by decide)).trans h0 | exact (e_put_n (by decide)).trans h5) rfl ?_
    refine T_iconst (v := 0) (pc' := 92) d_Mo_own_91 rfl (by decide) ?_
    refine T_ialoadL 0 (pc' := 93) d_Mo_own_92 rfl (by first | exact (e_put_n (by decide)).trans h0 | exact (e_put_n (by decide)).trans h5) (by decide) ?_
    rw [e5]
    refine T_icmp_ge (pc' := 96) (tgt := 178) d_Mo_own_93 rfl (by decide) (fun _ => ?_) (fun hzz => absurd (Int32.le_refl _) hzz)
    exact T_fg (by simp [e_le]) hk
  | k + 1, t, ht => by
    have ih := l_mown2 hn hm mt o T' ho hT F hF Q hk k (t + 1) (by omega)
    have mt' := MT_many (c := .inl (0, 64, F)) mt
    obtain ⟨⟨sc, tc, h0⟩, -, -, -, -, ⟨f5, h5, e5⟩, -⟩ := mt
    have h0' : (e_put h 103 (.inl (0, 64, F))).2 86 = some (oMo sc tc) := (e_put_n (by decide)).trans h0
    have hbit := sLm_bit li (we o) m hm t (by omega)
    have hl16 := sLm_16 li (we o) hm
    have hv1 := mV_bd (oA li we m) n m (n - (o + 1)) (T' + 2 ^ t)
    have hv2 : mT (oA li we m o) (mV (oA li we m) n m (n - (o + 1))) T' t ≤ n - (o + 1) + 1 := by
      rcases mT_at (oA li we m o) (mV (oA li we m) n m (n - (o + 1))) T' t with q | ⟨r, _, _, q⟩
      · rw [q]; have := mV_bd (oA li we m) n m (n - (o + 1)) T'; omega
      · rw [q]; have := mV_bd (oA li we m) n m (n - (o + 1)) (T' + 2 ^ r); omega
    rw [mT] at ih
    generalize hV : mT (oA li we m o) (mV (oA li we m) n m (n - (o + 1))) T' t = V at ih hv2 ⊢
    have c7 : ∀ W : Nat, W ≤ 4 → (W = if mayN (oA li we m o) T' t then 1 + mV (oA li we m) n m (n - (o + 1)) (T' + 2 ^ t) else 0) → ∀ x : Int32, T X (d + 1) M_Mo_own 154 [.ref 86, .int p, .int (nI o), .int (nI T'), .int (nI V), .int (nI t), .int x, .null] [.int (nI W)] (e_put h 103 (.inl (0, 64, F))) Q := by
      intro W hW4 hW x
      rw [← hW] at ih
      refine T_is7 (pc' := 156) d_Mo_own_154 rfl (Nat.le_of_ble_eq_true rfl) rfl ?_
      refine T_iload (pc' := 158) d_Mo_own_156 rfl rfl ?_
      refine T_iload (pc' := 160) d_Mo_own_158 rfl rfl ?_
      by_cases hlt : V < W
      · refine T_icmp_le (pc' := 163) (tgt := 168) d_Mo_own_160 rfl (by decide) (fun hzz => absurd hzz (nI_ge hlt (by omega))) (fun _ => ?_)
        rw [Nat.max_eq_right (by omega)] at ih
        refine T_iload (pc' := 165) d_Mo_own_163 rfl rfl ?_
        refine T_goto (pc' := 170) d_Mo_own_165 (by decide) ?_
        refine T_is4 (pc' := 172) d_Mo_own_170 rfl (Nat.le_of_ble_eq_true rfl) rfl ?_
        refine T_ii5 (c := 1) (pc' := 175) d_Mo_own_172 rfl (by decide) (Nat.le_of_ble_eq_true rfl) rfl ?_
        rw [nI_1]
        refine T_goto (pc' := 85) d_Mo_own_175 (by decide) ?_
        exact T_fg (by simp [e_le]) ih
      · refine T_icmp_le (pc' := 163) (tgt := 168) d_Mo_own_160 rfl (by decide) (fun _ => ?_) (fun hzz => absurd (nI_le (by omega) (by omega)) hzz)
        rw [Nat.max_eq_left (by omega)] at ih
        refine T_iload (pc' := 170) d_Mo_own_168 rfl rfl ?_
        refine T_is4 (pc' := 172) d_Mo_own_170 rfl (Nat.le_of_ble_eq_true rfl) rfl ?_
        refine T_ii5 (c := 1) (pc' := 175) d_Mo_own_172 rfl (by decide) (Nat.le_of_ble_eq_true rfl) rfl ?_
        rw [nI_1]
        refine T_goto (pc' := 85) d_Mo_own_175 (by decide) ?_
        exact T_fg (by simp [e_le]) ih
    refine T_iload (pc' := 87) d_Mo_own_85 rfl rfl ?_
    refine T_aload_n (pc' := 88) d_Mo_own_87 rfl rfl rfl ?_
    refine T_get (pc' := 91) d_Mo_own_88 rfl g_Mo_29 (by first | exact h0' | exact (e_put_n (by decide)).trans h5) rfl ?_
    refine T_iconst (v := 0) (pc' := 92) d_Mo_own_91 rfl (by decide) ?_
    refine T_ialoadL 0 (pc' := 93) d_Mo_own_92 rfl (by first | exact h0' | exact (e_put_n (by decide)).trans h5) (by decide) ?_
    rw [e5]
    refine T_icmp_ge (pc' := 96) (tgt := 178) d_Mo_own_93 rfl (by decide) (fun hzz => absurd hzz (nI_ge (by omega) (by omega))) (fun _ => ?_)
    refine T_aload_n (pc' := 97) d_Mo_own_96 rfl rfl rfl ?_
    refine T_iload_n (pc' := 98) d_Mo_own_97 rfl rfl rfl ?_
    refine T_V1i (pc' := 101) d_Mo_own_98 rfl l_Mo_155 v_Mo_liftsOf h0' (Nat.le_of_ble_eq_true rfl) (c_Mo_liftsOf X _ _ n m wi we br li fa o ho hn hm mt') (fun v h1 hq => ?_)
    obtain ⟨rfl, rfl⟩ := hq
    rw [sLi_lm li (we o) m hm]
    refine T_iload (pc' := 103) d_Mo_own_101 rfl rfl ?_
    refine T_S2i (pc' := 106) d_Mo_own_103 rfl l_Mo_140 v_Mo_has (Nat.le_of_ble_eq_true rfl) (c_Mo_has X _ _ _ (nI t)) (fun v h1 hq => ?_)
    obtain ⟨rfl, ⟨hb, rfl⟩ | ⟨hb, rfl⟩⟩ := hq
    · have hb' : bN (oA li we m o) t := (s_hasN _ hl16 t (by omega)).mp hb
      refine T_if_eq (pc' := 109) (tgt := 122) d_Mo_own_106 rfl (by decide) (fun hzz => absurd hzz (by decide)) (fun _ => ?_)
      refine T_iload_n (pc' := 110) d_Mo_own_109 rfl rfl rfl ?_
      refine T_iload (pc' := 112) d_Mo_own_110 rfl rfl ?_
      refine T_S2i (pc' := 115) d_Mo_own_112 rfl l_Mo_140 v_Mo_has (Nat.le_of_ble_eq_true rfl) (c_Mo_has X _ _ (nI T') (nI t)) (fun v h1 hq => ?_)
      obtain ⟨rfl, ⟨hc, rfl⟩ | ⟨hc, rfl⟩⟩ := hq
      · refine T_if_ne (pc' := 118) (tgt := 122) d_Mo_own_115 rfl (by decide) (fun _ => ?_) (fun hzz => absurd hzz (by decide))
        refine T_iconst (v := 0) (pc' := 123) d_Mo_own_122 rfl (by decide) ?_
        refine T_is6 (pc' := 125) d_Mo_own_123 rfl (Nat.le_of_ble_eq_true rfl) rfl ?_
        refine T_iload (pc' := 127) d_Mo_own_125 rfl rfl ?_
        refine T_if_eq (pc' := 130) (tgt := 153) d_Mo_own_127 rfl (by decide) (fun _ => ?_) (fun hzz => absurd (by decide) hzz)
        refine T_iconst (v := 0) (pc' := 154) d_Mo_own_153 rfl (by decide) ?_
        exact c7 0 (by omega) (by rw [if_neg (fun q => q.2 ((s_hasN T' hT t (by omega)).mp hc))]) 0
      · have hc' : ¬ bN T' t := fun q => hc ((s_hasN T' hT t (by omega)).mpr q)
        have hpa := pc_add T' hT t (by omega) hc'
        refine T_if_ne (pc' := 118) (tgt := 122) d_Mo_own_115 rfl (by decide) (fun hzz => absurd (by decide) hzz) (fun _ => ?_)
        refine T_iconst (v := 1) (pc' := 119) d_Mo_own_118 rfl (by decide) ?_
        refine T_goto (pc' := 123) d_Mo_own_119 (by decide) ?_
        refine T_is6 (pc' := 125) d_Mo_own_123 rfl (Nat.le_of_ble_eq_true rfl) rfl ?_
        refine T_iload (pc' := 127) d_Mo_own_125 rfl rfl ?_
        refine T_if_eq (pc' := 130) (tgt := 153) d_Mo_own_127 rfl (by decide) (fun hzz => absurd hzz (by decide)) (fun _ => ?_)
        refine T_iconst (v := 1) (pc' := 131) d_Mo_own_130 rfl (by decide) ?_
        refine T_aload_n (pc' := 132) d_Mo_own_131 rfl rfl rfl ?_
        refine T_get (pc' := 135) d_Mo_own_132 rfl g_Mo_60 h0' rfl ?_
        refine T_bipush (v := 16) (pc' := 137) d_Mo_own_135 rfl (by decide) ?_
        refine T_iload_n (pc' := 138) d_Mo_own_137 rfl rfl rfl ?_
        refine T_iconst (v := 1) (pc' := 139) d_Mo_own_138 rfl (by decide) ?_
        refine T_iadd (pc' := 140) d_Mo_own_139 rfl ?_
        refine T_imul (pc' := 141) d_Mo_own_140 rfl ?_
        refine T_iload_n (pc' := 142) d_Mo_own_141 rfl rfl rfl ?_
        refine T_iconst (v := 1) (pc' := 143) d_Mo_own_142 rfl (by decide) ?_
        refine T_iload (pc' := 145) d_Mo_own_143 rfl rfl ?_
        refine T_ishl (pc' := 146) d_Mo_own_145 rfl ?_
        refine T_ior (pc' := 147) d_Mo_own_146 rfl ?_
        refine T_iadd (pc' := 148) d_Mo_own_147 rfl ?_
        rw [nI_1, s_16, s_orN T' hT t (by omega) hc', nI_add]
        refine T_ialoadN (16 * (o + 1) + (T' + 2 ^ t)) (pc' := 149) d_Mo_own_148 rfl e_put_s ⟨by omega, by decide⟩ ?_
        rw [hF (o + 1) (by omega) (by omega) (T' + 2 ^ t) hpa.1]
        refine T_iadd (pc' := 150) d_Mo_own_149 rfl ?_
        rw [s_1a]
        refine T_goto (pc' := 154) d_Mo_own_150 (by decide) ?_
        exact c7 _ (by omega) (by rw [if_pos ⟨hb', hc'⟩]) 1
    · refine T_if_eq (pc' := 109) (tgt := 122) d_Mo_own_106 rfl (by decide) (fun _ => ?_) (fun hzz => absurd (by decide) hzz)
      refine T_iconst (v := 0) (pc' := 123) d_Mo_own_122 rfl (by decide) ?_
      refine T_is6 (pc' := 125) d_Mo_own_123 rfl (Nat.le_of_ble_eq_true rfl) rfl ?_
      refine T_iload (pc' := 127) d_Mo_own_125 rfl rfl ?_
      refine T_if_eq (pc' := 130) (tgt := 153) d_Mo_own_127 rfl (by decide) (fun _ => ?_) (fun hzz => absurd (by decide) hzz)
      refine T_iconst (v := 0) (pc' := 154) d_Mo_own_153 rfl (by decide) ?_
      exact c7 0 (by omega) (by rw [if_neg (fun q => hb ((s_hasN _ hl16 t (by omega)).mpr q.1))]) 0
theorem l_mown3 (hn : n ≤ 3) (hm : m ≤ 4) (mt : MT h n m wi we br li fa) (o : Nat) (ho : o < n) (Q : Option Value → AH → Prop) (hk : ∀ F, MWO (oA li we m) n m F o → T X (d + 1) M_Mo_own 197 [.ref 86, .int p, .int (nI o), .null, .null, .null, .null, .null] [] (e_put h 103 (.inl (0, 64, F))) Q) : ∀ (k T' : Nat), T' + k = 16 → ∀ F, MWO (oA li we m) n m F (o + 1) → (∀ S, S < T' → F (16 * o + S) = nI (mV (oA li we m) n m (n - o) S)) → T X (d + 1) M_Mo_own 61 [.ref 86, .int p, .int (nI o), .int (nI T'), .null, .null, .null, .null] [] (e_put h 103 (.inl (0, 64, F))) Q
  | 0, T', hT, F, hF, hF2 => by
    have : T' = 16 := by omega
    subst this
    refine T_iload_n (pc' := 62) d_Mo_own_61 rfl rfl rfl ?_
    refine T_bipush (v := 16) (pc' := 64) d_Mo_own_62 rfl (by decide) ?_
    refine T_icmp_ge (pc' := 67) (tgt := 197) d_Mo_own_64 rfl (by decide) (fun _ => ?_) (fun hzz => absurd (by decide) hzz)
    refine T_fg (by simp [e_le]) (hk F (fun q h1 h2 S hS => ?_))
    by_cases e : q = o
    · subst e; exact hF2 S hS
    · exact hF q (by omega) h2 S hS
  | k + 1, T', hT, F, hF, hF2 => by
    have ih := l_mown3 hn hm mt o ho Q hk k (T' + 1) (by omega)
    obtain ⟨⟨sc, tc, h0⟩, -⟩ := id mt
    have h0' : (e_put h 103 (.inl (0, 64, F))).2 86 = some (oMo sc tc) := (e_put_n (by decide)).trans h0
    refine T_iload_n (pc' := 62) d_Mo_own_61 rfl rfl rfl ?_
    refine T_bipush (v := 16) (pc' := 64) d_Mo_own_62 rfl (by decide) ?_
    refine T_icmp_ge (pc' := 67) (tgt := 197) d_Mo_own_64 rfl (by decide) (fun hzz => absurd hzz (nI_ge (a := T') (b := 16) (by omega) (by decide))) (fun _ => ?_)
    refine T_aload_n (pc' := 68) d_Mo_own_67 rfl rfl rfl ?_
    refine T_get (pc' := 71) d_Mo_own_68 rfl g_Mo_60 h0' rfl ?_
    refine T_bipush (v := 16) (pc' := 73) d_Mo_own_71 rfl (by decide) ?_
    refine T_iload_n (pc' := 74) d_Mo_own_73 rfl rfl rfl ?_
    refine T_iconst (v := 1) (pc' := 75) d_Mo_own_74 rfl (by decide) ?_
    refine T_iadd (pc' := 76) d_Mo_own_75 rfl ?_
    refine T_imul (pc' := 77) d_Mo_own_76 rfl ?_
    refine T_iload_n (pc' := 78) d_Mo_own_77 rfl rfl rfl ?_
    refine T_iadd (pc' := 79) d_Mo_own_78 rfl ?_
    rw [nI_1, s_16, nI_add]
    refine T_ialoadN (16 * (o + 1) + T') (pc' := 80) d_Mo_own_79 rfl e_put_s ⟨by omega, by decide⟩ ?_
    rw [hF (o + 1) (by omega) (by omega) T' (by omega)]
    refine T_is4 (pc' := 82) d_Mo_own_80 rfl (Nat.le_of_ble_eq_true rfl) rfl ?_
    refine T_iconst (v := 0) (pc' := 83) d_Mo_own_82 rfl (by decide) ?_
    refine T_is5 (pc' := 85) d_Mo_own_83 rfl (Nat.le_of_ble_eq_true rfl) rfl ?_
    refine l_mown2 X d h n m wi we br li fa p hn hm mt o T' ho (by omega) F hF Q ?_ m 0 (by omega)
    refine T_aload_n (pc' := 179) d_Mo_own_178 rfl rfl rfl ?_
    refine T_get (pc' := 182) d_Mo_own_179 rfl g_Mo_60 h0' rfl ?_
    refine T_bipush (v := 16) (pc' := 184) d_Mo_own_182 rfl (by decide) ?_
    refine T_iload_n (pc' := 185) d_Mo_own_184 rfl rfl rfl ?_
    refine T_imul (pc' := 186) d_Mo_own_185 rfl ?_
    refine T_iload_n (pc' := 187) d_Mo_own_186 rfl rfl rfl ?_
    refine T_iadd (pc' := 188) d_Mo_own_187 rfl ?_
    refine T_iload (pc' := 190) d_Mo_own_188 rfl rfl ?_
    rw [s_16, nI_add]
    refine T_iastoreN (16 * o + T') (pc' := 191) d_Mo_own_190 rfl e_put_s ⟨by omega, by decide⟩ ?_
    rw [e_pp]
    refine T_ii3 (c := 1) (pc' := 194) d_Mo_own_191 rfl (by decide) (Nat.le_of_ble_eq_true rfl) rfl ?_
    rw [nI_1]
    refine T_goto (pc' := 61) d_Mo_own_194 (by decide) ?_
    refine T_fg (ls' := [.ref 86, .int p, .int (nI o), .int (nI (T' + 1)), .null, .null, .null, .null]) (by simp [e_le]) (ih _ (fun q h1 h2 S hS => ?_) (fun S hS => ?_))
    · rw [e_upL, if_neg (by omega)]; exact hF q h1 h2 S hS
    · by_cases e : S = T'
      · rw [e, e_upL, if_pos rfl]
      · rw [e_upL, if_neg (by omega)]; exact hF2 S (by omega)
theorem l_mown4 (hn : n ≤ 3) (hm : m ≤ 4) (mt : MT h n m wi we br li fa) (Q : Option Value → AH → Prop) (hk : ∀ F, MWO (oA li we m) n m F 0 → T X (d + 1) M_Mo_own 203 [.ref 86, .int p, .null, .null, .null, .null, .null, .null] [] (e_put h 103 (.inl (0, 64, F))) Q) : ∀ (k : Nat), k ≤ n → ∀ F, MWO (oA li we m) n m F k → T X (d + 1) M_Mo_own 55 [.ref 86, .int p, .int (nI k - 1), .null, .null, .null, .null, .null] [] (e_put h 103 (.inl (0, 64, F))) Q
  | 0, _, F, hF => by
    refine T_iload_n (pc' := 56) d_Mo_own_55 rfl rfl rfl ?_
    refine T_if_lt (pc' := 59) (tgt := 203) d_Mo_own_56 rfl (by decide) (fun _ => ?_) (fun hzz => absurd (by decide) hzz)
    exact T_fg (by simp [e_le]) (hk F hF)
  | k + 1, hkn, F, hF => by
    have ih := l_mown4 hn hm mt Q hk k (by omega)
    rw [nI_pred]
    refine T_iload_n (pc' := 56) d_Mo_own_55 rfl rfl rfl ?_
    refine T_if_lt (pc' := 59) (tgt := 203) d_Mo_own_56 rfl (by decide) (fun hzz => absurd hzz (nI_pos (by omega))) (fun _ => ?_)
    refine T_iconst (v := 0) (pc' := 60) d_Mo_own_59 rfl (by decide) ?_
    refine T_is_n3 (pc' := 61) d_Mo_own_60 rfl rfl (Nat.le_of_ble_eq_true rfl) rfl ?_
    refine l_mown3 X d h n m wi we br li fa p hn hm mt k (by omega) Q (fun F' hF' => ?_) 16 0 rfl F hF (fun S hS => absurd hS (by omega))
    refine T_ii2 (c := (-1)) (pc' := 200) d_Mo_own_197 rfl (by decide) (Nat.le_of_ble_eq_true rfl) rfl ?_
    rw [i_m1]
    refine T_goto (pc' := 55) d_Mo_own_200 (by decide) ?_
    exact ih F' hF'
theorem l_mown5 (pn : Nat) (hn : n ≤ 3) (hm : m ≤ 4) (mt : MT h n m wi we br li fa) (o T' : Nat) (ho : o < n) (hT : T' < 16) (F : Nat → Int32) (hF : MWO (oA li we m) n m F 0) (Q : Option Value → AH → Prop) (hk : T X (d + 1) M_Mo_own 331 [.ref 86, .int (nI pn), .int (nI T'), .int (oN m (gF (oA li we m) n m o T')), .int (nI o), .null, .null, .null] [] (e_put h 103 (.inl (0, 64, F))) Q) : ∀ (k j : Nat), j + k = m → T X (d + 1) M_Mo_own 242 [.ref 86, .int (nI pn), .int (nI T'), .int (oN m (mG (oA li we m o) (mV (oA li we m) n m (n - (o + 1))) (mV (oA li we m) n m (n - o) T') m T' j)), .int (nI o), .int (nI k - 1), .null, .null] [] (e_put h 103 (.inl (0, 64, F))) Q
  | 0, j, hj => by
    have : j = m := by omega
    subst this
    refine T_iload (pc' := 244) d_Mo_own_242 rfl rfl ?_
    refine T_if_lt (pc' := 247) (tgt := 331) d_Mo_own_244 rfl (by decide) (fun _ => ?_) (fun hzz => absurd (by decide) hzz)
    exact T_fg (by simp [e_le, gF]) hk
  | k + 1, j, hj => by
    have ih := l_mown5 pn hn hm mt o T' ho hT F hF Q hk k (j + 1) (by omega)
    have mt' := MT_many (c := .inl (0, 64, F)) mt
    obtain ⟨⟨sc, tc, h0⟩, -⟩ := mt
    have h0' : (e_put h 103 (.inl (0, 64, F))).2 86 = some (oMo sc tc) := (e_put_n (by decide)).trans h0
    have hl16 := sLm_16 li (we o) hm
    rw [mG, show m - (j + 1) = k by omega] at ih
    generalize mG (oA li we m o) (mV (oA li we m) n m (n - (o + 1))) (mV (oA li we m) n m (n - o) T') m T' j = G at ih ⊢
    have c7 : ∀ W : Nat, (W = if mayN (oA li we m o) T' k ∧ 1 + mV (oA li we m) n m (n - (o + 1)) (T' + 2 ^ k) = mV (oA li we m) n m (n - o) T' then k else G) → ∀ x : Int32, T X (d + 1) M_Mo_own 324 [.ref 86, .int (nI pn), .int (nI T'), .int (oN m G), .int (nI o), .int (nI k), .int x, .null] [.int (oN m W)] (e_put h 103 (.inl (0, 64, F))) Q := by
      intro W hW x
      rw [← hW] at ih
      refine T_is_n3 (pc' := 325) d_Mo_own_324 rfl rfl (Nat.le_of_ble_eq_true rfl) rfl ?_
      refine T_ii5 (c := (-1)) (pc' := 328) d_Mo_own_325 rfl (by decide) (Nat.le_of_ble_eq_true rfl) rfl ?_
      rw [i_m1]
      refine T_goto (pc' := 242) d_Mo_own_328 (by decide) ?_
      exact T_fg (by simp [e_le]) ih
    rw [nI_pred]
    refine T_iload (pc' := 244) d_Mo_own_242 rfl rfl ?_
    refine T_if_lt (pc' := 247) (tgt := 331) d_Mo_own_244 rfl (by decide) (fun hzz => absurd hzz (nI_pos (by omega))) (fun _ => ?_)
    refine T_aload_n (pc' := 248) d_Mo_own_247 rfl rfl rfl ?_
    refine T_iload (pc' := 250) d_Mo_own_248 rfl rfl ?_
    refine T_V1i (pc' := 253) d_Mo_own_250 rfl l_Mo_155 v_Mo_liftsOf h0' (Nat.le_of_ble_eq_true rfl) (c_Mo_liftsOf X _ _ n m wi we br li fa o ho hn hm mt') (fun v h1 hq => ?_)
    obtain ⟨rfl, rfl⟩ := hq
    rw [sLi_lm li (we o) m hm]
    refine T_iload (pc' := 255) d_Mo_own_253 rfl rfl ?_
    refine T_S2i (pc' := 258) d_Mo_own_255 rfl l_Mo_140 v_Mo_has (Nat.le_of_ble_eq_true rfl) (c_Mo_has X _ _ _ (nI k)) (fun v h1 hq => ?_)
    obtain ⟨rfl, ⟨hb, rfl⟩ | ⟨hb, rfl⟩⟩ := hq
    · have hb' : bN (oA li we m o) k := (s_hasN _ hl16 k (by omega)).mp hb
      refine T_if_eq (pc' := 261) (tgt := 274) d_Mo_own_258 rfl (by decide) (fun hzz => absurd hzz (by decide)) (fun _ => ?_)
      refine T_iload_n (pc' := 262) d_Mo_own_261 rfl rfl rfl ?_
      refine T_iload (pc' := 264) d_Mo_own_262 rfl rfl ?_
      refine T_S2i (pc' := 267) d_Mo_own_264 rfl l_Mo_140 v_Mo_has (Nat.le_of_ble_eq_true rfl) (c_Mo_has X _ _ (nI T') (nI k)) (fun v h1 hq => ?_)
      obtain ⟨rfl, ⟨hc, rfl⟩ | ⟨hc, rfl⟩⟩ := hq
      · refine T_if_ne (pc' := 270) (tgt := 274) d_Mo_own_267 rfl (by decide) (fun _ => ?_) (fun hzz => absurd hzz (by decide))
        refine T_iconst (v := 0) (pc' := 275) d_Mo_own_274 rfl (by decide) ?_
        refine T_is6 (pc' := 277) d_Mo_own_275 rfl (Nat.le_of_ble_eq_true rfl) rfl ?_
        refine T_iload (pc' := 279) d_Mo_own_277 rfl rfl ?_
        refine T_if_eq (pc' := 282) (tgt := 323) d_Mo_own_279 rfl (by decide) (fun _ => ?_) (fun hzz => absurd (by decide) hzz)
        refine T_iload_n (pc' := 324) d_Mo_own_323 rfl rfl rfl ?_
        exact c7 G (by rw [if_neg (fun q => q.1.2 ((s_hasN T' hT k (by omega)).mp hc))]) 0
      · have hc' : ¬ bN T' k := fun q => hc ((s_hasN T' hT k (by omega)).mpr q)
        have hpa := pc_add T' hT k (by omega) hc'
        have hv1 := mV_bd (oA li we m) n m (n - (o + 1)) (T' + 2 ^ k)
        have hv2 := mV_bd (oA li we m) n m (n - o) T'
        refine T_if_ne (pc' := 270) (tgt := 274) d_Mo_own_267 rfl (by decide) (fun hzz => absurd (by decide) hzz) (fun _ => ?_)
        refine T_iconst (v := 1) (pc' := 271) d_Mo_own_270 rfl (by decide) ?_
        refine T_goto (pc' := 275) d_Mo_own_271 (by decide) ?_
        refine T_is6 (pc' := 277) d_Mo_own_275 rfl (Nat.le_of_ble_eq_true rfl) rfl ?_
        refine T_iload (pc' := 279) d_Mo_own_277 rfl rfl ?_
        refine T_if_eq (pc' := 282) (tgt := 323) d_Mo_own_279 rfl (by decide) (fun hzz => absurd hzz (by decide)) (fun _ => ?_)
        refine T_iconst (v := 1) (pc' := 283) d_Mo_own_282 rfl (by decide) ?_
        refine T_aload_n (pc' := 284) d_Mo_own_283 rfl rfl rfl ?_
        refine T_get (pc' := 287) d_Mo_own_284 rfl g_Mo_60 h0' rfl ?_
        refine T_bipush (v := 16) (pc' := 289) d_Mo_own_287 rfl (by decide) ?_
        refine T_iload (pc' := 291) d_Mo_own_289 rfl rfl ?_
        refine T_iconst (v := 1) (pc' := 292) d_Mo_own_291 rfl (by decide) ?_
        refine T_iadd (pc' := 293) d_Mo_own_292 rfl ?_
        refine T_imul (pc' := 294) d_Mo_own_293 rfl ?_
        refine T_iload_n (pc' := 295) d_Mo_own_294 rfl rfl rfl ?_
        refine T_iconst (v := 1) (pc' := 296) d_Mo_own_295 rfl (by decide) ?_
        refine T_iload (pc' := 298) d_Mo_own_296 rfl rfl ?_
        refine T_ishl (pc' := 299) d_Mo_own_298 rfl ?_
        refine T_ior (pc' := 300) d_Mo_own_299 rfl ?_
        refine T_iadd (pc' := 301) d_Mo_own_300 rfl ?_
        rw [nI_1, s_16, s_orN T' hT k (by omega) hc', nI_add]
        refine T_ialoadN (16 * (o + 1) + (T' + 2 ^ k)) (pc' := 302) d_Mo_own_301 rfl e_put_s ⟨by omega, by decide⟩ ?_
        rw [hF (o + 1) (by omega) (by omega) (T' + 2 ^ k) hpa.1]
        refine T_iadd (pc' := 303) d_Mo_own_302 rfl ?_
        refine T_aload_n (pc' := 304) d_Mo_own_303 rfl rfl rfl ?_
        refine T_get (pc' := 307) d_Mo_own_304 rfl g_Mo_60 h0' rfl ?_
        refine T_bipush (v := 16) (pc' := 309) d_Mo_own_307 rfl (by decide) ?_
        refine T_iload (pc' := 311) d_Mo_own_309 rfl rfl ?_
        refine T_imul (pc' := 312) d_Mo_own_311 rfl ?_
        refine T_iload_n (pc' := 313) d_Mo_own_312 rfl rfl rfl ?_
        refine T_iadd (pc' := 314) d_Mo_own_313 rfl ?_
        rw [s_1a, s_16, nI_add]
        refine T_ialoadN (16 * o + T') (pc' := 315) d_Mo_own_314 rfl e_put_s ⟨by omega, by decide⟩ ?_
        rw [hF o (by omega) (by omega) T' hT]
        by_cases he : 1 + mV (oA li we m) n m (n - (o + 1)) (T' + 2 ^ k) = mV (oA li we m) n m (n - o) T'
        · refine T_icmp_ne (pc' := 318) (tgt := 323) d_Mo_own_315 rfl (by decide) (fun hzz => absurd (by rw [he]) hzz) (fun _ => ?_)
          refine T_iload (pc' := 320) d_Mo_own_318 rfl rfl ?_
          refine T_goto (pc' := 324) d_Mo_own_320 (by decide) ?_
          have := c7 k (by rw [if_pos ⟨⟨hb', hc'⟩, he⟩]) 1
          rw [show oN m k = nI k from if_pos (by omega)] at this
          exact this
        · refine T_icmp_ne (pc' := 318) (tgt := 323) d_Mo_own_315 rfl (by decide) (fun _ => ?_) (fun hzz => absurd hzz (fun q => he ((nI_eq (by omega) (by omega)).mp q)))
          refine T_iload_n (pc' := 324) d_Mo_own_323 rfl rfl rfl ?_
          exact c7 G (by rw [if_neg (fun q => he q.2)]) 1
    · refine T_if_eq (pc' := 261) (tgt := 274) d_Mo_own_258 rfl (by decide) (fun _ => ?_) (fun hzz => absurd (by decide) hzz)
      refine T_iconst (v := 0) (pc' := 275) d_Mo_own_274 rfl (by decide) ?_
      refine T_is6 (pc' := 277) d_Mo_own_275 rfl (Nat.le_of_ble_eq_true rfl) rfl ?_
      refine T_iload (pc' := 279) d_Mo_own_277 rfl rfl ?_
      refine T_if_eq (pc' := 282) (tgt := 323) d_Mo_own_279 rfl (by decide) (fun _ => ?_) (fun hzz => absurd (by decide) hzz)
      refine T_iload_n (pc' := 324) d_Mo_own_323 rfl rfl rfl ?_
      exact c7 G (by rw [if_neg (fun q => hb ((s_hasN _ hl16 k (by omega)).mpr q.1.1))]) 0
theorem l_mown6 (pn : Nat) (hpn : pn < n) (hn : n ≤ 3) (hm : m ≤ 4) (mt : MT h n m wi we br li fa) (F : Nat → Int32) (hF : MWO (oA li we m) n m F 0) (Q : Option Value → AH → Prop) (hQ : Q (some (.int (oN m (gF (oA li we m) n m pn (gT (oA li we m) n m pn))))) (e_put h 103 (.inl (0, 64, F)))) : ∀ (k o : Nat), o + k = pn + 1 → ∀ x : Int32, (o = pn + 1 → x = oN m (gF (oA li we m) n m pn (gT (oA li we m) n m pn))) → T X (d + 1) M_Mo_own 223 [.ref 86, .int (nI pn), .int (nI (gT (oA li we m) n m o)), .int x, .int (nI o), .null, .null, .null] [] (e_put h 103 (.inl (0, 64, F))) Q
  | 0, o, ho, x, hx => by
    have : o = pn + 1 := by omega
    subst this
    rw [hx rfl]
    refine T_iload (pc' := 225) d_Mo_own_223 rfl rfl ?_
    refine T_iload_n (pc' := 226) d_Mo_own_225 rfl rfl rfl ?_
    refine T_icmp_gt (pc' := 229) (tgt := 353) d_Mo_own_226 rfl (by decide) (fun _ => ?_) (fun hzz => absurd (nI_lt (by omega) (by omega)) hzz)
    refine T_iload_n (pc' := 354) d_Mo_own_353 rfl rfl rfl ?_
    refine T_iret d_Mo_own_354 rfl ?_
    exact hQ
  | k + 1, o, ho, x, hx => by
    have ih := l_mown6 pn hpn hn hm mt F hF Q hQ k (o + 1) (by omega)
    obtain ⟨⟨sc, tc, h0⟩, -, -, -, -, ⟨f5, h5, e5⟩, -⟩ := id mt
    have h0' : (e_put h 103 (.inl (0, 64, F))).2 86 = some (oMo sc tc) := (e_put_n (by decide)).trans h0
    have hT := gT_lt (oA li we m) n m hm o
    obtain ⟨g1, g2, -⟩ := mG_is (oA li we m o) (mV (oA li we m) n m (n - (o + 1))) (mV (oA li we m) n m (n - o) (gT (oA li we m) n m o)) m (gT (oA li we m) n m o) m (Nat.le_refl _)
    have eg : mG (oA li we m o) (mV (oA li we m) n m (n - (o + 1))) (mV (oA li we m) n m (n - o) (gT (oA li we m) n m o)) m (gT (oA li we m) n m o) m = gF (oA li we m) n m o (gT (oA li we m) n m o) := rfl
    rw [eg] at g1 g2
    refine T_iload (pc' := 225) d_Mo_own_223 rfl rfl ?_
    refine T_iload_n (pc' := 226) d_Mo_own_225 rfl rfl rfl ?_
    refine T_icmp_gt (pc' := 229) (tgt := 353) d_Mo_own_226 rfl (by decide) (fun hzz => absurd hzz (nI_nlt (by omega) (by omega))) (fun _ => ?_)
    refine T_bipush (v := (-9)) (pc' := 231) d_Mo_own_229 rfl (by decide) ?_
    refine T_is_n3 (pc' := 232) d_Mo_own_231 rfl rfl (Nat.le_of_ble_eq_true rfl) rfl ?_
    refine T_aload_n (pc' := 233) d_Mo_own_232 rfl rfl rfl ?_
    refine T_get (pc' := 236) d_Mo_own_233 rfl g_Mo_29 (by first | exact h0' | exact (e_put_n (by decide)).trans h5) rfl ?_
    refine T_iconst (v := 0) (pc' := 237) d_Mo_own_236 rfl (by decide) ?_
    refine T_ialoadL 0 (pc' := 238) d_Mo_own_237 rfl (by first | exact h0' | exact (e_put_n (by decide)).trans h5) (by decide) ?_
    rw [e5]
    refine T_iconst (v := 1) (pc' := 239) d_Mo_own_238 rfl (by decide) ?_
    refine T_isub (pc' := 240) d_Mo_own_239 rfl ?_
    refine T_is5 (pc' := 242) d_Mo_own_240 rfl (Nat.le_of_ble_eq_true rfl) rfl ?_
    refine T_fg (ls' := [.ref 86, .int (nI pn), .int (nI (gT (oA li we m) n m o)), .int (oN m (mG (oA li we m o) (mV (oA li we m) n m (n - (o + 1))) (mV (oA li we m) n m (n - o) (gT (oA li we m) n m o)) m (gT (oA li we m) n m o) 0)), .int (nI o), .int (nI m - 1), .null, .null]) (by simp [e_le, mG, oN]) ?_
    refine l_mown5 X d h n m wi we br li fa pn hn hm mt o _ (by omega) hT F hF Q ?_ m 0 (by omega)
    rw [gT] at ih
    refine T_iload_n (pc' := 332) d_Mo_own_331 rfl rfl rfl ?_
    refine T_iload_n (pc' := 333) d_Mo_own_332 rfl rfl rfl ?_
    refine T_bipush (v := (-9)) (pc' := 335) d_Mo_own_333 rfl (by decide) ?_
    by_cases hf : gF (oA li we m) n m o (gT (oA li we m) n m o) < m
    · obtain ⟨-, g4, -⟩ := g1 hf
      have eo : oN m (gF (oA li we m) n m o (gT (oA li we m) n m o)) = nI (gF (oA li we m) n m o (gT (oA li we m) n m o)) := if_pos hf
      rw [if_pos hf] at ih
      refine T_icmp_ne (pc' := 338) (tgt := 342) d_Mo_own_335 rfl (by decide) (fun _ => ?_) (fun hzz => absurd hzz (by rw [eo]; exact nI_ne9 (by omega)))
      refine T_iconst (v := 1) (pc' := 343) d_Mo_own_342 rfl (by decide) ?_
      refine T_iload_n (pc' := 344) d_Mo_own_343 rfl rfl rfl ?_
      refine T_ishl (pc' := 345) d_Mo_own_344 rfl ?_
      rw [eo]
      refine T_ior (pc' := 346) d_Mo_own_345 rfl ?_
      rw [s_orN _ hT _ (by omega) g4.2]
      refine T_is_n2 (pc' := 347) d_Mo_own_346 rfl rfl (Nat.le_of_ble_eq_true rfl) rfl ?_
      refine T_ii4 (c := 1) (pc' := 350) d_Mo_own_347 rfl (by decide) (Nat.le_of_ble_eq_true rfl) rfl ?_
      rw [nI_1]
      refine T_goto (pc' := 223) d_Mo_own_350 (by decide) ?_
      refine T_fg (by simp [e_le]; exact eo) (ih (oN m (gF (oA li we m) n m o (gT (oA li we m) n m o))) (fun e => ?_))
      rw [show o = pn by omega]
    · have eo : oN m (gF (oA li we m) n m o (gT (oA li we m) n m o)) = -9 := if_neg hf
      rw [if_neg hf] at ih
      refine T_icmp_ne (pc' := 338) (tgt := 342) d_Mo_own_335 rfl (by decide) (fun hzz => absurd eo hzz) (fun _ => ?_)
      refine T_iconst (v := 0) (pc' := 339) d_Mo_own_338 rfl (by decide) ?_
      refine T_goto (pc' := 345) d_Mo_own_339 (by decide) ?_
      refine T_ior (pc' := 346) d_Mo_own_345 rfl ?_
      rw [i_or0]
      refine T_is_n2 (pc' := 347) d_Mo_own_346 rfl rfl (Nat.le_of_ble_eq_true rfl) rfl ?_
      refine T_ii4 (c := 1) (pc' := 350) d_Mo_own_347 rfl (by decide) (Nat.le_of_ble_eq_true rfl) rfl ?_
      rw [nI_1]
      refine T_goto (pc' := 223) d_Mo_own_350 (by decide) ?_
      refine T_fg (by simp [e_le]) (ih (oN m (gF (oA li we m) n m o (gT (oA li we m) n m o))) (fun e => ?_))
      rw [show o = pn by omega]
end OWN3
/-- behind a use of the row of the most -/
theorem MI_many {h : AH} {σ : Sp} {f : Nat → Int32} (mi : MI h σ) : MI (e_put h 103 (.inl (0, 64, f))) σ ∧ Fr 86 109 h (e_put h 103 (.inl (0, 64, f))) := by
  obtain ⟨g, r10⟩ := mi.2.2.2.2.2.2.2.2.2.2.1
  have ex : Ex [102, 103] h (e_put h 103 (.inl (0, 64, f))) := Ex.rf.put (by decide)
  exact ⟨MI_scr mi ex ((e_put_n (by decide)).trans r10) e_put_s, ex.fr (by decide)⟩
theorem p_Mo_own (X : EX) (d : Nat) (h : AH) (σ : Sp) (p : Int32) (mi : MI h σ) (si : SI σ) : Ci X (d + 20) M_Mo_own [.ref 86, .int p] h (fun v h1 => v = q_own σ p ∧ MI h1 σ ∧ Fr 86 109 h h1) := by
  have hn := si.1.2.1
  have hm := si.1.2.2.1
  have mt := mi.2.2.1
  obtain ⟨sc, r0, -⟩ := mi.1
  obtain ⟨f11, r11⟩ := mi.2.2.2.2.2.2.2.2.2.2.2.1
  obtain ⟨⟨sc', tc', h0⟩, -, ⟨f2, h2, e2⟩, -⟩ := id mt
  have hs : h = e_put h 103 (.inl (0, 64, f11)) := (e_put_self r11).symm
  have t15 : ∀ Q : Option Value → AH → Prop, (∀ F, MWO (oAs σ) (σ.1 1) (σ.1 2) F 0 → T X (d + 20) M_Mo_own 203 [.ref 86, .int p, .null, .null, .null, .null, .null, .null] [] (e_put h 103 (.inl (0, 64, F))) Q) → T X (d + 20) M_Mo_own 15 [.ref 86, .int p, .null, .null, .null, .null, .null, .null] [] h Q := fun Q hk => by
    refine T_iconst (v := 0) (pc' := 16) d_Mo_own_15 rfl (by decide) ?_
    refine T_is_n2 (pc' := 17) d_Mo_own_16 rfl rfl (Nat.le_of_ble_eq_true rfl) rfl ?_
    have l1 := l_mown1 X (d + 20) h (σ.1 1) (σ.1 2) _ _ _ _ _ p hn mt Q (fun F hF => by
      refine T_aload_n (pc' := 47) d_Mo_own_46 rfl rfl rfl ?_
      refine T_get (pc' := 50) d_Mo_own_47 rfl g_Mo_17 (by first | exact (e_put_n (by decide)).trans h0 | exact (e_put_n (by decide)).trans h2) rfl ?_
      refine T_iconst (v := 0) (pc' := 51) d_Mo_own_50 rfl (by decide) ?_
      refine T_ialoadL 0 (pc' := 52) d_Mo_own_51 rfl (by first | exact (e_put_n (by decide)).trans h0 | exact (e_put_n (by decide)).trans h2) (by decide) ?_
      rw [e2]
      refine T_iconst (v := 1) (pc' := 53) d_Mo_own_52 rfl (by decide) ?_
      refine T_isub (pc' := 54) d_Mo_own_53 rfl ?_
      refine T_is_n2 (pc' := 55) d_Mo_own_54 rfl rfl (Nat.le_of_ble_eq_true rfl) rfl ?_
      exact l_mown4 X _ h (σ.1 1) (σ.1 2) _ _ _ _ _ p hn hm mt Q hk (σ.1 1) (Nat.le_refl _) F hF) 16 0 rfl f11 (fun T hT => absurd hT (by omega))
    rw [← hs] at l1
    exact l1
  refine C_of_T rfl rfl (Nat.le_of_ble_eq_true rfl) rfl ?_
  rw [q_own]
  refine T_iload_n (pc' := 1) d_Mo_own_0 rfl rfl rfl ?_
  refine T_iconst (v := (-1)) (pc' := 2) d_Mo_own_1 rfl (by decide) ?_
  by_cases hp1 : p = -1
  · refine T_icmp_eq (pc' := 5) (tgt := 15) d_Mo_own_2 rfl (by decide) (fun _ => ?_) (fun hzz => absurd hp1 hzz)
    refine t15 _ (fun F hF => ?_)
    refine T_iload_n (pc' := 204) d_Mo_own_203 rfl rfl rfl ?_
    refine T_iconst (v := (-1)) (pc' := 205) d_Mo_own_204 rfl (by decide) ?_
    refine T_icmp_ne (pc' := 208) (tgt := 215) d_Mo_own_205 rfl (by decide) (fun hzz => absurd hp1 hzz) (fun _ => ?_)
    refine T_aload_n (pc' := 209) d_Mo_own_208 rfl rfl rfl ?_
    refine T_get (pc' := 212) d_Mo_own_209 rfl g_Mo_60 (by first | exact (e_put_n (by decide)).trans h0 | exact e_put_s) rfl ?_
    refine T_iconst (v := 0) (pc' := 213) d_Mo_own_212 rfl (by decide) ?_
    refine T_ialoadL 0 (pc' := 214) d_Mo_own_213 rfl (by first | exact (e_put_n (by decide)).trans h0 | exact e_put_s) (by decide) ?_
    have e0 := hF 0 (Nat.le_refl _) (by omega) 0 (by omega)
    rw [show 16 * 0 + 0 = 0 from rfl, show σ.1 1 - 0 = σ.1 1 by omega] at e0
    rw [e0]
    refine T_iret d_Mo_own_214 rfl ?_
    obtain ⟨m1, m2⟩ := MI_many (f := F) mi
    exact ⟨_, rfl, by rw [if_pos hp1], m1, m2⟩
  · refine T_icmp_eq (pc' := 5) (tgt := 15) d_Mo_own_2 rfl (by decide) (fun hzz => absurd hzz hp1) (fun _ => ?_)
    rw [if_neg hp1]
    refine T_aload_n (pc' := 6) d_Mo_own_5 rfl rfl rfl ?_
    refine T_iload_n (pc' := 7) d_Mo_own_6 rfl rfl rfl ?_
    refine T_V1i (pc' := 10) d_Mo_own_7 rfl l_Mo_152 v_Mo_isOne (by first | assumption | exact e_put_s | simp [e_put, *]) (Nat.le_of_ble_eq_true rfl) (c_Mo_isOne X _ h _ _ _ _ _ _ _ p hn mt) (fun v h1 hq => ?_)
    obtain ⟨rfl, ⟨hp, rfl⟩ | ⟨hp, rfl⟩⟩ := hq
    · refine T_if_ne (pc' := 13) (tgt := 15) d_Mo_own_10 rfl (by decide) (fun _ => ?_) (fun hzz => absurd hzz (by decide))
      have hok : okP (σ.1 1) p := (isP_iff (by omega) p).mp hp
      rw [if_pos hok]
      obtain ⟨i, hi, rfl⟩ := hp
      rw [nI_clamp (by omega)]
      refine t15 _ (fun F hF => ?_)
      refine T_iload_n (pc' := 204) d_Mo_own_203 rfl rfl rfl ?_
      refine T_iconst (v := (-1)) (pc' := 205) d_Mo_own_204 rfl (by decide) ?_
      refine T_icmp_ne (pc' := 208) (tgt := 215) d_Mo_own_205 rfl (by decide) (fun _ => ?_) (fun hzz => absurd hzz hp1)
      refine T_iconst (v := 0) (pc' := 216) d_Mo_own_215 rfl (by decide) ?_
      refine T_is_n2 (pc' := 217) d_Mo_own_216 rfl rfl (Nat.le_of_ble_eq_true rfl) rfl ?_
      refine T_bipush (v := (-9)) (pc' := 219) d_Mo_own_217 rfl (by decide) ?_
      refine T_is_n3 (pc' := 220) d_Mo_own_219 rfl rfl (Nat.le_of_ble_eq_true rfl) rfl ?_
      refine T_iconst (v := 0) (pc' := 221) d_Mo_own_220 rfl (by decide) ?_
      refine T_is4 (pc' := 223) d_Mo_own_221 rfl (Nat.le_of_ble_eq_true rfl) rfl ?_
      obtain ⟨m1, m2⟩ := MI_many (f := F) mi
      exact l_mown6 X _ h1 (σ.1 1) (σ.1 2) _ _ _ _ _ i hi hn hm mt F hF _ ⟨_, rfl, rfl, m1, m2⟩ (i + 1) 0 (by omega) _ (fun e => absurd e (by omega))
    · refine T_if_ne (pc' := 13) (tgt := 15) d_Mo_own_10 rfl (by decide) (fun hzz => absurd (by decide) hzz) (fun _ => ?_)
      refine T_iconst (v := (-1)) (pc' := 14) d_Mo_own_13 rfl (by decide) ?_
      refine T_iret d_Mo_own_14 rfl ?_
      exact ⟨_, rfl, by rw [if_neg (fun q => hp ((isP_iff (by omega) p).mpr q))], mi, Fr.rf⟩
