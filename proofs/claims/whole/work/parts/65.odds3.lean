/-! odds: the model -/
theorem s_has64 : ∀ t, t < 64 → ∀ i, i < 6 → (sHas (nI t) (nI i) ↔ bN t i) := by decide +kernel
theorem s_shl6 : ∀ m, m < 7 → (1 : Int32) <<< (nI m &&& 31) = nI (2 ^ m) := by decide +kernel
section ODDS4
variable (X : EX) (d : Nat) (h : AH) (σ : Sp)
theorem l_mod1 (hh x N t : Nat) (cell w up : Int32) (h9 : 1 ≤ hh ∧ hh ≤ 9) (hx : x ≤ 10) (hN : N ≤ 6) (ht : t < 64) (mi : MI h σ) (Q : Option Value → AH → Prop) (hk : T X (d + 1) M_Mo_odds 171 [.ref 86, .int (nI hh), .int cell, .int (nI N), .int (nI x), .int w, .int up, .int 1, .int (nI t), .int (nI (pW (σ.2.1 6 1) (σ.2.1 1 hh) (10 - x) x t N)), .int (pC (σ.2.1 6 1) (σ.2.1 1 hh) t N), .null] [] h Q) : ∀ (k i : Nat), i + k = N → T X (d + 1) M_Mo_odds 84 [.ref 86, .int (nI hh), .int cell, .int (nI N), .int (nI x), .int w, .int up, .int 1, .int (nI t), .int (nI (pW (σ.2.1 6 1) (σ.2.1 1 hh) (10 - x) x t i)), .int (pC (σ.2.1 6 1) (σ.2.1 1 hh) t i), .int (nI i)] [] h Q
  | 0, i, hi => by
    have : i = N := by omega
    subst this
    refine T_iload (pc' := 86) d_Mo_odds_84 rfl rfl ?_
    refine T_iload_n (pc' := 87) d_Mo_odds_86 rfl rfl rfl ?_
    refine T_icmp_ge (pc' := 90) (tgt := 171) d_Mo_odds_87 rfl (by decide) (fun _ => ?_) (fun hzz => absurd (Int32.le_refl _) hzz)
    exact T_fg (by simp [e_le]) hk
  | k + 1, i, hi => by
    have ih := l_mod1 hh x N t cell w up h9 hx hN ht mi Q hk k (i + 1) (by omega)
    obtain ⟨⟨sc, tc, h0⟩, ⟨f1, h1, e1⟩, -⟩ := mi.2.2.1
    have hb := s_has64 t ht i (by omega)
    have c9 : ∀ W : Nat, (W = pW (σ.2.1 6 1) (σ.2.1 1 hh) (10 - x) x t i * (if bN t i then x else 10 - x)) → ∀ c : Int32, c = pC (σ.2.1 6 1) (σ.2.1 1 hh) t (i + 1) → T X (d + 1) M_Mo_odds 146 [.ref 86, .int (nI hh), .int cell, .int (nI N), .int (nI x), .int w, .int up, .int 1, .int (nI t), .int (nI W), .int c, .int (nI i)] [] h Q := by
      intro W hW c hc
      rw [pW, ← hW, ← hc] at ih
      refine T_iload (pc' := 148) d_Mo_odds_146 rfl rfl ?_
      refine T_iconst (v := 0) (pc' := 149) d_Mo_odds_148 rfl (by decide) ?_
      refine T_bipush (v := 40) (pc' := 151) d_Mo_odds_149 rfl (by decide) ?_
      refine T_S3i (pc' := 154) d_Mo_odds_151 rfl l_Mo_78 v_Mo_in (Nat.le_of_ble_eq_true rfl) (c_Mo_in X _ h c 0 40) (fun v h2 hq => ?_)
      obtain ⟨rfl, ⟨q, rfl⟩ | ⟨q, rfl⟩⟩ := hq
      · refine T_if_eq (pc' := 157) (tgt := 162) d_Mo_odds_154 rfl (by decide) (fun hzz => absurd hzz (by decide)) (fun _ => ?_)
        rw [if_pos q] at ih
        refine T_iload (pc' := 159) d_Mo_odds_157 rfl rfl ?_
        refine T_goto (pc' := 163) d_Mo_odds_159 (by decide) ?_
        refine T_is9 (pc' := 165) d_Mo_odds_163 rfl (Nat.le_of_ble_eq_true rfl) rfl ?_
        refine T_ii11 (c := 1) (pc' := 168) d_Mo_odds_165 rfl (by decide) (Nat.le_of_ble_eq_true rfl) rfl ?_
        rw [nI_1]
        refine T_goto (pc' := 84) d_Mo_odds_168 (by decide) ?_
        exact ih
      · refine T_if_eq (pc' := 157) (tgt := 162) d_Mo_odds_154 rfl (by decide) (fun _ => ?_) (fun hzz => absurd (by decide) hzz)
        rw [if_neg q] at ih
        refine T_iconst (v := 0) (pc' := 163) d_Mo_odds_162 rfl (by decide) ?_
        refine T_is9 (pc' := 165) d_Mo_odds_163 rfl (Nat.le_of_ble_eq_true rfl) rfl ?_
        refine T_ii11 (c := 1) (pc' := 168) d_Mo_odds_165 rfl (by decide) (Nat.le_of_ble_eq_true rfl) rfl ?_
        rw [nI_1]
        refine T_goto (pc' := 84) d_Mo_odds_168 (by decide) ?_
        exact ih
    refine T_iload (pc' := 86) d_Mo_odds_84 rfl rfl ?_
    refine T_iload_n (pc' := 87) d_Mo_odds_86 rfl rfl rfl ?_
    refine T_icmp_ge (pc' := 90) (tgt := 171) d_Mo_odds_87 rfl (by decide) (fun hzz => absurd hzz (nI_ge (by omega) (by omega))) (fun _ => ?_)
    refine T_iload (pc' := 92) d_Mo_odds_90 rfl rfl ?_
    refine T_iload (pc' := 94) d_Mo_odds_92 rfl rfl ?_
    refine T_iload (pc' := 96) d_Mo_odds_94 rfl rfl ?_
    refine T_S2i (pc' := 99) d_Mo_odds_96 rfl l_Mo_140 v_Mo_has (Nat.le_of_ble_eq_true rfl) (c_Mo_has X _ h (nI t) (nI i)) (fun v h2 hq => ?_)
    obtain ⟨rfl, ⟨q, rfl⟩ | ⟨q, rfl⟩⟩ := hq
    · have q' := hb.mp q
      refine T_if_eq (pc' := 102) (tgt := 107) d_Mo_odds_99 rfl (by decide) (fun hzz => absurd hzz (by decide)) (fun _ => ?_)
      refine T_iload (pc' := 104) d_Mo_odds_102 rfl rfl ?_
      refine T_goto (pc' := 112) d_Mo_odds_104 (by decide) ?_
      refine T_imul (pc' := 113) d_Mo_odds_112 rfl ?_
      rw [pk_mul]
      refine T_is9 (pc' := 115) d_Mo_odds_113 rfl (Nat.le_of_ble_eq_true rfl) rfl ?_
      refine T_iload (pc' := 117) d_Mo_odds_115 rfl rfl ?_
      refine T_iload (pc' := 119) d_Mo_odds_117 rfl rfl ?_
      refine T_iload (pc' := 121) d_Mo_odds_119 rfl rfl ?_
      refine T_S2i (pc' := 124) d_Mo_odds_121 rfl l_Mo_140 v_Mo_has (Nat.le_of_ble_eq_true rfl) (c_Mo_has X _ h2 (nI t) (nI i)) (fun v h3 hq => ?_)
      obtain ⟨rfl, ⟨q2, rfl⟩ | ⟨q2, rfl⟩⟩ := hq
      · refine T_if_eq (pc' := 127) (tgt := 137) d_Mo_odds_124 rfl (by decide) (fun hzz => absurd hzz (by decide)) (fun _ => ?_)
        refine T_aload_n (pc' := 128) d_Mo_odds_127 rfl rfl rfl ?_
        refine T_get (pc' := 131) d_Mo_odds_128 rfl g_Mo_13 (by first | assumption | exact e_put_s | simp [e_put, *]) rfl ?_
        refine T_iload_n (pc' := 132) d_Mo_odds_131 rfl rfl rfl ?_
        refine T_ialoadN hh (pc' := 133) d_Mo_odds_132 rfl h1 ⟨by omega, by decide⟩ ?_
        rw [e1 hh (by omega) (by omega)]
        refine T_ineg (pc' := 134) d_Mo_odds_133 rfl ?_
        refine T_goto (pc' := 143) d_Mo_odds_134 (by decide) ?_
        refine T_iadd (pc' := 144) d_Mo_odds_143 rfl ?_
        refine T_is10 (pc' := 146) d_Mo_odds_144 rfl (Nat.le_of_ble_eq_true rfl) rfl ?_
        exact c9 _ (by rw [if_pos q']) _ (by rw [pC, if_pos q'])
      · exact absurd q q2
    · have q' : ¬ bN t i := fun z => q (hb.mpr z)
      refine T_if_eq (pc' := 102) (tgt := 107) d_Mo_odds_99 rfl (by decide) (fun _ => ?_) (fun hzz => absurd (by decide) hzz)
      refine T_bipush (v := 10) (pc' := 109) d_Mo_odds_107 rfl (by decide) ?_
      refine T_iload (pc' := 111) d_Mo_odds_109 rfl rfl ?_
      refine T_isub (pc' := 112) d_Mo_odds_111 rfl ?_
      rw [s_10x x hx]
      refine T_imul (pc' := 113) d_Mo_odds_112 rfl ?_
      rw [pk_mul]
      refine T_is9 (pc' := 115) d_Mo_odds_113 rfl (Nat.le_of_ble_eq_true rfl) rfl ?_
      refine T_iload (pc' := 117) d_Mo_odds_115 rfl rfl ?_
      refine T_iload (pc' := 119) d_Mo_odds_117 rfl rfl ?_
      refine T_iload (pc' := 121) d_Mo_odds_119 rfl rfl ?_
      refine T_S2i (pc' := 124) d_Mo_odds_121 rfl l_Mo_140 v_Mo_has (Nat.le_of_ble_eq_true rfl) (c_Mo_has X _ h2 (nI t) (nI i)) (fun v h3 hq => ?_)
      obtain ⟨rfl, ⟨q2, rfl⟩ | ⟨q2, rfl⟩⟩ := hq
      · exact absurd q2 q
      · refine T_if_eq (pc' := 127) (tgt := 137) d_Mo_odds_124 rfl (by decide) (fun _ => ?_) (fun hzz => absurd (by decide) hzz)
        refine T_aload_n (pc' := 138) d_Mo_odds_137 rfl rfl rfl ?_
        refine T_get (pc' := 141) d_Mo_odds_138 rfl g_Mo_13 (by first | assumption | exact e_put_s | simp [e_put, *]) rfl ?_
        refine T_iload_n (pc' := 142) d_Mo_odds_141 rfl rfl rfl ?_
        refine T_ialoadN hh (pc' := 143) d_Mo_odds_142 rfl h1 ⟨by omega, by decide⟩ ?_
        rw [e1 hh (by omega) (by omega)]
        refine T_iadd (pc' := 144) d_Mo_odds_143 rfl ?_
        refine T_is10 (pc' := 146) d_Mo_odds_144 rfl (Nat.le_of_ble_eq_true rfl) rfl ?_
        exact c9 _ (by rw [if_neg q']) _ (by rw [pC, if_neg q'])
theorem l_mod2 (hh x N : Nat) (cell w : Int32) (h9 : 1 ≤ hh ∧ hh ≤ 9) (hx : x ≤ 10) (hN : N ≤ 6) (mi : MI h σ) (Q : Option Value → AH → Prop) (hk : T X (d + 1) M_Mo_odds 194 [.ref 86, .int (nI hh), .int cell, .int (nI N), .int (nI x), .int w, .int (nI (pS (σ.2.1 6 1) (σ.2.1 1 hh) (10 - x) x N cell (2 ^ N))), .int 1, .null, .null, .null, .null] [] h Q) : ∀ (k t : Nat), t + k = 2 ^ N → T X (d + 1) M_Mo_odds 62 [.ref 86, .int (nI hh), .int cell, .int (nI N), .int (nI x), .int w, .int (nI (pS (σ.2.1 6 1) (σ.2.1 1 hh) (10 - x) x N cell t)), .int 1, .int (nI t), .null, .null, .null] [] h Q
  | 0, t, ht => by
    have : t = 2 ^ N := by omega
    subst this
    refine T_iload (pc' := 64) d_Mo_odds_62 rfl rfl ?_
    refine T_iconst (v := 1) (pc' := 65) d_Mo_odds_64 rfl (by decide) ?_
    refine T_iload_n (pc' := 66) d_Mo_odds_65 rfl rfl rfl ?_
    refine T_ishl (pc' := 67) d_Mo_odds_66 rfl ?_
    rw [s_shl6 N (by omega)]
    refine T_icmp_ge (pc' := 70) (tgt := 194) d_Mo_odds_67 rfl (by decide) (fun _ => ?_) (fun hzz => absurd (Int32.le_refl _) hzz)
    exact T_fg (by simp [e_le]) hk
  | k + 1, t, ht => by
    have ih := l_mod2 hh x N cell w h9 hx hN mi Q hk k (t + 1) (by omega)
    have h64 := pow_64 hN
    have r5 := mi.2.2.2.2.2.1
    obtain ⟨sc, r0, -⟩ := mi.1
    refine T_iload (pc' := 64) d_Mo_odds_62 rfl rfl ?_
    refine T_iconst (v := 1) (pc' := 65) d_Mo_odds_64 rfl (by decide) ?_
    refine T_iload_n (pc' := 66) d_Mo_odds_65 rfl rfl rfl ?_
    refine T_ishl (pc' := 67) d_Mo_odds_66 rfl ?_
    rw [s_shl6 N (by omega)]
    refine T_icmp_ge (pc' := 70) (tgt := 194) d_Mo_odds_67 rfl (by decide) (fun hzz => absurd hzz (nI_ge (by omega) (by omega))) (fun _ => ?_)
    refine T_iconst (v := 1) (pc' := 71) d_Mo_odds_70 rfl (by decide) ?_
    refine T_is9 (pc' := 73) d_Mo_odds_71 rfl (Nat.le_of_ble_eq_true rfl) rfl ?_
    refine T_aload_n (pc' := 74) d_Mo_odds_73 rfl rfl rfl ?_
    refine T_get (pc' := 77) d_Mo_odds_74 rfl g_Mo_41 (by first | assumption | exact e_put_s | simp [e_put, *]) rfl ?_
    refine T_iconst (v := 1) (pc' := 78) d_Mo_odds_77 rfl (by decide) ?_
    refine T_ialoadL 1 (pc' := 79) d_Mo_odds_78 rfl (by first | assumption | exact e_put_s | simp [e_put, *]) (by decide) ?_
    refine T_is10 (pc' := 81) d_Mo_odds_79 rfl (Nat.le_of_ble_eq_true rfl) rfl ?_
    refine T_iconst (v := 0) (pc' := 82) d_Mo_odds_81 rfl (by decide) ?_
    refine T_is11 (pc' := 84) d_Mo_odds_82 rfl (Nat.le_of_ble_eq_true rfl) rfl ?_
    refine l_mod1 X d h σ hh x N t cell w _ h9 hx hN (by omega) mi Q ?_ N 0 (by omega)
    rw [pS] at ih
    refine T_iload (pc' := 173) d_Mo_odds_171 rfl rfl ?_
    refine T_iload (pc' := 175) d_Mo_odds_173 rfl rfl ?_
    refine T_iload_n (pc' := 176) d_Mo_odds_175 rfl rfl rfl ?_
    by_cases hc : pC (σ.2.1 6 1) (σ.2.1 1 hh) t N = cell
    · rw [if_pos hc] at ih
      refine T_icmp_ne (pc' := 179) (tgt := 184) d_Mo_odds_176 rfl (by decide) (fun hzz => absurd hc hzz) (fun _ => ?_)
      refine T_iload (pc' := 181) d_Mo_odds_179 rfl rfl ?_
      refine T_goto (pc' := 185) d_Mo_odds_181 (by decide) ?_
      refine T_iadd (pc' := 186) d_Mo_odds_185 rfl ?_
      rw [nI_add]
      refine T_is6 (pc' := 188) d_Mo_odds_186 rfl (Nat.le_of_ble_eq_true rfl) rfl ?_
      refine T_ii8 (c := 1) (pc' := 191) d_Mo_odds_188 rfl (by decide) (Nat.le_of_ble_eq_true rfl) rfl ?_
      rw [nI_1]
      refine T_goto (pc' := 62) d_Mo_odds_191 (by decide) ?_
      exact T_fg (by simp [e_le]) ih
    · rw [if_neg hc] at ih
      refine T_icmp_ne (pc' := 179) (tgt := 184) d_Mo_odds_176 rfl (by decide) (fun _ => ?_) (fun hzz => absurd hzz hc)
      refine T_iconst (v := 0) (pc' := 185) d_Mo_odds_184 rfl (by decide) ?_
      refine T_iadd (pc' := 186) d_Mo_odds_185 rfl ?_
      rw [show ∀ y : Nat, nI y + 0 = nI (y + 0) from fun y => nI_add y 0]
      refine T_is6 (pc' := 188) d_Mo_odds_186 rfl (Nat.le_of_ble_eq_true rfl) rfl ?_
      refine T_ii8 (c := 1) (pc' := 191) d_Mo_odds_188 rfl (by decide) (Nat.le_of_ble_eq_true rfl) rfl ?_
      rw [nI_1]
      refine T_goto (pc' := 62) d_Mo_odds_191 (by decide) ?_
      exact T_fg (by simp [e_le]) ih
theorem l_mod3 (hh_ x_ : Int32) (N : Nat) (cell w up : Int32) (hN : N ≤ 6) (Q : Option Value → AH → Prop) (hk : T X d M_Mo_odds 216 [.ref 86, .int hh_, .int cell, .int (nI N), .int x_, .int w, .int up, .int (nI (10 ^ N)), .null, .null, .null, .null] [] h Q) : ∀ (k i : Nat), i + k = N → T X d M_Mo_odds 197 [.ref 86, .int hh_, .int cell, .int (nI N), .int x_, .int w, .int up, .int (nI (10 ^ i)), .int (nI i), .null, .null, .null] [] h Q
  | 0, i, hi => by
    have : i = N := by omega
    subst this
    refine T_iload (pc' := 199) d_Mo_odds_197 rfl rfl ?_
    refine T_iload_n (pc' := 200) d_Mo_odds_199 rfl rfl rfl ?_
    refine T_icmp_ge (pc' := 203) (tgt := 216) d_Mo_odds_200 rfl (by decide) (fun _ => ?_) (fun hzz => absurd (Int32.le_refl _) hzz)
    exact T_fg (by simp [e_le]) hk
  | k + 1, i, hi => by
    have ih := l_mod3 hh_ x_ N cell w up hN Q hk k (i + 1) (by omega)
    refine T_iload (pc' := 199) d_Mo_odds_197 rfl rfl ?_
    refine T_iload_n (pc' := 200) d_Mo_odds_199 rfl rfl rfl ?_
    refine T_icmp_ge (pc' := 203) (tgt := 216) d_Mo_odds_200 rfl (by decide) (fun hzz => absurd hzz (nI_ge (by omega) (by omega))) (fun _ => ?_)
    refine T_iload (pc' := 205) d_Mo_odds_203 rfl rfl ?_
    refine T_bipush (v := 10) (pc' := 207) d_Mo_odds_205 rfl (by decide) ?_
    refine T_imul (pc' := 208) d_Mo_odds_207 rfl ?_
    rw [show nI (10 ^ i) * 10 = nI (10 ^ i * 10) from pk_mul _ 10, ← Nat.pow_succ]
    refine T_is7 (pc' := 210) d_Mo_odds_208 rfl (Nat.le_of_ble_eq_true rfl) rfl ?_
    refine T_ii8 (c := 1) (pc' := 213) d_Mo_odds_210 rfl (by decide) (Nat.le_of_ble_eq_true rfl) rfl ?_
    rw [nI_1]
    refine T_goto (pc' := 197) d_Mo_odds_213 (by decide) ?_
    exact ih
theorem l_mod4 (l1 l2 l3 l4 l5 l6 l7 : Int32) (a0 b0 : Nat) (Q : Option Value → AH → Prop) (hk : T X d M_Mo_odds 247 [.ref 86, .int l1, .int l2, .int l3, .int l4, .int l5, .int l6, .int l7, .int (nI (Nat.gcd a0 b0)), .null, .null, .null] [] h Q) : ∀ (k a b : Nat), a < 2 ^ 31 → b < 2 ^ 31 → (eu k a b).2 = 0 → Nat.gcd a b = Nat.gcd a0 b0 → T X d M_Mo_odds 224 [.ref 86, .int l1, .int l2, .int l3, .int l4, .int l5, .int l6, .int l7, .int (nI a), .int (nI b), .null, .null] [] h Q
  | 0, a, b, ha, hb, he, hg => by
    have hz : b = 0 := he
    subst hz
    rw [Nat.gcd_zero_right] at hg
    refine T_iload (pc' := 226) d_Mo_odds_224 rfl rfl ?_
    refine T_if_eq (pc' := 229) (tgt := 247) d_Mo_odds_226 rfl (by decide) (fun _ => ?_) (fun hzz => absurd rfl hzz)
    rw [hg]
    exact T_fg (by simp [e_le]) hk
  | k + 1, a, b, ha, hb, he, hg => by
    have ih := l_mod4 l1 l2 l3 l4 l5 l6 l7 a0 b0 Q hk k b (a % b) hb
    refine T_iload (pc' := 226) d_Mo_odds_224 rfl rfl ?_
    rw [eu] at he
    by_cases hz : b = 0
    · subst hz
      rw [Nat.gcd_zero_right] at hg
      refine T_if_eq (pc' := 229) (tgt := 247) d_Mo_odds_226 rfl (by decide) (fun _ => ?_) (fun hzz => absurd rfl hzz)
      rw [hg]
      exact T_fg (by simp [e_le]) hk
    · rw [if_neg hz] at he
      have hne : ¬ nI b = 0 := nI_ne0 (by omega) hb
      have hlt := Nat.mod_lt a (show 0 < b by omega)
      refine T_if_eq (pc' := 229) (tgt := 247) d_Mo_odds_226 rfl (by decide) (fun hzz => absurd hzz hne) (fun _ => ?_)
      refine T_iload (pc' := 231) d_Mo_odds_229 rfl rfl ?_
      refine T_iload (pc' := 233) d_Mo_odds_231 rfl rfl ?_
      refine T_irem (pc' := 234) d_Mo_odds_233 rfl (by first | assumption | decide) ?_
      rw [pk_rem ha (by omega) hb]
      refine T_is10 (pc' := 236) d_Mo_odds_234 rfl (Nat.le_of_ble_eq_true rfl) rfl ?_
      refine T_iload (pc' := 238) d_Mo_odds_236 rfl rfl ?_
      refine T_is8 (pc' := 240) d_Mo_odds_238 rfl (Nat.le_of_ble_eq_true rfl) rfl ?_
      refine T_iload (pc' := 242) d_Mo_odds_240 rfl rfl ?_
      refine T_is9 (pc' := 244) d_Mo_odds_242 rfl (Nat.le_of_ble_eq_true rfl) rfl ?_
      refine T_goto (pc' := 224) d_Mo_odds_244 (by decide) ?_
      refine T_fg (by simp [e_le]) (ih (by omega) he ?_)
      rw [← hg, Nat.gcd_comm, ← Nat.gcd_rec, Nat.gcd_comm]
theorem p_Mo_odds (hh cell n x w : Int32) (mi : MI h σ) (si : SI σ) : Ci X (d + 20) M_Mo_odds [.ref 86, .int hh, .int cell, .int n, .int x, .int w] h (fun v h1 => v = q_odds σ hh cell n x w ∧ MI h1 σ ∧ Fr 86 109 h h1) := by
  refine C_of_T rfl rfl (Nat.le_of_ble_eq_true rfl) rfl ?_
  refine T_iload_n (pc' := 1) d_Mo_odds_0 rfl rfl rfl ?_
  refine T_iconst (v := 1) (pc' := 2) d_Mo_odds_1 rfl (by decide) ?_
  refine T_bipush (v := 9) (pc' := 4) d_Mo_odds_2 rfl (by decide) ?_
  refine T_S3i (pc' := 7) d_Mo_odds_4 rfl l_Mo_78 v_Mo_in (Nat.le_of_ble_eq_true rfl) (c_Mo_in X _ h hh 1 9) (fun v h1 hq => ?_)
  obtain ⟨rfl, ⟨q1, rfl⟩ | ⟨q1, rfl⟩⟩ := hq
  · refine T_if_eq (pc' := 10) (tgt := 51) d_Mo_odds_7 rfl (by decide) (fun hzz => absurd hzz (by decide)) (fun _ => ?_)
    refine T_iload_n (pc' := 11) d_Mo_odds_10 rfl rfl rfl ?_
    refine T_iconst (v := 0) (pc' := 12) d_Mo_odds_11 rfl (by decide) ?_
    refine T_bipush (v := 40) (pc' := 14) d_Mo_odds_12 rfl (by decide) ?_
    refine T_S3i (pc' := 17) d_Mo_odds_14 rfl l_Mo_78 v_Mo_in (Nat.le_of_ble_eq_true rfl) (c_Mo_in X _ h1 cell 0 40) (fun v h2 hq => ?_)
    obtain ⟨rfl, ⟨q2, rfl⟩ | ⟨q2, rfl⟩⟩ := hq
    · refine T_if_eq (pc' := 20) (tgt := 51) d_Mo_odds_17 rfl (by decide) (fun hzz => absurd hzz (by decide)) (fun _ => ?_)
      refine T_iload_n (pc' := 21) d_Mo_odds_20 rfl rfl rfl ?_
      refine T_iconst (v := 0) (pc' := 22) d_Mo_odds_21 rfl (by decide) ?_
      refine T_bipush (v := 6) (pc' := 24) d_Mo_odds_22 rfl (by decide) ?_
      refine T_S3i (pc' := 27) d_Mo_odds_24 rfl l_Mo_78 v_Mo_in (Nat.le_of_ble_eq_true rfl) (c_Mo_in X _ h2 n 0 6) (fun v h3 hq => ?_)
      obtain ⟨rfl, ⟨q3, rfl⟩ | ⟨q3, rfl⟩⟩ := hq
      · refine T_if_eq (pc' := 30) (tgt := 51) d_Mo_odds_27 rfl (by decide) (fun hzz => absurd hzz (by decide)) (fun _ => ?_)
        refine T_iload (pc' := 32) d_Mo_odds_30 rfl rfl ?_
        refine T_iconst (v := 0) (pc' := 33) d_Mo_odds_32 rfl (by decide) ?_
        refine T_bipush (v := 10) (pc' := 35) d_Mo_odds_33 rfl (by decide) ?_
        refine T_S3i (pc' := 38) d_Mo_odds_35 rfl l_Mo_78 v_Mo_in (Nat.le_of_ble_eq_true rfl) (c_Mo_in X _ h3 x 0 10) (fun v h4 hq => ?_)
        obtain ⟨rfl, ⟨q4, rfl⟩ | ⟨q4, rfl⟩⟩ := hq
        · refine T_if_eq (pc' := 41) (tgt := 51) d_Mo_odds_38 rfl (by decide) (fun hzz => absurd hzz (by decide)) (fun _ => ?_)
          refine T_iload (pc' := 43) d_Mo_odds_41 rfl rfl ?_
          refine T_iconst (v := 0) (pc' := 44) d_Mo_odds_43 rfl (by decide) ?_
          refine T_iconst (v := 1) (pc' := 45) d_Mo_odds_44 rfl (by decide) ?_
          refine T_S3i (pc' := 48) d_Mo_odds_45 rfl l_Mo_78 v_Mo_in (Nat.le_of_ble_eq_true rfl) (c_Mo_in X _ h4 w 0 1) (fun v h5 hq => ?_)
          obtain ⟨rfl, ⟨q5, rfl⟩ | ⟨q5, rfl⟩⟩ := hq
          · refine T_if_ne (pc' := 51) (tgt := 53) d_Mo_odds_48 rfl (by decide) (fun _ => ?_) (fun hzz => absurd hzz (by decide))
            rw [q_odds, if_pos ⟨⟨q1, q2, q3⟩, q4, q5⟩]
            obtain ⟨k1, hk1, rfl⟩ := nI_of2 (M := 9) (n := 9) (by decide) (Int32.not_lt.mpr (Int32.le_trans (by decide) q1.1)) q1.2
            have k11 : 1 ≤ k1 := by
              rcases Nat.eq_zero_or_pos k1 with z | z
              · subst z; exact absurd q1.1 (by decide)
              · exact z
            obtain ⟨k3, hk3, rfl⟩ := nI_of2 (M := 6) (n := 6) (by decide) (Int32.not_lt.mpr q3.1) q3.2
            obtain ⟨k4, hk4, rfl⟩ := nI_of2 (M := 10) (n := 10) (by decide) (Int32.not_lt.mpr q4.1) q4.2
            rw [nI_clamp (by omega), nI_clamp (by omega), nI_clamp (by omega)]
            obtain ⟨p10, p0⟩ := pow_10_6 hk3
            have hle := oG_le (σ.2.1 6 1) (σ.2.1 1 k1) (show (10 - k4) + k4 = 10 by omega) k3 cell
            refine T_iconst (v := 0) (pc' := 54) d_Mo_odds_53 rfl (by decide) ?_
            refine T_is6 (pc' := 56) d_Mo_odds_54 rfl (Nat.le_of_ble_eq_true rfl) rfl ?_
            refine T_iconst (v := 1) (pc' := 57) d_Mo_odds_56 rfl (by decide) ?_
            refine T_is7 (pc' := 59) d_Mo_odds_57 rfl (Nat.le_of_ble_eq_true rfl) rfl ?_
            refine T_iconst (v := 0) (pc' := 60) d_Mo_odds_59 rfl (by decide) ?_
            refine T_is8 (pc' := 62) d_Mo_odds_60 rfl (Nat.le_of_ble_eq_true rfl) rfl ?_
            refine l_mod2 X _ h5 σ k1 k4 k3 cell w ⟨k11, hk1⟩ hk4 hk3 mi _ ?_ (2 ^ k3) 0 (by omega)
            rw [pS_G _ _ _ _ k3 hk3 cell, show oG (σ.2.1 6 1) (σ.2.1 1 k1) (10 - k4) k4 k3 cell = sOd σ k1 k3 k4 cell from rfl]
            have hle' : sOd σ k1 k3 k4 cell ≤ 10 ^ k3 := hle
            generalize sOd σ k1 k3 k4 cell = U at hle'
            clear hle
            refine T_iconst (v := 0) (pc' := 195) d_Mo_odds_194 rfl (by decide) ?_
            refine T_is8 (pc' := 197) d_Mo_odds_195 rfl (Nat.le_of_ble_eq_true rfl) rfl ?_
            refine l_mod3 X _ h5 (nI k1) (nI k4) k3 cell w (nI U) hk3 _ ?_ k3 0 (by omega)
            refine T_iload (pc' := 218) d_Mo_odds_216 rfl rfl ?_
            refine T_is8 (pc' := 220) d_Mo_odds_218 rfl (Nat.le_of_ble_eq_true rfl) rfl ?_
            refine T_iload (pc' := 222) d_Mo_odds_220 rfl rfl ?_
            refine T_is9 (pc' := 224) d_Mo_odds_222 rfl (Nat.le_of_ble_eq_true rfl) rfl ?_
            have hg1 := Nat.gcd_pos_of_pos_left U p0
            have hg2 := Nat.gcd_le_left U p0
            have hne : ¬ nI (Nat.gcd (10 ^ k3) U) = 0 := nI_ne0 hg1 (by omega)
            refine l_mod4 X _ h5 _ _ _ _ _ _ _ (10 ^ k3) U _ ?_ 101 U (10 ^ k3) (by omega) (by omega) (eu_end 50 U (10 ^ k3) (Nat.lt_of_le_of_lt p10 (by decide))) (Nat.gcd_comm _ _)
            rcases s_01 q5 with rfl | rfl
            · refine T_iload (pc' := 249) d_Mo_odds_247 rfl rfl ?_
              refine T_if_ne (pc' := 252) (tgt := 260) d_Mo_odds_249 rfl (by decide) (fun hzz => absurd (by decide) hzz) (fun _ => ?_)
              refine T_iload (pc' := 254) d_Mo_odds_252 rfl rfl ?_
              refine T_iload (pc' := 256) d_Mo_odds_254 rfl rfl ?_
              refine T_idiv (pc' := 257) d_Mo_odds_256 rfl (by first | assumption | decide) ?_
              rw [pk_div (by omega) hg1 (by omega)]
              refine T_goto (pc' := 265) d_Mo_odds_257 (by decide) ?_
              refine T_iret d_Mo_odds_265 rfl ?_
              exact ⟨_, rfl, rfl, mi, Fr.rf⟩
            · refine T_iload (pc' := 249) d_Mo_odds_247 rfl rfl ?_
              refine T_if_ne (pc' := 252) (tgt := 260) d_Mo_odds_249 rfl (by decide) (fun _ => ?_) (fun hzz => absurd hzz (by decide))
              refine T_iload (pc' := 262) d_Mo_odds_260 rfl rfl ?_
              refine T_iload (pc' := 264) d_Mo_odds_262 rfl rfl ?_
              refine T_idiv (pc' := 265) d_Mo_odds_264 rfl (by first | assumption | decide) ?_
              rw [pk_div (by omega) hg1 (by omega)]
              refine T_iret d_Mo_odds_265 rfl ?_
              exact ⟨_, rfl, rfl, mi, Fr.rf⟩
          · refine T_if_ne (pc' := 51) (tgt := 53) d_Mo_odds_48 rfl (by decide) (fun hzz => absurd (by decide) hzz) (fun _ => ?_)
            refine T_iconst (v := (-1)) (pc' := 52) d_Mo_odds_51 rfl (by decide) ?_
            refine T_iret d_Mo_odds_52 rfl ?_
            exact ⟨_, rfl, by rw [q_odds, if_neg (fun q => q5 q.2.2)], mi, Fr.rf⟩
        · refine T_if_eq (pc' := 41) (tgt := 51) d_Mo_odds_38 rfl (by decide) (fun _ => ?_) (fun hzz => absurd (by decide) hzz)
          refine T_iconst (v := (-1)) (pc' := 52) d_Mo_odds_51 rfl (by decide) ?_
          refine T_iret d_Mo_odds_52 rfl ?_
          exact ⟨_, rfl, by rw [q_odds, if_neg (fun q => q4 q.2.1)], mi, Fr.rf⟩
      · refine T_if_eq (pc' := 30) (tgt := 51) d_Mo_odds_27 rfl (by decide) (fun _ => ?_) (fun hzz => absurd (by decide) hzz)
        refine T_iconst (v := (-1)) (pc' := 52) d_Mo_odds_51 rfl (by decide) ?_
        refine T_iret d_Mo_odds_52 rfl ?_
        exact ⟨_, rfl, by rw [q_odds, if_neg (fun q => q3 q.1.2.2)], mi, Fr.rf⟩
    · refine T_if_eq (pc' := 20) (tgt := 51) d_Mo_odds_17 rfl (by decide) (fun _ => ?_) (fun hzz => absurd (by decide) hzz)
      refine T_iconst (v := (-1)) (pc' := 52) d_Mo_odds_51 rfl (by decide) ?_
      refine T_iret d_Mo_odds_52 rfl ?_
      exact ⟨_, rfl, by rw [q_odds, if_neg (fun q => q2 q.1.2.1)], mi, Fr.rf⟩
  · refine T_if_eq (pc' := 10) (tgt := 51) d_Mo_odds_7 rfl (by decide) (fun _ => ?_) (fun hzz => absurd (by decide) hzz)
    refine T_iconst (v := (-1)) (pc' := 52) d_Mo_odds_51 rfl (by decide) ?_
    refine T_iret d_Mo_odds_52 rfl ?_
    exact ⟨_, rfl, by rw [q_odds, if_neg (fun q => q1 q.1.1)], mi, Fr.rf⟩
end ODDS4
