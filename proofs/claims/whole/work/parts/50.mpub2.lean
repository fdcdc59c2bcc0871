/-! the model: what is done -/
def sSh (f : Nat → Int32) (i : Nat) : Nat → Int32 := fun j => if j < i then f (11 + j) else f j
def sRow (f : Nat → Int32) (b : Nat) (g : Nat → Int32) (i : Nat) : Nat → Int32 := fun j => if b ≤ j ∧ j < b + i then g (j - b) else f j
theorem sSh_s (f : Nat → Int32) (i : Nat) : e_up (sSh f i) i (sSh f i (11 + i)) = sSh f (i + 1) := by
  have e0 : sSh f i (11 + i) = f (11 + i) := if_neg (by omega)
  rw [e0]
  funext j
  by_cases h1 : j = i
  · subst h1; rw [e_upL, if_pos rfl, sSh, if_pos (by omega)]
  · rw [e_upL, if_neg h1, sSh, sSh]
    by_cases h2 : j < i
    · rw [if_pos h2, if_pos (by omega)]
    · rw [if_neg h2, if_neg (by omega)]
theorem sRow_s (f : Nat → Int32) (b : Nat) (g : Nat → Int32) (i : Nat) : e_up (sRow f b g i) (b + i) (g i) = sRow f b g (i + 1) := by
  funext j
  by_cases h1 : j = b + i
  · subst h1; rw [e_upL, if_pos rfl, sRow, if_pos (by omega), Nat.add_sub_cancel_left]
  · rw [e_upL, if_neg h1, sRow, sRow]
    by_cases h2 : b ≤ j ∧ j < b + i
    · rw [if_pos h2, if_pos (by omega)]
    · rw [if_neg h2, if_neg (by omega)]
theorem sRow_0 (f : Nat → Int32) (b : Nat) (g : Nat → Int32) : sRow f b g 0 = f := by
  funext j; rw [sRow, if_neg (by omega)]
theorem sSh_0 (f : Nat → Int32) : sSh f 0 = f := by
  funext j; rw [sSh, if_neg (by omega)]
theorem s_11 : ∀ k, k < 11 → (11 : Int32) * nI k = nI (11 * k) := by decide +kernel
section MPUB2
variable (X : EX) (d : Nat) (h : AH) (σ : Sp)
theorem l_know1 (sc : Nat → Int32) (tc : Int64) (f : Nat → Int32) (h0 : h.2 86 = some (oMo sc tc)) (Q : Option Value → AH → Prop) (hk : T X d M_Mo_know 40 [.ref 86, .int (nI 99)] [] (e_put h 99 (.inl (0, 330, sSh f 99))) Q) : ∀ (k i : Nat), i + k = 99 → T X d M_Mo_know 13 [.ref 86, .int (nI i)] [] (e_put h 99 (.inl (0, 330, sSh f i))) Q
  | 0, i, hi => by
    have : i = 99 := by omega
    subst this
    refine T_iload_n (pc' := 14) d_Mo_know_13 rfl rfl rfl ?_
    refine T_bipush (v := 99) (pc' := 16) d_Mo_know_14 rfl (by decide) ?_
    refine T_icmp_ge (pc' := 19) (tgt := 40) d_Mo_know_16 rfl (by decide) (fun _ => ?_) (fun hzz => absurd (by decide) hzz)
    exact hk
  | k + 1, i, hi => by
    refine T_iload_n (pc' := 14) d_Mo_know_13 rfl rfl rfl ?_
    refine T_bipush (v := 99) (pc' := 16) d_Mo_know_14 rfl (by decide) ?_
    refine T_icmp_ge (pc' := 19) (tgt := 40) d_Mo_know_16 rfl (by decide) (fun hzz => absurd hzz (nI_ge (a := i) (b := 99) (by omega) (by decide))) (fun _ => ?_)
    refine T_aload_n (pc' := 20) d_Mo_know_19 rfl rfl rfl ?_
    refine T_get (pc' := 23) d_Mo_know_20 rfl g_Mo_47 ((e_put_n (by decide)).trans h0) rfl ?_
    refine T_iload_n (pc' := 24) d_Mo_know_23 rfl rfl rfl ?_
    refine T_aload_n (pc' := 25) d_Mo_know_24 rfl rfl rfl ?_
    refine T_get (pc' := 28) d_Mo_know_25 rfl g_Mo_47 ((e_put_n (by decide)).trans h0) rfl ?_
    refine T_bipush (v := 11) (pc' := 30) d_Mo_know_28 rfl (by decide) ?_
    refine T_iload_n (pc' := 31) d_Mo_know_30 rfl rfl rfl ?_
    refine T_iadd (pc' := 32) d_Mo_know_31 rfl ?_
    rw [show (11 : Int32) + nI i = nI (11 + i) from nI_add 11 i]
    refine T_ialoadN (11 + i) (pc' := 33) d_Mo_know_32 rfl e_put_s ⟨by omega, by decide⟩ ?_
    refine T_iastoreN i (pc' := 34) d_Mo_know_33 rfl e_put_s ⟨by omega, by decide⟩ ?_
    rw [e_pp, sSh_s]
    refine T_ii1 (c := 1) (pc' := 37) d_Mo_know_34 rfl (by decide) (Nat.le_of_ble_eq_true rfl) rfl ?_
    rw [nI_1]
    refine T_goto (pc' := 13) d_Mo_know_37 (by decide) ?_
    exact l_know1 sc tc f h0 Q hk k (i + 1) (by omega)
theorem l_know2 (sc : Nat → Int32) (tc : Int64) (f g kf : Nat → Int32) (kn : Nat) (hkn : kn < 10) (h0 : h.2 86 = some (oMo sc tc)) (hg : h.2 97 = some (.inl (0, 11, g))) (hkf : h.2 98 = some (.inl (0, 3, kf))) (hk0 : kf 0 = nI kn) (Q : Option Value → AH → Prop) (hQ : Q none (e_put (e_put h 99 (.inl (0, 330, sRow f (11 * kn) g 11))) 98 (.inl (0, 3, e_up kf 0 (nI (kn + 1)))))) : ∀ (k i : Nat), i + k = 11 → T X d M_Mo_know 52 [.ref 86, .int (nI i)] [] (e_put h 99 (.inl (0, 330, sRow f (11 * kn) g i))) Q
  | 0, i, hi => by
    have : i = 11 := by omega
    subst this
    refine T_iload_n (pc' := 53) d_Mo_know_52 rfl rfl rfl ?_
    refine T_bipush (v := 11) (pc' := 55) d_Mo_know_53 rfl (by decide) ?_
    refine T_icmp_ge (pc' := 58) (tgt := 86) d_Mo_know_55 rfl (by decide) (fun _ => ?_) (fun hzz => absurd (by decide) hzz)
    refine T_aload_n (pc' := 87) d_Mo_know_86 rfl rfl rfl ?_
    refine T_get (pc' := 90) d_Mo_know_87 rfl g_Mo_44 (by first | exact (e_put_n (by decide)).trans h0 | exact (e_put_n (by decide)).trans hkf) rfl ?_
    refine T_iconst (v := 0) (pc' := 91) d_Mo_know_90 rfl (by decide) ?_
    refine T_dup2 (pc' := 92) d_Mo_know_91 rfl rfl rfl ?_
    refine T_ialoadL 0 (pc' := 93) d_Mo_know_92 rfl (by first | exact (e_put_n (by decide)).trans h0 | exact (e_put_n (by decide)).trans hkf) (by decide) ?_
    refine T_iconst (v := 1) (pc' := 94) d_Mo_know_93 rfl (by decide) ?_
    refine T_iadd (pc' := 95) d_Mo_know_94 rfl ?_
    refine T_iastoreL 0 (pc' := 96) d_Mo_know_95 rfl (by first | exact (e_put_n (by decide)).trans h0 | exact (e_put_n (by decide)).trans hkf) (by decide) ?_
    rw [hk0, nI_1]
    refine T_vret d_Mo_know_96 rfl ?_
    exact hQ
  | k + 1, i, hi => by
    refine T_iload_n (pc' := 53) d_Mo_know_52 rfl rfl rfl ?_
    refine T_bipush (v := 11) (pc' := 55) d_Mo_know_53 rfl (by decide) ?_
    refine T_icmp_ge (pc' := 58) (tgt := 86) d_Mo_know_55 rfl (by decide) (fun hzz => absurd hzz (nI_ge (a := i) (b := 11) (by omega) (by decide))) (fun _ => ?_)
    refine T_aload_n (pc' := 59) d_Mo_know_58 rfl rfl rfl ?_
    refine T_get (pc' := 62) d_Mo_know_59 rfl g_Mo_47 (by first | exact (e_put_n (by decide)).trans h0 | exact (e_put_n (by decide)).trans hkf) rfl ?_
    refine T_bipush (v := 11) (pc' := 64) d_Mo_know_62 rfl (by decide) ?_
    refine T_aload_n (pc' := 65) d_Mo_know_64 rfl rfl rfl ?_
    refine T_get (pc' := 68) d_Mo_know_65 rfl g_Mo_44 (by first | exact (e_put_n (by decide)).trans h0 | exact (e_put_n (by decide)).trans hkf) rfl ?_
    refine T_iconst (v := 0) (pc' := 69) d_Mo_know_68 rfl (by decide) ?_
    refine T_ialoadL 0 (pc' := 70) d_Mo_know_69 rfl (by first | exact (e_put_n (by decide)).trans h0 | exact (e_put_n (by decide)).trans hkf) (by decide) ?_
    refine T_imul (pc' := 71) d_Mo_know_70 rfl ?_
    refine T_iload_n (pc' := 72) d_Mo_know_71 rfl rfl rfl ?_
    refine T_iadd (pc' := 73) d_Mo_know_72 rfl ?_
    rw [hk0, s_11 kn (by omega), nI_add]
    refine T_aload_n (pc' := 74) d_Mo_know_73 rfl rfl rfl ?_
    refine T_get (pc' := 77) d_Mo_know_74 rfl g_Mo_41 ((e_put_n (by decide)).trans h0) rfl ?_
    refine T_iload_n (pc' := 78) d_Mo_know_77 rfl rfl rfl ?_
    refine T_ialoadN i (pc' := 79) d_Mo_know_78 rfl ((e_put_n (by decide)).trans hg) ⟨by omega, by decide⟩ ?_
    refine T_iastoreN (11 * kn + i) (pc' := 80) d_Mo_know_79 rfl e_put_s ⟨by omega, by decide⟩ ?_
    rw [e_pp, sRow_s]
    refine T_ii1 (c := 1) (pc' := 83) d_Mo_know_80 rfl (by decide) (Nat.le_of_ble_eq_true rfl) rfl ?_
    rw [nI_1]
    refine T_goto (pc' := 52) d_Mo_know_83 (by decide) ?_
    exact l_know2 sc tc f g kf kn hkn h0 hg hkf hk0 Q hQ k (i + 1) (by omega)
theorem c_Mo_know (mi : MI h σ) (si : SI σ) : Cv X d M_Mo_know [.ref 86] h (fun h1 => MI h1 (sKnow σ) ∧ Ex [98, 99] h h1) := by
  have mi' := mi
  have hkn := si.1.2.2.2.1
  obtain ⟨⟨sc, r0, -⟩, -, -, -, -, r5, ⟨f6, r6, q6, q6a, q6b⟩, ⟨f7, r7, q7, q7a, q7b⟩, -⟩ := mi
  refine C_of_T rfl rfl (Nat.le_of_ble_eq_true rfl) rfl ?_
  refine T_aload_n (pc' := 1) d_Mo_know_0 rfl rfl rfl ?_
  refine T_get (pc' := 4) d_Mo_know_1 rfl g_Mo_44 (by first | assumption | exact e_put_s | simp [e_put, *]) rfl ?_
  refine T_iconst (v := 0) (pc' := 5) d_Mo_know_4 rfl (by decide) ?_
  refine T_ialoadL 0 (pc' := 6) d_Mo_know_5 rfl (by first | assumption | exact e_put_s | simp [e_put, *]) (by decide) ?_
  refine T_bipush (v := 10) (pc' := 8) d_Mo_know_6 rfl (by decide) ?_
  rw [q6]
  by_cases hk : σ.1 3 < 10
  · refine T_icmp_ne (pc' := 11) (tgt := 50) d_Mo_know_8 rfl (by decide) (fun _ => ?_) (fun hzz => absurd hzz (fun q => by have := (nI_eq (b := 10) (by omega) (by decide)).mp q; omega))
    refine T_iconst (v := 0) (pc' := 51) d_Mo_know_50 rfl (by decide) ?_
    refine T_is_n1 (pc' := 52) d_Mo_know_51 rfl rfl (Nat.le_of_ble_eq_true rfl) rfl ?_
    have hs : h = e_put h 99 (.inl (0, 330, sRow f7 (11 * σ.1 3) (σ.2.1 6) 0)) := by rw [sRow_0]; exact (e_put_self r7).symm
    rw [hs]
    refine l_know2 X d h sc _ f7 (σ.2.1 6) f6 (σ.1 3) hk r0 r5 r6 q6 _ ⟨rfl, ?_, ?_⟩ 11 0 rfl
    · refine MI_hist (sPushN_le _ hkn) mi' ((Ex.rf.put (by decide)).put (by decide)) e_put_s (by rw [sPushN, if_pos hk]; rfl) q6a q6b ((e_put_n (by decide)).trans e_put_s) (fun i hi k hk2 => ?_) (fun z i hi k hk2 => ?_) (fun z i hi k hk2 => ?_)
      · rw [sPushN, if_pos hk] at hi
        show sRow f7 (11 * σ.1 3) (σ.2.1 6) 11 (11 * i + k) = sPush (σ.1 3) (fun i => σ.2.1 (20 + i)) (σ.2.1 6) i k
        rw [sPush, if_pos hk]
        by_cases hik : i = σ.1 3
        · rw [if_pos hik, sRow, if_pos (by omega), show 11 * i + k - 11 * σ.1 3 = k by omega]
        · rw [if_neg hik, sRow, if_neg (by omega)]
          exact q7 i (by omega) k hk2
      · rw [sRow, if_neg (by omega)]; exact q7a z i hi k hk2
      · rw [sRow, if_neg (by omega)]; exact q7b z i hi k hk2
    · rw [← hs]
      exact (Ex.rf.put (by decide)).put (by decide)
  · have h10 : σ.1 3 = 10 := by omega
    refine T_icmp_ne (pc' := 11) (tgt := 50) d_Mo_know_8 rfl (by decide) (fun hzz => absurd (by rw [h10]; rfl) hzz) (fun _ => ?_)
    refine T_iconst (v := 0) (pc' := 12) d_Mo_know_11 rfl (by decide) ?_
    refine T_is_n1 (pc' := 13) d_Mo_know_12 rfl rfl (Nat.le_of_ble_eq_true rfl) rfl ?_
    have hs : h = e_put h 99 (.inl (0, 330, sSh f7 0)) := by rw [sSh_0]; exact (e_put_self r7).symm
    rw [hs]
    refine l_know1 X d h sc _ f7 r0 _ ?_ 99 0 rfl
    refine T_aload_n (pc' := 41) d_Mo_know_40 rfl rfl rfl ?_
    refine T_get (pc' := 44) d_Mo_know_41 rfl g_Mo_44 (by first | exact (e_put_n (by decide)).trans r0 | exact (e_put_n (by decide)).trans r6) rfl ?_
    refine T_iconst (v := 0) (pc' := 45) d_Mo_know_44 rfl (by decide) ?_
    refine T_dup2 (pc' := 46) d_Mo_know_45 rfl rfl rfl ?_
    refine T_ialoadL 0 (pc' := 47) d_Mo_know_46 rfl (by first | exact (e_put_n (by decide)).trans r0 | exact (e_put_n (by decide)).trans r6) (by decide) ?_
    refine T_iconst (v := 1) (pc' := 48) d_Mo_know_47 rfl (by decide) ?_
    refine T_isub (pc' := 49) d_Mo_know_48 rfl ?_
    refine T_iastoreL 0 (pc' := 50) d_Mo_know_49 rfl (by first | exact (e_put_n (by decide)).trans r0 | exact (e_put_n (by decide)).trans r6) (by decide) ?_
    rw [q6, h10, show (nI 10 - 1 : Int32) = nI 9 from rfl]
    refine T_iconst (v := 0) (pc' := 51) d_Mo_know_50 rfl (by decide) ?_
    refine T_is_n1 (pc' := 52) d_Mo_know_51 rfl rfl (Nat.le_of_ble_eq_true rfl) rfl ?_
    generalize hH : e_put (e_put h 99 (.inl (0, 330, sSh f7 99))) 98 (.inl (0, 3, e_up f6 0 (nI 9))) = H
    have exH : Ex [98, 99] h H := by rw [← hH]; exact (Ex.rf.put (by decide)).put (by decide)
    have hb : H.2 99 = some (.inl (0, 330, sSh f7 99)) := by rw [← hH]; exact (e_put_n (by decide)).trans e_put_s
    have hs2 : H = e_put H 99 (.inl (0, 330, sRow (sSh f7 99) (11 * 9) (σ.2.1 6) 0)) := by rw [sRow_0]; exact (e_put_self hb).symm
    rw [hs2]
    refine l_know2 X d H sc σ.2.2 (sSh f7 99) (σ.2.1 6) (e_up f6 0 (nI 9)) 9 (by decide) ((exH.2 _ (by decide)).trans r0) ((exH.2 _ (by decide)).trans r5) (by rw [← hH]; exact e_put_s) rfl _ ⟨rfl, ?_, ?_⟩ 11 0 rfl
    · refine MI_hist (sPushN_le _ hkn) mi' ((exH.put (by decide)).put (by decide)) e_put_s (by rw [sPushN, if_neg hk]; rfl) q6a q6b ((e_put_n (by decide)).trans e_put_s) (fun i hi k hk2 => ?_) (fun z i hi k hk2 => ?_) (fun z i hi k hk2 => ?_)
      · rw [sPushN, if_neg hk] at hi
        show sRow (sSh f7 99) (11 * 9) (σ.2.1 6) 11 (11 * i + k) = sPush (σ.1 3) (fun i => σ.2.1 (20 + i)) (σ.2.1 6) i k
        rw [sPush, if_neg hk]
        by_cases hik : i = 9
        · rw [if_pos hik, sRow, if_pos (by omega), show 11 * i + k - 11 * 9 = k by omega]
        · rw [if_neg hik, sRow, if_neg (by omega), sSh, if_pos (by omega)]
          have := q7 (i + 1) (by omega) k hk2
          rw [show 11 * (i + 1) + k = 11 + (11 * i + k) by omega] at this
          exact this
      · rw [sRow, if_neg (by omega), sSh, if_neg (by omega)]; exact q7a z i hi k hk2
      · rw [sRow, if_neg (by omega), sSh, if_neg (by omega)]; exact q7b z i hi k hk2
    · rw [← hs]
      exact (exH.put (by decide)).put (by decide)
theorem c_Mo_begin (b : Nat) (g : Nat → Int32) (p t : Nat) (hp : p < 3) (hb : h.2 b = some (.inl (0, 11, g))) : Cv X d M_Mo_begin [.ref b, .int (nI p), .int (nI t)] h (fun h1 => h1 = e_put h b (.inl (0, 11, sBegin g p t))) := by
  refine C_of_T rfl rfl (Nat.le_of_ble_eq_true rfl) rfl ?_
  refine T_aload_n (pc' := 1) d_Mo_begin_0 rfl rfl rfl ?_
  refine T_iconst (v := 3) (pc' := 2) d_Mo_begin_1 rfl (by decide) ?_
  refine T_iload_n (pc' := 3) d_Mo_begin_2 rfl rfl rfl ?_
  refine T_iastoreL 3 (pc' := 4) d_Mo_begin_3 rfl (by first | assumption | exact e_put_s | simp [e_put, *]) (by decide) ?_
  refine T_aload_n (pc' := 5) d_Mo_begin_4 rfl rfl rfl ?_
  refine T_iconst (v := 4) (pc' := 6) d_Mo_begin_5 rfl (by decide) ?_
  refine T_iload_n (pc' := 7) d_Mo_begin_6 rfl rfl rfl ?_
  refine T_iastoreL 4 (pc' := 8) d_Mo_begin_7 rfl e_put_s (by decide) ?_
  rw [e_pp]
  refine T_aload_n (pc' := 9) d_Mo_begin_8 rfl rfl rfl ?_
  refine T_iconst (v := 5) (pc' := 10) d_Mo_begin_9 rfl (by decide) ?_
  refine T_iconst (v := 0) (pc' := 11) d_Mo_begin_10 rfl (by decide) ?_
  refine T_iastoreL 5 (pc' := 12) d_Mo_begin_11 rfl e_put_s (by decide) ?_
  rw [e_pp]
  refine T_aload_n (pc' := 13) d_Mo_begin_12 rfl rfl rfl ?_
  refine T_bipush (v := 7) (pc' := 15) d_Mo_begin_13 rfl (by decide) ?_
  refine T_iload_n (pc' := 16) d_Mo_begin_15 rfl rfl rfl ?_
  refine T_iadd (pc' := 17) d_Mo_begin_16 rfl ?_
  refine T_dup2 (pc' := 18) d_Mo_begin_17 rfl rfl rfl ?_
  rw [show (7 : Int32) + nI p = nI (7 + p) from nI_add 7 p]
  refine T_ialoadN (7 + p) (pc' := 19) d_Mo_begin_18 rfl e_put_s ⟨by omega, by decide⟩ ?_
  refine T_iconst (v := 1) (pc' := 20) d_Mo_begin_19 rfl (by decide) ?_
  refine T_iload_n (pc' := 21) d_Mo_begin_20 rfl rfl rfl ?_
  refine T_ishl (pc' := 22) d_Mo_begin_21 rfl ?_
  refine T_ior (pc' := 23) d_Mo_begin_22 rfl ?_
  refine T_iastoreN (7 + p) (pc' := 24) d_Mo_begin_23 rfl e_put_s ⟨by omega, by decide⟩ ?_
  rw [e_pp]
  refine T_vret d_Mo_begin_24 rfl ?_
  refine ⟨rfl, ?_⟩
  congr 4
  funext k
  unfold sBegin
  by_cases k7 : k = 7 + p
  · subst k7
    rw [e_upL, if_pos rfl, if_neg (by omega), if_neg (by omega), if_neg (by omega), if_pos rfl, e_upL, if_neg (by omega), e_upL, if_neg (by omega), e_upL, if_neg (by omega)]
  · rw [e_upL, if_neg k7, if_neg k7, e_upL, e_upL, e_upL]
    by_cases k5 : k = 5
    · rw [if_pos k5, if_neg (by omega), if_neg (by omega), if_pos k5]
    · by_cases k4 : k = 4
      · rw [if_neg k5, if_pos k4, if_neg (by omega), if_pos k4]
      · by_cases k3 : k = 3
        · rw [if_neg k5, if_neg k4, if_pos k3, if_pos k3]
        · rw [if_neg k5, if_neg k4, if_neg k3, if_neg k3, if_neg k4, if_neg k5]
theorem c_Mo_canBegin (b : Nat) (g : Nat → Int32) (p t : Nat) (hp : p < 3) (hb : h.2 b = some (.inl (0, 11, g))) : Ci X (d + 1) M_Mo_canBegin [.ref b, .int (nI p), .int (nI t)] h (fun v h1 => h1 = h ∧ (sCan g p t ∧ v = 1 ∨ ¬ sCan g p t ∧ v = 0)) := by
  refine C_of_T rfl rfl (Nat.le_of_ble_eq_true rfl) rfl ?_
  refine T_aload_n (pc' := 1) d_Mo_canBegin_0 rfl rfl rfl ?_
  refine T_bipush (v := 6) (pc' := 3) d_Mo_canBegin_1 rfl (by decide) ?_
  refine T_ialoadL 6 (pc' := 4) d_Mo_canBegin_3 rfl (by first | assumption | exact e_put_s | simp [e_put, *]) (by decide) ?_
  refine T_iload_n (pc' := 5) d_Mo_canBegin_4 rfl rfl rfl ?_
  refine T_S2i (pc' := 8) d_Mo_canBegin_5 rfl l_Mo_140 v_Mo_has (Nat.le_of_ble_eq_true rfl) (c_Mo_has X d h (g 6) (nI p)) (fun v h1 hq => ?_)
  obtain ⟨rfl, ⟨h6, rfl⟩ | ⟨h6, rfl⟩⟩ := hq
  · refine T_if_eq (pc' := 11) (tgt := 35) d_Mo_canBegin_8 rfl (by decide) (fun hzz => absurd hzz (by decide)) (fun _ => ?_)
    refine T_aload_n (pc' := 12) d_Mo_canBegin_11 rfl rfl rfl ?_
    refine T_bipush (v := 7) (pc' := 14) d_Mo_canBegin_12 rfl (by decide) ?_
    refine T_iload_n (pc' := 15) d_Mo_canBegin_14 rfl rfl rfl ?_
    refine T_iadd (pc' := 16) d_Mo_canBegin_15 rfl ?_
    rw [show (7 : Int32) + nI p = nI (7 + p) from nI_add 7 p]
    refine T_ialoadN (7 + p) (pc' := 17) d_Mo_canBegin_16 rfl hb ⟨by omega, by decide⟩ ?_
    refine T_iload_n (pc' := 18) d_Mo_canBegin_17 rfl rfl rfl ?_
    refine T_S2i (pc' := 21) d_Mo_canBegin_18 rfl l_Mo_140 v_Mo_has (Nat.le_of_ble_eq_true rfl) (c_Mo_has X d h1 (g (7 + p)) (nI t)) (fun v h2 hq => ?_)
    obtain ⟨rfl, ⟨h7, rfl⟩ | ⟨h7, rfl⟩⟩ := hq
    · refine T_if_ne (pc' := 24) (tgt := 35) d_Mo_canBegin_21 rfl (by decide) (fun _ => ?_) (fun hzz => absurd hzz (by decide))
      refine T_iconst (v := 0) (pc' := 36) d_Mo_canBegin_35 rfl (by decide) ?_
      refine T_zret d_Mo_canBegin_36 rfl (by first | assumption | exact Or.inl rfl | exact Or.inr rfl) ?_
      exact ⟨_, rfl, rfl, Or.inr ⟨fun q => q.2.1 h7, rfl⟩⟩
    · refine T_if_ne (pc' := 24) (tgt := 35) d_Mo_canBegin_21 rfl (by decide) (fun hzz => absurd (by decide) hzz) (fun _ => ?_)
      refine T_aload_n (pc' := 25) d_Mo_canBegin_24 rfl rfl rfl ?_
      refine T_bipush (v := 10) (pc' := 27) d_Mo_canBegin_25 rfl (by decide) ?_
      refine T_ialoadL 10 (pc' := 28) d_Mo_canBegin_27 rfl (by first | assumption | exact e_put_s | simp [e_put, *]) (by decide) ?_
      refine T_if_ne (pc' := 31) (tgt := 35) d_Mo_canBegin_28 rfl (by decide) (fun hc => ?_) (fun hc => ?_)
      · refine T_iconst (v := 0) (pc' := 36) d_Mo_canBegin_35 rfl (by decide) ?_
        refine T_zret d_Mo_canBegin_36 rfl (by first | assumption | exact Or.inl rfl | exact Or.inr rfl) ?_
        exact ⟨_, rfl, rfl, Or.inr ⟨fun q => hc q.2.2, rfl⟩⟩
      · refine T_iconst (v := 1) (pc' := 32) d_Mo_canBegin_31 rfl (by decide) ?_
        refine T_goto (pc' := 36) d_Mo_canBegin_32 (by decide) ?_
        refine T_zret d_Mo_canBegin_36 rfl (by first | assumption | exact Or.inl rfl | exact Or.inr rfl) ?_
        exact ⟨_, rfl, rfl, Or.inl ⟨⟨h6, h7, hc⟩, rfl⟩⟩
  · refine T_if_eq (pc' := 11) (tgt := 35) d_Mo_canBegin_8 rfl (by decide) (fun _ => ?_) (fun hzz => absurd (by decide) hzz)
    refine T_iconst (v := 0) (pc' := 36) d_Mo_canBegin_35 rfl (by decide) ?_
    refine T_zret d_Mo_canBegin_36 rfl (by first | assumption | exact Or.inl rfl | exact Or.inr rfl) ?_
    exact ⟨_, rfl, rfl, Or.inr ⟨fun q => h6 q.1, rfl⟩⟩
theorem p_Mo_begins (p t : Int32) (mi : MI h σ) (si : SI σ) : Ci X (d + 20) M_Mo_begins [.ref 86, .int p, .int t] h (fun v h1 => v = (a_begins σ p t).1 ∧ MI h1 (a_begins σ p t).2 ∧ Fr 86 109 h h1) := by
  have hn := si.1.2.1
  have hm := si.1.2.2.1
  have mt := mi.2.2.1
  have r5 := mi.2.2.2.2.2.1
  obtain ⟨sc, r0, -⟩ := mi.1
  refine C_of_T rfl rfl (Nat.le_of_ble_eq_true rfl) rfl ?_
  refine T_aload_n (pc' := 1) d_Mo_begins_0 rfl rfl rfl ?_
  refine T_iload_n (pc' := 2) d_Mo_begins_1 rfl rfl rfl ?_
  refine T_V1i (pc' := 5) d_Mo_begins_2 rfl l_Mo_152 v_Mo_isOne (by first | assumption | exact e_put_s | simp [e_put, *]) (Nat.le_of_ble_eq_true rfl) (c_Mo_isOne X _ h _ _ _ _ _ _ _ p hn mt) (fun v h1 hq => ?_)
  obtain ⟨rfl, ⟨hp, rfl⟩ | ⟨hp, rfl⟩⟩ := hq
  · refine T_if_eq (pc' := 8) (tgt := 16) d_Mo_begins_5 rfl (by decide) (fun hzz => absurd hzz (by decide)) (fun _ => ?_)
    refine T_aload_n (pc' := 9) d_Mo_begins_8 rfl rfl rfl ?_
    refine T_iload_n (pc' := 10) d_Mo_begins_9 rfl rfl rfl ?_
    refine T_V1i (pc' := 13) d_Mo_begins_10 rfl l_Mo_159 v_Mo_isThought (by first | assumption | exact e_put_s | simp [e_put, *]) (Nat.le_of_ble_eq_true rfl) (c_Mo_isThought X _ h1 _ _ _ _ _ _ _ t hm mt) (fun v h2 hq => ?_)
    obtain ⟨rfl, ⟨ht, rfl⟩ | ⟨ht, rfl⟩⟩ := hq
    · refine T_if_ne (pc' := 16) (tgt := 18) d_Mo_begins_13 rfl (by decide) (fun _ => ?_) (fun hzz => absurd hzz (by decide))
      have hok : okP (σ.1 1) p ∧ okP (σ.1 2) t := ⟨(isP_iff (by omega) p).mp hp, (isP_iff (by omega) t).mp ht⟩
      obtain ⟨i, hi, rfl⟩ := hp
      obtain ⟨j, hj, rfl⟩ := ht
      refine T_aload_n (pc' := 19) d_Mo_begins_18 rfl rfl rfl ?_
      refine T_get (pc' := 22) d_Mo_begins_19 rfl g_Mo_41 (by first | assumption | exact e_put_s | simp [e_put, *]) rfl ?_
      refine T_iload_n (pc' := 23) d_Mo_begins_22 rfl rfl rfl ?_
      refine T_iload_n (pc' := 24) d_Mo_begins_23 rfl rfl rfl ?_
      refine T_S3i (pc' := 27) d_Mo_begins_24 rfl l_Mo_162 v_Mo_canBegin (Nat.le_of_ble_eq_true rfl) (c_Mo_canBegin X _ h2 97 _ i j (by omega) r5) (fun v h3 hq => ?_)
      obtain ⟨rfl, ⟨hb, rfl⟩ | ⟨hb, rfl⟩⟩ := hq
      · refine T_if_ne (pc' := 30) (tgt := 33) d_Mo_begins_27 rfl (by decide) (fun _ => ?_) (fun hzz => absurd hzz (by decide))
        refine T_aload_n (pc' := 34) d_Mo_begins_33 rfl rfl rfl ?_
        refine T_V0v (pc' := 37) d_Mo_begins_34 rfl l_Mo_166 v_Mo_know (by first | assumption | exact e_put_s | simp [e_put, *]) (Nat.le_of_ble_eq_true rfl) (c_Mo_know X _ h3 σ mi si) (fun h4 hq => ?_)
        obtain ⟨mi4, ex4⟩ := hq
        have k0 : h4.2 86 = _ := (ex4.2 _ (by decide)).trans r0
        have k5 : h4.2 97 = _ := (ex4.2 _ (by decide)).trans r5
        refine T_aload_n (pc' := 38) d_Mo_begins_37 rfl rfl rfl ?_
        refine T_get (pc' := 41) d_Mo_begins_38 rfl g_Mo_41 (by first | assumption | exact e_put_s | simp [e_put, *]) rfl ?_
        refine T_iload_n (pc' := 42) d_Mo_begins_41 rfl rfl rfl ?_
        refine T_iload_n (pc' := 43) d_Mo_begins_42 rfl rfl rfl ?_
        refine T_S3v (pc' := 46) d_Mo_begins_43 rfl l_Mo_169 v_Mo_begin (Nat.le_of_ble_eq_true rfl) (c_Mo_begin X _ h4 97 _ i j (by omega) k5) (fun h5 hq => ?_)
        subst hq
        have ex5 : Ex [97] h4 (e_put h4 97 (.inl (0, 11, sBegin (σ.2.1 6) i j))) := Ex.rf.put (by decide)
        have mi5 := MI_now mi4 ex5 e_put_s
        refine T_aload_n (pc' := 47) d_Mo_begins_46 rfl rfl rfl ?_
        refine T_aload_n (pc' := 48) d_Mo_begins_47 rfl rfl rfl ?_
        refine T_get (pc' := 51) d_Mo_begins_48 rfl g_Mo_41 ((e_put_n (by decide)).trans k0) rfl ?_
        refine T_V1i (pc' := 54) d_Mo_begins_51 rfl l_Mo_144 v_Mo_hold ((e_put_n (by decide)).trans k0) (Nat.le_of_ble_eq_true rfl) (c_Mo_hold X _ _ _ _ _ _ _ _ _ 97 _ hn hm mi5.2.2.1 e_put_s (GI_begin si.2.2.1 hi hj hn hm).2.2.1) (fun v h6 hq => ?_)
        obtain ⟨rfl, rfl⟩ := hq
        refine T_iret d_Mo_begins_54 rfl ?_
        refine ⟨_, rfl, ?_⟩
        rw [a_begins, if_pos hok, nI_clamp (by omega), nI_clamp (by omega), if_pos hb]
        exact ⟨rfl, mi5, ((ex4.mono (S' := [98, 99, 97]) (by decide)).tr (ex5.mono (by decide))).fr (by decide)⟩
      · refine T_if_ne (pc' := 30) (tgt := 33) d_Mo_begins_27 rfl (by decide) (fun hzz => absurd (by decide) hzz) (fun _ => ?_)
        refine T_bipush (v := (-2)) (pc' := 32) d_Mo_begins_30 rfl (by decide) ?_
        refine T_iret d_Mo_begins_32 rfl ?_
        refine ⟨_, rfl, ?_⟩
        rw [a_begins, if_pos hok, nI_clamp (by omega), nI_clamp (by omega), if_neg hb]
        exact ⟨rfl, mi, Fr.rf⟩
    · refine T_if_ne (pc' := 16) (tgt := 18) d_Mo_begins_13 rfl (by decide) (fun hzz => absurd (by decide) hzz) (fun _ => ?_)
      refine T_iconst (v := (-1)) (pc' := 17) d_Mo_begins_16 rfl (by decide) ?_
      refine T_iret d_Mo_begins_17 rfl ?_
      refine ⟨_, rfl, ?_⟩
      rw [a_begins, if_neg (fun q => ht ((isP_iff (by omega) t).mpr q.2))]
      exact ⟨rfl, mi, Fr.rf⟩
  · refine T_if_eq (pc' := 8) (tgt := 16) d_Mo_begins_5 rfl (by decide) (fun _ => ?_) (fun hzz => absurd (by decide) hzz)
    refine T_iconst (v := (-1)) (pc' := 17) d_Mo_begins_16 rfl (by decide) ?_
    refine T_iret d_Mo_begins_17 rfl ?_
    refine ⟨_, rfl, ?_⟩
    rw [a_begins, if_neg (fun q => hp ((isP_iff (by omega) p).mpr q.1))]
    exact ⟨rfl, mi, Fr.rf⟩
end MPUB2
