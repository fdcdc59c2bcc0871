/-! the text: tokens, the model -/
abbrev oMq (s0 a1 a2 a3 a4 a5 a6 a7 s8 s9 : Int32) (tc : Int64) : AC := .inr (.inr (9, [.ref 87, .int s0, .ref 88, .ref 89, .ref 90, .ref 91, .ref 92, .ref 93, .ref 94, .ref 95, .ref 96, .int a1, .int a2, .int a3, .int a4, .int a5, .int a6, .int a7, .ref 97, .ref 98, .ref 99, .ref 100, .ref 101, .ref 102, .ref 103, .ref 104, .ref 105, .ref 106, .int s8, .ref 107, .ref 108, .int s9, .long tc]))
def MTok (t : Nat × Nat × Nat × Nat) (so va : Int32) : Prop := (t.1 = 0 → so = 4) ∧ (t.1 = 1 → so = 1 ∧ va = nI t.2.1) ∧ (t.1 = 2 → so = 2 ∧ va = nI t.2.1) ∧ (t.1 = 3 → so = 3) ∧ (t.1 = 4 → so = 5)
def okM (f : Nat → Int32) (B : Nat → Nat) (L : Nat) : Prop := L ≤ 120 ∧ ∀ i, i < L → f i = (nI (B i)).toInt8.toInt32 ∧ B i < 256
def mv (B : Nat → Nat) (L : Nat) : Nat → Nat → Nat → Nat × Nat
  | 0, q, v => (v, q)
  | k + 1, q, v => if q < L ∧ isD (B q) = true then mv B L k (q + 1) (if 99 < v then v else 10 * v + (B q - 48)) else (v, q)
theorem mv_bd (B : Nat → Nat) (L : Nat) : ∀ k q v, v ≤ 999 → (mv B L k q v).1 ≤ 999
  | 0, q, v, h => h
  | k + 1, q, v, h => by
    rw [mv]
    split
    · rename_i hc
      have := isD_rng hc.2
      refine mv_bd B L k (q + 1) _ ?_
      split <;> omega
    · exact h
theorem mv_e (B : Nat → Nat) (L : Nat) : ∀ k q v, q ≤ (mv B L k q v).2
  | 0, q, v => Nat.le_refl _
  | k + 1, q, v => by
    rw [mv]
    split
    · have := mv_e B L k (q + 1) (if 99 < v then v else 10 * v + (B q - 48)); omega
    · exact Nat.le_refl _
theorem mv_ov (B : Nat → Nat) (L : Nat) : ∀ k q v, (ov false B L k q (min 100 v)).2 = (mv B L k q v).2 ∧ (ov false B L k q (min 100 v)).1 = min 100 (mv B L k q v).1
  | 0, q, v => ⟨rfl, rfl⟩
  | k + 1, q, v => by
    rw [ov, mv]
    by_cases hc : q < L ∧ isD (B q) = true
    · rw [if_pos hc, if_pos hc, if_neg (by decide)]
      have e : min 100 (10 * min 100 v + (B q - 48)) = min 100 (if 99 < v then v else 10 * v + (B q - 48)) := by
        split <;> omega
      rw [e]
      exact mv_ov B L k (q + 1) _
    · rw [if_neg hc, if_neg hc]; exact ⟨rfl, rfl⟩
theorem mv_oz (B : Nat → Nat) (L : Nat) : ∀ k q v v', (ov true B L k q v).2 = (mv B L k q v').2 ∧ ((mv B L k q v').2 = q → (ov true B L k q v).1 = v ∧ (mv B L k q v').1 = v') ∧ (¬ (mv B L k q v').2 = q → v = 100 ∨ (ov true B L k q v).1 = 100)
  | 0, q, v, v' => ⟨rfl, fun _ => ⟨rfl, rfl⟩, fun h => absurd rfl h⟩
  | k + 1, q, v, v' => by
    rw [ov, mv]
    by_cases hc : q < L ∧ isD (B q) = true
    · rw [if_pos hc, if_pos hc, if_pos rfl]
      obtain ⟨i1, i2, i3⟩ := mv_oz B L k (q + 1) 100 (if 99 < v' then v' else 10 * v' + (B q - 48))
      have hge := mv_e B L k (q + 1) (if 99 < v' then v' else 10 * v' + (B q - 48))
      refine ⟨i1, fun h => absurd h (by omega), fun _ => ?_⟩
      by_cases he : (mv B L k (q + 1) (if 99 < v' then v' else 10 * v' + (B q - 48))).2 = q + 1
      · exact Or.inr (i2 he).1
      · rcases i3 he with z | z
        · right
          have key : ∀ k q, (ov true B L k q 100).1 = 100 := by
            intro k
            induction k with
            | zero => intro q; rfl
            | succ k ik =>
              intro q
              rw [ov]
              split
              · rw [if_pos rfl]; exact ik _
              · rfl
          exact key k (q + 1)
        · exact Or.inr z
    · rw [if_neg hc, if_neg hc]; exact ⟨rfl, fun _ => ⟨rfl, rfl⟩, fun h => absurd rfl h⟩
theorem s_255 : ∀ b, b < 256 → (nI b).toInt8.toInt32 &&& 255 = nI b := by decide +kernel
theorem s_lt99 : ∀ v, v ≤ 999 → (nI v ≤ 99 ↔ v ≤ 99) := by decide +kernel
section MTOK
variable (X : EX) (d : Nat) (h : AH) (a2 a3 a4 a5 a6 a7 s8 s9 : Int32) (tc : Int64)
theorem c_here (f : Nat → Int32) (B : Nat → Nat) (L p : Nat) (ok : okM f B L) (hp : p ≤ L) (h0 : h.2 86 = some (oMq (nI L) (nI p) a2 a3 a4 a5 a6 a7 s8 s9 tc)) (h1 : h.2 87 = some (.inl (1, 120, f))) : Ci X d M_Mo_here [.ref 86] h (fun v h' => h' = h ∧ v = if p < L then nI (B p) else -9) := by
  have hL := ok.1
  refine C_of_T rfl rfl (Nat.le_of_ble_eq_true rfl) rfl ?_
  refine T_aload_n (pc' := 1) d_Mo_here_0 rfl rfl rfl ?_
  refine T_get (pc' := 4) d_Mo_here_1 rfl g_Mo_86 (by first | assumption | exact e_put_s | simp [e_put, *]) rfl ?_
  refine T_aload_n (pc' := 5) d_Mo_here_4 rfl rfl rfl ?_
  refine T_get (pc' := 8) d_Mo_here_5 rfl g_Mo_82 (by first | assumption | exact e_put_s | simp [e_put, *]) rfl ?_
  by_cases hlt : p < L
  · obtain ⟨b1, b2⟩ := ok.2 p hlt
    have hin : vp_in (nI p) 120 := vp_in_nI (by omega) (by decide)
    refine T_icmp_ge (pc' := 11) (tgt := 27) d_Mo_here_8 rfl (by decide) (fun hzz => absurd hzz (nI_ge hlt (by omega))) (fun _ => ?_)
    refine T_aload_n (pc' := 12) d_Mo_here_11 rfl rfl rfl ?_
    refine T_get (pc' := 15) d_Mo_here_12 rfl g_Mo_7 (by first | assumption | exact e_put_s | simp [e_put, *]) rfl ?_
    refine T_aload_n (pc' := 16) d_Mo_here_15 rfl rfl rfl ?_
    refine T_get (pc' := 19) d_Mo_here_16 rfl g_Mo_86 (by first | assumption | exact e_put_s | simp [e_put, *]) rfl ?_
    refine T_baload (pc' := 20) d_Mo_here_19 rfl (by first | assumption | exact e_put_s | simp [e_put, *]) (by first | assumption | exact in_dec rfl) ?_
    refine T_sipush (v := 255) (pc' := 23) d_Mo_here_20 rfl (by decide) ?_
    refine T_iand (pc' := 24) d_Mo_here_23 rfl ?_
    rw [nI_clamp (by omega), b1, s_255 _ b2]
    refine T_goto (pc' := 29) d_Mo_here_24 (by decide) ?_
    refine T_iret d_Mo_here_29 rfl ?_
    exact ⟨_, rfl, rfl, by rw [if_pos hlt]⟩
  · refine T_icmp_ge (pc' := 11) (tgt := 27) d_Mo_here_8 rfl (by decide) (fun _ => ?_) (fun hzz => absurd (nI_le (by omega) (by omega)) hzz)
    refine T_bipush (v := (-9)) (pc' := 29) d_Mo_here_27 rfl (by decide) ?_
    refine T_iret d_Mo_here_29 rfl ?_
    exact ⟨_, rfl, rfl, by rw [if_neg hlt]⟩
theorem l_skip (f : Nat → Int32) (B : Nat → Nat) (L : Nat) (ok : okM f B L) (h1 : h.2 87 = some (.inl (1, 120, f))) (Q : Option Value → AH → Prop) (q : Nat) (hk : T X (d + 1) M_Mo_step 22 [.ref 86, .null] [] (e_put h 86 (oMq (nI L) (nI q) a2 a3 a4 a5 a6 a7 s8 s9 tc)) Q) : ∀ (k p : Nat), L ≤ p + k → p ≤ L → fp isS B L k p = q → T X (d + 1) M_Mo_step 0 [.ref 86, .null] [] (e_put h 86 (oMq (nI L) (nI p) a2 a3 a4 a5 a6 a7 s8 s9 tc)) Q
  | 0, p, hl, hp, he => by
    have : p = L := by omega
    have ep : p = q := he
    subst ep
    refine T_aload_n (pc' := 1) d_Mo_step_0 rfl rfl rfl ?_
    refine T_V0i (pc' := 4) d_Mo_step_1 rfl l_Mo_89 v_Mo_here e_put_s (Nat.le_of_ble_eq_true rfl) (c_here X _ _ a2 a3 a4 a5 a6 a7 s8 s9 tc f B L p ok hp e_put_s ((e_put_n (by decide)).trans h1)) (fun v h2 hq => ?_)
    obtain ⟨rfl, rfl⟩ := hq
    rw [if_neg (by omega)]
    refine T_bipush (v := 32) (pc' := 6) d_Mo_step_4 rfl (by decide) ?_
    refine T_icmp_ne (pc' := 9) (tgt := 22) d_Mo_step_6 rfl (by decide) (fun _ => ?_) (fun hzz => absurd hzz (by decide))
    exact hk
  | k + 1, p, hl, hp, he => by
    have ih := l_skip f B L ok h1 Q q hk k (p + 1)
    rw [fp] at he
    refine T_aload_n (pc' := 1) d_Mo_step_0 rfl rfl rfl ?_
    refine T_V0i (pc' := 4) d_Mo_step_1 rfl l_Mo_89 v_Mo_here e_put_s (Nat.le_of_ble_eq_true rfl) (c_here X _ _ a2 a3 a4 a5 a6 a7 s8 s9 tc f B L p ok hp e_put_s ((e_put_n (by decide)).trans h1)) (fun v h2 hq => ?_)
    obtain ⟨rfl, rfl⟩ := hq
    by_cases hlt : p < L
    · obtain ⟨b1, b2⟩ := ok.2 p hlt
      rw [if_pos hlt]
      refine T_bipush (v := 32) (pc' := 6) d_Mo_step_4 rfl (by decide) ?_
      by_cases hs : isS (B p) = true
      · refine T_icmp_ne (pc' := 9) (tgt := 22) d_Mo_step_6 rfl (by decide) (fun hzz => absurd ((s_isS (B p) b2).mpr hs) hzz) (fun _ => ?_)
        rw [if_pos ⟨hlt, hs⟩] at he
        refine T_aload_n (pc' := 10) d_Mo_step_9 rfl rfl rfl ?_
        refine T_dup (pc' := 11) d_Mo_step_10 rfl rfl ?_
        refine T_get (pc' := 14) d_Mo_step_11 rfl g_Mo_86 e_put_s rfl ?_
        refine T_iconst (v := 1) (pc' := 15) d_Mo_step_14 rfl (by decide) ?_
        refine T_iadd (pc' := 16) d_Mo_step_15 rfl ?_
        rw [nI_1]
        refine T_puti11 (pc' := 19) d_Mo_step_16 rfl f_Mo_86 (fun z => absurd z Bool.false_ne_true) e_put_s ?_
        refine T_goto (pc' := 0) d_Mo_step_19 (by decide) ?_
        rw [e_pp]
        exact ih (by omega) (by omega) he
      · refine T_icmp_ne (pc' := 9) (tgt := 22) d_Mo_step_6 rfl (by decide) (fun _ => ?_) (fun hzz => absurd hzz (fun z => hs ((s_isS (B p) b2).mp z)))
        rw [if_neg (fun z => hs z.2)] at he
        subst he
        exact hk
    · rw [if_neg hlt]
      refine T_bipush (v := 32) (pc' := 6) d_Mo_step_4 rfl (by decide) ?_
      refine T_icmp_ne (pc' := 9) (tgt := 22) d_Mo_step_6 rfl (by decide) (fun _ => ?_) (fun hzz => absurd hzz (by decide))
      rw [if_neg (fun z => hlt z.1)] at he
      subst he
      exact hk
theorem l_mdig (f : Nat → Int32) (B : Nat → Nat) (L : Nat) (c : Int32) (ok : okM f B L) (h1 : h.2 87 = some (.inl (1, 120, f))) (Q : Option Value → AH → Prop) (e : Nat × Nat) (hk : T X (d + 1) M_Mo_step 127 [.ref 86, .int c] [] (e_put h 86 (oMq (nI L) (nI e.2) a2 a3 (nI e.1) a5 a6 a7 s8 s9 tc)) Q) : ∀ (k p v : Nat), L ≤ p + k → p ≤ L → v ≤ 999 → mv B L k p v = e → T X (d + 1) M_Mo_step 65 [.ref 86, .int c] [] (e_put h 86 (oMq (nI L) (nI p) a2 a3 (nI v) a5 a6 a7 s8 s9 tc)) Q
  | 0, p, v, hl, hp, hv, he => by
    have : p = L := by omega
    have ep : (v, p) = e := he
    subst ep
    refine T_aload_n (pc' := 66) d_Mo_step_65 rfl rfl rfl ?_
    refine T_V0i (pc' := 69) d_Mo_step_66 rfl l_Mo_89 v_Mo_here e_put_s (Nat.le_of_ble_eq_true rfl) (c_here X _ _ a2 a3 (nI v) a5 a6 a7 s8 s9 tc f B L p ok hp e_put_s ((e_put_n (by decide)).trans h1)) (fun v' h2 hq => ?_)
    obtain ⟨rfl, rfl⟩ := hq
    rw [if_neg (by omega)]
    refine T_bipush (v := 48) (pc' := 71) d_Mo_step_69 rfl (by decide) ?_
    refine T_bipush (v := 57) (pc' := 73) d_Mo_step_71 rfl (by decide) ?_
    refine T_S3i (pc' := 76) d_Mo_step_73 rfl l_Mo_78 v_Mo_in (Nat.le_of_ble_eq_true rfl) (c_Mo_in X _ _ (-9) 48 57) (fun v' h3 hq => ?_)
    obtain ⟨rfl, ⟨q, rfl⟩ | ⟨q, rfl⟩⟩ := hq
    · exact absurd q (by decide)
    · refine T_if_eq (pc' := 79) (tgt := 127) d_Mo_step_76 rfl (by decide) (fun _ => ?_) (fun hzz => absurd (by decide) hzz)
      exact hk
  | k + 1, p, v, hl, hp, hv, he => by
    have ih := l_mdig f B L c ok h1 Q e hk k (p + 1)
    have hL := ok.1
    rw [mv] at he
    refine T_aload_n (pc' := 66) d_Mo_step_65 rfl rfl rfl ?_
    refine T_V0i (pc' := 69) d_Mo_step_66 rfl l_Mo_89 v_Mo_here e_put_s (Nat.le_of_ble_eq_true rfl) (c_here X _ _ a2 a3 (nI v) a5 a6 a7 s8 s9 tc f B L p ok hp e_put_s ((e_put_n (by decide)).trans h1)) (fun v' h2 hq => ?_)
    obtain ⟨rfl, rfl⟩ := hq
    by_cases hlt : p < L
    · obtain ⟨b1, b2⟩ := ok.2 p hlt
      rw [if_pos hlt]
      refine T_bipush (v := 48) (pc' := 71) d_Mo_step_69 rfl (by decide) ?_
      refine T_bipush (v := 57) (pc' := 73) d_Mo_step_71 rfl (by decide) ?_
      refine T_S3i (pc' := 76) d_Mo_step_73 rfl l_Mo_78 v_Mo_in (Nat.le_of_ble_eq_true rfl) (c_Mo_in X _ _ (nI (B p)) 48 57) (fun v' h3 hq => ?_)
      obtain ⟨rfl, ⟨q, rfl⟩ | ⟨q, rfl⟩⟩ := hq
      · have hd := (s_isD (B p) b2).mp q
        obtain ⟨r1, r2⟩ := isD_rng hd
        rw [if_pos ⟨hlt, hd⟩] at he
        refine T_if_eq (pc' := 79) (tgt := 127) d_Mo_step_76 rfl (by decide) (fun hzz => absurd hzz (by decide)) (fun _ => ?_)
        have nxt : ∀ V : Nat, V = (if 99 < v then v else 10 * v + (B p - 48)) → T X (d + 1) M_Mo_step 111 [.ref 86, .int c] [.int (nI V), .ref 86] (e_put h 86 (oMq (nI L) (nI p) a2 a3 (nI v) a5 a6 a7 s8 s9 tc)) Q := by
          intro V hV
          rw [← hV] at he
          have hV9 : V ≤ 999 := by rw [hV]; split <;> omega
          refine T_puti14 (pc' := 114) d_Mo_step_111 rfl f_Mo_96 (fun z => absurd z Bool.false_ne_true) e_put_s ?_
          rw [e_pp]
          refine T_aload_n (pc' := 115) d_Mo_step_114 rfl rfl rfl ?_
          refine T_dup (pc' := 116) d_Mo_step_115 rfl rfl ?_
          refine T_get (pc' := 119) d_Mo_step_116 rfl g_Mo_86 e_put_s rfl ?_
          refine T_iconst (v := 1) (pc' := 120) d_Mo_step_119 rfl (by decide) ?_
          refine T_iadd (pc' := 121) d_Mo_step_120 rfl ?_
          rw [nI_1]
          refine T_puti11 (pc' := 124) d_Mo_step_121 rfl f_Mo_86 (fun z => absurd z Bool.false_ne_true) e_put_s ?_
          refine T_goto (pc' := 65) d_Mo_step_124 (by decide) ?_
          rw [e_pp]
          exact ih V (by omega) (by omega) hV9 he
        refine T_aload_n (pc' := 80) d_Mo_step_79 rfl rfl rfl ?_
        refine T_aload_n (pc' := 81) d_Mo_step_80 rfl rfl rfl ?_
        refine T_get (pc' := 84) d_Mo_step_81 rfl g_Mo_96 e_put_s rfl ?_
        refine T_bipush (v := 99) (pc' := 86) d_Mo_step_84 rfl (by decide) ?_
        by_cases h99 : v ≤ 99
        · refine T_icmp_le (pc' := 89) (tgt := 96) d_Mo_step_86 rfl (by decide) (fun _ => ?_) (fun hzz => absurd ((s_lt99 v hv).mpr h99) hzz)
          refine T_bipush (v := 10) (pc' := 98) d_Mo_step_96 rfl (by decide) ?_
          refine T_aload_n (pc' := 99) d_Mo_step_98 rfl rfl rfl ?_
          refine T_get (pc' := 102) d_Mo_step_99 rfl g_Mo_96 e_put_s rfl ?_
          refine T_imul (pc' := 103) d_Mo_step_102 rfl ?_
          refine T_aload_n (pc' := 104) d_Mo_step_103 rfl rfl rfl ?_
          refine T_V0i (pc' := 107) d_Mo_step_104 rfl l_Mo_89 v_Mo_here e_put_s (Nat.le_of_ble_eq_true rfl) (c_here X _ _ a2 a3 (nI v) a5 a6 a7 s8 s9 tc f B L p ok hp e_put_s ((e_put_n (by decide)).trans h1)) (fun v' h4 hq => ?_)
          obtain ⟨rfl, rfl⟩ := hq
          rw [if_pos hlt]
          refine T_iadd (pc' := 108) d_Mo_step_107 rfl ?_
          refine T_bipush (v := 48) (pc' := 110) d_Mo_step_108 rfl (by decide) ?_
          refine T_isub (pc' := 111) d_Mo_step_110 rfl ?_
          have ev : (10 : Int32) * nI v + nI (B p) - 48 = nI (10 * v + (B p - 48)) := by
            rw [show (10 : Int32) * nI v = nI (10 * v) from pk_mul 10 v, nI_add, show (48 : Int32) = nI 48 from rfl, nI_sub (by omega)]
            congr 1
            omega
          rw [ev]
          exact nxt _ (by rw [if_neg (by omega)])
        · refine T_icmp_le (pc' := 89) (tgt := 96) d_Mo_step_86 rfl (by decide) (fun hzz => absurd hzz (fun z => h99 ((s_lt99 v hv).mp z))) (fun _ => ?_)
          refine T_aload_n (pc' := 90) d_Mo_step_89 rfl rfl rfl ?_
          refine T_get (pc' := 93) d_Mo_step_90 rfl g_Mo_96 e_put_s rfl ?_
          refine T_goto (pc' := 111) d_Mo_step_93 (by decide) ?_
          exact nxt _ (by rw [if_pos (by omega)])
      · refine T_if_eq (pc' := 79) (tgt := 127) d_Mo_step_76 rfl (by decide) (fun _ => ?_) (fun hzz => absurd (by decide) hzz)
        rw [if_neg (fun z => q ((s_isD (B p) b2).mpr z.2))] at he
        subst he
        exact hk
    · rw [if_neg hlt]
      refine T_bipush (v := 48) (pc' := 71) d_Mo_step_69 rfl (by decide) ?_
      refine T_bipush (v := 57) (pc' := 73) d_Mo_step_71 rfl (by decide) ?_
      refine T_S3i (pc' := 76) d_Mo_step_73 rfl l_Mo_78 v_Mo_in (Nat.le_of_ble_eq_true rfl) (c_Mo_in X _ _ (-9) 48 57) (fun v' h3 hq => ?_)
      obtain ⟨rfl, ⟨q, rfl⟩ | ⟨q, rfl⟩⟩ := hq
      · exact absurd q (by decide)
      · refine T_if_eq (pc' := 79) (tgt := 127) d_Mo_step_76 rfl (by decide) (fun _ => ?_) (fun hzz => absurd (by decide) hzz)
        rw [if_neg (fun z => hlt z.1)] at he
        subst he
        exact hk
theorem l_mlet (f : Nat → Int32) (B : Nat → Nat) (L : Nat) (c : Int32) (ok : okM f B L) (h1 : h.2 87 = some (.inl (1, 120, f))) (Q : Option Value → AH → Prop) (e : Nat) (hk : T X (d + 1) M_Mo_step 205 [.ref 86, .int c] [] (e_put h 86 (oMq (nI L) (nI e) a2 a3 a4 a5 a6 a7 s8 s9 tc)) Q) : ∀ (k p : Nat), L ≤ p + k → p ≤ L → fp isL B L k p = e → T X (d + 1) M_Mo_step 178 [.ref 86, .int c] [] (e_put h 86 (oMq (nI L) (nI p) a2 a3 a4 a5 a6 a7 s8 s9 tc)) Q
  | 0, p, hl, hp, he => by
    have : p = L := by omega
    have ep : p = e := he
    subst ep
    refine T_aload_n (pc' := 179) d_Mo_step_178 rfl rfl rfl ?_
    refine T_V0i (pc' := 182) d_Mo_step_179 rfl l_Mo_89 v_Mo_here e_put_s (Nat.le_of_ble_eq_true rfl) (c_here X _ _ a2 a3 a4 a5 a6 a7 s8 s9 tc f B L p ok hp e_put_s ((e_put_n (by decide)).trans h1)) (fun v' h2 hq => ?_)
    obtain ⟨rfl, rfl⟩ := hq
    rw [if_neg (by omega)]
    refine T_bipush (v := 97) (pc' := 184) d_Mo_step_182 rfl (by decide) ?_
    refine T_bipush (v := 122) (pc' := 186) d_Mo_step_184 rfl (by decide) ?_
    refine T_S3i (pc' := 189) d_Mo_step_186 rfl l_Mo_78 v_Mo_in (Nat.le_of_ble_eq_true rfl) (c_Mo_in X _ _ (-9) 97 122) (fun v' h3 hq => ?_)
    obtain ⟨rfl, ⟨q, rfl⟩ | ⟨q, rfl⟩⟩ := hq
    · exact absurd q (by decide)
    · refine T_if_eq (pc' := 192) (tgt := 205) d_Mo_step_189 rfl (by decide) (fun _ => ?_) (fun hzz => absurd (by decide) hzz)
      exact hk
  | k + 1, p, hl, hp, he => by
    have ih := l_mlet f B L c ok h1 Q e hk k (p + 1)
    rw [fp] at he
    refine T_aload_n (pc' := 179) d_Mo_step_178 rfl rfl rfl ?_
    refine T_V0i (pc' := 182) d_Mo_step_179 rfl l_Mo_89 v_Mo_here e_put_s (Nat.le_of_ble_eq_true rfl) (c_here X _ _ a2 a3 a4 a5 a6 a7 s8 s9 tc f B L p ok hp e_put_s ((e_put_n (by decide)).trans h1)) (fun v' h2 hq => ?_)
    obtain ⟨rfl, rfl⟩ := hq
    by_cases hlt : p < L
    · obtain ⟨b1, b2⟩ := ok.2 p hlt
      rw [if_pos hlt]
      refine T_bipush (v := 97) (pc' := 184) d_Mo_step_182 rfl (by decide) ?_
      refine T_bipush (v := 122) (pc' := 186) d_Mo_step_184 rfl (by decide) ?_
      refine T_S3i (pc' := 189) d_Mo_step_186 rfl l_Mo_78 v_Mo_in (Nat.le_of_ble_eq_true rfl) (c_Mo_in X _ _ (nI (B p)) 97 122) (fun v' h3 hq => ?_)
      obtain ⟨rfl, ⟨q, rfl⟩ | ⟨q, rfl⟩⟩ := hq
      · have hd := (s_isL (B p) b2).mp q
        rw [if_pos ⟨hlt, hd⟩] at he
        refine T_if_eq (pc' := 192) (tgt := 205) d_Mo_step_189 rfl (by decide) (fun hzz => absurd hzz (by decide)) (fun _ => ?_)
        refine T_aload_n (pc' := 193) d_Mo_step_192 rfl rfl rfl ?_
        refine T_dup (pc' := 194) d_Mo_step_193 rfl rfl ?_
        refine T_get (pc' := 197) d_Mo_step_194 rfl g_Mo_86 e_put_s rfl ?_
        refine T_iconst (v := 1) (pc' := 198) d_Mo_step_197 rfl (by decide) ?_
        refine T_iadd (pc' := 199) d_Mo_step_198 rfl ?_
        rw [nI_1]
        refine T_puti11 (pc' := 202) d_Mo_step_199 rfl f_Mo_86 (fun z => absurd z Bool.false_ne_true) e_put_s ?_
        refine T_goto (pc' := 178) d_Mo_step_202 (by decide) ?_
        rw [e_pp]
        exact ih (by omega) (by omega) he
      · refine T_if_eq (pc' := 192) (tgt := 205) d_Mo_step_189 rfl (by decide) (fun _ => ?_) (fun hzz => absurd (by decide) hzz)
        rw [if_neg (fun z => q ((s_isL (B p) b2).mpr z.2))] at he
        subst he
        exact hk
    · rw [if_neg hlt]
      refine T_bipush (v := 97) (pc' := 184) d_Mo_step_182 rfl (by decide) ?_
      refine T_bipush (v := 122) (pc' := 186) d_Mo_step_184 rfl (by decide) ?_
      refine T_S3i (pc' := 189) d_Mo_step_186 rfl l_Mo_78 v_Mo_in (Nat.le_of_ble_eq_true rfl) (c_Mo_in X _ _ (-9) 97 122) (fun v' h3 hq => ?_)
      obtain ⟨rfl, ⟨q, rfl⟩ | ⟨q, rfl⟩⟩ := hq
      · exact absurd q (by decide)
      · refine T_if_eq (pc' := 192) (tgt := 205) d_Mo_step_189 rfl (by decide) (fun _ => ?_) (fun hzz => absurd (by decide) hzz)
        rw [if_neg (fun z => hlt z.1)] at he
        subst he
        exact hk
theorem s_ne9 : ∀ b, b < 256 → ¬ nI b = -9 := by decide +kernel
theorem s_48 : ∀ b, b < 256 → isD b = true → (nI b = 48 ↔ b - 48 = 0) := by decide +kernel
theorem c_step (f : Nat → Int32) (B : Nat → Nat) (L p : Nat) (ok : okM f B L) (hp : p ≤ L) (h0 : h.2 86 = some (oMq (nI L) (nI p) a2 a3 a4 a5 a6 a7 s8 s9 tc)) (h1 : h.2 87 = some (.inl (1, 120, f))) : Cv X (d + 1) M_Mo_step [.ref 86] h (fun h' => ∃ so va, h' = e_put h 86 (oMq (nI L) (nI (tkn B L p).2.2.2) (nI (tkn B L p).2.2.1) so va a5 a6 a7 s8 s9 tc) ∧ MTok (tkn B L p) so va) := by
  have hL := ok.1
  refine C_of_T rfl rfl (Nat.le_of_ble_eq_true rfl) rfl ?_
  have hs : h = e_put h 86 (oMq (nI L) (nI p) a2 a3 a4 a5 a6 a7 s8 s9 tc) := (e_put_self h0).symm
  rw [hs]
  refine l_skip X d h a2 a3 a4 a5 a6 a7 s8 s9 tc f B L ok h1 _ (fp isS B L 120 p) ?_ 120 p (by omega) hp rfl
  rw [← hs]
  have hq1 := fp_ge isS B L 120 p
  have hq2 := fp_le isS B L 120 p hp
  rw [tkn]
  generalize fp isS B L 120 p = q at hq1 hq2
  rw [tk1_pl]
  refine T_aload_n (pc' := 23) d_Mo_step_22 rfl rfl rfl ?_
  refine T_aload_n (pc' := 24) d_Mo_step_23 rfl rfl rfl ?_
  refine T_get (pc' := 27) d_Mo_step_24 rfl g_Mo_86 e_put_s rfl ?_
  refine T_puti12 (pc' := 30) d_Mo_step_27 rfl f_Mo_93 (fun z => absurd z Bool.false_ne_true) e_put_s ?_
  rw [e_pp]
  refine T_aload_n (pc' := 31) d_Mo_step_30 rfl rfl rfl ?_
  refine T_iconst (v := 0) (pc' := 32) d_Mo_step_31 rfl (by decide) ?_
  refine T_puti14 (pc' := 35) d_Mo_step_32 rfl f_Mo_96 (fun z => absurd z Bool.false_ne_true) e_put_s ?_
  rw [e_pp]
  refine T_aload_n (pc' := 36) d_Mo_step_35 rfl rfl rfl ?_
  refine T_V0i (pc' := 39) d_Mo_step_36 rfl l_Mo_89 v_Mo_here e_put_s (Nat.le_of_ble_eq_true rfl) (c_here X _ _ (nI q) a3 0 a5 a6 a7 s8 s9 tc f B L q ok hq2 e_put_s ((e_put_n (by decide)).trans h1)) (fun v h2 hq => ?_)
  obtain ⟨rfl, rfl⟩ := hq
  rw [tk1]
  by_cases hlt : q < L
  · obtain ⟨b1, b2⟩ := ok.2 q hlt
    rw [if_pos hlt, if_neg (fun z => z hlt)]
    refine T_is_n1 (pc' := 40) d_Mo_step_39 rfl rfl (Nat.le_of_ble_eq_true rfl) rfl ?_
    refine T_iload_n (pc' := 41) d_Mo_step_40 rfl rfl rfl ?_
    refine T_bipush (v := (-9)) (pc' := 43) d_Mo_step_41 rfl (by decide) ?_
    refine T_icmp_ne (pc' := 46) (tgt := 54) d_Mo_step_43 rfl (by decide) (fun _ => ?_) (fun hzz => absurd hzz (s_ne9 _ b2))
    refine T_iload_n (pc' := 55) d_Mo_step_54 rfl rfl rfl ?_
    refine T_bipush (v := 48) (pc' := 57) d_Mo_step_55 rfl (by decide) ?_
    refine T_bipush (v := 57) (pc' := 59) d_Mo_step_57 rfl (by decide) ?_
    refine T_S3i (pc' := 62) d_Mo_step_59 rfl l_Mo_78 v_Mo_in (Nat.le_of_ble_eq_true rfl) (c_Mo_in X _ _ (nI (B q)) 48 57) (fun v h3 hq => ?_)
    obtain ⟨rfl, ⟨hin, rfl⟩ | ⟨hin, rfl⟩⟩ := hq
    · have hd := (s_isD (B q) b2).mp hin
      have hnl : ¬ isL (B q) = true := fun z => by
        have z1 := of_decide_eq_true z
        have z2 := isD_rng hd
        omega
      obtain ⟨r1, r2⟩ := isD_rng hd
      rw [if_neg hnl, if_pos hd]
      refine T_if_eq (pc' := 65) (tgt := 167) d_Mo_step_62 rfl (by decide) (fun hzz => absurd hzz (by decide)) (fun _ => ?_)
      have em : mv B L 121 q 0 = mv B L 120 (q + 1) (B q - 48) := by
        rw [show (121 : Nat) = 120 + 1 from rfl, mv, if_pos ⟨hlt, hd⟩, if_neg (by omega), Nat.mul_zero, Nat.zero_add]
      refine l_mdig X d h (nI q) a3 a5 a6 a7 s8 s9 tc f B L (nI (B q)) ok h1 _ (mv B L 121 q 0) ?_ 121 q 0 (by omega) (by omega) (by omega) rfl
      rw [em]
      have hbd := mv_bd B L 120 (q + 1) (B q - 48) (by omega)
      have hge := mv_e B L 120 (q + 1) (B q - 48)
      have h48 := s_48 (B q) b2 hd
      have fin : ∀ (k : Nat) (o : Nat × Nat), o = ov (decide (B q - 48 = 0)) B L 120 (q + 1) (B q - 48) → o.2 = (mv B L 120 (q + 1) (B q - 48)).2 → ((o.1 < 100 ∧ k = 2 ∧ o.1 = (mv B L 120 (q + 1) (B q - 48)).1) ∨ (¬ o.1 < 100 ∧ k = 5)) → T X (d + 1) M_Mo_step 161 [.ref 86, .int (nI (B q))] [.int (nI k), .ref 86] (e_put h 86 (oMq (nI L) (nI (mv B L 120 (q + 1) (B q - 48)).2) (nI q) a3 (nI (mv B L 120 (q + 1) (B q - 48)).1) a5 a6 a7 s8 s9 tc)) (fun r h' => r = none ∧ ∃ so va, h' = e_put h 86 (oMq (nI L) (nI (if (ov (decide (B q - 48 = 0)) B L 120 (q + 1) (B q - 48)).1 < 100 then ((2 : Nat), (ov (decide (B q - 48 = 0)) B L 120 (q + 1) (B q - 48)).1, q, (ov (decide (B q - 48 = 0)) B L 120 (q + 1) (B q - 48)).2) else (4, 0, q, (ov (decide (B q - 48 = 0)) B L 120 (q + 1) (B q - 48)).2)).2.2.2) (nI q) so va a5 a6 a7 s8 s9 tc) ∧ MTok (if (ov (decide (B q - 48 = 0)) B L 120 (q + 1) (B q - 48)).1 < 100 then ((2 : Nat), (ov (decide (B q - 48 = 0)) B L 120 (q + 1) (B q - 48)).1, q, (ov (decide (B q - 48 = 0)) B L 120 (q + 1) (B q - 48)).2) else (4, 0, q, (ov (decide (B q - 48 = 0)) B L 120 (q + 1) (B q - 48)).2)) so va) := by
        intro k o ho ho2 hc
        rw [← ho]
        refine T_puti13 (pc' := 164) d_Mo_step_161 rfl f_Mo_99 (fun z => absurd z Bool.false_ne_true) e_put_s ?_
        refine T_goto (pc' := 260) d_Mo_step_164 (by decide) ?_
        refine T_vret d_Mo_step_260 rfl ?_
        rw [e_pp]
        rcases hc with ⟨c1, rfl, c3⟩ | ⟨c1, rfl⟩
        · rw [if_pos c1]
          refine ⟨rfl, _, _, by rw [ho2]; rfl, fun z => absurd (show (2 : Nat) = 0 from z) (by decide), fun z => absurd (show (2 : Nat) = 1 from z) (by decide), fun _ => ⟨rfl, by rw [← c3]⟩, fun z => absurd (show (2 : Nat) = 3 from z) (by decide), fun z => absurd (show (2 : Nat) = 4 from z) (by decide)⟩
        · rw [if_neg c1]
          exact ⟨rfl, _, _, by rw [ho2]; rfl, fun z => absurd (show (4 : Nat) = 0 from z) (by decide), fun z => absurd (show (4 : Nat) = 1 from z) (by decide), fun z => absurd (show (4 : Nat) = 2 from z) (by decide), fun z => absurd (show (4 : Nat) = 3 from z) (by decide), fun _ => rfl⟩
      refine T_aload_n (pc' := 128) d_Mo_step_127 rfl rfl rfl ?_
      refine T_aload_n (pc' := 129) d_Mo_step_128 rfl rfl rfl ?_
      refine T_get (pc' := 132) d_Mo_step_129 rfl g_Mo_96 e_put_s rfl ?_
      refine T_bipush (v := 99) (pc' := 134) d_Mo_step_132 rfl (by decide) ?_
      by_cases hz : B q - 48 = 0
      · have ez : decide (B q - 48 = 0) = true := decide_eq_true hz
        obtain ⟨o1, o2, o3⟩ := mv_oz B L 120 (q + 1) (B q - 48) (B q - 48)
        rw [← ez] at o1 o2 o3
        by_cases he : (mv B L 120 (q + 1) (B q - 48)).2 = q + 1
        · obtain ⟨o4, o5⟩ := o2 he
          refine T_icmp_gt (pc' := 137) (tgt := 156) d_Mo_step_134 rfl (by decide) (fun hzz => absurd hzz (by rw [o5, hz]; decide)) (fun _ => ?_)
          refine T_iload_n (pc' := 138) d_Mo_step_137 rfl rfl rfl ?_
          refine T_bipush (v := 48) (pc' := 140) d_Mo_step_138 rfl (by decide) ?_
          refine T_icmp_ne (pc' := 143) (tgt := 160) d_Mo_step_140 rfl (by decide) (fun hzz => absurd (h48.mpr hz) hzz) (fun _ => ?_)
          refine T_aload_n (pc' := 144) d_Mo_step_143 rfl rfl rfl ?_
          refine T_get (pc' := 147) d_Mo_step_144 rfl g_Mo_86 e_put_s rfl ?_
          refine T_aload_n (pc' := 148) d_Mo_step_147 rfl rfl rfl ?_
          refine T_get (pc' := 151) d_Mo_step_148 rfl g_Mo_93 e_put_s rfl ?_
          refine T_isub (pc' := 152) d_Mo_step_151 rfl ?_
          refine T_iconst (v := 1) (pc' := 153) d_Mo_step_152 rfl (by decide) ?_
          rw [he, nI_sub (show q ≤ q + 1 by omega), show q + 1 - q = 1 by omega]
          refine T_icmp_le (pc' := 156) (tgt := 160) d_Mo_step_153 rfl (by decide) (fun _ => ?_) (fun hzz => absurd (by decide) hzz)
          refine T_iconst (v := 2) (pc' := 161) d_Mo_step_160 rfl (by decide) ?_
          have := fin 2 _ rfl o1 (Or.inl ⟨by rw [o4]; omega, rfl, by rw [o4, o5]⟩)
          rw [he] at this
          exact this
        · have hun : (ov (decide (B q - 48 = 0)) B L 120 (q + 1) (B q - 48)).1 = 100 := by
            rcases o3 he with z | z
            · omega
            · exact z
          by_cases h99 : 99 < (mv B L 120 (q + 1) (B q - 48)).1
          · refine T_icmp_gt (pc' := 137) (tgt := 156) d_Mo_step_134 rfl (by decide) (fun _ => ?_) (fun hzz => absurd (Int32.not_le.mp (fun z => by have := (s_lt99 _ hbd).mp z; omega)) hzz)
            refine T_iconst (v := 5) (pc' := 157) d_Mo_step_156 rfl (by decide) ?_
            refine T_goto (pc' := 161) d_Mo_step_157 (by decide) ?_
            exact fin 5 _ rfl o1 (Or.inr ⟨by rw [hun]; decide, rfl⟩)
          · refine T_icmp_gt (pc' := 137) (tgt := 156) d_Mo_step_134 rfl (by decide) (fun hzz => absurd hzz (Int32.not_lt.mpr ((s_lt99 _ hbd).mpr (by omega)))) (fun _ => ?_)
            refine T_iload_n (pc' := 138) d_Mo_step_137 rfl rfl rfl ?_
            refine T_bipush (v := 48) (pc' := 140) d_Mo_step_138 rfl (by decide) ?_
            refine T_icmp_ne (pc' := 143) (tgt := 160) d_Mo_step_140 rfl (by decide) (fun hzz => absurd (h48.mpr hz) hzz) (fun _ => ?_)
            refine T_aload_n (pc' := 144) d_Mo_step_143 rfl rfl rfl ?_
            refine T_get (pc' := 147) d_Mo_step_144 rfl g_Mo_86 e_put_s rfl ?_
            refine T_aload_n (pc' := 148) d_Mo_step_147 rfl rfl rfl ?_
            refine T_get (pc' := 151) d_Mo_step_148 rfl g_Mo_93 e_put_s rfl ?_
            refine T_isub (pc' := 152) d_Mo_step_151 rfl ?_
            refine T_iconst (v := 1) (pc' := 153) d_Mo_step_152 rfl (by decide) ?_
            rw [nI_sub (show q ≤ (mv B L 120 (q + 1) (B q - 48)).2 by omega)]
            have hle : (mv B L 120 (q + 1) (B q - 48)).2 ≤ L := by
              rw [← o1]; exact (ov_e _ B L 120 (q + 1) _).2 (by omega)
            refine T_icmp_le (pc' := 156) (tgt := 160) d_Mo_step_153 rfl (by decide) (fun hzz => absurd hzz (nI_ge (a := 1) (by omega) (by omega))) (fun _ => ?_)
            refine T_iconst (v := 5) (pc' := 157) d_Mo_step_156 rfl (by decide) ?_
            refine T_goto (pc' := 161) d_Mo_step_157 (by decide) ?_
            exact fin 5 _ rfl o1 (Or.inr ⟨by rw [hun]; decide, rfl⟩)
      · have ez : decide (B q - 48 = 0) = false := decide_eq_false hz
        obtain ⟨o1, o2⟩ := mv_ov B L 120 (q + 1) (B q - 48)
        rw [Nat.min_eq_right (by omega), ← ez] at o1 o2
        by_cases h99 : 99 < (mv B L 120 (q + 1) (B q - 48)).1
        · refine T_icmp_gt (pc' := 137) (tgt := 156) d_Mo_step_134 rfl (by decide) (fun _ => ?_) (fun hzz => absurd (Int32.not_le.mp (fun z => by have := (s_lt99 _ hbd).mp z; omega)) hzz)
          refine T_iconst (v := 5) (pc' := 157) d_Mo_step_156 rfl (by decide) ?_
          refine T_goto (pc' := 161) d_Mo_step_157 (by decide) ?_
          exact fin 5 _ rfl o1 (Or.inr ⟨by rw [o2]; omega, rfl⟩)
        · refine T_icmp_gt (pc' := 137) (tgt := 156) d_Mo_step_134 rfl (by decide) (fun hzz => absurd hzz (Int32.not_lt.mpr ((s_lt99 _ hbd).mpr (by omega)))) (fun _ => ?_)
          refine T_iload_n (pc' := 138) d_Mo_step_137 rfl rfl rfl ?_
          refine T_bipush (v := 48) (pc' := 140) d_Mo_step_138 rfl (by decide) ?_
          refine T_icmp_ne (pc' := 143) (tgt := 160) d_Mo_step_140 rfl (by decide) (fun _ => ?_) (fun hzz => absurd hzz (fun z => hz (h48.mp z)))
          refine T_iconst (v := 2) (pc' := 161) d_Mo_step_160 rfl (by decide) ?_
          exact fin 2 _ rfl o1 (Or.inl ⟨by rw [o2]; omega, rfl, by rw [o2]; omega⟩)
    · have hnd : ¬ isD (B q) = true := fun z => hin ((s_isD (B q) b2).mpr z)
      refine T_if_eq (pc' := 65) (tgt := 167) d_Mo_step_62 rfl (by decide) (fun _ => ?_) (fun hzz => absurd (by decide) hzz)
      refine T_iload_n (pc' := 168) d_Mo_step_167 rfl rfl rfl ?_
      refine T_bipush (v := 97) (pc' := 170) d_Mo_step_168 rfl (by decide) ?_
      refine T_bipush (v := 122) (pc' := 172) d_Mo_step_170 rfl (by decide) ?_
      refine T_S3i (pc' := 175) d_Mo_step_172 rfl l_Mo_78 v_Mo_in (Nat.le_of_ble_eq_true rfl) (c_Mo_in X _ _ (nI (B q)) 97 122) (fun v h4 hq => ?_)
      obtain ⟨rfl, ⟨hil, rfl⟩ | ⟨hil, rfl⟩⟩ := hq
      · have hl := (s_isL (B q) b2).mp hil
        rw [if_pos hl]
        refine T_if_eq (pc' := 178) (tgt := 235) d_Mo_step_175 rfl (by decide) (fun hzz => absurd hzz (by decide)) (fun _ => ?_)
        have ef : fp isL B L 121 q = fp isL B L 120 (q + 1) := by
          rw [show (121 : Nat) = 120 + 1 from rfl, fp, if_pos ⟨hlt, hl⟩]
        refine l_mlet X d h (nI q) a3 0 a5 a6 a7 s8 s9 tc f B L (nI (B q)) ok h1 _ (fp isL B L 121 q) ?_ 121 q (by omega) (by omega) rfl
        rw [ef]
        have hge := fp_ge isL B L 120 (q + 1)
        have hle := fp_le isL B L 120 (q + 1) (by omega)
        generalize fp isL B L 120 (q + 1) = e at hge hle
        refine T_aload_n (pc' := 206) d_Mo_step_205 rfl rfl rfl ?_
        refine T_aload_n (pc' := 207) d_Mo_step_206 rfl rfl rfl ?_
        refine T_get (pc' := 210) d_Mo_step_207 rfl g_Mo_86 e_put_s rfl ?_
        refine T_aload_n (pc' := 211) d_Mo_step_210 rfl rfl rfl ?_
        refine T_get (pc' := 214) d_Mo_step_211 rfl g_Mo_93 e_put_s rfl ?_
        refine T_isub (pc' := 215) d_Mo_step_214 rfl ?_
        refine T_iconst (v := 1) (pc' := 216) d_Mo_step_215 rfl (by decide) ?_
        rw [nI_sub (show q ≤ e by omega)]
        by_cases he : e = q + 1
        · refine T_icmp_ne (pc' := 219) (tgt := 223) d_Mo_step_216 rfl (by decide) (fun hzz => absurd (by rw [he, show q + 1 - q = 1 by omega]; rfl) hzz) (fun _ => ?_)
          refine T_iload_n (pc' := 220) d_Mo_step_219 rfl rfl rfl ?_
          refine T_goto (pc' := 224) d_Mo_step_220 (by decide) ?_
          refine T_puti14 (pc' := 227) d_Mo_step_224 rfl f_Mo_96 (fun z => absurd z Bool.false_ne_true) e_put_s ?_
          rw [e_pp]
          refine T_aload_n (pc' := 228) d_Mo_step_227 rfl rfl rfl ?_
          refine T_iconst (v := 1) (pc' := 229) d_Mo_step_228 rfl (by decide) ?_
          refine T_puti13 (pc' := 232) d_Mo_step_229 rfl f_Mo_99 (fun z => absurd z Bool.false_ne_true) e_put_s ?_
          refine T_goto (pc' := 260) d_Mo_step_232 (by decide) ?_
          refine T_vret d_Mo_step_260 rfl ?_
          rw [e_pp]
          refine ⟨rfl, _, _, rfl, fun z => absurd (show (1 : Nat) = 0 from z) (by decide), fun _ => ⟨rfl, ?_⟩, fun z => absurd (show (1 : Nat) = 2 from z) (by decide), fun z => absurd (show (1 : Nat) = 3 from z) (by decide), fun z => absurd (show (1 : Nat) = 4 from z) (by decide)⟩
          show nI (B q) = nI (if e = q + 1 then B q else 0)
          rw [if_pos he]
        · refine T_icmp_ne (pc' := 219) (tgt := 223) d_Mo_step_216 rfl (by decide) (fun _ => ?_) (fun hzz => absurd hzz (fun z => he (by have := (nI_eq (b := 1) (by omega) (by decide)).mp z; omega)))
          refine T_iconst (v := 0) (pc' := 224) d_Mo_step_223 rfl (by decide) ?_
          refine T_puti14 (pc' := 227) d_Mo_step_224 rfl f_Mo_96 (fun z => absurd z Bool.false_ne_true) e_put_s ?_
          rw [e_pp]
          refine T_aload_n (pc' := 228) d_Mo_step_227 rfl rfl rfl ?_
          refine T_iconst (v := 1) (pc' := 229) d_Mo_step_228 rfl (by decide) ?_
          refine T_puti13 (pc' := 232) d_Mo_step_229 rfl f_Mo_99 (fun z => absurd z Bool.false_ne_true) e_put_s ?_
          refine T_goto (pc' := 260) d_Mo_step_232 (by decide) ?_
          refine T_vret d_Mo_step_260 rfl ?_
          rw [e_pp]
          refine ⟨rfl, _, _, rfl, fun z => absurd (show (1 : Nat) = 0 from z) (by decide), fun _ => ⟨rfl, ?_⟩, fun z => absurd (show (1 : Nat) = 2 from z) (by decide), fun z => absurd (show (1 : Nat) = 3 from z) (by decide), fun z => absurd (show (1 : Nat) = 4 from z) (by decide)⟩
          show (0 : Int32) = nI (if e = q + 1 then B q else 0)
          rw [if_neg he]; rfl
      · have hnl : ¬ isL (B q) = true := fun z => hil ((s_isL (B q) b2).mpr z)
        rw [if_neg hnl, if_neg hnd]
        refine T_if_eq (pc' := 178) (tgt := 235) d_Mo_step_175 rfl (by decide) (fun _ => ?_) (fun hzz => absurd (by decide) hzz)
        refine T_aload_n (pc' := 236) d_Mo_step_235 rfl rfl rfl ?_
        refine T_dup (pc' := 237) d_Mo_step_236 rfl rfl ?_
        refine T_get (pc' := 240) d_Mo_step_237 rfl g_Mo_86 e_put_s rfl ?_
        refine T_iconst (v := 1) (pc' := 241) d_Mo_step_240 rfl (by decide) ?_
        refine T_iadd (pc' := 242) d_Mo_step_241 rfl ?_
        rw [nI_1]
        refine T_puti11 (pc' := 245) d_Mo_step_242 rfl f_Mo_86 (fun z => absurd z Bool.false_ne_true) e_put_s ?_
        rw [e_pp]
        refine T_aload_n (pc' := 246) d_Mo_step_245 rfl rfl rfl ?_
        refine T_iload_n (pc' := 247) d_Mo_step_246 rfl rfl rfl ?_
        refine T_bipush (v := 59) (pc' := 249) d_Mo_step_247 rfl (by decide) ?_
        by_cases h59 : B q = 59
        · refine T_icmp_ne (pc' := 252) (tgt := 256) d_Mo_step_249 rfl (by decide) (fun hzz => absurd ((s_59 _ b2).mpr h59) hzz) (fun _ => ?_)
          rw [if_pos h59]
          refine T_iconst (v := 3) (pc' := 253) d_Mo_step_252 rfl (by decide) ?_
          refine T_goto (pc' := 257) d_Mo_step_253 (by decide) ?_
          refine T_puti13 (pc' := 260) d_Mo_step_257 rfl f_Mo_99 (fun z => absurd z Bool.false_ne_true) e_put_s ?_
          refine T_vret d_Mo_step_260 rfl ?_
          rw [e_pp]
          exact ⟨rfl, _, _, rfl, fun z => absurd (show (3 : Nat) = 0 from z) (by decide), fun z => absurd (show (3 : Nat) = 1 from z) (by decide), fun z => absurd (show (3 : Nat) = 2 from z) (by decide), fun _ => rfl, fun z => absurd (show (3 : Nat) = 4 from z) (by decide)⟩
        · refine T_icmp_ne (pc' := 252) (tgt := 256) d_Mo_step_249 rfl (by decide) (fun _ => ?_) (fun hzz => absurd hzz (fun z => h59 ((s_59 _ b2).mp z)))
          rw [if_neg h59]
          refine T_iconst (v := 5) (pc' := 257) d_Mo_step_256 rfl (by decide) ?_
          refine T_puti13 (pc' := 260) d_Mo_step_257 rfl f_Mo_99 (fun z => absurd z Bool.false_ne_true) e_put_s ?_
          refine T_vret d_Mo_step_260 rfl ?_
          rw [e_pp]
          exact ⟨rfl, _, _, rfl, fun z => absurd (show (4 : Nat) = 0 from z) (by decide), fun z => absurd (show (4 : Nat) = 1 from z) (by decide), fun z => absurd (show (4 : Nat) = 2 from z) (by decide), fun z => absurd (show (4 : Nat) = 3 from z) (by decide), fun _ => rfl⟩
  · rw [if_neg hlt, if_pos hlt]
    refine T_is_n1 (pc' := 40) d_Mo_step_39 rfl rfl (Nat.le_of_ble_eq_true rfl) rfl ?_
    refine T_iload_n (pc' := 41) d_Mo_step_40 rfl rfl rfl ?_
    refine T_bipush (v := (-9)) (pc' := 43) d_Mo_step_41 rfl (by decide) ?_
    refine T_icmp_ne (pc' := 46) (tgt := 54) d_Mo_step_43 rfl (by decide) (fun hzz => absurd (by decide) hzz) (fun _ => ?_)
    refine T_aload_n (pc' := 47) d_Mo_step_46 rfl rfl rfl ?_
    refine T_iconst (v := 4) (pc' := 48) d_Mo_step_47 rfl (by decide) ?_
    refine T_puti13 (pc' := 51) d_Mo_step_48 rfl f_Mo_99 (fun z => absurd z Bool.false_ne_true) e_put_s ?_
    refine T_goto (pc' := 260) d_Mo_step_51 (by decide) ?_
    refine T_vret d_Mo_step_260 rfl ?_
    rw [e_pp]
    exact ⟨rfl, _, _, rfl, fun _ => rfl, fun z => absurd (show (0 : Nat) = 1 from z) (by decide), fun z => absurd (show (0 : Nat) = 2 from z) (by decide), fun z => absurd (show (0 : Nat) = 3 from z) (by decide), fun z => absurd (show (0 : Nat) = 4 from z) (by decide)⟩
end MTOK
