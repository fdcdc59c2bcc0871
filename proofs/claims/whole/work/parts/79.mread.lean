/-! the text: read, the model -/
theorem itN_c {ps : PS} {t : Nat × Nat × Nat × Nat} (h : ¬ itN ps t = 4) : t.1 = 1 ∧ ((t.2.1 = 119 ∧ itN ps t = 0) ∨ (t.2.1 = 112 ∧ itN ps t = 1) ∨ (t.2.1 = 116 ∧ itN ps t = 2) ∨ (t.2.1 = 120 ∧ itN ps t = 3)) := by
  by_cases h1 : t.1 = 1
  · refine ⟨h1, ?_⟩
    by_cases a : t.2.1 = 119
    · exact Or.inl ⟨a, by simp [itN, h1, a]⟩
    by_cases b : t.2.1 = 112
    · right; left
      refine ⟨b, ?_⟩
      by_cases hn : ps.1 0 < 3
      · simp [itN, h1, b, hn]
      · exact absurd (show itN ps t = 4 by simp [itN, h1, b, hn]) h
    by_cases c : t.2.1 = 116
    · right; right; left
      refine ⟨c, ?_⟩
      by_cases hn : ps.1 1 < 4
      · simp [itN, h1, c, hn]
      · exact absurd (show itN ps t = 4 by simp [itN, h1, c, hn]) h
    by_cases e : t.2.1 = 120
    · right; right; right
      refine ⟨e, ?_⟩
      by_cases hn : ps.1 2 = 0
      · simp [itN, h1, e, hn]
      · exact absurd (show itN ps t = 4 by simp [itN, h1, e, hn]) h
    exact absurd (show itN ps t = 4 by simp [itN, h1, a, b, c, e]) h
  · exact absurd (show itN ps t = 4 by simp [itN, h1]) h
section MREAD
variable (X : EX) (d : Nat) (h : AH) (σ : Sp) (s8 s9 : Int32) (tc : Int64) (f : Nat → Int32) (B : Nat → Nat) (L : Nat)
theorem c_may (t : Nat × Nat × Nat × Nat) (ps : PS) (F : Nat → Nat → Int32) (s0 a1 a2 a3 a4 a5 a6 : Int32) (hv : t.2.1 < 256) (ht : t.1 = 1) (psi : PSI ps) (k0 : h.2 86 = some (oMq s0 a1 a2 a3 a4 a5 a6 (nI (ps.1 2)) s8 s9 tc)) (ha : HA h F) (sh : SH ps F) : Ci X d M_Mo_may [.ref 86, .int (nI t.2.1)] h (fun v h' => h' = h ∧ v = if itN ps t = 4 then 0 else 1) := by
  obtain ⟨y1, y2, y3, y4, y5, y6⟩ := sh
  have w1 := ha 1 (by omega)
  have w5 := ha 5 (by omega)
  have p1 := psi.1
  have p2 := psi.2.1
  have p3 := psi.2.2.1
  refine C_of_T rfl rfl (Nat.le_of_ble_eq_true rfl) rfl ?_
  refine T_iload_n (pc' := 1) d_Mo_may_0 rfl rfl rfl ?_
  refine sw_Mo_may_1 (fun hx => ?_) (fun hx => ?_) (fun hx => ?_) (fun x1 x2 x3 => ?_)
  · have e : t.2.1 = 112 := (nI_eq (b := 112) (by omega) (by decide)).mp hx
    refine T_aload_n (pc' := 39) d_Mo_may_38 rfl rfl rfl ?_
    refine T_get (pc' := 42) d_Mo_may_39 rfl g_Mo_17 (by first | assumption | exact e_put_s | simp [e_put, *]) rfl ?_
    refine T_iconst (v := 1) (pc' := 43) d_Mo_may_42 rfl (by decide) ?_
    refine T_ialoadL 1 (pc' := 44) d_Mo_may_43 rfl (by first | assumption | exact e_put_s | simp [e_put, *]) (by decide) ?_
    rw [y2]
    refine T_iconst (v := 3) (pc' := 45) d_Mo_may_44 rfl (by decide) ?_
    by_cases hn : ps.1 0 < 3
    · refine T_icmp_ge (pc' := 48) (tgt := 52) d_Mo_may_45 rfl (by decide) (fun hzz => absurd hzz (nI_ge (a := ps.1 0) (b := 3) hn (by decide))) (fun _ => ?_)
      refine T_iconst (v := 1) (pc' := 49) d_Mo_may_48 rfl (by decide) ?_
      refine T_goto (pc' := 53) d_Mo_may_49 (by decide) ?_
      refine T_zret d_Mo_may_53 rfl (by first | assumption | exact Or.inl rfl | exact Or.inr rfl) ?_
      exact ⟨_, rfl, rfl, by simp [itN, ht, e, hn]⟩
    · refine T_icmp_ge (pc' := 48) (tgt := 52) d_Mo_may_45 rfl (by decide) (fun _ => ?_) (fun hzz => absurd (nI_le (a := 3) (b := ps.1 0) (by omega) (by omega)) hzz)
      refine T_iconst (v := 0) (pc' := 53) d_Mo_may_52 rfl (by decide) ?_
      refine T_zret d_Mo_may_53 rfl (by first | assumption | exact Or.inl rfl | exact Or.inr rfl) ?_
      exact ⟨_, rfl, rfl, by simp [itN, ht, e, hn]⟩
  · have e : t.2.1 = 116 := (nI_eq (b := 116) (by omega) (by decide)).mp hx
    refine T_aload_n (pc' := 55) d_Mo_may_54 rfl rfl rfl ?_
    refine T_get (pc' := 58) d_Mo_may_55 rfl g_Mo_29 (by first | assumption | exact e_put_s | simp [e_put, *]) rfl ?_
    refine T_iconst (v := 1) (pc' := 59) d_Mo_may_58 rfl (by decide) ?_
    refine T_ialoadL 1 (pc' := 60) d_Mo_may_59 rfl (by first | assumption | exact e_put_s | simp [e_put, *]) (by decide) ?_
    rw [y4]
    refine T_iconst (v := 4) (pc' := 61) d_Mo_may_60 rfl (by decide) ?_
    by_cases hn : ps.1 1 < 4
    · refine T_icmp_ge (pc' := 64) (tgt := 68) d_Mo_may_61 rfl (by decide) (fun hzz => absurd hzz (nI_ge (a := ps.1 1) (b := 4) hn (by decide))) (fun _ => ?_)
      refine T_iconst (v := 1) (pc' := 65) d_Mo_may_64 rfl (by decide) ?_
      refine T_goto (pc' := 69) d_Mo_may_65 (by decide) ?_
      refine T_zret d_Mo_may_69 rfl (by first | assumption | exact Or.inl rfl | exact Or.inr rfl) ?_
      exact ⟨_, rfl, rfl, by simp [itN, ht, e, hn]⟩
    · refine T_icmp_ge (pc' := 64) (tgt := 68) d_Mo_may_61 rfl (by decide) (fun _ => ?_) (fun hzz => absurd (nI_le (a := 4) (b := ps.1 1) (by omega) (by omega)) hzz)
      refine T_iconst (v := 0) (pc' := 69) d_Mo_may_68 rfl (by decide) ?_
      refine T_zret d_Mo_may_69 rfl (by first | assumption | exact Or.inl rfl | exact Or.inr rfl) ?_
      exact ⟨_, rfl, rfl, by simp [itN, ht, e, hn]⟩
  · have e : t.2.1 = 119 := (nI_eq (b := 119) (by omega) (by decide)).mp hx
    refine T_iconst (v := 1) (pc' := 37) d_Mo_may_36 rfl (by decide) ?_
    refine T_zret d_Mo_may_37 rfl (by first | assumption | exact Or.inl rfl | exact Or.inr rfl) ?_
    exact ⟨_, rfl, rfl, by simp [itN, ht, e]⟩
  · have e1 : ¬ t.2.1 = 112 := fun z => x1 (by rw [z]; rfl)
    have e2 : ¬ t.2.1 = 116 := fun z => x2 (by rw [z]; rfl)
    have e3 : ¬ t.2.1 = 119 := fun z => x3 (by rw [z]; rfl)
    refine T_iload_n (pc' := 71) d_Mo_may_70 rfl rfl rfl ?_
    refine T_bipush (v := 120) (pc' := 73) d_Mo_may_71 rfl (by decide) ?_
    by_cases e : t.2.1 = 120
    · refine T_icmp_ne (pc' := 76) (tgt := 87) d_Mo_may_73 rfl (by decide) (fun hzz => absurd (by rw [e]; rfl) hzz) (fun _ => ?_)
      refine T_aload_n (pc' := 77) d_Mo_may_76 rfl rfl rfl ?_
      refine T_get (pc' := 80) d_Mo_may_77 rfl g_Mo_117 (by first | assumption | exact e_put_s | simp [e_put, *]) rfl ?_
      by_cases hn : ps.1 2 = 0
      · refine T_if_ne (pc' := 83) (tgt := 87) d_Mo_may_80 rfl (by decide) (fun hzz => absurd (by rw [hn]; rfl) hzz) (fun _ => ?_)
        refine T_iconst (v := 1) (pc' := 84) d_Mo_may_83 rfl (by decide) ?_
        refine T_goto (pc' := 88) d_Mo_may_84 (by decide) ?_
        refine T_zret d_Mo_may_88 rfl (by first | assumption | exact Or.inl rfl | exact Or.inr rfl) ?_
        exact ⟨_, rfl, rfl, by simp [itN, ht, e, hn]⟩
      · refine T_if_ne (pc' := 83) (tgt := 87) d_Mo_may_80 rfl (by decide) (fun _ => ?_) (fun hzz => absurd hzz (by rw [show ps.1 2 = 1 by omega]; decide))
        refine T_iconst (v := 0) (pc' := 88) d_Mo_may_87 rfl (by decide) ?_
        refine T_zret d_Mo_may_88 rfl (by first | assumption | exact Or.inl rfl | exact Or.inr rfl) ?_
        exact ⟨_, rfl, rfl, by simp [itN, ht, e, hn]⟩
    · refine T_icmp_ne (pc' := 76) (tgt := 87) d_Mo_may_73 rfl (by decide) (fun _ => ?_) (fun hzz => absurd hzz (fun z => e ((nI_eq (b := 120) (by omega) (by decide)).mp z)))
      refine T_iconst (v := 0) (pc' := 88) d_Mo_may_87 rfl (by decide) ?_
      refine T_zret d_Mo_may_88 rfl (by first | assumption | exact Or.inl rfl | exact Or.inr rfl) ?_
      exact ⟨_, rfl, rfl, by simp [itN, ht, e, e1, e2, e3]⟩
theorem c_item (t : Nat × Nat × Nat × Nat) (ps : PS) (F : Nat → Nat → Int32) (a6 : Int32) (h4 : ¬ itN ps t = 4) (ok : okM f B L) (hp : t.2.2.2 ≤ L) (si : SI σ) (pm : PMO h L (.inr (tkn B L t.2.2.2)) a6 (nI (ps.1 2)) s8 s9 tc) (h1 : h.2 87 = some (.inl (1, 120, f))) (ha : HA h F) (fh : FH σ F) (sh : SH ps F) : Cv X (d + 4) M_Mo_item [.ref 86, .int (nI t.2.1)] h (fun h' => ITM h h' B L σ ps (itN ps t) (pNums B L (itN ps t) (cntT (itN ps t)) 0 t.2.2.2 (fun _ => 0)) a6 s8 s9 tc) := by
  obtain ⟨-, ⟨e1, e2⟩ | ⟨e1, e2⟩ | ⟨e1, e2⟩ | ⟨e1, e2⟩⟩ := itN_c h4
  · rw [e1, e2]; exact c_item_w X d h σ s8 s9 tc f B L t.2.2.2 ps F a6 ok hp si pm h1 ha fh sh
  · rw [e1, e2]; exact c_item_p X d h σ s8 s9 tc f B L t.2.2.2 ps F a6 ok hp si (itN_1 e2) pm h1 ha fh sh
  · rw [e1, e2]; exact c_item_t X d h σ s8 s9 tc f B L t.2.2.2 ps F a6 ok hp si (itN_2 e2) pm h1 ha fh sh
  · rw [e1, e2]; exact c_item_x X d h σ s8 s9 tc f B L t.2.2.2 ps F a6 ok hp si pm h1 ha fh sh
theorem l_wrong (Q : Option Value → AH → Prop) (q : Nat) (a6 a7 v1 : Int32) (pm : PMO h L (.inl q) a6 a7 s8 s9 tc) (hq : Q none h) : T X d M_Mo_read 70 [.ref 86, .int v1] [] h Q := by
  obtain ⟨a1, so, va, b6, b7, k0⟩ := pm
  refine T_aload_n (pc' := 71) d_Mo_read_70 rfl rfl rfl ?_
  refine T_get (pc' := 74) d_Mo_read_71 rfl g_Mo_99 (by first | assumption | exact e_put_s | simp [e_put, *]) rfl ?_
  refine T_iconst (v := 4) (pc' := 75) d_Mo_read_74 rfl (by decide) ?_
  by_cases e : so = 4
  · refine T_icmp_eq (pc' := 78) (tgt := 169) d_Mo_read_75 rfl (by decide) (fun _ => ?_) (fun hzz => absurd e hzz)
    refine T_vret d_Mo_read_169 rfl ?_
    exact hq
  · refine T_icmp_eq (pc' := 78) (tgt := 169) d_Mo_read_75 rfl (by decide) (fun hzz => absurd hzz e) (fun _ => ?_)
    refine T_aload_n (pc' := 79) d_Mo_read_78 rfl rfl rfl ?_
    refine T_get (pc' := 82) d_Mo_read_79 rfl g_Mo_102 (by first | assumption | exact e_put_s | simp [e_put, *]) rfl ?_
    refine T_if_ne (pc' := 85) (tgt := 169) d_Mo_read_82 rfl (by decide) (fun _ => ?_) (fun hzz => absurd hzz (by decide))
    refine T_vret d_Mo_read_169 rfl ?_
    exact hq
theorem l_Mread (si : SI σ) (ok : okM f B L) (h1t : h.2 87 = some (.inl (1, 120, f))) (R : Nat ⊕ (Nat × PS)) (Q : Option Value → AH → Prop) (hbad : ∀ q, R = .inl q → ∀ h1 F a6 a7, PMO h1 L (.inl q) a6 a7 s8 s9 tc → HA h1 F → FH σ F → ExP h h1 → Q none h1) (hgood : ∀ z, R = .inr z → ∀ h1 F t', PMO h1 L (.inr t') (nI z.1) (nI (z.2.1 2)) s8 s9 tc → HA h1 F → FH σ F → SH z.2 F → PSI z.2 → z.1 ≤ 120 → ExP h h1 → Q none h1) : ∀ (k c : Nat) (t : Nat × Nat × Nat × Nat) (ps : PS), pAll B L k t ps c = R → L < t.2.2.1 + k → t.2.2.1 ≤ L → t.2.2.2 ≤ L → (t.1 = 0 ↔ ¬ t.2.2.1 < L) → t.2.2.1 ≤ t.2.2.2 → t.1 ≤ 4 → t.2.1 < 256 → c ≤ t.2.2.1 → PSI ps → ∀ h1 F v1, PMO h1 L (.inr t) (nI c) (nI (ps.1 2)) s8 s9 tc → HA h1 F → FH σ F → SH ps F → ExP h h1 → T X (d + 5) M_Mo_read 70 [.ref 86, .int v1] [] h1 Q
  | 0, c, t, ps, hR, hk, t1, t2, t3, t4, t5, t6, t7, psi, h1, F, v1, pm, ha, fh, sh, ex => by omega
  | k + 1, c, t, ps, hR, hk, t1, t2, t3, t4, t5, t6, t7, psi, h1, F, v1, pm, ha, fh, sh, ex => by
    have hL := ok.1
    have hB : ∀ i, i < L → B i < 256 := fun i q => (ok.2 i q).2
    have htx : ∀ {h2 : AH}, ExP h h2 → h2.2 87 = some (.inl (1, 120, f)) := fun e => (e.2 87 (by decide) (by decide)).trans h1t
    obtain ⟨so, va, k0, mt⟩ := id pm
    obtain ⟨m0, m1, m2, m3, m4⟩ := mt
    rw [pAll] at hR
    refine T_aload_n (pc' := 71) d_Mo_read_70 rfl rfl rfl ?_
    refine T_get (pc' := 74) d_Mo_read_71 rfl g_Mo_99 (by first | assumption | exact e_put_s | simp [e_put, *]) rfl ?_
    refine T_iconst (v := 4) (pc' := 75) d_Mo_read_74 rfl (by decide) ?_
    by_cases hz : t.1 = 0
    · rw [if_pos hz] at hR
      refine T_icmp_eq (pc' := 78) (tgt := 169) d_Mo_read_75 rfl (by decide) (fun _ => ?_) (fun hzz => absurd (m0 hz) hzz)
      refine T_vret d_Mo_read_169 rfl ?_
      exact hgood _ hR.symm h1 F t pm ha fh sh psi (show c ≤ 120 by omega) ex
    · rw [if_neg hz] at hR
      have hlt : t.2.2.1 < L := Classical.byContradiction (fun q => hz (t3.mpr q))
      have hso : ¬ so = 4 := by
        have hc : t.1 = 1 ∨ t.1 = 2 ∨ t.1 = 3 ∨ t.1 = 4 := by omega
        rcases hc with z | z | z | z
        · rw [(m1 z).1]; decide
        · rw [(m2 z).1]; decide
        · rw [m3 z]; decide
        · rw [m4 z]; decide
      refine T_icmp_eq (pc' := 78) (tgt := 169) d_Mo_read_75 rfl (by decide) (fun hzz => absurd hzz hso) (fun _ => ?_)
      refine T_aload_n (pc' := 79) d_Mo_read_78 rfl rfl rfl ?_
      refine T_get (pc' := 82) d_Mo_read_79 rfl g_Mo_102 (by first | assumption | exact e_put_s | simp [e_put, *]) rfl ?_
      refine T_if_ne (pc' := 85) (tgt := 169) d_Mo_read_82 rfl (by decide) (fun hzz => absurd (by decide) hzz) (fun _ => ?_)
      refine T_aload_n (pc' := 86) d_Mo_read_85 rfl rfl rfl ?_
      refine T_get (pc' := 89) d_Mo_read_86 rfl g_Mo_99 (by first | assumption | exact e_put_s | simp [e_put, *]) rfl ?_
      refine T_iconst (v := 1) (pc' := 90) d_Mo_read_89 rfl (by decide) ?_
      have badword : itN ps t = 4 → ∀ w, T X (d + 5) M_Mo_read 124 [.ref 86, .int w] [.int (bi false), .ref 86] h1 Q := by
        intro h4 w
        have e : pOne B L ps t = .inl t.2.2.1 := by rw [pOne, if_pos h4]
        rw [e] at hR
        have hR' : (.inl t.2.2.1 : Nat ⊕ (Nat × PS)) = R := hR
        refine T_V1v (pc' := 127) d_Mo_read_124 rfl l_Mo_109 v_Mo_due (by first | assumption | exact e_put_s | simp [e_put, *]) (Nat.le_of_ble_eq_true rfl) (c_due X _ h1 s8 s9 tc f B L false (.inr t) (nI c) (nI (ps.1 2)) ok ⟨t2, t5⟩ pm (htx ex)) (fun h2 hq => ?_)
        obtain ⟨c2, rfl, pm2⟩ := hq
        rw [show dS B L false (.inr t) = .inl t.2.2.1 from rfl] at pm2
        obtain ⟨a1, so', va', b6, b7, k2⟩ := id pm2
        refine T_aload_n (pc' := 128) d_Mo_read_127 rfl rfl rfl ?_
        refine T_get (pc' := 131) d_Mo_read_128 rfl g_Mo_102 (by first | assumption | exact e_put_s | simp [e_put, *]) rfl ?_
        refine T_if_ne (pc' := 134) (tgt := 166) d_Mo_read_131 rfl (by decide) (fun _ => ?_) (fun hzz => absurd hzz (by decide))
        refine T_goto (pc' := 70) d_Mo_read_166 (by decide) ?_
        exact l_wrong X _ _ s8 s9 tc L Q _ _ _ _ pm2 (hbad _ hR'.symm _ F _ _ pm2 (HA_obj ha) fh (ex.put (Or.inl rfl)))
      by_cases h1' : t.1 = 1
      · obtain ⟨rfl, rfl⟩ := m1 h1'
        refine T_icmp_ne (pc' := 93) (tgt := 100) d_Mo_read_90 rfl (by decide) (fun hzz => absurd rfl hzz) (fun _ => ?_)
        refine T_aload_n (pc' := 94) d_Mo_read_93 rfl rfl rfl ?_
        refine T_get (pc' := 97) d_Mo_read_94 rfl g_Mo_96 (by first | assumption | exact e_put_s | simp [e_put, *]) rfl ?_
        refine T_goto (pc' := 101) d_Mo_read_97 (by decide) ?_
        refine T_is_n1 (pc' := 102) d_Mo_read_101 rfl rfl (Nat.le_of_ble_eq_true rfl) rfl ?_
        refine T_aload_n (pc' := 103) d_Mo_read_102 rfl rfl rfl ?_
        refine T_aload_n (pc' := 104) d_Mo_read_103 rfl rfl rfl ?_
        refine T_get (pc' := 107) d_Mo_read_104 rfl g_Mo_99 (by first | assumption | exact e_put_s | simp [e_put, *]) rfl ?_
        refine T_iconst (v := 1) (pc' := 108) d_Mo_read_107 rfl (by decide) ?_
        refine T_icmp_ne (pc' := 111) (tgt := 123) d_Mo_read_108 rfl (by decide) (fun hzz => absurd rfl hzz) (fun _ => ?_)
        refine T_aload_n (pc' := 112) d_Mo_read_111 rfl rfl rfl ?_
        refine T_iload_n (pc' := 113) d_Mo_read_112 rfl rfl rfl ?_
        refine T_V1i (pc' := 116) d_Mo_read_113 rfl l_Mo_123 v_Mo_may (by first | assumption | exact e_put_s | simp [e_put, *]) (Nat.le_of_ble_eq_true rfl) (c_may X _ h1 s8 s9 tc t ps F _ _ _ _ _ _ _ t6 h1' psi k0 ha sh) (fun v h2 hq => ?_)
        obtain ⟨rfl, rfl⟩ := hq
        by_cases h4 : itN ps t = 4
        · rw [if_pos h4]
          refine T_if_eq (pc' := 119) (tgt := 123) d_Mo_read_116 rfl (by decide) (fun _ => ?_) (fun hzz => absurd (by decide) hzz)
          refine T_iconst (v := 0) (pc' := 124) d_Mo_read_123 rfl (by decide) ?_
          exact badword h4 _
        · rw [if_neg h4]
          refine T_if_eq (pc' := 119) (tgt := 123) d_Mo_read_116 rfl (by decide) (fun hzz => absurd hzz (by decide)) (fun _ => ?_)
          refine T_iconst (v := 1) (pc' := 120) d_Mo_read_119 rfl (by decide) ?_
          refine T_goto (pc' := 124) d_Mo_read_120 (by decide) ?_
          refine T_V1v (pc' := 127) d_Mo_read_124 rfl l_Mo_109 v_Mo_due (by first | assumption | exact e_put_s | simp [e_put, *]) (Nat.le_of_ble_eq_true rfl) (c_due X _ h2 s8 s9 tc f B L true (.inr t) (nI c) (nI (ps.1 2)) ok ⟨t2, t5⟩ pm (htx ex)) (fun h3 hq => ?_)
          obtain ⟨c2, rfl, pm2⟩ := hq
          rw [show dS B L true (.inr t) = .inr (tkn B L t.2.2.2) from rfl] at pm2
          obtain ⟨so2, va2, k2, mt2⟩ := id pm2
          have ex2 : ExP h (e_put h2 86 c2) := ex.put (Or.inl rfl)
          refine T_aload_n (pc' := 128) d_Mo_read_127 rfl rfl rfl ?_
          refine T_get (pc' := 131) d_Mo_read_128 rfl g_Mo_102 (by first | assumption | exact e_put_s | simp [e_put, *]) rfl ?_
          refine T_if_ne (pc' := 134) (tgt := 166) d_Mo_read_131 rfl (by decide) (fun hzz => absurd (by decide) hzz) (fun _ => ?_)
          refine T_aload_n (pc' := 135) d_Mo_read_134 rfl rfl rfl ?_
          refine T_iload_n (pc' := 136) d_Mo_read_135 rfl rfl rfl ?_
          refine T_V1v (pc' := 139) d_Mo_read_136 rfl l_Mo_127 v_Mo_item (by first | assumption | exact e_put_s | simp [e_put, *]) (Nat.le_of_ble_eq_true rfl) (c_item X _ _ σ s8 s9 tc f B L t ps F (nI c) h4 ok t2 si pm2 (htx ex2) (HA_obj ha) fh sh) (fun h3 hq => ?_)
          cases hp : pNums B L (itN ps t) (cntT (itN ps t)) 0 t.2.2.2 (fun _ => 0) with
          | inl q =>
            rw [hp] at hq
            obtain ⟨ex3', pm3, F', ha', fh'⟩ := hq
            have ex3 := ex2.tr ex3'
            have e : pOne B L ps t = .inl q := by rw [pOne, if_neg h4, hp]
            rw [e] at hR
            have hR' : (.inl q : Nat ⊕ (Nat × PS)) = R := hR
            obtain ⟨a1, so3, va3, b6, b7, k3⟩ := id pm3
            have wr : ∀ b, T X (d + 5) M_Mo_read 153 [.ref 86, .int (nI t.2.1)] [.int (bi b), .ref 86] h3 Q := by
              intro b
              refine T_V1v (pc' := 156) d_Mo_read_153 rfl l_Mo_109 v_Mo_due (by first | assumption | exact e_put_s | simp [e_put, *]) (Nat.le_of_ble_eq_true rfl) (c_due X _ h3 s8 s9 tc f B L b (.inl q) (nI c) 0 ok trivial pm3 (htx ex3)) (fun h4 hq => ?_)
              obtain ⟨c4, rfl, pm4⟩ := hq
              rw [show dS B L b (.inl q) = .inl q from rfl] at pm4
              obtain ⟨a1, so', va', b6, b7, k4⟩ := id pm4
              refine T_aload_n (pc' := 157) d_Mo_read_156 rfl rfl rfl ?_
              refine T_dup (pc' := 158) d_Mo_read_157 rfl rfl ?_
              refine T_get (pc' := 161) d_Mo_read_158 rfl g_Mo_120 (by first | assumption | exact e_put_s | simp [e_put, *]) rfl ?_
              refine T_iconst (v := 1) (pc' := 162) d_Mo_read_161 rfl (by decide) ?_
              refine T_iadd (pc' := 163) d_Mo_read_162 rfl ?_
              refine T_puti16 (pc' := 166) d_Mo_read_163 rfl f_Mo_120 (fun z => absurd z Bool.false_ne_true) (by first | assumption | exact e_put_s | simp [e_put, *]) ?_
              refine T_goto (pc' := 70) d_Mo_read_166 (by decide) ?_
              have pm5 : PMO (e_put (e_put h3 86 c4) 86 (oMq (nI L) a1 (nI q) so' va' 1 (b6 + 1) b7 s8 s9 tc)) L (.inl q) 0 0 s8 s9 tc := ⟨a1, so', va', _, b7, e_put_s⟩
              exact l_wrong X _ _ s8 s9 tc L Q q 0 0 _ pm5 (hbad _ hR'.symm _ F' _ _ pm5 (HA_obj (HA_obj ha')) fh' ((ex3.put (Or.inl rfl)).put (Or.inl rfl)))
            refine T_aload_n (pc' := 140) d_Mo_read_139 rfl rfl rfl ?_
            refine T_aload_n (pc' := 141) d_Mo_read_140 rfl rfl rfl ?_
            refine T_get (pc' := 144) d_Mo_read_141 rfl g_Mo_99 (by first | assumption | exact e_put_s | simp [e_put, *]) rfl ?_
            refine T_iconst (v := 3) (pc' := 145) d_Mo_read_144 rfl (by decide) ?_
            by_cases e3 : so3 = 3
            · refine T_icmp_ne (pc' := 148) (tgt := 152) d_Mo_read_145 rfl (by decide) (fun hzz => absurd e3 hzz) (fun _ => ?_)
              refine T_iconst (v := 1) (pc' := 149) d_Mo_read_148 rfl (by decide) ?_
              refine T_goto (pc' := 153) d_Mo_read_149 (by decide) ?_
              exact wr true
            · refine T_icmp_ne (pc' := 148) (tgt := 152) d_Mo_read_145 rfl (by decide) (fun _ => ?_) (fun hzz => absurd hzz e3)
              refine T_iconst (v := 0) (pc' := 153) d_Mo_read_152 rfl (by decide) ?_
              exact wr false
          | inr z =>
            rw [hp] at hq
            obtain ⟨ex3', pm3, F', ha', fh', sh'⟩ := hq
            have ex3 := ex2.tr ex3'
            obtain ⟨p1, p2, p3, p4⟩ := pNums_ok B L _ _ _ _ _ z t2 hp
            obtain ⟨tf1, tf2, tf3, tf4, tf5, tf6, tf7⟩ := tkn_facts B L z.2 p2
            have e : pOne B L ps t = if (tkn B L z.2).1 = 3 then (.inr (pTell ps (itN ps t) z.1, (tkn B L z.2).2.2.2) : Nat ⊕ (PS × Nat)) else .inl (tkn B L z.2).2.2.1 := by rw [pOne, if_neg h4, hp]
            obtain ⟨so3, va3, k3, mt3⟩ := id pm3
            refine T_aload_n (pc' := 140) d_Mo_read_139 rfl rfl rfl ?_
            refine T_aload_n (pc' := 141) d_Mo_read_140 rfl rfl rfl ?_
            refine T_get (pc' := 144) d_Mo_read_141 rfl g_Mo_99 (by first | assumption | exact e_put_s | simp [e_put, *]) rfl ?_
            refine T_iconst (v := 3) (pc' := 145) d_Mo_read_144 rfl (by decide) ?_
            by_cases hs3 : (tkn B L z.2).1 = 3
            · rw [if_pos hs3] at e
              obtain ⟨o1, o2, o3⟩ := pOne_ok psi t2 e
              rw [e] at hR
              have hR' : pAll B L k (tkn B L (tkn B L z.2).2.2.2) (pTell ps (itN ps t) z.1) (c + 1) = R := hR
              refine T_icmp_ne (pc' := 148) (tgt := 152) d_Mo_read_145 rfl (by decide) (fun hzz => absurd (mt3.2.2.2.1 hs3) hzz) (fun _ => ?_)
              refine T_iconst (v := 1) (pc' := 149) d_Mo_read_148 rfl (by decide) ?_
              refine T_goto (pc' := 153) d_Mo_read_149 (by decide) ?_
              refine T_V1v (pc' := 156) d_Mo_read_153 rfl l_Mo_109 v_Mo_due (by first | assumption | exact e_put_s | simp [e_put, *]) (Nat.le_of_ble_eq_true rfl) (c_due X _ h3 s8 s9 tc f B L true (.inr (tkn B L z.2)) (nI c) _ ok ⟨tf4, tf7⟩ pm3 (htx ex3)) (fun h4 hq => ?_)
              obtain ⟨c4, rfl, pm4⟩ := hq
              rw [show dS B L true (.inr (tkn B L z.2)) = .inr (tkn B L (tkn B L z.2).2.2.2) from rfl] at pm4
              obtain ⟨so4, va4, k4, mt4⟩ := pm4
              refine T_aload_n (pc' := 157) d_Mo_read_156 rfl rfl rfl ?_
              refine T_dup (pc' := 158) d_Mo_read_157 rfl rfl ?_
              refine T_get (pc' := 161) d_Mo_read_158 rfl g_Mo_120 (by first | assumption | exact e_put_s | simp [e_put, *]) rfl ?_
              refine T_iconst (v := 1) (pc' := 162) d_Mo_read_161 rfl (by decide) ?_
              refine T_iadd (pc' := 163) d_Mo_read_162 rfl ?_
              rw [nI_1]
              refine T_puti16 (pc' := 166) d_Mo_read_163 rfl f_Mo_120 (fun z => absurd z Bool.false_ne_true) (by first | assumption | exact e_put_s | simp [e_put, *]) ?_
              refine T_goto (pc' := 70) d_Mo_read_166 (by decide) ?_
              obtain ⟨tg1, tg2, tg3, tg4, tg5, tg6, tg7⟩ := tkn_facts B L _ tf4
              have o2' : t.2.2.2 + 2 ≤ (tkn B L z.2).2.2.2 := o2
              exact l_Mread si ok h1t R Q hbad hgood k (c + 1) _ _ hR' (by omega) tg2 tg4 tg5 tg3 tg7 (tk_val B L _ hB) (by omega) o1 _ F' _ ⟨so4, va4, e_put_s, mt4⟩ (HA_obj (HA_obj ha')) fh' sh' ((ex3.put (Or.inl rfl)).put (Or.inl rfl))
            · rw [if_neg hs3] at e
              rw [e] at hR
              have hR' : (.inl (tkn B L z.2).2.2.1 : Nat ⊕ (Nat × PS)) = R := hR
              have hne : ¬ so3 = 3 := by
                obtain ⟨n0, n1, n2, n3, n4⟩ := mt3
                have hc : (tkn B L z.2).1 = 0 ∨ (tkn B L z.2).1 = 1 ∨ (tkn B L z.2).1 = 2 ∨ (tkn B L z.2).1 = 4 := by omega
                rcases hc with y | y | y | y
                · rw [n0 y]; decide
                · rw [(n1 y).1]; decide
                · rw [(n2 y).1]; decide
                · rw [n4 y]; decide
              refine T_icmp_ne (pc' := 148) (tgt := 152) d_Mo_read_145 rfl (by decide) (fun _ => ?_) (fun hzz => absurd hzz hne)
              refine T_iconst (v := 0) (pc' := 153) d_Mo_read_152 rfl (by decide) ?_
              refine T_V1v (pc' := 156) d_Mo_read_153 rfl l_Mo_109 v_Mo_due (by first | assumption | exact e_put_s | simp [e_put, *]) (Nat.le_of_ble_eq_true rfl) (c_due X _ h3 s8 s9 tc f B L false (.inr (tkn B L z.2)) (nI c) _ ok ⟨tf4, tf7⟩ pm3 (htx ex3)) (fun h4 hq => ?_)
              obtain ⟨c4, rfl, pm4⟩ := hq
              rw [show dS B L false (.inr (tkn B L z.2)) = .inl (tkn B L z.2).2.2.1 from rfl] at pm4
              obtain ⟨a1, so', va', b6, b7, k4⟩ := pm4
              refine T_aload_n (pc' := 157) d_Mo_read_156 rfl rfl rfl ?_
              refine T_dup (pc' := 158) d_Mo_read_157 rfl rfl ?_
              refine T_get (pc' := 161) d_Mo_read_158 rfl g_Mo_120 (by first | assumption | exact e_put_s | simp [e_put, *]) rfl ?_
              refine T_iconst (v := 1) (pc' := 162) d_Mo_read_161 rfl (by decide) ?_
              refine T_iadd (pc' := 163) d_Mo_read_162 rfl ?_
              refine T_puti16 (pc' := 166) d_Mo_read_163 rfl f_Mo_120 (fun z => absurd z Bool.false_ne_true) (by first | assumption | exact e_put_s | simp [e_put, *]) ?_
              refine T_goto (pc' := 70) d_Mo_read_166 (by decide) ?_
              have pm5 : PMO (e_put (e_put h3 86 c4) 86 (oMq (nI L) a1 (nI (tkn B L z.2).2.2.1) so' va' 1 (b6 + 1) b7 s8 s9 tc)) L (.inl (tkn B L z.2).2.2.1) 0 0 s8 s9 tc := ⟨a1, so', va', _, b7, e_put_s⟩
              exact l_wrong X _ _ s8 s9 tc L Q _ 0 0 _ pm5 (hbad _ hR'.symm _ F' _ _ pm5 (HA_obj (HA_obj ha')) fh' ((ex3.put (Or.inl rfl)).put (Or.inl rfl)))
      · have h4 : itN ps t = 4 := by
          rw [itN, if_neg h1']
        have hne : ¬ so = 1 := by
          have hc : t.1 = 2 ∨ t.1 = 3 ∨ t.1 = 4 := by omega
          rcases hc with z | z | z
          · rw [(m2 z).1]; decide
          · rw [m3 z]; decide
          · rw [m4 z]; decide
        refine T_icmp_ne (pc' := 93) (tgt := 100) d_Mo_read_90 rfl (by decide) (fun _ => ?_) (fun hzz => absurd hzz hne)
        refine T_iconst (v := 0) (pc' := 101) d_Mo_read_100 rfl (by decide) ?_
        refine T_is_n1 (pc' := 102) d_Mo_read_101 rfl rfl (Nat.le_of_ble_eq_true rfl) rfl ?_
        refine T_aload_n (pc' := 103) d_Mo_read_102 rfl rfl rfl ?_
        refine T_aload_n (pc' := 104) d_Mo_read_103 rfl rfl rfl ?_
        refine T_get (pc' := 107) d_Mo_read_104 rfl g_Mo_99 (by first | assumption | exact e_put_s | simp [e_put, *]) rfl ?_
        refine T_iconst (v := 1) (pc' := 108) d_Mo_read_107 rfl (by decide) ?_
        refine T_icmp_ne (pc' := 111) (tgt := 123) d_Mo_read_108 rfl (by decide) (fun _ => ?_) (fun hzz => absurd hzz hne)
        refine T_iconst (v := 0) (pc' := 124) d_Mo_read_123 rfl (by decide) ?_
        exact badword h4 _
end MREAD
