/-! best: the object; all turns -/
def sDp (d : Nat) : Nat → Nat
  | 0 => d + 5
  | r + 1 => sDp d r + 2
theorem sDp_5 (d : Nat) : ∀ r, ∃ e, sDp d r = e + 5
  | 0 => ⟨d, rfl⟩
  | r + 1 => by
    obtain ⟨e, he⟩ := sDp_5 d r
    exact ⟨e + 2, by rw [sDp, he]⟩
theorem sDp_le (d : Nat) : ∀ r, sDp d r = d + 5 + 2 * r
  | 0 => rfl
  | r + 1 => by rw [sDp, sDp_le d r]; omega
theorem bI_0 {σ : Sp} {R : Nat → Nat → Int} (rp : RP σ R) {w : Int32} {g : Nat → Int32} {n m : Nat} (hg : GI n m g) : bI R w 0 g = (vN w g : Int) := by
  obtain ⟨⟨c, hc, e1⟩, ⟨k, hk, e2⟩, -⟩ := hg
  have : R (if g 10 = 1 then 0 else 0) k = 0 := by
    rw [show (if g 10 = 1 then 0 else 0 : Nat) = 0 by split <;> rfl]; exact rp.1 k (by omega)
  have e0 : (if g 10 = 1 then 0 else 0 : Nat) = 0 := by split <;> rfl
  rw [bI, vN, e1, e2, nI_clamp (by omega), nI_clamp (by omega), this, e0]
  by_cases hw : w = 0
  · rw [if_pos hw, if_pos hw]; omega
  · rw [if_neg hw, if_neg hw]; omega
section BEST5
variable (X : EX) (d : Nat) (σ : Sp)
theorem try_0 (F : Nat → Nat → Int32) (N : Nat) (w ab : Int32) (hw : w = 0 ∨ w = 1) (hN : N ≤ 4) (si : SI σ) (gf : GF σ F 5) : TRY X (d + 5) σ F N w ab N 0 := by
  intro h g acc pre row c sq hrow tr hc fc hg ha
  have rp : RP σ (rF F) := RP_GF gf
  have sq0 := sq
  obtain ⟨a1, ⟨r32, a2, a2'⟩, a3, ⟨f34, a4, a4'⟩, ⟨r35, a5, a5'⟩, a6, a7⟩ := sq
  have hv := vN_le (w := w) hg
  have eb : bI (rF F) w (N - N) g = (vN w g : Int) := by rw [Nat.sub_self]; exact bI_0 rp hg
  refine C_of_T rfl rfl (Nat.le_of_ble_eq_true rfl) rfl ?_
  rw [bB_0]
  refine T_iload_n (pc' := 1) d_Se_tryTurns_0 rfl rfl rfl ?_
  refine T_iconst (v := 4) (pc' := 2) d_Se_tryTurns_1 rfl (by decide) ?_
  refine T_icmp_gt (pc' := 5) (tgt := 17) d_Se_tryTurns_2 rfl (by decide) (fun hzz => absurd hzz (nI_nlt (a := 4) (b := N) (by omega) (by decide))) (fun _ => ?_)
  refine T_aload_n (pc' := 6) d_Se_tryTurns_5 rfl rfl rfl ?_
  refine T_iload_n (pc' := 7) d_Se_tryTurns_6 rfl rfl rfl ?_
  refine T_V1i (pc' := 10) d_Se_tryTurns_7 rfl l_Se_73 v_Se_bound (by first | assumption | exact e_put_s | simp [e_put, *]) (Nat.le_of_ble_eq_true rfl) (c_Se_bound X _ h σ F N N w acc row hw hN (Nat.le_refl _) sq0 gf c g hc fc hg) (fun v h1 hq => ?_)
  obtain ⟨rfl, ev⟩ := hq
  rw [eb] at ev
  refine T_aload_n (pc' := 11) d_Se_tryTurns_10 rfl rfl rfl ?_
  refine T_get (pc' := 14) d_Se_tryTurns_11 rfl g_Se_43 (by first | assumption | exact e_put_s | simp [e_put, *]) rfl ?_
  by_cases hlt : acc.2 < vN w g + 1
  · have hgt : nI acc.2 - 1 < v := Int32.lt_iff_toInt_lt.mpr (by rw [s_m1I _ (by omega), ev]; omega)
    refine T_icmp_gt (pc' := 17) (tgt := 18) d_Se_tryTurns_14 rfl (by decide) (fun _ => ?_) (fun hzz => absurd hgt hzz)
    refine T_iload_n (pc' := 19) d_Se_tryTurns_18 rfl rfl rfl ?_
    refine T_aload_n (pc' := 20) d_Se_tryTurns_19 rfl rfl rfl ?_
    refine T_get (pc' := 23) d_Se_tryTurns_20 rfl g_Se_36 (by first | assumption | exact e_put_s | simp [e_put, *]) rfl ?_
    refine T_icmp_lt (pc' := 26) (tgt := 50) d_Se_tryTurns_23 rfl (by decide) (fun hzz => absurd hzz (nI_nlt (Nat.le_refl _) (by omega))) (fun _ => ?_)
    refine T_aload_n (pc' := 27) d_Se_tryTurns_26 rfl rfl rfl ?_
    refine T_aload_n (pc' := 28) d_Se_tryTurns_27 rfl rfl rfl ?_
    refine T_iload_n (pc' := 29) d_Se_tryTurns_28 rfl rfl rfl ?_
    refine T_V1i (pc' := 32) d_Se_tryTurns_29 rfl l_Se_73 v_Se_bound (by first | assumption | exact e_put_s | simp [e_put, *]) (Nat.le_of_ble_eq_true rfl) (c_Se_bound X _ h1 σ F N N w acc row hw hN (Nat.le_refl _) sq0 gf c g hc fc hg) (fun v2 h2 hq => ?_)
    obtain ⟨rfl, ev2⟩ := hq
    rw [eb] at ev2
    have e2 : v2 = nI (vN w g + 1) - 1 := Int32.toInt_inj.mp (by rw [ev2, s_m1I _ (by omega)]; omega)
    subst e2
    refine T_puti6 (pc' := 35) d_Se_tryTurns_32 rfl f_Se_43 (fun z => absurd z Bool.false_ne_true) (by first | exact a1 | exact e_put_s) ?_
    refine T_aload_n (pc' := 36) d_Se_tryTurns_35 rfl rfl rfl ?_
    refine T_get (pc' := 39) d_Se_tryTurns_36 rfl g_Se_17 (by first | exact a1 | exact e_put_s) rfl ?_
    refine T_iconst (v := 0) (pc' := 40) d_Se_tryTurns_39 rfl (by decide) ?_
    refine T_aload_n (pc' := 41) d_Se_tryTurns_40 rfl rfl rfl ?_
    refine T_get (pc' := 44) d_Se_tryTurns_41 rfl g_Se_21 (by first | exact a1 | exact e_put_s) rfl ?_
    refine T_iconst (v := 0) (pc' := 45) d_Se_tryTurns_44 rfl (by decide) ?_
    refine T_iconst (v := 4) (pc' := 46) d_Se_tryTurns_45 rfl (by decide) ?_
    refine T_copyi (pc' := 49) d_Se_tryTurns_46 rfl cp_Se_76 cp_w ((e_put_n (by decide)).trans a3) ((e_put_n (by decide)).trans a4) (by decide) (by decide) (by decide) (by decide) (by decide) ?_
    rw [sCp_eq row f34 4 4 (by decide)]
    refine T_vret d_Se_tryTurns_49 rfl ?_
    rw [if_pos hlt]
    refine ⟨rfl, row, ⟨(e_put_n (by decide)).trans e_put_s, ⟨r32, (e_put_n (by decide)).trans ((e_put_n (by decide)).trans a2), a2'⟩, (e_put_n (by decide)).trans ((e_put_n (by decide)).trans a3), ⟨_, e_put_s, fun _ j hj => ?_⟩, ⟨r35, (e_put_n (by decide)).trans ((e_put_n (by decide)).trans a5), a5'⟩, fun l hl => (e_put_n (by omega)).trans ((e_put_n (by omega)).trans (a6 l hl)), fun i g1 g2 => ?_⟩, fun j hj => rfl, fun j hj => (e_put_n (by omega)).trans (e_put_n (by omega)), (Fr.rf.put ⟨by omega, by omega⟩).put ⟨by omega, by omega⟩⟩
    · rw [sCp, if_pos (by omega)]; exact hrow j hj
    · obtain ⟨c', q1, q2⟩ := a7 i g1 g2
      exact ⟨c', (e_put_n (by omega)).trans ((e_put_n (by omega)).trans q1), q2⟩
  · have hle : ¬ nI acc.2 - 1 < v := fun q => by
      have := Int32.lt_iff_toInt_lt.mp q
      rw [s_m1I _ (by omega), ev] at this
      omega
    refine T_icmp_gt (pc' := 17) (tgt := 18) d_Se_tryTurns_14 rfl (by decide) (fun hzz => absurd hzz hle) (fun _ => ?_)
    refine T_vret d_Se_tryTurns_17 rfl ?_
    rw [if_neg hlt]
    exact ⟨rfl, row, sq0, fun j hj => rfl, fun j hj => rfl, Fr.rf⟩
/-- what the loops over people and thoughts keep -/
def KEEP (h h1 : AH) (σ : Sp) (F : Nat → Nat → Int32) (N : Nat) (w : Int32) (k r : Nat) (g : Nat → Int32) (pre : Nat) (acc : Nat × Nat) (row : Nat → Int32) (c : Nat) : Prop := ∃ row1, SQ h1 F N w (bF σ w r g pre acc c) row1 ∧ (∀ j, j < k → row1 j = row j) ∧ (∀ j, j ≤ k → h1.2 (41 + j) = h.2 (41 + j)) ∧ Fr 31 46 h h1
theorem l_try1 (h : AH) (F : Nat → Nat → Int32) (N : Nat) (w ab : Int32) (k r e p : Nat) (hw : w = 0 ∨ w = 1) (hN : N ≤ 4) (hk : k + (r + 1) = N) (si : SI σ) (gf : GF σ F 5) (ih : TRY X (e + 5) σ F N w ab (k + 1) r) (g : Nat → Int32) (acc : Nat × Nat) (pre : Nat) (row : Nat → Int32) (cf : AC) (hrow : rowOK row k pre) (tr : TR h 4 (σ.1 1) (σ.1 2) (σ.2.1 1) (σ.2.1 2) (σ.2.1 3) (σ.2.1 4) (σ.2.1 5) (σ.2.1 12 0) ab) (hcf : h.2 (41 + k) = some cf) (fc : FC cf g) (hg : GI (σ.1 1) (σ.1 2) g) (hlo : g 10 = 0) (ha : acc.2 ≤ 41) (hp : p < σ.1 1) (Q : Option Value → AH → Prop) (hkk : ∀ h1, KEEP h h1 σ F N w k r g pre acc row (1 + 4 * p + σ.1 2) → T X (e + 7) M_Se_tryTurns 137 [.ref 31, .ref 4, .int (nI k), .int (nI p), .null] [] h1 Q) : ∀ (j t : Nat), t + j = σ.1 2 → ∀ h1, KEEP h h1 σ F N w k r g pre acc row (1 + 4 * p + t) → T X (e + 7) M_Se_tryTurns 86 [.ref 31, .ref 4, .int (nI k), .int (nI p), .int (nI t)] [] h1 Q
  | 0, t, ht, h1, kp => by
    have : t = σ.1 2 := by omega
    subst this
    have kp' := kp
    obtain ⟨row1, sq, k1, k2, fr⟩ := kp
    have s31 := sq.1
    have t0 := (TR_fr fr (by decide) tr).1
    refine T_iload (pc' := 88) d_Se_tryTurns_86 rfl rfl ?_
    refine T_aload_n (pc' := 89) d_Se_tryTurns_88 rfl rfl rfl ?_
    refine T_get (pc' := 92) d_Se_tryTurns_89 rfl g_Se_93 (by first | assumption | exact e_put_s | simp [e_put, *]) rfl ?_
    refine T_icmp_ge (pc' := 95) (tgt := 137) d_Se_tryTurns_92 rfl (by decide) (fun _ => ?_) (fun hzz => absurd (Int32.le_refl _) hzz)
    exact T_fg (by simp [e_le]) (hkk h1 kp')
  | j + 1, t, ht, h1, kp => by
    have ih2 := l_try1 h F N w ab k r e p hw hN hk si gf ih g acc pre row cf hrow tr hcf fc hg hlo ha hp Q hkk j (t + 1) (by omega)
    have kp' := kp
    obtain ⟨row1, sq, k1, k2, fr⟩ := kp
    have sq0 := sq
    have tr1 := TR_fr fr (by decide) tr
    have t0 := tr1.1
    have hn := si.1.2.1
    have hm := si.1.2.2.1
    have rp : RP σ (rF F) := RP_GF gf
    obtain ⟨s31, ⟨r32, s32, s32'⟩, -⟩ := sq
    have hck : h1.2 (41 + k) = some cf := (k2 k (Nat.le_refl _)).trans hcf
    obtain ⟨si_, us, rfl, hel, hus⟩ := id fc
    have hus' := hus p (by omega)
    obtain ⟨u, hu, hue⟩ := hg.2.2.2.2.2 p (by omega)
    have hbd := bF_bd si w r hg pre ha (1 + 4 * p + t)
    have ec1 : (1 + 4 * p + t - 1) / 4 = p := by omega
    have ec2 : (1 + 4 * p + t - 1) % 4 = t := by omega
    have hokc : bOk σ g (1 + 4 * p + t) ↔ sCan g p t := by
      constructor
      · rintro (z | ⟨z1, z2, z3⟩)
        · omega
        · rw [ec1, ec2] at z3; exact z3
      · intro z
        exact Or.inr ⟨by omega, by omega, by rw [ec1, ec2]; exact z⟩
    have hbf : bF σ w r g pre acc (1 + 4 * p + t + 1) = if bOk σ g (1 + 4 * p + t) then bB σ w r (bSt σ g (1 + 4 * p + t)) (bF σ w r g pre acc (1 + 4 * p + t)) (pre * 13 + (1 + 4 * p + t)) else bF σ w r g pre acc (1 + 4 * p + t) := rfl
    have nxt : ∀ h2, KEEP h h2 σ F N w k r g pre acc row (1 + 4 * p + t + 1) → T X (e + 7) M_Se_tryTurns 131 [.ref 31, .ref 4, .int (nI k), .int (nI p), .int (nI t)] [] h2 Q := fun h2 kp2 => by
      refine T_ii4 (c := 1) (pc' := 134) d_Se_tryTurns_131 rfl (by decide) (Nat.le_of_ble_eq_true rfl) rfl ?_
      rw [nI_1]
      refine T_goto (pc' := 86) d_Se_tryTurns_134 (by decide) ?_
      exact ih2 h2 kp2
    refine T_iload (pc' := 88) d_Se_tryTurns_86 rfl rfl ?_
    refine T_aload_n (pc' := 89) d_Se_tryTurns_88 rfl rfl rfl ?_
    refine T_get (pc' := 92) d_Se_tryTurns_89 rfl g_Se_93 (by first | assumption | exact e_put_s | simp [e_put, *]) rfl ?_
    refine T_icmp_ge (pc' := 95) (tgt := 137) d_Se_tryTurns_92 rfl (by decide) (fun hzz => absurd hzz (nI_ge (by omega) (by omega))) (fun _ => ?_)
    refine T_aload_n (pc' := 96) d_Se_tryTurns_95 rfl rfl rfl ?_
    refine T_get (pc' := 99) d_Se_tryTurns_96 rfl g_Se_11 (by first | assumption | exact e_put_s | simp [e_put, *]) rfl ?_
    refine T_iload_n (pc' := 100) d_Se_tryTurns_99 rfl rfl rfl ?_
    refine T_aaloadN k (pc' := 101) d_Se_tryTurns_100 rfl s32 (by decide) ⟨by omega, by decide⟩ (s32' k (by omega)) ?_
    refine T_iload_n (pc' := 102) d_Se_tryTurns_101 rfl rfl rfl ?_
    refine T_iload (pc' := 104) d_Se_tryTurns_102 rfl rfl ?_
    refine T_V2i (pc' := 107) d_Se_tryTurns_104 rfl l_Se_96 v_Fl_mayBegin (by first | assumption | exact e_put_s | simp [e_put, *]) (Nat.le_of_ble_eq_true rfl) (c_Fl_mayBegin X _ h1 (41 + k) _ _ _ _ _ _ _ _ _ (nI p) (nI t) hck) (fun v h2 hq => ?_)
    have hmay : sMay (g 6) us (nI p) (nI t) ↔ sCan g p t := by
      unfold sMay
      rw [hus', hue, s_bit1 u hu t (by omega)]
      constructor
      · rintro ⟨a, b⟩; exact ⟨a, by rw [hue]; exact b, hlo⟩
      · rintro ⟨a, b, -⟩; exact ⟨a, by rw [hue] at b; exact b⟩
    rw [hmay] at hq
    obtain ⟨rfl, ⟨hb, rfl⟩ | ⟨hb, rfl⟩⟩ := hq
    · have hok := hokc.mpr hb
      refine T_if_eq (pc' := 110) (tgt := 131) d_Se_tryTurns_107 rfl (by decide) (fun hzz => absurd hzz (by decide)) (fun _ => ?_)
      refine T_aload_n (pc' := 111) d_Se_tryTurns_110 rfl rfl rfl ?_
      refine T_iload_n (pc' := 112) d_Se_tryTurns_111 rfl rfl rfl ?_
      refine T_V1i (pc' := 115) d_Se_tryTurns_112 rfl l_Se_73 v_Se_bound (by first | assumption | exact e_put_s | simp [e_put, *]) (Nat.le_of_ble_eq_true rfl) (c_Se_bound X _ h2 σ F N k w _ row1 hw hN (by omega) sq0 gf _ g hck fc hg) (fun v h3 hq => ?_)
      obtain ⟨rfl, ev⟩ := hq
      refine T_aload_n (pc' := 116) d_Se_tryTurns_115 rfl rfl rfl ?_
      refine T_get (pc' := 119) d_Se_tryTurns_116 rfl g_Se_43 (by first | assumption | exact e_put_s | simp [e_put, *]) rfl ?_
      by_cases hle : bI (rF F) w (N - k) g + 1 ≤ (bF σ w r g pre acc (1 + 4 * p + t)).2
      · have hcmp : v ≤ nI (bF σ w r g pre acc (1 + 4 * p + t)).2 - 1 := Int32.le_iff_toInt_le.mpr (by rw [s_m1I _ (by omega), ev]; omega)
        refine T_icmp_le (pc' := 122) (tgt := 131) d_Se_tryTurns_119 rfl (by decide) (fun _ => ?_) (fun hzz => absurd hcmp hzz)
        refine nxt h3 ?_
        have hst := bI_bSt si rp w (show r < 4 by omega) hg hok
        have epr := bB_prune si rp w (show r ≤ 4 by omega) (GI_bSt si hg hok) (bF σ w r g pre acc (1 + 4 * p + t)) (pre * 13 + (1 + 4 * p + t)) (by
          rw [show N - k = r + 1 by omega] at hle
          exact Int.le_trans (by omega) hle)
        rw [if_pos hok, epr] at hbf
        obtain ⟨row1', z⟩ := kp'
        exact ⟨row1', by rw [hbf]; exact z.1, z.2⟩
      · have hcmp : ¬ v ≤ nI (bF σ w r g pre acc (1 + 4 * p + t)).2 - 1 := fun q => by
          have := Int32.le_iff_toInt_le.mp q
          rw [s_m1I _ (by omega), ev] at this
          omega
        refine T_icmp_le (pc' := 122) (tgt := 131) d_Se_tryTurns_119 rfl (by decide) (fun hzz => absurd hzz hcmp) (fun _ => ?_)
        refine T_aload_n (pc' := 123) d_Se_tryTurns_122 rfl rfl rfl ?_
        refine T_aload_n (pc' := 124) d_Se_tryTurns_123 rfl rfl rfl ?_
        refine T_iload_n (pc' := 125) d_Se_tryTurns_124 rfl rfl rfl ?_
        refine T_iload_n (pc' := 126) d_Se_tryTurns_125 rfl rfl rfl ?_
        refine T_iload (pc' := 128) d_Se_tryTurns_126 rfl rfl ?_
        refine T_V4v (pc' := 131) d_Se_tryTurns_128 rfl l_Se_82 v_Se_tryTurn (by first | assumption | exact e_put_s | simp [e_put, *]) (Nat.le_of_ble_eq_true rfl) (c_Se_tryTurn X h3 σ F N w ab k r e hN hk si ih g _ pre row1 _ sq0 (fun j hj => (k1 j hj).trans (hrow j hj)) tr1 hck fc hg hbd (1 + 4 * p + t) (by omega) hok (nI p) (nI t) (Or.inr ⟨by omega, by rw [ec1], by rw [ec2]⟩)) (fun h4 hq => ?_)
        obtain ⟨row2, z1, z2, z3, z4⟩ := hq
        refine nxt h4 ⟨row2, ?_, fun j hj => (z2 j hj).trans (k1 j hj), fun j hj => (z3 j hj).trans (k2 j hj), fr.tr z4⟩
        rw [hbf, if_pos hok]
        exact z1
    · refine T_if_eq (pc' := 110) (tgt := 131) d_Se_tryTurns_107 rfl (by decide) (fun _ => ?_) (fun hzz => absurd (by decide) hzz)
      refine nxt h2 ?_
      rw [if_neg (fun q => hb (hokc.mp q))] at hbf
      obtain ⟨row1', z⟩ := kp'
      exact ⟨row1', by rw [hbf]; exact z.1, z.2⟩
theorem l_try2 (h : AH) (F : Nat → Nat → Int32) (N : Nat) (w ab : Int32) (k r e : Nat) (hw : w = 0 ∨ w = 1) (hN : N ≤ 4) (hk : k + (r + 1) = N) (si : SI σ) (gf : GF σ F 5) (ih : TRY X (e + 5) σ F N w ab (k + 1) r) (g : Nat → Int32) (acc : Nat × Nat) (pre : Nat) (row : Nat → Int32) (cf : AC) (hrow : rowOK row k pre) (tr : TR h 4 (σ.1 1) (σ.1 2) (σ.2.1 1) (σ.2.1 2) (σ.2.1 3) (σ.2.1 4) (σ.2.1 5) (σ.2.1 12 0) ab) (hcf : h.2 (41 + k) = some cf) (fc : FC cf g) (hg : GI (σ.1 1) (σ.1 2) g) (hlo : g 10 = 0) (ha : acc.2 ≤ 41) (Q : Option Value → AH → Prop) (hQ : ∀ h1, KEEP h h1 σ F N w k r g pre acc row 13 → Q none h1) : ∀ (j p : Nat), p + j = σ.1 1 → ∀ h1, KEEP h h1 σ F N w k r g pre acc row (1 + 4 * p) → T X (e + 7) M_Se_tryTurns 75 [.ref 31, .ref 4, .int (nI k), .int (nI p), .null] [] h1 Q
  | 0, p, hp, h1, kp => by
    have hp' : p = σ.1 1 := by omega
    have hn := si.1.2.1
    have kp' := kp
    obtain ⟨row1, sq, k1, k2, fr⟩ := kp
    have s31 := sq.1
    have t0 := (TR_fr fr (by decide) tr).1
    refine T_iload_n (pc' := 76) d_Se_tryTurns_75 rfl rfl rfl ?_
    refine T_aload_n (pc' := 77) d_Se_tryTurns_76 rfl rfl rfl ?_
    refine T_get (pc' := 80) d_Se_tryTurns_77 rfl g_Se_90 (by first | assumption | exact e_put_s | simp [e_put, *]) rfl ?_
    refine T_icmp_ge (pc' := 83) (tgt := 143) d_Se_tryTurns_80 rfl (by decide) (fun _ => ?_) (fun hzz => absurd (by rw [hp']; exact Int32.le_refl _) hzz)
    refine T_vret d_Se_tryTurns_143 rfl ?_
    refine hQ h1 ?_
    have esk := bF_skip σ w r g pre acc (1 + 4 * p) (13 - (1 + 4 * p)) (fun j hj hok => by
      rcases hok with z | ⟨z, -, -⟩
      · omega
      · omega)
    rw [show 1 + 4 * p + (13 - (1 + 4 * p)) = 13 by omega] at esk
    obtain ⟨row1', z⟩ := kp'
    exact ⟨row1', by rw [esk]; exact z.1, z.2⟩
  | j + 1, p, hp, h1, kp => by
    have ih2 := l_try2 h F N w ab k r e hw hN hk si gf ih g acc pre row cf hrow tr hcf fc hg hlo ha Q hQ j (p + 1) (by omega)
    have hn := si.1.2.1
    have hm := si.1.2.2.1
    have kp' := kp
    obtain ⟨row1, sq, k1, k2, fr⟩ := kp
    have s31 := sq.1
    have t0 := (TR_fr fr (by decide) tr).1
    refine T_iload_n (pc' := 76) d_Se_tryTurns_75 rfl rfl rfl ?_
    refine T_aload_n (pc' := 77) d_Se_tryTurns_76 rfl rfl rfl ?_
    refine T_get (pc' := 80) d_Se_tryTurns_77 rfl g_Se_90 (by first | assumption | exact e_put_s | simp [e_put, *]) rfl ?_
    refine T_icmp_ge (pc' := 83) (tgt := 143) d_Se_tryTurns_80 rfl (by decide) (fun hzz => absurd hzz (nI_ge (by omega) (by omega))) (fun _ => ?_)
    refine T_iconst (v := 0) (pc' := 84) d_Se_tryTurns_83 rfl (by decide) ?_
    refine T_is4 (pc' := 86) d_Se_tryTurns_84 rfl (Nat.le_of_ble_eq_true rfl) rfl ?_
    refine l_try1 X σ h F N w ab k r e p hw hN hk si gf ih g acc pre row cf hrow tr hcf fc hg hlo ha (by omega) Q (fun h2 kp2 => ?_) (σ.1 2) 0 (by omega) h1 kp'
    refine T_ii3 (c := 1) (pc' := 140) d_Se_tryTurns_137 rfl (by decide) (Nat.le_of_ble_eq_true rfl) rfl ?_
    rw [nI_1]
    refine T_goto (pc' := 75) d_Se_tryTurns_140 (by decide) ?_
    refine ih2 h2 ?_
    have esk := bF_skip σ w r g pre acc (1 + 4 * p + σ.1 2) (4 - σ.1 2) (fun j hj hok => by
      rcases hok with z | ⟨-, z, -⟩
      · omega
      · omega)
    rw [show 1 + 4 * p + σ.1 2 + (4 - σ.1 2) = 1 + 4 * (p + 1) by omega] at esk
    obtain ⟨row1', z⟩ := kp2
    exact ⟨row1', by rw [esk]; exact z.1, z.2⟩
theorem try_s (F : Nat → Nat → Int32) (N : Nat) (w ab : Int32) (k r e : Nat) (hw : w = 0 ∨ w = 1) (hN : N ≤ 4) (hk : k + (r + 1) = N) (si : SI σ) (gf : GF σ F 5) (ih : TRY X (e + 5) σ F N w ab (k + 1) r) : TRY X (e + 7) σ F N w ab k (r + 1) := by
  intro h g acc pre row c sq hrow tr hc fc hg ha
  have rp : RP σ (rF F) := RP_GF gf
  have sq0 := sq
  have t0 := tr.1
  have hn := si.1.2.1
  obtain ⟨a1, ⟨r32, a2, a2'⟩, -⟩ := sq
  refine C_of_T rfl rfl (Nat.le_of_ble_eq_true rfl) rfl ?_
  refine T_iload_n (pc' := 1) d_Se_tryTurns_0 rfl rfl rfl ?_
  refine T_iconst (v := 4) (pc' := 2) d_Se_tryTurns_1 rfl (by decide) ?_
  refine T_icmp_gt (pc' := 5) (tgt := 17) d_Se_tryTurns_2 rfl (by decide) (fun hzz => absurd hzz (nI_nlt (a := 4) (b := k) (by omega) (by decide))) (fun _ => ?_)
  refine T_aload_n (pc' := 6) d_Se_tryTurns_5 rfl rfl rfl ?_
  refine T_iload_n (pc' := 7) d_Se_tryTurns_6 rfl rfl rfl ?_
  refine T_V1i (pc' := 10) d_Se_tryTurns_7 rfl l_Se_73 v_Se_bound (by first | assumption | exact e_put_s | simp [e_put, *]) (Nat.le_of_ble_eq_true rfl) (c_Se_bound X _ h σ F N k w acc row hw hN (by omega) sq0 gf c g hc fc hg) (fun v h1 hq => ?_)
  obtain ⟨rfl, ev⟩ := hq
  rw [show N - k = r + 1 by omega] at ev
  refine T_aload_n (pc' := 11) d_Se_tryTurns_10 rfl rfl rfl ?_
  refine T_get (pc' := 14) d_Se_tryTurns_11 rfl g_Se_43 (by first | assumption | exact e_put_s | simp [e_put, *]) rfl ?_
  by_cases hle : bI (rF F) w (r + 1) g + 1 ≤ acc.2
  · have hcmp : ¬ nI acc.2 - 1 < v := fun q => by
      have := Int32.lt_iff_toInt_lt.mp q
      rw [s_m1I _ (by omega), ev] at this
      omega
    refine T_icmp_gt (pc' := 17) (tgt := 18) d_Se_tryTurns_14 rfl (by decide) (fun hzz => absurd hzz hcmp) (fun _ => ?_)
    refine T_vret d_Se_tryTurns_17 rfl ?_
    rw [bB_prune si rp w (show r + 1 ≤ 4 by omega) hg acc pre hle]
    exact ⟨rfl, row, sq0, fun j hj => rfl, fun j hj => rfl, Fr.rf⟩
  · have hcmp : nI acc.2 - 1 < v := Int32.lt_iff_toInt_lt.mpr (by rw [s_m1I _ (by omega), ev]; omega)
    refine T_icmp_gt (pc' := 17) (tgt := 18) d_Se_tryTurns_14 rfl (by decide) (fun _ => ?_) (fun hzz => absurd hcmp hzz)
    refine T_iload_n (pc' := 19) d_Se_tryTurns_18 rfl rfl rfl ?_
    refine T_aload_n (pc' := 20) d_Se_tryTurns_19 rfl rfl rfl ?_
    refine T_get (pc' := 23) d_Se_tryTurns_20 rfl g_Se_36 (by first | assumption | exact e_put_s | simp [e_put, *]) rfl ?_
    refine T_icmp_lt (pc' := 26) (tgt := 50) d_Se_tryTurns_23 rfl (by decide) (fun _ => ?_) (fun hzz => absurd (nI_lt (by omega) (by omega)) hzz)
    refine T_aload_n (pc' := 51) d_Se_tryTurns_50 rfl rfl rfl ?_
    refine T_aload_n (pc' := 52) d_Se_tryTurns_51 rfl rfl rfl ?_
    refine T_iload_n (pc' := 53) d_Se_tryTurns_52 rfl rfl rfl ?_
    refine T_bipush (v := (-9)) (pc' := 55) d_Se_tryTurns_53 rfl (by decide) ?_
    refine T_bipush (v := (-9)) (pc' := 57) d_Se_tryTurns_55 rfl (by decide) ?_
    refine T_V4v (pc' := 60) d_Se_tryTurns_57 rfl l_Se_82 v_Se_tryTurn (by first | assumption | exact e_put_s | simp [e_put, *]) (Nat.le_of_ble_eq_true rfl) (c_Se_tryTurn X h1 σ F N w ab k r e hN hk si ih g acc pre row c sq0 hrow tr hc fc hg ha 0 (by omega) (Or.inl rfl) (-9) (-9) (Or.inl ⟨rfl, rfl, rfl⟩)) (fun h2 hq => ?_)
    obtain ⟨row2, z1, z2, z3, z4⟩ := hq
    have e1 : bF σ w r g pre acc 1 = bB σ w r (bSt σ g 0) acc (pre * 13 + 0) := by
      show (if bOk σ g 0 then bB σ w r (bSt σ g 0) acc (pre * 13 + 0) else acc) = _
      rw [if_pos (Or.inl rfl)]
    rw [← e1] at z1
    have kp1 : KEEP h1 h2 σ F N w k r g pre acc row (1 + 4 * 0) := ⟨row2, z1, z2, z3, z4⟩
    obtain ⟨y31, ⟨y32r, y32, y32'⟩, -⟩ := id z1
    have hck : h2.2 (41 + k) = some c := (z3 k (Nat.le_refl _)).trans hc
    obtain ⟨si_, us, rfl, hel, hus⟩ := id fc
    rw [bB_s]
    refine T_aload_n (pc' := 61) d_Se_tryTurns_60 rfl rfl rfl ?_
    refine T_get (pc' := 64) d_Se_tryTurns_61 rfl g_Se_11 (by first | assumption | exact e_put_s | simp [e_put, *]) rfl ?_
    refine T_iload_n (pc' := 65) d_Se_tryTurns_64 rfl rfl rfl ?_
    refine T_aaloadN k (pc' := 66) d_Se_tryTurns_65 rfl y32 (by decide) ⟨by omega, by decide⟩ (y32' k (by omega)) ?_
    refine T_get (pc' := 69) d_Se_tryTurns_66 rfl g_Se_86 (by first | assumption | exact e_put_s | simp [e_put, *]) rfl ?_
    rcases hg.2.2.2.1 with hlo | hlo
    · refine T_if_eq (pc' := 72) (tgt := 73) d_Se_tryTurns_69 rfl (by decide) (fun _ => ?_) (fun hzz => absurd hlo hzz)
      refine T_iconst (v := 0) (pc' := 74) d_Se_tryTurns_73 rfl (by decide) ?_
      refine T_is_n3 (pc' := 75) d_Se_tryTurns_74 rfl rfl (Nat.le_of_ble_eq_true rfl) rfl ?_
      exact l_try2 X σ h1 F N w ab k r e hw hN hk si gf ih g acc pre row _ hrow tr hc fc hg hlo ha _ (fun h3 kp => ⟨rfl, kp⟩) (σ.1 1) 0 (by omega) h2 kp1
    · refine T_if_eq (pc' := 72) (tgt := 73) d_Se_tryTurns_69 rfl (by decide) (fun hzz => absurd hzz (by rw [hlo]; decide)) (fun _ => ?_)
      refine T_vret d_Se_tryTurns_72 rfl ?_
      have esk := bF_skip σ w r g pre acc 1 12 (fun j hj hok => by
        rcases hok with z | ⟨-, -, z⟩
        · omega
        · have := z.2.2
          rw [hlo] at this
          exact absurd this (by decide))
      rw [show 1 + 12 = 13 from rfl] at esk
      rw [esk]
      exact ⟨rfl, row2, z1, z2, z3, z4⟩
theorem try_all (F : Nat → Nat → Int32) (N : Nat) (w ab : Int32) (hw : w = 0 ∨ w = 1) (hN : N ≤ 4) (si : SI σ) (gf : GF σ F 5) : ∀ r k, k + r = N → TRY X (sDp d r) σ F N w ab k r
  | 0, k, hk => by
    have : k = N := by omega
    subst this
    exact try_0 X d σ F k w ab hw hN si gf
  | r + 1, k, hk => by
    have ih := try_all F N w ab hw hN si gf r (k + 1) (by omega)
    obtain ⟨e, he⟩ := sDp_5 d r
    rw [he] at ih
    have : sDp d (r + 1) = e + 7 := by rw [sDp, he]
    rw [this]
    exact try_s X σ F N w ab k r e hw hN hk si gf ih
end BEST5
