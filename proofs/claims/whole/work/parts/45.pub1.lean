/-! calls: type, clear, wind, one, thought, count, trace -/
abbrev okP (n : Nat) (p : Int32) : Prop := ¬ p < 0 ∧ p < nI n
def a_type (σ : Sp) (c : Int32) : Int32 × Sp := if 0 ≤ c ∧ c ≤ 255 then (if σ.1 0 < 120 then (nI (σ.1 0 + 1), sF (sI σ 0 (σ.1 0 + 1)) 0 (e_up (σ.2.1 0) (σ.1 0) c)) else (-3, σ)) else (-1, σ)
def a_clear (σ : Sp) : Int32 × Sp := (nI (σ.1 0), sF (sI σ 0 0) 0 (σ.2.1 0))
def q_wind (σ : Sp) (p : Int32) : Int32 := if 0 ≤ p ∧ p ≤ 9 then σ.2.1 1 p.toNatClampNeg else -1000000
def q_one (σ : Sp) (p w : Int32) : Int32 := if okP (σ.1 1) p then (if w = 0 then σ.2.1 2 p.toNatClampNeg else if w = 1 then σ.2.1 3 p.toNatClampNeg else if w = 2 then (if sHas (σ.2.1 6 6) p then 1 else 0) else if w = 3 then σ.2.1 6 (7 + p.toNatClampNeg) else if w = 4 then sLi (σ.2.1 4) (σ.2.1 2 p.toNatClampNeg) (σ.1 2) else -1) else -1
def q_thought (σ : Sp) (t w : Int32) : Int32 := if okP (σ.1 2) t then (if w = 0 then σ.2.1 4 t.toNatClampNeg else if w = 1 then σ.2.1 5 t.toNatClampNeg else -1) else -1
def q_count (σ : Sp) (w : Int32) : Int32 := if w = 0 then nI (σ.1 1) else if w = 1 then nI (σ.1 2) else if w = 2 then σ.2.1 12 0 else if w = 3 then nI (σ.1 4) else if w = 4 then nI (σ.1 5) else if w = 5 then nI (σ.1 3) else if w = 6 then nI (σ.1 0) else -1
section PUB1
variable (X : EX) (d : Nat) (h : AH) (σ : Sp)
theorem c_Tx_drop (tl : Nat) (tx : Nat → Int32) (xr : XR h tl tx) : Ci X d M_Tx_drop [.ref 1] h (fun v h1 => v = nI tl ∧ XR h1 0 tx ∧ Fr 1 4 h h1) := by
  obtain ⟨⟨a1, a2, a3, a4, a5, x0⟩, x1, f, x2⟩ := xr
  refine C_of_T rfl rfl (Nat.le_of_ble_eq_true rfl) rfl ?_
  refine T_aload_n (pc' := 1) d_Tx_drop_0 rfl rfl rfl ?_
  refine T_get (pc' := 4) d_Tx_drop_1 rfl g_Tx_15 (by first | assumption | exact e_put_s | simp [e_put, *]) rfl ?_
  refine T_is_n1 (pc' := 5) d_Tx_drop_4 rfl rfl (Nat.le_of_ble_eq_true rfl) rfl ?_
  refine T_aload_n (pc' := 6) d_Tx_drop_5 rfl rfl rfl ?_
  refine T_iconst (v := 0) (pc' := 7) d_Tx_drop_6 rfl (by decide) ?_
  refine T_puti1 (pc' := 10) d_Tx_drop_7 rfl f_Tx_15 (fun z => absurd z Bool.false_ne_true) (by first | assumption | exact e_put_s | simp [e_put, *]) ?_
  refine T_iload_n (pc' := 11) d_Tx_drop_10 rfl rfl rfl ?_
  refine T_iret d_Tx_drop_11 rfl ?_
  exact ⟨_, rfl, rfl, ⟨⟨a1, a2, a3, a4, a5, e_put_s⟩, (e_put_n (by decide)).trans x1, f, (e_put_n (by decide)).trans x2⟩, Fr.rf.put ⟨by omega, by omega⟩⟩
theorem c_Tx_add (tl : Nat) (tx : Nat → Int32) (c : Int32) (htl : tl ≤ 120) (xr : XR h tl tx) : Ci X d M_Tx_add [.ref 1, .int c] h (fun v h1 => (tl < 120 ∧ v = nI (tl + 1) ∧ XR h1 (tl + 1) (e_up tx tl c) ∧ Fr 1 4 h h1) ∨ (¬ tl < 120 ∧ v = -3 ∧ h1 = h)) := by
  obtain ⟨⟨a1, a2, a3, a4, a5, x0⟩, x1, f, x2⟩ := xr
  refine C_of_T rfl rfl (Nat.le_of_ble_eq_true rfl) rfl ?_
  refine T_aload_n (pc' := 1) d_Tx_add_0 rfl rfl rfl ?_
  refine T_get (pc' := 4) d_Tx_add_1 rfl g_Tx_15 (by first | assumption | exact e_put_s | simp [e_put, *]) rfl ?_
  refine T_bipush (v := 120) (pc' := 6) d_Tx_add_4 rfl (by decide) ?_
  by_cases hs : tl < 120
  · refine T_icmp_lt (pc' := 9) (tgt := 12) d_Tx_add_6 rfl (by decide) (fun _ => ?_) (fun hzz => absurd (nI_lt (b := 120) hs (by decide)) hzz)
    refine T_aload_n (pc' := 13) d_Tx_add_12 rfl rfl rfl ?_
    refine T_get (pc' := 16) d_Tx_add_13 rfl g_Tx_9 (by first | assumption | exact e_put_s | simp [e_put, *]) rfl ?_
    refine T_aload_n (pc' := 17) d_Tx_add_16 rfl rfl rfl ?_
    refine T_get (pc' := 20) d_Tx_add_17 rfl g_Tx_15 (by first | assumption | exact e_put_s | simp [e_put, *]) rfl ?_
    refine T_iload_n (pc' := 21) d_Tx_add_20 rfl rfl rfl ?_
    refine T_iastoreN tl (pc' := 22) d_Tx_add_21 rfl x1 ⟨hs, by decide⟩ ?_
    refine T_aload_n (pc' := 23) d_Tx_add_22 rfl rfl rfl ?_
    refine T_dup (pc' := 24) d_Tx_add_23 rfl rfl ?_
    refine T_get (pc' := 27) d_Tx_add_24 rfl g_Tx_15 ((e_put_n (by decide)).trans x0) rfl ?_
    refine T_iconst (v := 1) (pc' := 28) d_Tx_add_27 rfl (by decide) ?_
    refine T_iadd (pc' := 29) d_Tx_add_28 rfl ?_
    refine T_puti1 (pc' := 32) d_Tx_add_29 rfl f_Tx_15 (fun z => absurd z Bool.false_ne_true) ((e_put_n (by decide)).trans x0) ?_
    rw [nI_1]
    refine T_aload_n (pc' := 33) d_Tx_add_32 rfl rfl rfl ?_
    refine T_get (pc' := 36) d_Tx_add_33 rfl g_Tx_15 e_put_s rfl ?_
    refine T_iret d_Tx_add_36 rfl ?_
    exact ⟨_, rfl, Or.inl ⟨hs, rfl, ⟨⟨a1, a2, a3, a4, a5, e_put_s⟩, (e_put_n (by decide)).trans e_put_s, f, (e_put_n (by decide)).trans ((e_put_n (by decide)).trans x2)⟩, (Fr.rf.put ⟨by omega, by omega⟩).put ⟨by omega, by omega⟩⟩⟩
  · refine T_icmp_lt (pc' := 9) (tgt := 12) d_Tx_add_6 rfl (by decide) (fun hzz => absurd hzz (nI_nlt (b := 120) (by omega) (by omega))) (fun _ => ?_)
    refine T_bipush (v := (-3)) (pc' := 11) d_Tx_add_9 rfl (by decide) ?_
    refine T_iret d_Tx_add_11 rfl ?_
    exact ⟨_, rfl, Or.inr ⟨hs, rfl, rfl⟩⟩
theorem p_Tb_type (c : Int32) (ci : CI h σ) (si : SI σ) : Ci X (d + 20) M_Tb_type [.ref 0, .int c] h (fun v h1 => v = (a_type σ c).1 ∧ CI h1 (a_type σ c).2 ∧ Fr 0 86 h h1) := by
  have h0 := ci.1
  obtain ⟨⟨a1, a2, a3, a4, a5, x0⟩, x1, f, x2⟩ := ci.2.1
  refine C_of_T rfl rfl (Nat.le_of_ble_eq_true rfl) rfl ?_
  refine T_iload_n (pc' := 1) d_Tb_type_0 rfl rfl rfl ?_
  refine T_iconst (v := 0) (pc' := 2) d_Tb_type_1 rfl (by decide) ?_
  refine T_sipush (v := 255) (pc' := 5) d_Tb_type_2 rfl (by decide) ?_
  refine T_S3i (pc' := 8) d_Tb_type_5 rfl l_Tb_85 v_Tb_within (Nat.le_of_ble_eq_true rfl) (c_Tb_within X _ h c 0 255) (fun v h1 hq => ?_)
  obtain ⟨rfl, ⟨hp, rfl⟩ | ⟨hp, rfl⟩⟩ := hq
  · refine T_if_ne (pc' := 11) (tgt := 13) d_Tb_type_8 rfl (by decide) (fun _ => ?_) (fun hzz => absurd hzz (by decide))
    refine T_aload_n (pc' := 14) d_Tb_type_13 rfl rfl rfl ?_
    refine T_get (pc' := 17) d_Tb_type_14 rfl g_Tb_10 (by first | assumption | exact e_put_s | simp [e_put, *]) rfl ?_
    refine T_iload_n (pc' := 18) d_Tb_type_17 rfl rfl rfl ?_
    refine T_V1i (pc' := 21) d_Tb_type_18 rfl l_Tb_89 v_Tx_add (by first | assumption | exact e_put_s | simp [e_put, *]) (Nat.le_of_ble_eq_true rfl) (c_Tx_add X _ h1 _ _ c si.1.1 ci.2.1) (fun v h2 hq => ?_)
    rcases hq with ⟨hs, rfl, k1, k2⟩ | ⟨hs, rfl, rfl⟩
    · refine T_iret d_Tb_type_21 rfl ?_
      refine ⟨_, rfl, ?_⟩
      rw [a_type, if_pos hp, if_pos hs]
      exact ⟨rfl, CI_text ci si k2 k1, k2.wide (by omega) (by omega)⟩
    · refine T_iret d_Tb_type_21 rfl ?_
      refine ⟨_, rfl, ?_⟩
      rw [a_type, if_pos hp, if_neg hs]
      exact ⟨rfl, ci, Fr.rf⟩
  · refine T_if_ne (pc' := 11) (tgt := 13) d_Tb_type_8 rfl (by decide) (fun hzz => absurd (by decide) hzz) (fun _ => ?_)
    refine T_iconst (v := (-1)) (pc' := 12) d_Tb_type_11 rfl (by decide) ?_
    refine T_iret d_Tb_type_12 rfl ?_
    refine ⟨_, rfl, ?_⟩
    rw [a_type, if_neg hp]
    exact ⟨rfl, ci, Fr.rf⟩
theorem p_Tb_clear (ci : CI h σ) (si : SI σ) : Ci X (d + 20) M_Tb_clear [.ref 0] h (fun v h1 => v = (a_clear σ).1 ∧ CI h1 (a_clear σ).2 ∧ Fr 0 86 h h1) := by
  have h0 := ci.1
  obtain ⟨⟨a1, a2, a3, a4, a5, x0⟩, x1, f, x2⟩ := ci.2.1
  refine C_of_T rfl rfl (Nat.le_of_ble_eq_true rfl) rfl ?_
  refine T_aload_n (pc' := 1) d_Tb_clear_0 rfl rfl rfl ?_
  refine T_get (pc' := 4) d_Tb_clear_1 rfl g_Tb_10 (by first | assumption | exact e_put_s | simp [e_put, *]) rfl ?_
  refine T_V0i (pc' := 7) d_Tb_clear_4 rfl l_Tb_93 v_Tx_drop (by first | assumption | exact e_put_s | simp [e_put, *]) (Nat.le_of_ble_eq_true rfl) (c_Tx_drop X _ h _ _ ci.2.1) (fun v h1 hq => ?_)
  obtain ⟨rfl, k1, k2⟩ := hq
  refine T_iret d_Tb_clear_7 rfl ?_
  exact ⟨_, rfl, rfl, CI_text ci si k2 k1, k2.wide (by omega) (by omega)⟩
theorem s_09 {p : Int32} (h : 0 ≤ p ∧ p ≤ 9) : ∃ k, k ≤ 9 ∧ p = nI k := nI_of2 (M := 9) (by decide) (Int32.not_lt.mpr h.1) h.2
theorem p_Tb_wind (p : Int32) (ci : CI h σ) (si : SI σ) : Ci X (d + 20) M_Tb_wind [.ref 0, .int p] h (fun v h1 => v = q_wind σ p ∧ CI h1 σ ∧ Fr 0 86 h h1) := by
  have h0 := ci.1
  obtain ⟨ab, tr⟩ := ci.2.2.1
  have t0 := tr.1
  refine C_of_T rfl rfl (Nat.le_of_ble_eq_true rfl) rfl ?_
  refine T_iload_n (pc' := 1) d_Tb_wind_0 rfl rfl rfl ?_
  refine T_iconst (v := 0) (pc' := 2) d_Tb_wind_1 rfl (by decide) ?_
  refine T_bipush (v := 9) (pc' := 4) d_Tb_wind_2 rfl (by decide) ?_
  refine T_S3i (pc' := 7) d_Tb_wind_4 rfl l_Tb_85 v_Tb_within (Nat.le_of_ble_eq_true rfl) (c_Tb_within X _ h p 0 9) (fun v h1 hq => ?_)
  obtain ⟨rfl, ⟨hp, rfl⟩ | ⟨hp, rfl⟩⟩ := hq
  · refine T_if_eq (pc' := 10) (tgt := 21) d_Tb_wind_7 rfl (by decide) (fun hzz => absurd hzz (by decide)) (fun _ => ?_)
    obtain ⟨k, hk, hpk⟩ := s_09 hp
    refine T_aload_n (pc' := 11) d_Tb_wind_10 rfl rfl rfl ?_
    refine T_get (pc' := 14) d_Tb_wind_11 rfl g_Tb_19 (by first | assumption | exact e_put_s | simp [e_put, *]) rfl ?_
    refine T_iload_n (pc' := 15) d_Tb_wind_14 rfl rfl rfl ?_
    refine T_V1i (pc' := 18) d_Tb_wind_15 rfl l_Tb_105 v_To_windAt (by first | assumption | exact e_put_s | simp [e_put, *]) (Nat.le_of_ble_eq_true rfl) (c_To_windAt X _ h1 4 _ _ _ _ _ _ _ _ _ p k hk hpk tr) (fun v h2 hq => ?_)
    obtain ⟨rfl, rfl⟩ := hq
    refine T_goto (pc' := 23) d_Tb_wind_18 (by decide) ?_
    refine T_iret d_Tb_wind_23 rfl ?_
    exact ⟨_, rfl, (if_pos hp).symm, ci, Fr.rf⟩
  · refine T_if_eq (pc' := 10) (tgt := 21) d_Tb_wind_7 rfl (by decide) (fun _ => ?_) (fun hzz => absurd (by decide) hzz)
    refine T_ldc (pc' := 23) d_Tb_wind_21 rfl ck_Tb_108 ?_
    refine T_iret d_Tb_wind_23 rfl ?_
    exact ⟨_, rfl, (if_neg hp).symm, ci, Fr.rf⟩
theorem p_Tb_one (p w : Int32) (ci : CI h σ) (si : SI σ) : Ci X (d + 20) M_Tb_one [.ref 0, .int p, .int w] h (fun v h1 => v = q_one σ p w ∧ CI h1 σ ∧ Fr 0 86 h h1) := by
  have h0 := ci.1
  obtain ⟨ab, tr⟩ := ci.2.2.1
  have tr' := tr
  obtain ⟨t0, t1, t2, t3, t4, t5⟩ := tr
  obtain ⟨c16, r16, fc⟩ := ci.2.2.2.2.1
  have hn := si.1.2.1
  have hm := si.1.2.2.1
  refine C_of_T rfl rfl (Nat.le_of_ble_eq_true rfl) rfl ?_
  refine T_aload_n (pc' := 1) d_Tb_one_0 rfl rfl rfl ?_
  refine T_get (pc' := 4) d_Tb_one_1 rfl g_Tb_19 (by first | assumption | exact e_put_s | simp [e_put, *]) rfl ?_
  refine T_iload_n (pc' := 5) d_Tb_one_4 rfl rfl rfl ?_
  refine T_V1i (pc' := 8) d_Tb_one_5 rfl l_Tb_109 v_To_hasPerson (by first | assumption | exact e_put_s | simp [e_put, *]) (Nat.le_of_ble_eq_true rfl) (c_To_hasPerson X _ h 4 _ _ _ _ _ _ _ _ _ p hn tr') (fun v h1 hq => ?_)
  obtain ⟨rfl, ⟨hp, rfl⟩ | ⟨hp, rfl⟩⟩ := hq
  · refine T_if_ne (pc' := 11) (tgt := 13) d_Tb_one_8 rfl (by decide) (fun _ => ?_) (fun hzz => absurd hzz (by decide))
    have hok : okP (σ.1 1) p := (isP_iff (by omega) p).mp hp
    have hcl := isP_cl hp (by omega)
    obtain ⟨i, hi, hpi⟩ := hp
    have hin3 : vp_in p 3 := by rw [hpi]; exact vp_in_nI (by omega) (by decide)
    obtain ⟨si_, us, rfl, hel, hus⟩ := fc
    refine T_iload_n (pc' := 14) d_Tb_one_13 rfl rfl rfl ?_
    refine sw_Tb_one_14 (fun hx => ?_) (fun hx => ?_) (fun hx => ?_) (fun hx => ?_) (fun hx => ?_) (fun x0 x1 x2 x3 x4 => ?_)
    · subst hx
      refine T_aload_n (pc' := 49) d_Tb_one_48 rfl rfl rfl ?_
      refine T_get (pc' := 52) d_Tb_one_49 rfl g_Tb_19 (by first | assumption | exact e_put_s | simp [e_put, *]) rfl ?_
      refine T_get (pc' := 55) d_Tb_one_52 rfl g_Tb_113 (by first | assumption | exact e_put_s | simp [e_put, *]) rfl ?_
      refine T_iload_n (pc' := 56) d_Tb_one_55 rfl rfl rfl ?_
      refine T_iaload (pc' := 57) d_Tb_one_56 rfl (by first | assumption | exact e_put_s | simp [e_put, *]) (by first | assumption | exact in_dec rfl) ?_
      refine T_iret d_Tb_one_57 rfl ?_
      exact ⟨_, rfl, by rw [q_one, if_pos hok]; rfl, ci, Fr.rf⟩
    · subst hx
      refine T_aload_n (pc' := 59) d_Tb_one_58 rfl rfl rfl ?_
      refine T_get (pc' := 62) d_Tb_one_59 rfl g_Tb_19 (by first | assumption | exact e_put_s | simp [e_put, *]) rfl ?_
      refine T_get (pc' := 65) d_Tb_one_62 rfl g_Tb_116 (by first | assumption | exact e_put_s | simp [e_put, *]) rfl ?_
      refine T_iload_n (pc' := 66) d_Tb_one_65 rfl rfl rfl ?_
      refine T_iaload (pc' := 67) d_Tb_one_66 rfl (by first | assumption | exact e_put_s | simp [e_put, *]) (by first | assumption | exact in_dec rfl) ?_
      refine T_iret d_Tb_one_67 rfl ?_
      exact ⟨_, rfl, by rw [q_one, if_pos hok]; rfl, ci, Fr.rf⟩
    · subst hx
      refine T_aload_n (pc' := 69) d_Tb_one_68 rfl rfl rfl ?_
      refine T_get (pc' := 72) d_Tb_one_69 rfl g_Tb_29 (by first | assumption | exact e_put_s | simp [e_put, *]) rfl ?_
      refine T_iload_n (pc' := 73) d_Tb_one_72 rfl rfl rfl ?_
      refine T_V1i (pc' := 76) d_Tb_one_73 rfl l_Tb_119 v_Fl_hasAboard (by first | assumption | exact e_put_s | simp [e_put, *]) (Nat.le_of_ble_eq_true rfl) (c_Fl_hasAboard X _ h1 16 _ _ _ _ _ _ _ _ _ p r16) (fun v h2 hq => ?_)
      obtain ⟨rfl, ⟨hq2, rfl⟩ | ⟨hq2, rfl⟩⟩ := hq
      · refine T_if_eq (pc' := 79) (tgt := 83) d_Tb_one_76 rfl (by decide) (fun hzz => absurd hzz (by decide)) (fun _ => ?_)
        refine T_iconst (v := 1) (pc' := 80) d_Tb_one_79 rfl (by decide) ?_
        refine T_goto (pc' := 84) d_Tb_one_80 (by decide) ?_
        refine T_iret d_Tb_one_84 rfl ?_
        exact ⟨_, rfl, by rw [q_one, if_pos hok]; exact (if_pos hq2).symm, ci, Fr.rf⟩
      · refine T_if_eq (pc' := 79) (tgt := 83) d_Tb_one_76 rfl (by decide) (fun _ => ?_) (fun hzz => absurd (by decide) hzz)
        refine T_iconst (v := 0) (pc' := 84) d_Tb_one_83 rfl (by decide) ?_
        refine T_iret d_Tb_one_84 rfl ?_
        exact ⟨_, rfl, by rw [q_one, if_pos hok]; exact (if_neg hq2).symm, ci, Fr.rf⟩
    · subst hx
      refine T_aload_n (pc' := 86) d_Tb_one_85 rfl rfl rfl ?_
      refine T_get (pc' := 89) d_Tb_one_86 rfl g_Tb_29 (by first | assumption | exact e_put_s | simp [e_put, *]) rfl ?_
      refine T_iload_n (pc' := 90) d_Tb_one_89 rfl rfl rfl ?_
      refine T_V1i (pc' := 93) d_Tb_one_90 rfl l_Tb_122 v_Fl_usedBy (by first | assumption | exact e_put_s | simp [e_put, *]) (Nat.le_of_ble_eq_true rfl) (c_Fl_usedBy X _ h1 16 _ _ _ _ _ _ _ _ _ p r16) (fun v h2 hq => ?_)
      obtain ⟨rfl, rfl⟩ := hq
      refine T_iret d_Tb_one_93 rfl ?_
      refine ⟨_, rfl, ?_, ci, Fr.rf⟩
      rw [q_one, if_pos hok]
      show us >>> (4 * p &&& 31) &&& 15 = σ.2.1 6 (7 + p.toNatClampNeg)
      rw [hpi, nI_clamp (by omega)]
      exact hus i (by omega)
    · subst hx
      refine T_aload_n (pc' := 95) d_Tb_one_94 rfl rfl rfl ?_
      refine T_get (pc' := 98) d_Tb_one_95 rfl g_Tb_19 (by first | assumption | exact e_put_s | simp [e_put, *]) rfl ?_
      rw [hpi]
      refine T_iload_n (pc' := 99) d_Tb_one_98 rfl rfl rfl ?_
      refine T_V1i (pc' := 102) d_Tb_one_99 rfl l_Tb_125 v_To_liftsOf (by first | assumption | exact e_put_s | simp [e_put, *]) (Nat.le_of_ble_eq_true rfl) (c_To_liftsOf X _ h1 4 _ _ _ _ _ _ _ _ _ i (by omega) hm tr') (fun v h2 hq => ?_)
      obtain ⟨rfl, rfl⟩ := hq
      refine T_iret d_Tb_one_102 rfl ?_
      refine ⟨_, rfl, ?_, ci, Fr.rf⟩
      rw [← hpi, q_one, if_pos hok]
      show _ = sLi (σ.2.1 4) (σ.2.1 2 p.toNatClampNeg) (σ.1 2)
      rw [hpi, nI_clamp (by omega)]
    · refine T_iconst (v := (-1)) (pc' := 104) d_Tb_one_103 rfl (by decide) ?_
      refine T_iret d_Tb_one_104 rfl ?_
      exact ⟨_, rfl, by rw [q_one, if_pos hok, if_neg x0, if_neg x1, if_neg x2, if_neg x3, if_neg x4], ci, Fr.rf⟩
  · refine T_if_ne (pc' := 11) (tgt := 13) d_Tb_one_8 rfl (by decide) (fun hzz => absurd (by decide) hzz) (fun _ => ?_)
    refine T_iconst (v := (-1)) (pc' := 12) d_Tb_one_11 rfl (by decide) ?_
    refine T_iret d_Tb_one_12 rfl ?_
    exact ⟨_, rfl, by rw [q_one, if_neg (fun q => hp ((isP_iff (by omega) p).mpr q))], ci, Fr.rf⟩
theorem p_Tb_thought (p w : Int32) (ci : CI h σ) (si : SI σ) : Ci X (d + 20) M_Tb_thought [.ref 0, .int p, .int w] h (fun v h1 => v = q_thought σ p w ∧ CI h1 σ ∧ Fr 0 86 h h1) := by
  have h0 := ci.1
  obtain ⟨ab, tr⟩ := ci.2.2.1
  have tr' := tr
  obtain ⟨t0, t1, t2, t3, t4, t5⟩ := tr
  have hm := si.1.2.2.1
  refine C_of_T rfl rfl (Nat.le_of_ble_eq_true rfl) rfl ?_
  refine T_aload_n (pc' := 1) d_Tb_thought_0 rfl rfl rfl ?_
  refine T_get (pc' := 4) d_Tb_thought_1 rfl g_Tb_19 (by first | assumption | exact e_put_s | simp [e_put, *]) rfl ?_
  refine T_iload_n (pc' := 5) d_Tb_thought_4 rfl rfl rfl ?_
  refine T_V1i (pc' := 8) d_Tb_thought_5 rfl l_Tb_128 v_To_hasThought (by first | assumption | exact e_put_s | simp [e_put, *]) (Nat.le_of_ble_eq_true rfl) (c_To_hasThought X _ h 4 _ _ _ _ _ _ _ _ _ p hm tr') (fun v h1 hq => ?_)
  obtain ⟨rfl, ⟨hp, rfl⟩ | ⟨hp, rfl⟩⟩ := hq
  · refine T_if_ne (pc' := 11) (tgt := 13) d_Tb_thought_8 rfl (by decide) (fun _ => ?_) (fun hzz => absurd hzz (by decide))
    have hok : okP (σ.1 2) p := (isP_iff (by omega) p).mp hp
    have hin3 : vp_in p 4 := isP_in hp hm (by decide)
    refine T_iload_n (pc' := 14) d_Tb_thought_13 rfl rfl rfl ?_
    refine sw_Tb_thought_14 (fun hx => ?_) (fun hx => ?_) (fun x0 x1 => ?_)
    · subst hx
      refine T_aload_n (pc' := 41) d_Tb_thought_40 rfl rfl rfl ?_
      refine T_get (pc' := 44) d_Tb_thought_41 rfl g_Tb_19 (by first | assumption | exact e_put_s | simp [e_put, *]) rfl ?_
      refine T_get (pc' := 47) d_Tb_thought_44 rfl g_Tb_131 (by first | assumption | exact e_put_s | simp [e_put, *]) rfl ?_
      refine T_iload_n (pc' := 48) d_Tb_thought_47 rfl rfl rfl ?_
      refine T_iaload (pc' := 49) d_Tb_thought_48 rfl (by first | assumption | exact e_put_s | simp [e_put, *]) (by first | assumption | exact in_dec rfl) ?_
      refine T_iret d_Tb_thought_49 rfl ?_
      exact ⟨_, rfl, by rw [q_thought, if_pos hok]; rfl, ci, Fr.rf⟩
    · subst hx
      refine T_aload_n (pc' := 51) d_Tb_thought_50 rfl rfl rfl ?_
      refine T_get (pc' := 54) d_Tb_thought_51 rfl g_Tb_19 (by first | assumption | exact e_put_s | simp [e_put, *]) rfl ?_
      refine T_get (pc' := 57) d_Tb_thought_54 rfl g_Tb_134 (by first | assumption | exact e_put_s | simp [e_put, *]) rfl ?_
      refine T_iload_n (pc' := 58) d_Tb_thought_57 rfl rfl rfl ?_
      refine T_iaload (pc' := 59) d_Tb_thought_58 rfl (by first | assumption | exact e_put_s | simp [e_put, *]) (by first | assumption | exact in_dec rfl) ?_
      refine T_iret d_Tb_thought_59 rfl ?_
      exact ⟨_, rfl, by rw [q_thought, if_pos hok]; rfl, ci, Fr.rf⟩
    · refine T_iconst (v := (-1)) (pc' := 61) d_Tb_thought_60 rfl (by decide) ?_
      refine T_iret d_Tb_thought_61 rfl ?_
      exact ⟨_, rfl, by rw [q_thought, if_pos hok, if_neg x0, if_neg x1], ci, Fr.rf⟩
  · refine T_if_ne (pc' := 11) (tgt := 13) d_Tb_thought_8 rfl (by decide) (fun hzz => absurd (by decide) hzz) (fun _ => ?_)
    refine T_iconst (v := (-1)) (pc' := 12) d_Tb_thought_11 rfl (by decide) ?_
    refine T_iret d_Tb_thought_12 rfl ?_
    exact ⟨_, rfl, by rw [q_thought, if_neg (fun q => hp ((isP_iff (by omega) p).mpr q))], ci, Fr.rf⟩
theorem p_Tb_count (w : Int32) (ci : CI h σ) (si : SI σ) : Ci X (d + 20) M_Tb_count [.ref 0, .int w] h (fun v h1 => v = q_count σ w ∧ CI h1 σ ∧ Fr 0 86 h h1) := by
  have h0 := ci.1
  obtain ⟨ab, t0, -⟩ := ci.2.2.1
  obtain ⟨⟨a1, a2, a3, a4, a5, x0⟩, -⟩ := ci.2.1
  obtain ⟨ρ, hh0, -⟩ := ci.2.2.2.2.2.2.1
  have s0 := ci.2.2.2.2.2.2.2.2.2.2.1.1
  obtain ⟨f, u0, -⟩ := ci.2.2.2.2.2.2.2.2.2.2.2.1
  refine C_of_T rfl rfl (Nat.le_of_ble_eq_true rfl) rfl ?_
  refine T_iload_n (pc' := 1) d_Tb_count_0 rfl rfl rfl ?_
  refine sw_Tb_count_1 (fun hx => ?_) (fun hx => ?_) (fun hx => ?_) (fun hx => ?_) (fun hx => ?_) (fun hx => ?_) (fun hx => ?_) (fun x0 x1 x2 x3 x4 x5 x6 => ?_)
  · subst hx
    refine T_aload_n (pc' := 45) d_Tb_count_44 rfl rfl rfl ?_
    refine T_get (pc' := 48) d_Tb_count_45 rfl g_Tb_19 (by first | assumption | exact e_put_s | simp [e_put, *]) rfl ?_
    refine T_get (pc' := 51) d_Tb_count_48 rfl g_Tb_286 (by first | assumption | exact e_put_s | simp [e_put, *]) rfl ?_
    refine T_iret d_Tb_count_51 rfl ?_
    exact ⟨_, rfl, rfl, ci, Fr.rf⟩
  · subst hx
    refine T_aload_n (pc' := 53) d_Tb_count_52 rfl rfl rfl ?_
    refine T_get (pc' := 56) d_Tb_count_53 rfl g_Tb_19 (by first | assumption | exact e_put_s | simp [e_put, *]) rfl ?_
    refine T_get (pc' := 59) d_Tb_count_56 rfl g_Tb_289 (by first | assumption | exact e_put_s | simp [e_put, *]) rfl ?_
    refine T_iret d_Tb_count_59 rfl ?_
    exact ⟨_, rfl, rfl, ci, Fr.rf⟩
  · subst hx
    refine T_aload_n (pc' := 61) d_Tb_count_60 rfl rfl rfl ?_
    refine T_get (pc' := 64) d_Tb_count_61 rfl g_Tb_19 (by first | assumption | exact e_put_s | simp [e_put, *]) rfl ?_
    refine T_get (pc' := 67) d_Tb_count_64 rfl g_Tb_292 (by first | assumption | exact e_put_s | simp [e_put, *]) rfl ?_
    refine T_iret d_Tb_count_67 rfl ?_
    exact ⟨_, rfl, rfl, ci, Fr.rf⟩
  · subst hx
    refine T_aload_n (pc' := 69) d_Tb_count_68 rfl rfl rfl ?_
    refine T_get (pc' := 72) d_Tb_count_69 rfl g_Tb_66 (by first | assumption | exact e_put_s | simp [e_put, *]) rfl ?_
    refine T_get (pc' := 75) d_Tb_count_72 rfl g_Tb_295 (by first | assumption | exact e_put_s | simp [e_put, *]) rfl ?_
    refine T_iret d_Tb_count_75 rfl ?_
    exact ⟨_, rfl, rfl, ci, Fr.rf⟩
  · subst hx
    refine T_aload_n (pc' := 77) d_Tb_count_76 rfl rfl rfl ?_
    refine T_get (pc' := 80) d_Tb_count_77 rfl g_Tb_70 (by first | assumption | exact e_put_s | simp [e_put, *]) rfl ?_
    refine T_get (pc' := 83) d_Tb_count_80 rfl g_Tb_295 (by first | assumption | exact e_put_s | simp [e_put, *]) rfl ?_
    refine T_iret d_Tb_count_83 rfl ?_
    exact ⟨_, rfl, rfl, ci, Fr.rf⟩
  · subst hx
    refine T_aload_n (pc' := 85) d_Tb_count_84 rfl rfl rfl ?_
    refine T_get (pc' := 88) d_Tb_count_85 rfl g_Tb_39 (by first | assumption | exact e_put_s | simp [e_put, *]) rfl ?_
    refine T_get (pc' := 91) d_Tb_count_88 rfl g_Tb_187 (by first | assumption | exact e_put_s | simp [e_put, *]) rfl ?_
    refine T_iret d_Tb_count_91 rfl ?_
    exact ⟨_, rfl, rfl, ci, Fr.rf⟩
  · subst hx
    refine T_aload_n (pc' := 93) d_Tb_count_92 rfl rfl rfl ?_
    refine T_get (pc' := 96) d_Tb_count_93 rfl g_Tb_10 (by first | assumption | exact e_put_s | simp [e_put, *]) rfl ?_
    refine T_get (pc' := 99) d_Tb_count_96 rfl g_Tb_296 (by first | assumption | exact e_put_s | simp [e_put, *]) rfl ?_
    refine T_iret d_Tb_count_99 rfl ?_
    exact ⟨_, rfl, rfl, ci, Fr.rf⟩
  · refine T_iconst (v := (-1)) (pc' := 101) d_Tb_count_100 rfl (by decide) ?_
    refine T_iret d_Tb_count_101 rfl ?_
    exact ⟨_, rfl, by rw [q_count, if_neg x0, if_neg x1, if_neg x2, if_neg x3, if_neg x4, if_neg x5, if_neg x6], ci, Fr.rf⟩
theorem p_Tb_trace (ci : CI h σ) (si : SI σ) : Cl X (d + 20) M_Tb_trace [.ref 0] h (fun v h1 => v = σ.2.2 ∧ CI h1 σ ∧ Fr 0 86 h h1) := by
  have h0 := ci.1
  refine C_of_T rfl rfl (Nat.le_of_ble_eq_true rfl) rfl ?_
  refine T_aload_n (pc' := 1) d_Tb_trace_0 rfl rfl rfl ?_
  refine T_get (pc' := 4) d_Tb_trace_1 rfl g_Tb_77 (by first | assumption | exact e_put_s | simp [e_put, *]) rfl ?_
  refine T_lret d_Tb_trace_4 rfl ?_
  exact ⟨_, rfl, rfl, ci, Fr.rf⟩
end PUB1
