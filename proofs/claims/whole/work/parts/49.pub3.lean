section PUB3
variable (X : EX) (d : Nat) (h : AH) (σ : Sp)
theorem FC_in {g : Nat → Int32} {si us : Int32} {p : Nat} (hel : g 3 ≠ -9 → g 0 - si = g 5) (hus : ∀ q, q < 3 → us >>> ((4 * nI q) &&& 31) &&& 15 = g (7 + q)) : FC (oFl (g 0) (g 1) (g 2) (g 3) (g 4) si (g 6 ||| (1 <<< (nI p &&& 31))) us (g 10)) (sIn g p) :=
  ⟨si, us, rfl, hel, fun q hq => (hus q hq).trans (by rw [sIn, e_upL, if_neg (by omega)])⟩
theorem p_Tb_enters (p : Int32) (ci : CI h σ) (si : SI σ) : Ci X (d + 20) M_Tb_enters [.ref 0, .int p] h (fun v h1 => v = (a_enters σ p).1 ∧ CI h1 (a_enters σ p).2 ∧ Fr 0 86 h h1) := by
  have h0 := ci.1
  obtain ⟨ab, tr⟩ := ci.2.2.1
  have t0 := tr.1
  obtain ⟨c16, r16, fc⟩ := ci.2.2.2.2.1
  obtain ⟨ρ, hh0, -⟩ := ci.2.2.2.2.2.2.1
  have hn := si.1.2.1
  have hg := si.2.2.1
  refine C_of_T rfl rfl (Nat.le_of_ble_eq_true rfl) rfl ?_
  refine T_aload_n (pc' := 1) d_Tb_enters_0 rfl rfl rfl ?_
  refine T_get (pc' := 4) d_Tb_enters_1 rfl g_Tb_19 (by first | assumption | exact e_put_s | simp [e_put, *]) rfl ?_
  refine T_iload_n (pc' := 5) d_Tb_enters_4 rfl rfl rfl ?_
  refine T_V1i (pc' := 8) d_Tb_enters_5 rfl l_Tb_109 v_To_hasPerson (by first | assumption | exact e_put_s | simp [e_put, *]) (Nat.le_of_ble_eq_true rfl) (c_To_hasPerson X _ h 4 _ _ _ _ _ _ _ _ _ p hn tr) (fun v h1 hq => ?_)
  obtain ⟨rfl, ⟨hp, rfl⟩ | ⟨hp, rfl⟩⟩ := hq
  · refine T_if_ne (pc' := 11) (tgt := 13) d_Tb_enters_8 rfl (by decide) (fun _ => ?_) (fun hzz => absurd hzz (by decide))
    have hok : okP (σ.1 1) p := (isP_iff (by omega) p).mp hp
    obtain ⟨i, hi, rfl⟩ := hp
    obtain ⟨si_, us, rfl, hel, hus⟩ := id fc
    refine T_aload_n (pc' := 14) d_Tb_enters_13 rfl rfl rfl ?_
    refine T_get (pc' := 17) d_Tb_enters_14 rfl g_Tb_29 (by first | assumption | exact e_put_s | simp [e_put, *]) rfl ?_
    refine T_iload_n (pc' := 18) d_Tb_enters_17 rfl rfl rfl ?_
    refine T_V1i (pc' := 21) d_Tb_enters_18 rfl l_Tb_119 v_Fl_hasAboard (by first | assumption | exact e_put_s | simp [e_put, *]) (Nat.le_of_ble_eq_true rfl) (c_Fl_hasAboard X _ h1 16 _ _ _ _ _ _ _ _ _ (nI i) r16) (fun v h2 hq => ?_)
    obtain ⟨rfl, ⟨ha, rfl⟩ | ⟨ha, rfl⟩⟩ := hq
    · refine T_if_ne (pc' := 24) (tgt := 34) d_Tb_enters_21 rfl (by decide) (fun _ => ?_) (fun hzz => absurd hzz (by decide))
      refine T_bipush (v := (-2)) (pc' := 36) d_Tb_enters_34 rfl (by decide) ?_
      refine T_iret d_Tb_enters_36 rfl ?_
      refine ⟨_, rfl, ?_⟩
      rw [a_enters, if_pos hok, if_neg (fun q => q.1 ha)]
      exact ⟨rfl, ci, Fr.rf⟩
    · refine T_if_ne (pc' := 24) (tgt := 34) d_Tb_enters_21 rfl (by decide) (fun hzz => absurd (by decide) hzz) (fun _ => ?_)
      refine T_aload_n (pc' := 25) d_Tb_enters_24 rfl rfl rfl ?_
      refine T_get (pc' := 28) d_Tb_enters_25 rfl g_Tb_29 (by first | assumption | exact e_put_s | simp [e_put, *]) rfl ?_
      refine T_V0i (pc' := 31) d_Tb_enters_28 rfl l_Tb_168 v_Fl_mayBeBoarded (by first | assumption | exact e_put_s | simp [e_put, *]) (Nat.le_of_ble_eq_true rfl) (c_Fl_mayBeBoarded X _ h2 16 _ _ _ _ _ _ _ _ _ r16) (fun v h3 hq => ?_)
      obtain ⟨rfl, ⟨hb, rfl⟩ | ⟨hb, rfl⟩⟩ := hq
      · refine T_if_ne (pc' := 34) (tgt := 37) d_Tb_enters_31 rfl (by decide) (fun _ => ?_) (fun hzz => absurd hzz (by decide))
        refine T_aload_n (pc' := 38) d_Tb_enters_37 rfl rfl rfl ?_
        refine T_get (pc' := 41) d_Tb_enters_38 rfl g_Tb_39 (by first | assumption | exact e_put_s | simp [e_put, *]) rfl ?_
        refine T_aload_n (pc' := 42) d_Tb_enters_41 rfl rfl rfl ?_
        refine T_get (pc' := 45) d_Tb_enters_42 rfl g_Tb_29 (by first | assumption | exact e_put_s | simp [e_put, *]) rfl ?_
        refine T_V1v (pc' := 48) d_Tb_enters_45 rfl l_Tb_145 v_Hi_push (by first | assumption | exact e_put_s | simp [e_put, *]) (Nat.le_of_ble_eq_true rfl) (c_push X _ h3 σ ci si) (fun h4 hq => ?_)
        obtain ⟨ci4, fr4⟩ := hq
        have k0 := ci4.1
        have k16 : h4.2 16 = _ := (fr4.2 16 (by decide)).trans r16
        refine T_aload_n (pc' := 49) d_Tb_enters_48 rfl rfl rfl ?_
        refine T_get (pc' := 52) d_Tb_enters_49 rfl g_Tb_29 (by first | assumption | exact e_put_s | simp [e_put, *]) rfl ?_
        refine T_iload_n (pc' := 53) d_Tb_enters_52 rfl rfl rfl ?_
        refine T_V1v (pc' := 56) d_Tb_enters_53 rfl l_Tb_172 v_Fl_takeIn (by first | assumption | exact e_put_s | simp [e_put, *]) (Nat.le_of_ble_eq_true rfl) (c_Fl_takeIn X _ h4 16 _ _ _ _ _ _ _ _ _ (nI i) k16) (fun h5 hq => ?_)
        subst hq
        have fb := FC_in (g := σ.2.1 6) (p := i) hel hus
        have fr5 : Fr 16 17 h4 (e_put h4 16 (oFl (σ.2.1 6 0) (σ.2.1 6 1) (σ.2.1 6 2) (σ.2.1 6 3) (σ.2.1 6 4) si_ (σ.2.1 6 6 ||| (1 <<< (nI i &&& 31))) us (σ.2.1 6 10))) := Fr.rf.put ⟨by omega, by omega⟩
        have ci5 := CI_flight ci4 (SI_know si) fr5 e_put_s fb
        refine T_aload_n (pc' := 57) d_Tb_enters_56 rfl rfl rfl ?_
        refine T_get (pc' := 60) d_Tb_enters_57 rfl g_Tb_29 ((e_put_n (by decide)).trans k0) rfl ?_
        refine T_get (pc' := 63) d_Tb_enters_60 rfl g_Tb_176 e_put_s rfl ?_
        refine T_S1i (pc' := 66) d_Tb_enters_63 rfl l_Tb_179 v_In_bitCount (Nat.le_of_ble_eq_true rfl) (c_In_bitCount X _ _ _) (fun v h6 hq => ?_)
        obtain ⟨rfl, rfl⟩ := hq
        refine T_iret d_Tb_enters_66 rfl ?_
        refine ⟨_, rfl, ?_⟩
        rw [a_enters, if_pos hok, if_pos ⟨ha, hb⟩, nI_clamp (by omega)]
        refine ⟨?_, ci5, (fr4.wide (by omega) (by omega)).tr (fr5.wide (by omega) (by omega))⟩
        obtain ⟨v, hv, hve⟩ := (GI_in hg (p := i) (by omega)).2.2.2.2.1
        have e1 : σ.2.1 6 6 ||| (1 <<< (nI i &&& 31)) = nI v := hve
        rw [e1, hve]
        exact sBC_BO v (by omega)
      · refine T_if_ne (pc' := 34) (tgt := 37) d_Tb_enters_31 rfl (by decide) (fun hzz => absurd (by decide) hzz) (fun _ => ?_)
        refine T_bipush (v := (-2)) (pc' := 36) d_Tb_enters_34 rfl (by decide) ?_
        refine T_iret d_Tb_enters_36 rfl ?_
        refine ⟨_, rfl, ?_⟩
        rw [a_enters, if_pos hok, if_neg (fun q => hb q.2)]
        exact ⟨rfl, ci, Fr.rf⟩
  · refine T_if_ne (pc' := 11) (tgt := 13) d_Tb_enters_8 rfl (by decide) (fun hzz => absurd (by decide) hzz) (fun _ => ?_)
    refine T_iconst (v := (-1)) (pc' := 12) d_Tb_enters_11 rfl (by decide) ?_
    refine T_iret d_Tb_enters_12 rfl ?_
    refine ⟨_, rfl, ?_⟩
    rw [a_enters, if_neg (fun q => hp ((isP_iff (by omega) p).mpr q))]
    exact ⟨rfl, ci, Fr.rf⟩
theorem p_Tb_leaves (p : Int32) (ci : CI h σ) (si : SI σ) : Ci X (d + 20) M_Tb_leaves [.ref 0, .int p] h (fun v h1 => v = (a_leaves σ p).1 ∧ CI h1 (a_leaves σ p).2 ∧ Fr 0 86 h h1) := by
  have h0 := ci.1
  obtain ⟨ab, tr⟩ := ci.2.2.1
  have t0 := tr.1
  obtain ⟨c16, r16, fc⟩ := ci.2.2.2.2.1
  obtain ⟨ρ, hh0, -⟩ := ci.2.2.2.2.2.2.1
  have hn := si.1.2.1
  have hg := si.2.2.1
  refine C_of_T rfl rfl (Nat.le_of_ble_eq_true rfl) rfl ?_
  refine T_aload_n (pc' := 1) d_Tb_leaves_0 rfl rfl rfl ?_
  refine T_get (pc' := 4) d_Tb_leaves_1 rfl g_Tb_19 (by first | assumption | exact e_put_s | simp [e_put, *]) rfl ?_
  refine T_iload_n (pc' := 5) d_Tb_leaves_4 rfl rfl rfl ?_
  refine T_V1i (pc' := 8) d_Tb_leaves_5 rfl l_Tb_109 v_To_hasPerson (by first | assumption | exact e_put_s | simp [e_put, *]) (Nat.le_of_ble_eq_true rfl) (c_To_hasPerson X _ h 4 _ _ _ _ _ _ _ _ _ p hn tr) (fun v h1 hq => ?_)
  obtain ⟨rfl, ⟨hp, rfl⟩ | ⟨hp, rfl⟩⟩ := hq
  · refine T_if_ne (pc' := 11) (tgt := 13) d_Tb_leaves_8 rfl (by decide) (fun _ => ?_) (fun hzz => absurd hzz (by decide))
    have hok : okP (σ.1 1) p := (isP_iff (by omega) p).mp hp
    have hp9 := isP_ne9 hp (by omega)
    obtain ⟨i, hi, rfl⟩ := hp
    obtain ⟨si_, us, rfl, hel, hus⟩ := id fc
    refine T_aload_n (pc' := 14) d_Tb_leaves_13 rfl rfl rfl ?_
    refine T_get (pc' := 17) d_Tb_leaves_14 rfl g_Tb_29 (by first | assumption | exact e_put_s | simp [e_put, *]) rfl ?_
    refine T_iload_n (pc' := 18) d_Tb_leaves_17 rfl rfl rfl ?_
    refine T_V1i (pc' := 21) d_Tb_leaves_18 rfl l_Tb_119 v_Fl_hasAboard (by first | assumption | exact e_put_s | simp [e_put, *]) (Nat.le_of_ble_eq_true rfl) (c_Fl_hasAboard X _ h1 16 _ _ _ _ _ _ _ _ _ (nI i) r16) (fun v h2 hq => ?_)
    obtain ⟨rfl, ⟨ha, rfl⟩ | ⟨ha, rfl⟩⟩ := hq
    · refine T_if_eq (pc' := 24) (tgt := 34) d_Tb_leaves_21 rfl (by decide) (fun hzz => absurd hzz (by decide)) (fun _ => ?_)
      refine T_aload_n (pc' := 25) d_Tb_leaves_24 rfl rfl rfl ?_
      refine T_get (pc' := 28) d_Tb_leaves_25 rfl g_Tb_29 (by first | assumption | exact e_put_s | simp [e_put, *]) rfl ?_
      refine T_V0i (pc' := 31) d_Tb_leaves_28 rfl l_Tb_168 v_Fl_mayBeBoarded (by first | assumption | exact e_put_s | simp [e_put, *]) (Nat.le_of_ble_eq_true rfl) (c_Fl_mayBeBoarded X _ h2 16 _ _ _ _ _ _ _ _ _ r16) (fun v h3 hq => ?_)
      obtain ⟨rfl, ⟨hb, rfl⟩ | ⟨hb, rfl⟩⟩ := hq
      · refine T_if_ne (pc' := 34) (tgt := 37) d_Tb_leaves_31 rfl (by decide) (fun _ => ?_) (fun hzz => absurd hzz (by decide))
        refine T_aload_n (pc' := 38) d_Tb_leaves_37 rfl rfl rfl ?_
        refine T_get (pc' := 41) d_Tb_leaves_38 rfl g_Tb_39 (by first | assumption | exact e_put_s | simp [e_put, *]) rfl ?_
        refine T_aload_n (pc' := 42) d_Tb_leaves_41 rfl rfl rfl ?_
        refine T_get (pc' := 45) d_Tb_leaves_42 rfl g_Tb_29 (by first | assumption | exact e_put_s | simp [e_put, *]) rfl ?_
        refine T_V1v (pc' := 48) d_Tb_leaves_45 rfl l_Tb_145 v_Hi_push (by first | assumption | exact e_put_s | simp [e_put, *]) (Nat.le_of_ble_eq_true rfl) (c_push X _ h3 σ ci si) (fun h4 hq => ?_)
        obtain ⟨ci4, fr4⟩ := hq
        have k0 := ci4.1
        have k16 : h4.2 16 = _ := (fr4.2 16 (by decide)).trans r16
        refine T_aload_n (pc' := 49) d_Tb_leaves_48 rfl rfl rfl ?_
        refine T_get (pc' := 52) d_Tb_leaves_49 rfl g_Tb_29 (by first | assumption | exact e_put_s | simp [e_put, *]) rfl ?_
        refine T_iload_n (pc' := 53) d_Tb_leaves_52 rfl rfl rfl ?_
        refine T_V1v (pc' := 56) d_Tb_leaves_53 rfl l_Tb_184 v_Fl_letOut (by first | assumption | exact e_put_s | simp [e_put, *]) (Nat.le_of_ble_eq_true rfl) (c_Fl_letOut X _ h4 16 _ _ _ _ _ _ _ _ _ (nI i) k16) (fun h5 hq => ?_)
        have key : ∃ c', h5 = e_put h4 16 c' ∧ FC c' (sOut (σ.2.1 6) i) := by
          have eo : ∀ q, q < 3 → us >>> ((4 * nI q) &&& 31) &&& 15 = sOut (σ.2.1 6) i (7 + q) := fun q hq => (hus q hq).trans (sOut_ne (by omega) (by omega) (by omega)).symm
          rcases hq with ⟨hw, rfl⟩ | ⟨hw, rfl⟩
          · refine ⟨_, rfl, 0, us, ?_, fun z => ?_, eo⟩
            · rw [sOut_ne (k := 0) (by decide) (by decide) (by decide), sOut_ne (k := 1) (by decide) (by decide) (by decide), sOut_ne (k := 2) (by decide) (by decide) (by decide), sOut_ne (k := 10) (by decide) (by decide) (by decide)]
              rw [show sOut (σ.2.1 6) i 3 = -9 by rw [sOut, if_neg (by decide), if_pos ⟨hw, Or.inl rfl⟩], show sOut (σ.2.1 6) i 4 = -9 by rw [sOut, if_neg (by decide), if_pos ⟨hw, Or.inr rfl⟩]]
              rfl
            · exact absurd (by rw [sOut, if_neg (by decide), if_pos ⟨hw, Or.inl rfl⟩]) z
          · have e3 : sOut (σ.2.1 6) i 3 = σ.2.1 6 3 := by rw [sOut, if_neg (by decide), if_neg (fun q => hw q.1)]
            refine ⟨_, rfl, si_, us, ?_, fun z => ?_, eo⟩
            · rw [sOut_ne (k := 0) (by decide) (by decide) (by decide), sOut_ne (k := 1) (by decide) (by decide) (by decide), sOut_ne (k := 2) (by decide) (by decide) (by decide), sOut_ne (k := 10) (by decide) (by decide) (by decide), e3]
              rw [show sOut (σ.2.1 6) i 4 = σ.2.1 6 4 by rw [sOut, if_neg (by decide), if_neg (fun q => hw q.1)]]
              rfl
            · rw [e3] at z
              rw [sOut_ne (k := 0) (by decide) (by decide) (by decide), sOut_ne (k := 5) (by decide) (by decide) (by decide)]
              exact hel z
        clear hq
        obtain ⟨c', rfl, fc'⟩ := key
        have fr5 : Fr 16 17 h4 (e_put h4 16 c') := Fr.rf.put ⟨by omega, by omega⟩
        have ci5 := CI_flight ci4 (SI_know si) fr5 e_put_s fc'
        obtain ⟨si5, us5, rfl, -, -⟩ := id fc'
        refine T_aload_n (pc' := 57) d_Tb_leaves_56 rfl rfl rfl ?_
        refine T_get (pc' := 60) d_Tb_leaves_57 rfl g_Tb_29 ((e_put_n (by decide)).trans k0) rfl ?_
        refine T_get (pc' := 63) d_Tb_leaves_60 rfl g_Tb_176 e_put_s rfl ?_
        refine T_S1i (pc' := 66) d_Tb_leaves_63 rfl l_Tb_179 v_In_bitCount (Nat.le_of_ble_eq_true rfl) (c_In_bitCount X _ _ _) (fun v h6 hq => ?_)
        obtain ⟨rfl, rfl⟩ := hq
        refine T_iret d_Tb_leaves_66 rfl ?_
        refine ⟨_, rfl, ?_⟩
        rw [a_leaves, if_pos hok, if_pos ⟨ha, hb⟩, nI_clamp (by omega)]
        refine ⟨?_, ci5, (fr4.wide (by omega) (by omega)).tr (fr5.wide (by omega) (by omega))⟩
        obtain ⟨v, hv, hve⟩ := (GI_out hg (p := i) (by omega)).2.2.2.2.1
        rw [hve]
        exact sBC_BO v (by omega)
      · refine T_if_ne (pc' := 34) (tgt := 37) d_Tb_leaves_31 rfl (by decide) (fun hzz => absurd (by decide) hzz) (fun _ => ?_)
        refine T_bipush (v := (-2)) (pc' := 36) d_Tb_leaves_34 rfl (by decide) ?_
        refine T_iret d_Tb_leaves_36 rfl ?_
        refine ⟨_, rfl, ?_⟩
        rw [a_leaves, if_pos hok, if_neg (fun q => hb q.2)]
        exact ⟨rfl, ci, Fr.rf⟩
    · refine T_if_eq (pc' := 24) (tgt := 34) d_Tb_leaves_21 rfl (by decide) (fun _ => ?_) (fun hzz => absurd (by decide) hzz)
      refine T_bipush (v := (-2)) (pc' := 36) d_Tb_leaves_34 rfl (by decide) ?_
      refine T_iret d_Tb_leaves_36 rfl ?_
      refine ⟨_, rfl, ?_⟩
      rw [a_leaves, if_pos hok, if_neg (fun q => ha q.1)]
      exact ⟨rfl, ci, Fr.rf⟩
  · refine T_if_ne (pc' := 11) (tgt := 13) d_Tb_leaves_8 rfl (by decide) (fun hzz => absurd (by decide) hzz) (fun _ => ?_)
    refine T_iconst (v := (-1)) (pc' := 12) d_Tb_leaves_11 rfl (by decide) ?_
    refine T_iret d_Tb_leaves_12 rfl ?_
    refine ⟨_, rfl, ?_⟩
    rw [a_leaves, if_neg (fun q => hp ((isP_iff (by omega) p).mpr q))]
    exact ⟨rfl, ci, Fr.rf⟩
theorem p_Tb_undo (ci : CI h σ) (si : SI σ) : Ci X (d + 20) M_Tb_undo [.ref 0] h (fun v h1 => v = (a_undo σ).1 ∧ CI h1 (a_undo σ).2 ∧ Fr 0 86 h h1) := by
  have h0 := ci.1
  obtain ⟨c16, r16, fc⟩ := ci.2.2.2.2.1
  obtain ⟨ρ, hh0, -⟩ := id ci.2.2.2.2.2.2.1
  have hkn := si.1.2.2.2.1
  refine C_of_T rfl rfl (Nat.le_of_ble_eq_true rfl) rfl ?_
  refine T_aload_n (pc' := 1) d_Tb_undo_0 rfl rfl rfl ?_
  refine T_get (pc' := 4) d_Tb_undo_1 rfl g_Tb_39 (by first | assumption | exact e_put_s | simp [e_put, *]) rfl ?_
  refine T_get (pc' := 7) d_Tb_undo_4 rfl g_Tb_187 (by first | assumption | exact e_put_s | simp [e_put, *]) rfl ?_
  by_cases hz : σ.1 3 = 0
  · refine T_if_ne (pc' := 10) (tgt := 13) d_Tb_undo_7 rfl (by decide) (fun hzz => absurd (by rw [hz]; rfl) hzz) (fun _ => ?_)
    refine T_bipush (v := (-2)) (pc' := 12) d_Tb_undo_10 rfl (by decide) ?_
    refine T_iret d_Tb_undo_12 rfl ?_
    refine ⟨_, rfl, ?_⟩
    rw [a_undo, if_pos hz]
    exact ⟨rfl, ci, Fr.rf⟩
  · refine T_if_ne (pc' := 10) (tgt := 13) d_Tb_undo_7 rfl (by decide) (fun _ => ?_) (fun hzz => absurd hzz (nI_ne0 (by omega) (by omega)))
    obtain ⟨kn, hk⟩ : ∃ kn, σ.1 3 = kn + 1 := ⟨σ.1 3 - 1, by omega⟩
    have hr := ci.2.2.2.2.2.2.1
    rw [hk] at hr
    refine T_aload_n (pc' := 14) d_Tb_undo_13 rfl rfl rfl ?_
    refine T_get (pc' := 17) d_Tb_undo_14 rfl g_Tb_39 (by first | assumption | exact e_put_s | simp [e_put, *]) rfl ?_
    refine T_aload_n (pc' := 18) d_Tb_undo_17 rfl rfl rfl ?_
    refine T_get (pc' := 21) d_Tb_undo_18 rfl g_Tb_29 (by first | assumption | exact e_put_s | simp [e_put, *]) rfl ?_
    refine T_V1v (pc' := 24) d_Tb_undo_21 rfl l_Tb_190 v_Hi_pop (by first | assumption | exact e_put_s | simp [e_put, *]) (Nat.le_of_ble_eq_true rfl) (c_Hi_pop X _ h 18 16 kn _ c16 (by omega) hr r16 (fc.fl si.2.2.1) (by decide) (si.2.2.2.1 kn (by omega)).2.2.2.1) (fun h1 hq => ?_)
    obtain ⟨c, fc', rfl⟩ := hq
    have fr1 : Fr 18 30 h (e_put h 18 (oHi 19 (nI kn))) := Fr.rf.put ⟨by omega, by omega⟩
    have hr1 : HR (e_put h 18 (oHi 19 (nI kn))) 18 kn (fun i => σ.2.1 (20 + i)) := by
      obtain ⟨ρ, z0, ⟨r, z2, z3⟩, z4, z5, z6, z7⟩ := hr
      refine ⟨ρ, e_put_s, ⟨r, (e_put_n (by decide)).trans z2, z3⟩, z4, z5, fun i g1 g2 => ?_, fun i hi => ?_⟩
      · obtain ⟨c, c1, c2⟩ := z6 i g1 g2
        exact ⟨c, (e_put_n (by omega)).trans c1, c2⟩
      · obtain ⟨c, c1, c2⟩ := z7 i (by omega)
        have := z4 i (by omega)
        exact ⟨c, (e_put_n (by omega)).trans c1, c2⟩
    have ci1 := CI_hist (by omega) ci fr1 hr1
    have si1 : SI (sH σ kn (fun i => σ.2.1 (20 + i))) := SI_hist si (by omega) (fun i hi => si.2.2.2.1 i (by omega))
    have fr2 : Fr 16 17 (e_put h 18 (oHi 19 (nI kn))) (e_put (e_put h 18 (oHi 19 (nI kn))) 16 c) := Fr.rf.put ⟨by omega, by omega⟩
    have ci2 := CI_flight ci1 si1 fr2 e_put_s (FC_cp (g' := σ.2.1 6) fc')
    refine T_aload_n (pc' := 25) d_Tb_undo_24 rfl rfl rfl ?_
    refine T_get (pc' := 28) d_Tb_undo_25 rfl g_Tb_39 ((e_put_n (by decide)).trans ((e_put_n (by decide)).trans h0)) rfl ?_
    refine T_get (pc' := 31) d_Tb_undo_28 rfl g_Tb_187 ((e_put_n (by decide)).trans e_put_s) rfl ?_
    refine T_iret d_Tb_undo_31 rfl ?_
    refine ⟨_, rfl, ?_⟩
    rw [a_undo, if_neg hz, hk]
    exact ⟨rfl, ci2, (fr1.wide (by omega) (by omega)).tr (fr2.wide (by omega) (by omega))⟩
theorem p_Tb_now (w : Int32) (ci : CI h σ) (si : SI σ) : Ci X (d + 20) M_Tb_now [.ref 0, .int w] h (fun v h1 => v = q_now σ w ∧ CI h1 σ ∧ Fr 0 86 h h1) := by
  have h0 := ci.1
  obtain ⟨ab, tr⟩ := ci.2.2.1
  have t0 := tr.1
  obtain ⟨c16, r16, fc⟩ := ci.2.2.2.2.1
  have hn := si.1.2.1
  have hm := si.1.2.2.1
  have hg := si.2.2.1
  obtain ⟨si_, us, rfl, hel, hus⟩ := id fc
  refine C_of_T rfl rfl (Nat.le_of_ble_eq_true rfl) rfl ?_
  refine T_iload_n (pc' := 1) d_Tb_now_0 rfl rfl rfl ?_
  refine sw_Tb_now_1 (fun hx => ?_) (fun hx => ?_) (fun hx => ?_) (fun hx => ?_) (fun hx => ?_) (fun hx => ?_) (fun hx => ?_) (fun hx => ?_) (fun hx => ?_) (fun x0 x1 x2 x3 x4 x5 x6 x7 x8 => ?_)
  · subst hx
    refine T_aload_n (pc' := 53) d_Tb_now_52 rfl rfl rfl ?_
    refine T_get (pc' := 56) d_Tb_now_53 rfl g_Tb_29 (by first | assumption | exact e_put_s | simp [e_put, *]) rfl ?_
    refine T_get (pc' := 59) d_Tb_now_56 rfl g_Tb_157 (by first | assumption | exact e_put_s | simp [e_put, *]) rfl ?_
    refine T_iret d_Tb_now_59 rfl ?_
    exact ⟨_, rfl, rfl, ci, Fr.rf⟩
  · subst hx
    refine T_aload_n (pc' := 61) d_Tb_now_60 rfl rfl rfl ?_
    refine T_get (pc' := 64) d_Tb_now_61 rfl g_Tb_29 (by first | assumption | exact e_put_s | simp [e_put, *]) rfl ?_
    refine T_get (pc' := 67) d_Tb_now_64 rfl g_Tb_165 (by first | assumption | exact e_put_s | simp [e_put, *]) rfl ?_
    refine T_iret d_Tb_now_67 rfl ?_
    exact ⟨_, rfl, rfl, ci, Fr.rf⟩
  · subst hx
    refine T_aload_n (pc' := 69) d_Tb_now_68 rfl rfl rfl ?_
    refine T_get (pc' := 72) d_Tb_now_69 rfl g_Tb_29 (by first | assumption | exact e_put_s | simp [e_put, *]) rfl ?_
    refine T_get (pc' := 75) d_Tb_now_72 rfl g_Tb_193 (by first | assumption | exact e_put_s | simp [e_put, *]) rfl ?_
    refine T_iret d_Tb_now_75 rfl ?_
    exact ⟨_, rfl, rfl, ci, Fr.rf⟩
  · subst hx
    refine T_aload_n (pc' := 77) d_Tb_now_76 rfl rfl rfl ?_
    refine T_get (pc' := 80) d_Tb_now_77 rfl g_Tb_29 (by first | assumption | exact e_put_s | simp [e_put, *]) rfl ?_
    refine T_get (pc' := 83) d_Tb_now_80 rfl g_Tb_196 (by first | assumption | exact e_put_s | simp [e_put, *]) rfl ?_
    refine T_iret d_Tb_now_83 rfl ?_
    exact ⟨_, rfl, rfl, ci, Fr.rf⟩
  · subst hx
    refine T_aload_n (pc' := 85) d_Tb_now_84 rfl rfl rfl ?_
    refine T_get (pc' := 88) d_Tb_now_85 rfl g_Tb_29 (by first | assumption | exact e_put_s | simp [e_put, *]) rfl ?_
    refine T_get (pc' := 91) d_Tb_now_88 rfl g_Tb_199 (by first | assumption | exact e_put_s | simp [e_put, *]) rfl ?_
    refine T_iret d_Tb_now_91 rfl ?_
    exact ⟨_, rfl, rfl, ci, Fr.rf⟩
  · subst hx
    refine T_aload_n (pc' := 93) d_Tb_now_92 rfl rfl rfl ?_
    refine T_get (pc' := 96) d_Tb_now_93 rfl g_Tb_19 (by first | assumption | exact e_put_s | simp [e_put, *]) rfl ?_
    refine T_aload_n (pc' := 97) d_Tb_now_96 rfl rfl rfl ?_
    refine T_get (pc' := 100) d_Tb_now_97 rfl g_Tb_29 (by first | assumption | exact e_put_s | simp [e_put, *]) rfl ?_
    refine T_V1i (pc' := 103) d_Tb_now_100 rfl l_Tb_153 v_To_hold (by first | assumption | exact e_put_s | simp [e_put, *]) (Nat.le_of_ble_eq_true rfl) (c_To_hold X _ h 4 _ _ _ _ _ _ _ _ _ 16 _ _ _ _ _ _ _ _ _ hn hm tr r16 hg.2.2.1) (fun v h1 hq => ?_)
    obtain ⟨rfl, rfl⟩ := hq
    refine T_iret d_Tb_now_103 rfl ?_
    refine ⟨_, rfl, ?_, ci, Fr.rf⟩
    show _ = sHold (σ.2.1 3) (σ.2.1 4) (σ.2.1 5) (σ.2.1 6 3) (σ.2.1 6 4) (σ.2.1 6 5)
    by_cases h9 : σ.2.1 6 3 = -9
    · rw [sHold, sHold, if_pos (Or.inl h9), if_pos (Or.inl h9)]
    · rw [hel h9]
  · subst hx
    refine T_aload_n (pc' := 105) d_Tb_now_104 rfl rfl rfl ?_
    refine T_get (pc' := 108) d_Tb_now_105 rfl g_Tb_19 (by first | assumption | exact e_put_s | simp [e_put, *]) rfl ?_
    refine T_aload_n (pc' := 109) d_Tb_now_108 rfl rfl rfl ?_
    refine T_get (pc' := 112) d_Tb_now_109 rfl g_Tb_29 (by first | assumption | exact e_put_s | simp [e_put, *]) rfl ?_
    refine T_V1i (pc' := 115) d_Tb_now_112 rfl l_Tb_202 v_To_load (by first | assumption | exact e_put_s | simp [e_put, *]) (Nat.le_of_ble_eq_true rfl) (c_To_load X _ h 4 _ _ _ _ _ _ _ _ _ 16 _ _ _ _ _ _ _ _ _ hn tr r16) (fun v h1 hq => ?_)
    obtain ⟨rfl, rfl⟩ := hq
    refine T_iret d_Tb_now_115 rfl ?_
    exact ⟨_, rfl, rfl, ci, Fr.rf⟩
  · subst hx
    refine T_aload_n (pc' := 117) d_Tb_now_116 rfl rfl rfl ?_
    refine T_get (pc' := 120) d_Tb_now_117 rfl g_Tb_29 (by first | assumption | exact e_put_s | simp [e_put, *]) rfl ?_
    refine T_get (pc' := 123) d_Tb_now_120 rfl g_Tb_137 (by first | assumption | exact e_put_s | simp [e_put, *]) rfl ?_
    rcases hg.2.2.2.1 with hlo | hlo
    · refine T_if_eq (pc' := 126) (tgt := 130) d_Tb_now_123 rfl (by decide) (fun _ => ?_) (fun hzz => absurd hlo hzz)
      refine T_iconst (v := 0) (pc' := 131) d_Tb_now_130 rfl (by decide) ?_
      refine T_iret d_Tb_now_131 rfl ?_
      exact ⟨_, rfl, hlo.symm, ci, Fr.rf⟩
    · refine T_if_eq (pc' := 126) (tgt := 130) d_Tb_now_123 rfl (by decide) (fun hzz => absurd hzz (by rw [hlo]; decide)) (fun _ => ?_)
      refine T_iconst (v := 1) (pc' := 127) d_Tb_now_126 rfl (by decide) ?_
      refine T_goto (pc' := 131) d_Tb_now_127 (by decide) ?_
      refine T_iret d_Tb_now_131 rfl ?_
      exact ⟨_, rfl, hlo.symm, ci, Fr.rf⟩
  · subst hx
    refine T_aload_n (pc' := 133) d_Tb_now_132 rfl rfl rfl ?_
    refine T_get (pc' := 136) d_Tb_now_133 rfl g_Tb_19 (by first | assumption | exact e_put_s | simp [e_put, *]) rfl ?_
    refine T_V0i (pc' := 139) d_Tb_now_136 rfl l_Tb_205 v_To_cover (by first | assumption | exact e_put_s | simp [e_put, *]) (Nat.le_of_ble_eq_true rfl) (c_To_cover X _ h 4 _ _ _ _ _ _ _ _ _ hn hm tr) (fun v h1 hq => ?_)
    obtain ⟨rfl, rfl⟩ := hq
    refine T_iret d_Tb_now_139 rfl ?_
    exact ⟨_, rfl, rfl, ci, Fr.rf⟩
  · refine T_iconst (v := (-1)) (pc' := 141) d_Tb_now_140 rfl (by decide) ?_
    refine T_iret d_Tb_now_141 rfl ?_
    exact ⟨_, rfl, by rw [q_now, if_neg x0, if_neg x1, if_neg x2, if_neg x3, if_neg x4, if_neg x5, if_neg x6, if_neg x7, if_neg x8], ci, Fr.rf⟩
/-- trial.copyFrom(flight) -/
theorem c_trial (ci : CI h σ) (si : SI σ) : Cv X d M_Fl_copyFrom [.ref 17, .ref 16] h (fun h1 => ∃ c, h1 = e_put h 17 c ∧ FC c (σ.2.1 6)) := by
  obtain ⟨c16, r16, fc⟩ := ci.2.2.2.2.1
  obtain ⟨c17, r17, fl⟩ := ci.2.2.2.2.2.1
  refine C_mono (c_Fl_copy X d h 17 16 c17 c16 (by decide) r17 r16 fl (fc.fl si.2.2.1)) ?_
  rintro r h1 ⟨rfl, rfl⟩
  exact ⟨rfl, _, rfl, fc⟩
theorem p_Tb_after (k w : Int32) (ci : CI h σ) (si : SI σ) : Ci X (d + 20) M_Tb_after [.ref 0, .int k, .int w] h (fun v h1 => v = q_after σ k w ∧ CI h1 σ ∧ Fr 0 86 h h1) := by
  have h0 := ci.1
  obtain ⟨ab, tr⟩ := ci.2.2.1
  have t0 := tr.1
  obtain ⟨c17, r17, mi7, ce7, he7, th7, id7, si7, ab7, us7, lo7, rfl, hlo7⟩ := ci.2.2.2.2.2.1
  have hn := si.1.2.1
  have hm := si.1.2.2.1
  have hg := si.2.2.1
  refine C_of_T rfl rfl (Nat.le_of_ble_eq_true rfl) rfl ?_
  refine T_iload_n (pc' := 1) d_Tb_after_0 rfl rfl rfl ?_
  refine T_iconst (v := 0) (pc' := 2) d_Tb_after_1 rfl (by decide) ?_
  refine T_bipush (v := 30) (pc' := 4) d_Tb_after_2 rfl (by decide) ?_
  refine T_S3i (pc' := 7) d_Tb_after_4 rfl l_Tb_85 v_Tb_within (Nat.le_of_ble_eq_true rfl) (c_Tb_within X _ h k 0 30) (fun v h1 hq => ?_)
  obtain ⟨rfl, ⟨hk, rfl⟩ | ⟨hk, rfl⟩⟩ := hq
  · refine T_if_eq (pc' := 10) (tgt := 19) d_Tb_after_7 rfl (by decide) (fun hzz => absurd hzz (by decide)) (fun _ => ?_)
    refine T_iload_n (pc' := 11) d_Tb_after_10 rfl rfl rfl ?_
    refine T_iconst (v := 0) (pc' := 12) d_Tb_after_11 rfl (by decide) ?_
    refine T_iconst (v := 1) (pc' := 13) d_Tb_after_12 rfl (by decide) ?_
    refine T_S3i (pc' := 16) d_Tb_after_13 rfl l_Tb_85 v_Tb_within (Nat.le_of_ble_eq_true rfl) (c_Tb_within X _ h1 w 0 1) (fun v h2 hq => ?_)
    obtain ⟨rfl, ⟨hw, rfl⟩ | ⟨hw, rfl⟩⟩ := hq
    · refine T_if_ne (pc' := 19) (tgt := 21) d_Tb_after_16 rfl (by decide) (fun _ => ?_) (fun hzz => absurd hzz (by decide))
      obtain ⟨kk, hkk, rfl⟩ := nI_of2 (M := 30) (n := 30) (by decide) (Int32.not_lt.mpr hk.1) hk.2
      refine T_aload_n (pc' := 22) d_Tb_after_21 rfl rfl rfl ?_
      refine T_get (pc' := 25) d_Tb_after_22 rfl g_Tb_33 (by first | assumption | exact e_put_s | simp [e_put, *]) rfl ?_
      refine T_aload_n (pc' := 26) d_Tb_after_25 rfl rfl rfl ?_
      refine T_get (pc' := 29) d_Tb_after_26 rfl g_Tb_29 (by first | assumption | exact e_put_s | simp [e_put, *]) rfl ?_
      refine T_V1v (pc' := 32) d_Tb_after_29 rfl l_Tb_208 v_Fl_copyFrom (by first | assumption | exact e_put_s | simp [e_put, *]) (Nat.le_of_ble_eq_true rfl) (c_trial X _ h2 σ ci si) (fun h3 hq => ?_)
      obtain ⟨c, rfl, fc⟩ := hq
      have frp : ∀ c, Fr 17 18 h2 (e_put h2 17 c) := fun c => Fr.rf.put ⟨by omega, by omega⟩
      refine T_aload_n (pc' := 33) d_Tb_after_32 rfl rfl rfl ?_
      refine T_get (pc' := 36) d_Tb_after_33 rfl g_Tb_19 ((e_put_n (by decide)).trans h0) rfl ?_
      refine T_aload_n (pc' := 37) d_Tb_after_36 rfl rfl rfl ?_
      refine T_get (pc' := 40) d_Tb_after_37 rfl g_Tb_33 ((e_put_n (by decide)).trans h0) rfl ?_
      refine T_iload_n (pc' := 41) d_Tb_after_40 rfl rfl rfl ?_
      refine T_V2v (pc' := 44) d_Tb_after_41 rfl l_Tb_161 v_To_passMinutes ((e_put_n (by decide)).trans t0) (Nat.le_of_ble_eq_true rfl) (c_To_passMinutes X _ _ 4 _ _ _ _ _ _ _ _ _ 17 kk _ _ hn hm (by omega) (TR_fr (frp c) (by decide) tr) (by decide) e_put_s fc hg) (fun h4 hq => ?_)
      obtain ⟨c', rfl, fc'⟩ := hq
      rw [e_pp]
      have ci5 := CI_trial ci si (frp c') e_put_s (fc'.fl (GI_passN hg kk))
      obtain ⟨si5, us5, rfl, -, -⟩ := id fc'
      rcases s_01 hw with rfl | rfl
      · refine T_iload_n (pc' := 45) d_Tb_after_44 rfl rfl rfl ?_
        refine T_if_ne (pc' := 48) (tgt := 58) d_Tb_after_45 rfl (by decide) (fun hzz => absurd (by decide) hzz) (fun _ => ?_)
        refine T_aload_n (pc' := 49) d_Tb_after_48 rfl rfl rfl ?_
        refine T_get (pc' := 52) d_Tb_after_49 rfl g_Tb_33 ((e_put_n (by decide)).trans h0) rfl ?_
        refine T_get (pc' := 55) d_Tb_after_52 rfl g_Tb_165 e_put_s rfl ?_
        refine T_goto (pc' := 65) d_Tb_after_55 (by decide) ?_
        refine T_iret d_Tb_after_65 rfl ?_
        refine ⟨_, rfl, ?_, ci5, (frp _).wide (by omega) (by omega)⟩
        rw [q_after, if_pos ⟨hk, hw⟩, nI_clamp (by omega)]; rfl
      · refine T_iload_n (pc' := 45) d_Tb_after_44 rfl rfl rfl ?_
        refine T_if_ne (pc' := 48) (tgt := 58) d_Tb_after_45 rfl (by decide) (fun _ => ?_) (fun hzz => absurd hzz (by decide))
        refine T_aload_n (pc' := 59) d_Tb_after_58 rfl rfl rfl ?_
        refine T_get (pc' := 62) d_Tb_after_59 rfl g_Tb_33 ((e_put_n (by decide)).trans h0) rfl ?_
        refine T_get (pc' := 65) d_Tb_after_62 rfl g_Tb_193 e_put_s rfl ?_
        refine T_iret d_Tb_after_65 rfl ?_
        refine ⟨_, rfl, ?_, ci5, (frp _).wide (by omega) (by omega)⟩
        rw [q_after, if_pos ⟨hk, hw⟩, nI_clamp (by omega)]; rfl
    · refine T_if_ne (pc' := 19) (tgt := 21) d_Tb_after_16 rfl (by decide) (fun hzz => absurd (by decide) hzz) (fun _ => ?_)
      refine T_iconst (v := (-1)) (pc' := 20) d_Tb_after_19 rfl (by decide) ?_
      refine T_iret d_Tb_after_20 rfl ?_
      exact ⟨_, rfl, by rw [q_after, if_neg (fun q => hw q.2)], ci, Fr.rf⟩
  · refine T_if_eq (pc' := 10) (tgt := 19) d_Tb_after_7 rfl (by decide) (fun _ => ?_) (fun hzz => absurd (by decide) hzz)
    refine T_iconst (v := (-1)) (pc' := 20) d_Tb_after_19 rfl (by decide) ?_
    refine T_iret d_Tb_after_20 rfl ?_
    exact ⟨_, rfl, by rw [q_after, if_neg (fun q => hk q.1)], ci, Fr.rf⟩
theorem l_Tb_down (ci : CI h σ) (si : SI σ) (Q : Option Value → AH → Prop) (hQ : ∀ h1, CI h1 σ → Fr 0 86 h h1 → Q (some (.int (sDn σ (σ.2.1 6) 60 1))) h1) : ∀ (k i : Nat), i + k = 60 → sDn σ (σ.2.1 6) k (i + 1) = sDn σ (σ.2.1 6) 60 1 → ∀ c, FC c (pN σ (σ.2.1 6) i) → T X (d + 20) M_Tb_down 13 [.ref 0, .int (nI (i + 1))] [] (e_put h 17 c) Q
  | 0, i, hi, hs, c, fc => by
    have : i = 60 := by omega
    subst this
    have fr : Fr 17 18 h (e_put h 17 c) := Fr.rf.put ⟨by omega, by omega⟩
    refine T_iload_n (pc' := 14) d_Tb_down_13 rfl rfl rfl ?_
    refine T_bipush (v := 60) (pc' := 16) d_Tb_down_14 rfl (by decide) ?_
    refine T_icmp_gt (pc' := 19) (tgt := 61) d_Tb_down_16 rfl (by decide) (fun _ => ?_) (fun hzz => absurd (by decide) hzz)
    refine T_bipush (v := (-9)) (pc' := 63) d_Tb_down_61 rfl (by decide) ?_
    refine T_iret d_Tb_down_63 rfl ?_
    have := hQ _ (CI_trial ci si fr e_put_s (fc.fl (GI_passN si.2.2.1 60))) (fr.wide (by omega) (by omega))
    rw [← hs] at this
    exact this
  | k + 1, i, hi, hs, c, fc => by
    have h0 := ci.1
    obtain ⟨ab, tr⟩ := ci.2.2.1
    have t0 := tr.1
    have frp : ∀ c, Fr 17 18 h (e_put h 17 c) := fun c => Fr.rf.put ⟨by omega, by omega⟩
    refine T_iload_n (pc' := 14) d_Tb_down_13 rfl rfl rfl ?_
    refine T_bipush (v := 60) (pc' := 16) d_Tb_down_14 rfl (by decide) ?_
    refine T_icmp_gt (pc' := 19) (tgt := 61) d_Tb_down_16 rfl (by decide) (fun hzz => absurd hzz (nI_nlt (a := 60) (b := i + 1) (by omega) (by decide))) (fun _ => ?_)
    refine T_aload_n (pc' := 20) d_Tb_down_19 rfl rfl rfl ?_
    refine T_get (pc' := 23) d_Tb_down_20 rfl g_Tb_19 ((e_put_n (by decide)).trans h0) rfl ?_
    refine T_aload_n (pc' := 24) d_Tb_down_23 rfl rfl rfl ?_
    refine T_get (pc' := 27) d_Tb_down_24 rfl g_Tb_33 ((e_put_n (by decide)).trans h0) rfl ?_
    refine T_V1v (pc' := 30) d_Tb_down_27 rfl l_Tb_210 v_To_passMinute ((e_put_n (by decide)).trans t0) (Nat.le_of_ble_eq_true rfl) (c_To_passMinute X _ _ 4 _ _ _ _ _ _ _ _ _ 17 c _ si.1.2.1 si.1.2.2.1 (TR_fr (frp c) (by decide) tr) (by decide) e_put_s fc (GI_passN si.2.2.1 i)) (fun h1 hq => ?_)
    obtain ⟨c', rfl, fc'⟩ := hq
    rw [e_pp]
    have fc2 : FC c' (pN σ (σ.2.1 6) (i + 1)) := fc'
    have gi2 : GI (σ.1 1) (σ.1 2) (pN σ (σ.2.1 6) (i + 1)) := GI_passN si.2.2.1 (i + 1)
    have ci2 := CI_trial ci si (frp c') e_put_s (fc2.fl gi2)
    have ih := l_Tb_down ci si Q hQ k (i + 1) (by omega)
    clear fc'
    rw [sDn] at hs
    generalize pN σ (σ.2.1 6) (i + 1) = G at fc2 gi2 hs ih
    obtain ⟨si5, us5, rfl, q5, q6⟩ := id fc2
    refine T_aload_n (pc' := 31) d_Tb_down_30 rfl rfl rfl ?_
    refine T_get (pc' := 34) d_Tb_down_31 rfl g_Tb_33 ((e_put_n (by decide)).trans h0) rfl ?_
    refine T_get (pc' := 37) d_Tb_down_34 rfl g_Tb_137 e_put_s rfl ?_
    rcases gi2.2.2.2.1 with hlo | hlo
    · refine T_if_eq (pc' := 40) (tgt := 43) d_Tb_down_37 rfl (by decide) (fun _ => ?_) (fun hzz => absurd hlo hzz)
      refine T_aload_n (pc' := 44) d_Tb_down_43 rfl rfl rfl ?_
      refine T_get (pc' := 47) d_Tb_down_44 rfl g_Tb_33 ((e_put_n (by decide)).trans h0) rfl ?_
      refine T_get (pc' := 50) d_Tb_down_47 rfl g_Tb_193 e_put_s rfl ?_
      rw [if_neg (by rw [hlo]; decide)] at hs
      by_cases hz : G 2 = 0
      · refine T_if_ne (pc' := 53) (tgt := 55) d_Tb_down_50 rfl (by decide) (fun hzz => absurd hz hzz) (fun _ => ?_)
        refine T_iload_n (pc' := 54) d_Tb_down_53 rfl rfl rfl ?_
        refine T_iret d_Tb_down_54 rfl ?_
        rw [if_pos hz] at hs
        have := hQ _ ci2 ((frp _).wide (by omega) (by omega))
        rw [← hs] at this
        exact this
      · refine T_if_ne (pc' := 53) (tgt := 55) d_Tb_down_50 rfl (by decide) (fun _ => ?_) (fun hzz => absurd hzz hz)
        refine T_ii1 (c := 1) (pc' := 58) d_Tb_down_55 rfl (by decide) (Nat.le_of_ble_eq_true rfl) rfl ?_
        rw [nI_1]
        refine T_goto (pc' := 13) d_Tb_down_58 (by decide) ?_
        rw [if_neg hz] at hs
        exact ih hs _ fc2
    · refine T_if_eq (pc' := 40) (tgt := 43) d_Tb_down_37 rfl (by decide) (fun hzz => absurd hzz (by rw [hlo]; decide)) (fun _ => ?_)
      refine T_bipush (v := (-9)) (pc' := 42) d_Tb_down_40 rfl (by decide) ?_
      refine T_iret d_Tb_down_42 rfl ?_
      rw [if_pos hlo] at hs
      have := hQ _ ci2 ((frp _).wide (by omega) (by omega))
      rw [← hs] at this
      exact this
theorem p_Tb_down (ci : CI h σ) (si : SI σ) : Ci X (d + 20) M_Tb_down [.ref 0] h (fun v h1 => v = sDn σ (σ.2.1 6) 60 1 ∧ CI h1 σ ∧ Fr 0 86 h h1) := by
  have h0 := ci.1
  obtain ⟨c17, r17, mi7, ce7, he7, th7, id7, si7, ab7, us7, lo7, rfl, hlo7⟩ := ci.2.2.2.2.2.1
  refine C_of_T rfl rfl (Nat.le_of_ble_eq_true rfl) rfl ?_
  refine T_aload_n (pc' := 1) d_Tb_down_0 rfl rfl rfl ?_
  refine T_get (pc' := 4) d_Tb_down_1 rfl g_Tb_33 (by first | assumption | exact e_put_s | simp [e_put, *]) rfl ?_
  refine T_aload_n (pc' := 5) d_Tb_down_4 rfl rfl rfl ?_
  refine T_get (pc' := 8) d_Tb_down_5 rfl g_Tb_29 (by first | assumption | exact e_put_s | simp [e_put, *]) rfl ?_
  refine T_V1v (pc' := 11) d_Tb_down_8 rfl l_Tb_208 v_Fl_copyFrom (by first | assumption | exact e_put_s | simp [e_put, *]) (Nat.le_of_ble_eq_true rfl) (c_trial X _ h σ ci si) (fun h1 hq => ?_)
  obtain ⟨c, rfl, fc⟩ := hq
  refine T_iconst (v := 1) (pc' := 12) d_Tb_down_11 rfl (by decide) ?_
  refine T_is_n1 (pc' := 13) d_Tb_down_12 rfl rfl (Nat.le_of_ble_eq_true rfl) rfl ?_
  exact l_Tb_down X d h σ ci si _ (fun h1 q1 q2 => ⟨_, rfl, rfl, q1, q2⟩) 60 0 rfl rfl c fc
end PUB3
