/-! Flight: a cell of nine numbers -/
/-- the fields: minute, cell, height, thinker, idea, since, aboard, used, lost -/
abbrev oFl (mi ce he th id si ab us lo : Int32) : AC := .inr (.inr (0, [.int mi, .int ce, .int he, .int th, .int id, .int si, .int ab, .int us, .int lo]))
def sClamp (lo hi x : Int32) : Int32 := if lo < (if x < hi then x else hi) then (if x < hi then x else hi) else lo
section FL
variable (X : EX) (d : Nat) (h : AH) (a : Nat) (mi ce he th id si ab us lo : Int32)
theorem c_Fl_usedBy (p : Int32) (ha : h.2 a = some (oFl mi ce he th id si ab us lo)) : Ci X d M_Fl_usedBy [.ref a, .int p] h (fun v h1 => h1 = h ∧ v = us >>> ((4 * p) &&& 31) &&& 15) := by
  refine C_of_T rfl rfl (Nat.le_of_ble_eq_true rfl) rfl ?_
  refine T_aload_n (pc' := 1) d_Fl_usedBy_0 rfl rfl rfl ?_
  refine T_get (pc' := 4) d_Fl_usedBy_1 rfl g_Fl_27 (by first | assumption | exact e_put_s | simp [e_put, *]) rfl ?_
  refine T_iconst (v := 4) (pc' := 5) d_Fl_usedBy_4 rfl (by decide) ?_
  refine T_iload_n (pc' := 6) d_Fl_usedBy_5 rfl rfl rfl ?_
  refine T_imul (pc' := 7) d_Fl_usedBy_6 rfl ?_
  refine T_ishr (pc' := 8) d_Fl_usedBy_7 rfl ?_
  refine T_bipush (v := 15) (pc' := 10) d_Fl_usedBy_8 rfl (by decide) ?_
  refine T_iand (pc' := 11) d_Fl_usedBy_10 rfl ?_
  refine T_iret d_Fl_usedBy_11 rfl ?_
  exact ⟨_, rfl, rfl, rfl⟩
theorem c_Fl_hasAboard (p : Int32) (ha : h.2 a = some (oFl mi ce he th id si ab us lo)) : Ci X d M_Fl_hasAboard [.ref a, .int p] h (fun v h1 => h1 = h ∧ (sHas ab p ∧ v = 1 ∨ ¬ sHas ab p ∧ v = 0)) := by
  refine C_of_T rfl rfl (Nat.le_of_ble_eq_true rfl) rfl ?_
  refine T_aload_n (pc' := 1) d_Fl_hasAboard_0 rfl rfl rfl ?_
  refine T_get (pc' := 4) d_Fl_hasAboard_1 rfl g_Fl_24 (by first | assumption | exact e_put_s | simp [e_put, *]) rfl ?_
  refine T_iload_n (pc' := 5) d_Fl_hasAboard_4 rfl rfl rfl ?_
  refine T_ishr (pc' := 6) d_Fl_hasAboard_5 rfl ?_
  refine T_iconst (v := 1) (pc' := 7) d_Fl_hasAboard_6 rfl (by decide) ?_
  refine T_iand (pc' := 8) d_Fl_hasAboard_7 rfl ?_
  refine T_iconst (v := 1) (pc' := 9) d_Fl_hasAboard_8 rfl (by decide) ?_
  refine T_icmp_ne (pc' := 12) (tgt := 16) d_Fl_hasAboard_9 rfl (by decide) (fun hc => ?_) (fun hc => ?_)
  · refine T_iconst (v := 0) (pc' := 17) d_Fl_hasAboard_16 rfl (by decide) ?_
    refine T_zret d_Fl_hasAboard_17 rfl (by first | assumption | exact Or.inl rfl | exact Or.inr rfl) ?_
    exact ⟨_, rfl, rfl, Or.inr ⟨hc, rfl⟩⟩
  · refine T_iconst (v := 1) (pc' := 13) d_Fl_hasAboard_12 rfl (by decide) ?_
    refine T_goto (pc' := 17) d_Fl_hasAboard_13 (by decide) ?_
    refine T_zret d_Fl_hasAboard_17 rfl (by first | assumption | exact Or.inl rfl | exact Or.inr rfl) ?_
    exact ⟨_, rfl, rfl, Or.inl ⟨hc, rfl⟩⟩
theorem c_Fl_thinkNothing (ha : h.2 a = some (oFl mi ce he th id si ab us lo)) : Cv X d M_Fl_thinkNothing [.ref a] h (fun h1 => h1 = e_put h a (oFl mi ce he (-9) (-9) 0 ab us lo)) := by
  refine C_of_T rfl rfl (Nat.le_of_ble_eq_true rfl) rfl ?_
  refine T_aload_n (pc' := 1) d_Fl_thinkNothing_0 rfl rfl rfl ?_
  refine T_bipush (v := (-9)) (pc' := 3) d_Fl_thinkNothing_1 rfl (by decide) ?_
  refine T_puti3 (pc' := 6) d_Fl_thinkNothing_3 rfl f_Fl_34 (fun z => absurd z Bool.false_ne_true) (by first | assumption | exact e_put_s | simp [e_put, *]) ?_
  refine T_aload_n (pc' := 7) d_Fl_thinkNothing_6 rfl rfl rfl ?_
  refine T_bipush (v := (-9)) (pc' := 9) d_Fl_thinkNothing_7 rfl (by decide) ?_
  refine T_puti4 (pc' := 12) d_Fl_thinkNothing_9 rfl f_Fl_37 (fun z => absurd z Bool.false_ne_true) (by first | assumption | exact e_put_s | simp [e_put, *]) ?_
  refine T_aload_n (pc' := 13) d_Fl_thinkNothing_12 rfl rfl rfl ?_
  refine T_iconst (v := 0) (pc' := 14) d_Fl_thinkNothing_13 rfl (by decide) ?_
  refine T_puti5 (pc' := 17) d_Fl_thinkNothing_14 rfl f_Fl_40 (fun z => absurd z Bool.false_ne_true) (by first | assumption | exact e_put_s | simp [e_put, *]) ?_
  refine T_vret d_Fl_thinkNothing_17 rfl ?_
  exact ⟨rfl, by rw [e_pp, e_pp]⟩
theorem c_Fl_start (c b : Int32) (ha : h.2 a = some (oFl mi ce he th id si ab us lo)) : Cv X (d + 1) M_Fl_start [.ref a, .int c, .int b] h (fun h1 => h1 = e_put h a (oFl 0 c 0 (-9) (-9) 0 b 0 0)) := by
  refine C_of_T rfl rfl (Nat.le_of_ble_eq_true rfl) rfl ?_
  refine T_aload_n (pc' := 1) d_Fl_start_0 rfl rfl rfl ?_
  refine T_iconst (v := 0) (pc' := 2) d_Fl_start_1 rfl (by decide) ?_
  refine T_puti0 (pc' := 5) d_Fl_start_2 rfl f_Fl_9 (fun z => absurd z Bool.false_ne_true) (by first | assumption | exact e_put_s | simp [e_put, *]) ?_
  refine T_aload_n (pc' := 6) d_Fl_start_5 rfl rfl rfl ?_
  refine T_iload_n (pc' := 7) d_Fl_start_6 rfl rfl rfl ?_
  refine T_puti1 (pc' := 10) d_Fl_start_7 rfl f_Fl_15 (fun z => absurd z Bool.false_ne_true) (by first | assumption | exact e_put_s | simp [e_put, *]) ?_
  refine T_aload_n (pc' := 11) d_Fl_start_10 rfl rfl rfl ?_
  refine T_iconst (v := 0) (pc' := 12) d_Fl_start_11 rfl (by decide) ?_
  refine T_puti2 (pc' := 15) d_Fl_start_12 rfl f_Fl_18 (fun z => absurd z Bool.false_ne_true) (by first | assumption | exact e_put_s | simp [e_put, *]) ?_
  refine T_aload_n (pc' := 16) d_Fl_start_15 rfl rfl rfl ?_
  refine T_V0v (pc' := 19) d_Fl_start_16 rfl l_Fl_21 v_Fl_thinkNothing (by first | assumption | exact e_put_s | simp [e_put, *]) (Nat.le_of_ble_eq_true rfl) (c_Fl_thinkNothing X d _ a _ _ _ _ _ _ _ _ _ e_put_s) (fun h1 hq => ?_)
  subst hq
  refine T_aload_n (pc' := 20) d_Fl_start_19 rfl rfl rfl ?_
  refine T_iload_n (pc' := 21) d_Fl_start_20 rfl rfl rfl ?_
  refine T_puti6 (pc' := 24) d_Fl_start_21 rfl f_Fl_24 (fun z => absurd z Bool.false_ne_true) (by first | assumption | exact e_put_s | simp [e_put, *]) ?_
  refine T_aload_n (pc' := 25) d_Fl_start_24 rfl rfl rfl ?_
  refine T_iconst (v := 0) (pc' := 26) d_Fl_start_25 rfl (by decide) ?_
  refine T_puti7 (pc' := 29) d_Fl_start_26 rfl f_Fl_27 (fun z => absurd z Bool.false_ne_true) (by first | assumption | exact e_put_s | simp [e_put, *]) ?_
  refine T_aload_n (pc' := 30) d_Fl_start_29 rfl rfl rfl ?_
  refine T_iconst (v := 0) (pc' := 31) d_Fl_start_30 rfl (by decide) ?_
  refine T_putz8 (pc' := 34) d_Fl_start_31 rfl f_Fl_30 (fun z => absurd z Bool.false_ne_true) (by first | assumption | exact e_put_s | simp [e_put, *]) (by first | assumption | exact Or.inl rfl | exact Or.inr rfl) ?_
  refine T_vret d_Fl_start_34 rfl ?_
  exact ⟨rfl, by simp only [e_pp]⟩
theorem c_Fl_copyFrom (b : Nat) (mi' ce' he' th' id' si' ab' us' lo' : Int32) (hab : b ≠ a) (hlo : lo' = 0 ∨ lo' = 1) (ha : h.2 a = some (oFl mi ce he th id si ab us lo)) (hb : h.2 b = some (oFl mi' ce' he' th' id' si' ab' us' lo')) : Cv X d M_Fl_copyFrom [.ref a, .ref b] h (fun h1 => h1 = e_put h a (oFl mi' ce' he' th' id' si' ab' us' lo')) := by
  have hb' : ∀ c, (e_put h a c).2 b = some (oFl mi' ce' he' th' id' si' ab' us' lo') := fun c => (e_put_n hab).trans hb
  refine C_of_T rfl rfl (Nat.le_of_ble_eq_true rfl) rfl ?_
  refine T_aload_n (pc' := 1) d_Fl_copyFrom_0 rfl rfl rfl ?_
  refine T_aload_n (pc' := 2) d_Fl_copyFrom_1 rfl rfl rfl ?_
  refine T_get (pc' := 5) d_Fl_copyFrom_2 rfl g_Fl_9 (by first | assumption | exact e_put_s | simp [e_put, *]) rfl ?_
  refine T_puti0 (pc' := 8) d_Fl_copyFrom_5 rfl f_Fl_9 (fun z => absurd z Bool.false_ne_true) (by first | assumption | exact e_put_s | simp [e_put, *]) ?_
  refine T_aload_n (pc' := 9) d_Fl_copyFrom_8 rfl rfl rfl ?_
  refine T_aload_n (pc' := 10) d_Fl_copyFrom_9 rfl rfl rfl ?_
  refine T_get (pc' := 13) d_Fl_copyFrom_10 rfl g_Fl_15 (hb' _) rfl ?_
  refine T_puti1 (pc' := 16) d_Fl_copyFrom_13 rfl f_Fl_15 (fun z => absurd z Bool.false_ne_true) e_put_s ?_
  rw [e_pp]
  refine T_aload_n (pc' := 17) d_Fl_copyFrom_16 rfl rfl rfl ?_
  refine T_aload_n (pc' := 18) d_Fl_copyFrom_17 rfl rfl rfl ?_
  refine T_get (pc' := 21) d_Fl_copyFrom_18 rfl g_Fl_18 (hb' _) rfl ?_
  refine T_puti2 (pc' := 24) d_Fl_copyFrom_21 rfl f_Fl_18 (fun z => absurd z Bool.false_ne_true) e_put_s ?_
  rw [e_pp]
  refine T_aload_n (pc' := 25) d_Fl_copyFrom_24 rfl rfl rfl ?_
  refine T_aload_n (pc' := 26) d_Fl_copyFrom_25 rfl rfl rfl ?_
  refine T_get (pc' := 29) d_Fl_copyFrom_26 rfl g_Fl_34 (hb' _) rfl ?_
  refine T_puti3 (pc' := 32) d_Fl_copyFrom_29 rfl f_Fl_34 (fun z => absurd z Bool.false_ne_true) e_put_s ?_
  rw [e_pp]
  refine T_aload_n (pc' := 33) d_Fl_copyFrom_32 rfl rfl rfl ?_
  refine T_aload_n (pc' := 34) d_Fl_copyFrom_33 rfl rfl rfl ?_
  refine T_get (pc' := 37) d_Fl_copyFrom_34 rfl g_Fl_37 (hb' _) rfl ?_
  refine T_puti4 (pc' := 40) d_Fl_copyFrom_37 rfl f_Fl_37 (fun z => absurd z Bool.false_ne_true) e_put_s ?_
  rw [e_pp]
  refine T_aload_n (pc' := 41) d_Fl_copyFrom_40 rfl rfl rfl ?_
  refine T_aload_n (pc' := 42) d_Fl_copyFrom_41 rfl rfl rfl ?_
  refine T_get (pc' := 45) d_Fl_copyFrom_42 rfl g_Fl_40 (hb' _) rfl ?_
  refine T_puti5 (pc' := 48) d_Fl_copyFrom_45 rfl f_Fl_40 (fun z => absurd z Bool.false_ne_true) e_put_s ?_
  rw [e_pp]
  refine T_aload_n (pc' := 49) d_Fl_copyFrom_48 rfl rfl rfl ?_
  refine T_aload_n (pc' := 50) d_Fl_copyFrom_49 rfl rfl rfl ?_
  refine T_get (pc' := 53) d_Fl_copyFrom_50 rfl g_Fl_24 (hb' _) rfl ?_
  refine T_puti6 (pc' := 56) d_Fl_copyFrom_53 rfl f_Fl_24 (fun z => absurd z Bool.false_ne_true) e_put_s ?_
  rw [e_pp]
  refine T_aload_n (pc' := 57) d_Fl_copyFrom_56 rfl rfl rfl ?_
  refine T_aload_n (pc' := 58) d_Fl_copyFrom_57 rfl rfl rfl ?_
  refine T_get (pc' := 61) d_Fl_copyFrom_58 rfl g_Fl_27 (hb' _) rfl ?_
  refine T_puti7 (pc' := 64) d_Fl_copyFrom_61 rfl f_Fl_27 (fun z => absurd z Bool.false_ne_true) e_put_s ?_
  rw [e_pp]
  refine T_aload_n (pc' := 65) d_Fl_copyFrom_64 rfl rfl rfl ?_
  refine T_aload_n (pc' := 66) d_Fl_copyFrom_65 rfl rfl rfl ?_
  refine T_get (pc' := 69) d_Fl_copyFrom_66 rfl g_Fl_30 (hb' _) rfl ?_
  refine T_putz8 (pc' := 72) d_Fl_copyFrom_69 rfl f_Fl_30 (fun z => absurd z Bool.false_ne_true) e_put_s (by first | assumption | exact Or.inl rfl | exact Or.inr rfl) ?_
  rw [e_pp]
  refine T_vret d_Fl_copyFrom_72 rfl ?_
  exact ⟨rfl, rfl⟩
/-- thought t is not used, and the person is in -/
def sMay (ab us p t : Int32) : Prop := sHas ab p ∧ (us >>> ((4 * p) &&& 31) &&& 15) >>> (t &&& 31) &&& 1 = 0
theorem c_Fl_mayBegin (p t : Int32) (ha : h.2 a = some (oFl mi ce he th id si ab us lo)) : Ci X (d + 1) M_Fl_mayBegin [.ref a, .int p, .int t] h (fun v h1 => h1 = h ∧ (sMay ab us p t ∧ v = 1 ∨ ¬ sMay ab us p t ∧ v = 0)) := by
  refine C_of_T rfl rfl (Nat.le_of_ble_eq_true rfl) rfl ?_
  refine T_aload_n (pc' := 1) d_Fl_mayBegin_0 rfl rfl rfl ?_
  refine T_iload_n (pc' := 2) d_Fl_mayBegin_1 rfl rfl rfl ?_
  refine T_V1i (pc' := 5) d_Fl_mayBegin_2 rfl l_Fl_43 v_Fl_hasAboard (by first | assumption | exact e_put_s | simp [e_put, *]) (Nat.le_of_ble_eq_true rfl) (c_Fl_hasAboard X d h a _ _ _ _ _ _ _ _ _ p ha) (fun v h1 hq => ?_)
  obtain ⟨rfl, ⟨hp, rfl⟩ | ⟨hp, rfl⟩⟩ := hq
  · refine T_if_eq (pc' := 8) (tgt := 24) d_Fl_mayBegin_5 rfl (by decide) (fun hzz => absurd hzz (by decide)) (fun _ => ?_)
    refine T_aload_n (pc' := 9) d_Fl_mayBegin_8 rfl rfl rfl ?_
    refine T_iload_n (pc' := 10) d_Fl_mayBegin_9 rfl rfl rfl ?_
    refine T_V1i (pc' := 13) d_Fl_mayBegin_10 rfl l_Fl_47 v_Fl_usedBy (by first | assumption | exact e_put_s | simp [e_put, *]) (Nat.le_of_ble_eq_true rfl) (c_Fl_usedBy X d h1 a _ _ _ _ _ _ _ _ _ p ha) (fun v h2 hq => ?_)
    obtain ⟨rfl, rfl⟩ := hq
    refine T_iload_n (pc' := 14) d_Fl_mayBegin_13 rfl rfl rfl ?_
    refine T_ishr (pc' := 15) d_Fl_mayBegin_14 rfl ?_
    refine T_iconst (v := 1) (pc' := 16) d_Fl_mayBegin_15 rfl (by decide) ?_
    refine T_iand (pc' := 17) d_Fl_mayBegin_16 rfl ?_
    refine T_if_ne (pc' := 20) (tgt := 24) d_Fl_mayBegin_17 rfl (by decide) (fun hc => ?_) (fun hc => ?_)
    · refine T_iconst (v := 0) (pc' := 25) d_Fl_mayBegin_24 rfl (by decide) ?_
      refine T_zret d_Fl_mayBegin_25 rfl (by first | assumption | exact Or.inl rfl | exact Or.inr rfl) ?_
      exact ⟨_, rfl, rfl, Or.inr ⟨fun q => hc q.2, rfl⟩⟩
    · refine T_iconst (v := 1) (pc' := 21) d_Fl_mayBegin_20 rfl (by decide) ?_
      refine T_goto (pc' := 25) d_Fl_mayBegin_21 (by decide) ?_
      refine T_zret d_Fl_mayBegin_25 rfl (by first | assumption | exact Or.inl rfl | exact Or.inr rfl) ?_
      exact ⟨_, rfl, rfl, Or.inl ⟨⟨hp, hc⟩, rfl⟩⟩
  · refine T_if_eq (pc' := 8) (tgt := 24) d_Fl_mayBegin_5 rfl (by decide) (fun _ => ?_) (fun hzz => absurd (by decide) hzz)
    refine T_iconst (v := 0) (pc' := 25) d_Fl_mayBegin_24 rfl (by decide) ?_
    refine T_zret d_Fl_mayBegin_25 rfl (by first | assumption | exact Or.inl rfl | exact Or.inr rfl) ?_
    exact ⟨_, rfl, rfl, Or.inr ⟨fun q => hp q.1, rfl⟩⟩
theorem c_Fl_mayBeBoarded (ha : h.2 a = some (oFl mi ce he th id si ab us lo)) : Ci X d M_Fl_mayBeBoarded [.ref a] h (fun v h1 => h1 = h ∧ ((he = 0 ∧ lo = 0) ∧ v = 1 ∨ ¬ (he = 0 ∧ lo = 0) ∧ v = 0)) := by
  refine C_of_T rfl rfl (Nat.le_of_ble_eq_true rfl) rfl ?_
  refine T_aload_n (pc' := 1) d_Fl_mayBeBoarded_0 rfl rfl rfl ?_
  refine T_get (pc' := 4) d_Fl_mayBeBoarded_1 rfl g_Fl_18 (by first | assumption | exact e_put_s | simp [e_put, *]) rfl ?_
  refine T_if_ne (pc' := 7) (tgt := 18) d_Fl_mayBeBoarded_4 rfl (by decide) (fun hc => ?_) (fun hc => ?_)
  · refine T_iconst (v := 0) (pc' := 19) d_Fl_mayBeBoarded_18 rfl (by decide) ?_
    refine T_zret d_Fl_mayBeBoarded_19 rfl (by first | assumption | exact Or.inl rfl | exact Or.inr rfl) ?_
    exact ⟨_, rfl, rfl, Or.inr ⟨fun q => hc q.1, rfl⟩⟩
  · refine T_aload_n (pc' := 8) d_Fl_mayBeBoarded_7 rfl rfl rfl ?_
    refine T_get (pc' := 11) d_Fl_mayBeBoarded_8 rfl g_Fl_30 (by first | assumption | exact e_put_s | simp [e_put, *]) rfl ?_
    refine T_if_ne (pc' := 14) (tgt := 18) d_Fl_mayBeBoarded_11 rfl (by decide) (fun hc => ?_) (fun hc => ?_)
    · refine T_iconst (v := 0) (pc' := 19) d_Fl_mayBeBoarded_18 rfl (by decide) ?_
      refine T_zret d_Fl_mayBeBoarded_19 rfl (by first | assumption | exact Or.inl rfl | exact Or.inr rfl) ?_
      exact ⟨_, rfl, rfl, Or.inr ⟨fun q => by first | exact hc q.2, rfl⟩⟩
    · refine T_iconst (v := 1) (pc' := 15) d_Fl_mayBeBoarded_14 rfl (by decide) ?_
      refine T_goto (pc' := 19) d_Fl_mayBeBoarded_15 (by decide) ?_
      refine T_zret d_Fl_mayBeBoarded_19 rfl (by first | assumption | exact Or.inl rfl | exact Or.inr rfl) ?_
      exact ⟨_, rfl, rfl, Or.inl ⟨⟨by first | assumption, hc⟩, rfl⟩⟩
theorem c_Fl_think (p t : Int32) (ha : h.2 a = some (oFl mi ce he th id si ab us lo)) : Cv X d M_Fl_think [.ref a, .int p, .int t] h (fun h1 => h1 = e_put h a (oFl mi ce he p t mi ab us lo)) := by
  refine C_of_T rfl rfl (Nat.le_of_ble_eq_true rfl) rfl ?_
  refine T_aload_n (pc' := 1) d_Fl_think_0 rfl rfl rfl ?_
  refine T_iload_n (pc' := 2) d_Fl_think_1 rfl rfl rfl ?_
  refine T_puti3 (pc' := 5) d_Fl_think_2 rfl f_Fl_34 (fun z => absurd z Bool.false_ne_true) (by first | assumption | exact e_put_s | simp [e_put, *]) ?_
  refine T_aload_n (pc' := 6) d_Fl_think_5 rfl rfl rfl ?_
  refine T_iload_n (pc' := 7) d_Fl_think_6 rfl rfl rfl ?_
  refine T_puti4 (pc' := 10) d_Fl_think_7 rfl f_Fl_37 (fun z => absurd z Bool.false_ne_true) (by first | assumption | exact e_put_s | simp [e_put, *]) ?_
  refine T_aload_n (pc' := 11) d_Fl_think_10 rfl rfl rfl ?_
  refine T_aload_n (pc' := 12) d_Fl_think_11 rfl rfl rfl ?_
  refine T_get (pc' := 15) d_Fl_think_12 rfl g_Fl_9 (by first | assumption | exact e_put_s | simp [e_put, *]) rfl ?_
  refine T_puti5 (pc' := 18) d_Fl_think_15 rfl f_Fl_40 (fun z => absurd z Bool.false_ne_true) (by first | assumption | exact e_put_s | simp [e_put, *]) ?_
  refine T_vret d_Fl_think_18 rfl ?_
  exact ⟨rfl, by simp only [e_pp]⟩
theorem c_Fl_begin (p t : Int32) (ha : h.2 a = some (oFl mi ce he th id si ab us lo)) : Cv X (d + 1) M_Fl_begin [.ref a, .int p, .int t] h (fun h1 => h1 = e_put h a (oFl mi ce he p t mi ab (us ||| (1 <<< ((4 * p + t) &&& 31))) lo)) := by
  refine C_of_T rfl rfl (Nat.le_of_ble_eq_true rfl) rfl ?_
  refine T_aload_n (pc' := 1) d_Fl_begin_0 rfl rfl rfl ?_
  refine T_iload_n (pc' := 2) d_Fl_begin_1 rfl rfl rfl ?_
  refine T_iload_n (pc' := 3) d_Fl_begin_2 rfl rfl rfl ?_
  refine T_V2v (pc' := 6) d_Fl_begin_3 rfl l_Fl_51 v_Fl_think (by first | assumption | exact e_put_s | simp [e_put, *]) (Nat.le_of_ble_eq_true rfl) (c_Fl_think X d h a _ _ _ _ _ _ _ _ _ p t ha) (fun h1 hq => ?_)
  subst hq
  refine T_aload_n (pc' := 7) d_Fl_begin_6 rfl rfl rfl ?_
  refine T_dup (pc' := 8) d_Fl_begin_7 rfl rfl ?_
  refine T_get (pc' := 11) d_Fl_begin_8 rfl g_Fl_27 (by first | assumption | exact e_put_s | simp [e_put, *]) rfl ?_
  refine T_iconst (v := 1) (pc' := 12) d_Fl_begin_11 rfl (by decide) ?_
  refine T_iconst (v := 4) (pc' := 13) d_Fl_begin_12 rfl (by decide) ?_
  refine T_iload_n (pc' := 14) d_Fl_begin_13 rfl rfl rfl ?_
  refine T_imul (pc' := 15) d_Fl_begin_14 rfl ?_
  refine T_iload_n (pc' := 16) d_Fl_begin_15 rfl rfl rfl ?_
  refine T_iadd (pc' := 17) d_Fl_begin_16 rfl ?_
  refine T_ishl (pc' := 18) d_Fl_begin_17 rfl ?_
  refine T_ior (pc' := 19) d_Fl_begin_18 rfl ?_
  refine T_puti7 (pc' := 22) d_Fl_begin_19 rfl f_Fl_27 (fun z => absurd z Bool.false_ne_true) (by first | assumption | exact e_put_s | simp [e_put, *]) ?_
  refine T_vret d_Fl_begin_22 rfl ?_
  exact ⟨rfl, by simp only [e_pp]⟩
theorem c_Fl_takeIn (p : Int32) (ha : h.2 a = some (oFl mi ce he th id si ab us lo)) : Cv X d M_Fl_takeIn [.ref a, .int p] h (fun h1 => h1 = e_put h a (oFl mi ce he th id si (ab ||| (1 <<< (p &&& 31))) us lo)) := by
  refine C_of_T rfl rfl (Nat.le_of_ble_eq_true rfl) rfl ?_
  refine T_aload_n (pc' := 1) d_Fl_takeIn_0 rfl rfl rfl ?_
  refine T_dup (pc' := 2) d_Fl_takeIn_1 rfl rfl ?_
  refine T_get (pc' := 5) d_Fl_takeIn_2 rfl g_Fl_24 (by first | assumption | exact e_put_s | simp [e_put, *]) rfl ?_
  refine T_iconst (v := 1) (pc' := 6) d_Fl_takeIn_5 rfl (by decide) ?_
  refine T_iload_n (pc' := 7) d_Fl_takeIn_6 rfl rfl rfl ?_
  refine T_ishl (pc' := 8) d_Fl_takeIn_7 rfl ?_
  refine T_ior (pc' := 9) d_Fl_takeIn_8 rfl ?_
  refine T_puti6 (pc' := 12) d_Fl_takeIn_9 rfl f_Fl_24 (fun z => absurd z Bool.false_ne_true) (by first | assumption | exact e_put_s | simp [e_put, *]) ?_
  refine T_vret d_Fl_takeIn_12 rfl ?_
  exact ⟨rfl, rfl⟩
theorem c_Fl_letOut (p : Int32) (ha : h.2 a = some (oFl mi ce he th id si ab us lo)) : Cv X (d + 1) M_Fl_letOut [.ref a, .int p] h (fun h1 => (th = p ∧ h1 = e_put h a (oFl mi ce he (-9) (-9) 0 (ab &&& ((1 <<< (p &&& 31)) ^^^ (-1))) us lo)) ∨ (¬ th = p ∧ h1 = e_put h a (oFl mi ce he th id si (ab &&& ((1 <<< (p &&& 31)) ^^^ (-1))) us lo))) := by
  refine C_of_T rfl rfl (Nat.le_of_ble_eq_true rfl) rfl ?_
  refine T_aload_n (pc' := 1) d_Fl_letOut_0 rfl rfl rfl ?_
  refine T_dup (pc' := 2) d_Fl_letOut_1 rfl rfl ?_
  refine T_get (pc' := 5) d_Fl_letOut_2 rfl g_Fl_24 (by first | assumption | exact e_put_s | simp [e_put, *]) rfl ?_
  refine T_iconst (v := 1) (pc' := 6) d_Fl_letOut_5 rfl (by decide) ?_
  refine T_iload_n (pc' := 7) d_Fl_letOut_6 rfl rfl rfl ?_
  refine T_ishl (pc' := 8) d_Fl_letOut_7 rfl ?_
  refine T_iconst (v := (-1)) (pc' := 9) d_Fl_letOut_8 rfl (by decide) ?_
  refine T_ixor (pc' := 10) d_Fl_letOut_9 rfl ?_
  refine T_iand (pc' := 11) d_Fl_letOut_10 rfl ?_
  refine T_puti6 (pc' := 14) d_Fl_letOut_11 rfl f_Fl_24 (fun z => absurd z Bool.false_ne_true) (by first | assumption | exact e_put_s | simp [e_put, *]) ?_
  refine T_aload_n (pc' := 15) d_Fl_letOut_14 rfl rfl rfl ?_
  refine T_get (pc' := 18) d_Fl_letOut_15 rfl g_Fl_34 (by first | assumption | exact e_put_s | simp [e_put, *]) rfl ?_
  refine T_iload_n (pc' := 19) d_Fl_letOut_18 rfl rfl rfl ?_
  refine T_icmp_ne (pc' := 22) (tgt := 26) d_Fl_letOut_19 rfl (by decide) (fun hc => ?_) (fun hc => ?_)
  · refine T_vret d_Fl_letOut_26 rfl ?_
    exact ⟨rfl, Or.inr ⟨hc, rfl⟩⟩
  · refine T_aload_n (pc' := 23) d_Fl_letOut_22 rfl rfl rfl ?_
    refine T_V0v (pc' := 26) d_Fl_letOut_23 rfl l_Fl_21 v_Fl_thinkNothing (by first | assumption | exact e_put_s | simp [e_put, *]) (Nat.le_of_ble_eq_true rfl) (c_Fl_thinkNothing X d _ a _ _ _ _ _ _ _ _ _ e_put_s) (fun h1 hq => ?_)
    subst hq
    refine T_vret d_Fl_letOut_26 rfl ?_
    exact ⟨rfl, Or.inl ⟨hc, by simp only [e_pp]⟩⟩
theorem c_Fl_climb (by_ : Int32) (ha : h.2 a = some (oFl mi ce he th id si ab us lo)) : Cv X (d + 1) M_Fl_climb [.ref a, .int by_] h (fun h1 => h1 = e_put h a (oFl mi ce (sClamp 0 9 (he + by_)) th id si ab us lo)) := by
  refine C_of_T rfl rfl (Nat.le_of_ble_eq_true rfl) rfl ?_
  refine T_aload_n (pc' := 1) d_Fl_climb_0 rfl rfl rfl ?_
  refine T_iconst (v := 0) (pc' := 2) d_Fl_climb_1 rfl (by decide) ?_
  refine T_bipush (v := 9) (pc' := 4) d_Fl_climb_2 rfl (by decide) ?_
  refine T_aload_n (pc' := 5) d_Fl_climb_4 rfl rfl rfl ?_
  refine T_get (pc' := 8) d_Fl_climb_5 rfl g_Fl_18 (by first | assumption | exact e_put_s | simp [e_put, *]) rfl ?_
  refine T_iload_n (pc' := 9) d_Fl_climb_8 rfl rfl rfl ?_
  refine T_iadd (pc' := 10) d_Fl_climb_9 rfl ?_
  refine T_mmin (pc' := 13) d_Fl_climb_10 rfl l_Fl_55 (Nat.le_of_ble_eq_true rfl) ?_
  refine T_mmax (pc' := 16) d_Fl_climb_13 rfl l_Fl_61 (Nat.le_of_ble_eq_true rfl) ?_
  refine T_puti2 (pc' := 19) d_Fl_climb_16 rfl f_Fl_18 (fun z => absurd z Bool.false_ne_true) (by first | assumption | exact e_put_s | simp [e_put, *]) ?_
  refine T_vret d_Fl_climb_19 rfl ?_
  exact ⟨rfl, rfl⟩
theorem c_Fl_drift (by_ : Int32) (ha : h.2 a = some (oFl mi ce he th id si ab us lo)) : Cv X (d + 1) M_Fl_drift [.ref a, .int by_] h (fun h1 => h1 = e_put h a (oFl mi (sClamp 0 40 (ce + by_)) he th id si ab us (if sClamp 0 40 (ce + by_) = ce + by_ then 0 else 1))) := by
  refine C_of_T rfl rfl (Nat.le_of_ble_eq_true rfl) rfl ?_
  refine T_aload_n (pc' := 1) d_Fl_drift_0 rfl rfl rfl ?_
  refine T_get (pc' := 4) d_Fl_drift_1 rfl g_Fl_15 (by first | assumption | exact e_put_s | simp [e_put, *]) rfl ?_
  refine T_iload_n (pc' := 5) d_Fl_drift_4 rfl rfl rfl ?_
  refine T_iadd (pc' := 6) d_Fl_drift_5 rfl ?_
  refine T_is_n2 (pc' := 7) d_Fl_drift_6 rfl rfl (Nat.le_of_ble_eq_true rfl) rfl ?_
  refine T_aload_n (pc' := 8) d_Fl_drift_7 rfl rfl rfl ?_
  refine T_iconst (v := 0) (pc' := 9) d_Fl_drift_8 rfl (by decide) ?_
  refine T_bipush (v := 40) (pc' := 11) d_Fl_drift_9 rfl (by decide) ?_
  refine T_iload_n (pc' := 12) d_Fl_drift_11 rfl rfl rfl ?_
  refine T_mmin (pc' := 15) d_Fl_drift_12 rfl l_Fl_55 (Nat.le_of_ble_eq_true rfl) ?_
  refine T_mmax (pc' := 18) d_Fl_drift_15 rfl l_Fl_61 (Nat.le_of_ble_eq_true rfl) ?_
  refine T_puti1 (pc' := 21) d_Fl_drift_18 rfl f_Fl_15 (fun z => absurd z Bool.false_ne_true) (by first | assumption | exact e_put_s | simp [e_put, *]) ?_
  refine T_aload_n (pc' := 22) d_Fl_drift_21 rfl rfl rfl ?_
  refine T_aload_n (pc' := 23) d_Fl_drift_22 rfl rfl rfl ?_
  refine T_get (pc' := 26) d_Fl_drift_23 rfl g_Fl_15 (by first | assumption | exact e_put_s | simp [e_put, *]) rfl ?_
  refine T_iload_n (pc' := 27) d_Fl_drift_26 rfl rfl rfl ?_
  refine T_icmp_eq (pc' := 30) (tgt := 34) d_Fl_drift_27 rfl (by decide) (fun hc => ?_) (fun hc => ?_)
  · refine T_iconst (v := 0) (pc' := 35) d_Fl_drift_34 rfl (by decide) ?_
    refine T_putz8 (pc' := 38) d_Fl_drift_35 rfl f_Fl_30 (fun z => absurd z Bool.false_ne_true) (by first | assumption | exact e_put_s | simp [e_put, *]) (by first | assumption | exact Or.inl rfl | exact Or.inr rfl) ?_
    refine T_vret d_Fl_drift_38 rfl ?_
    exact ⟨rfl, by rw [e_pp, if_pos (show sClamp 0 40 (ce + by_) = ce + by_ from hc)]; rfl⟩
  · refine T_iconst (v := 1) (pc' := 31) d_Fl_drift_30 rfl (by decide) ?_
    refine T_goto (pc' := 35) d_Fl_drift_31 (by decide) ?_
    refine T_putz8 (pc' := 38) d_Fl_drift_35 rfl f_Fl_30 (fun z => absurd z Bool.false_ne_true) (by first | assumption | exact e_put_s | simp [e_put, *]) (by first | assumption | exact Or.inl rfl | exact Or.inr rfl) ?_
    refine T_vret d_Fl_drift_38 rfl ?_
    exact ⟨rfl, by rw [e_pp, if_neg (show ¬ sClamp 0 40 (ce + by_) = ce + by_ from hc)]; rfl⟩
theorem c_Fl_init (hb : h.2 a = some (oFl mi ce he th id si ab us lo)) : Cv X (d + 1) M_Fl_init [.ref a] h (fun h1 => h1 = h) := by
  refine C_of_T rfl rfl (Nat.le_of_ble_eq_true rfl) rfl ?_
  refine T_aload_n (pc' := 1) d_Fl_init_0 rfl rfl rfl ?_
  refine T_objInit (pc' := 4) d_Fl_init_1 rfl ol_Fl_3 oi_i oi_c ?_
  refine T_vret d_Fl_init_4 rfl ?_
  exact ⟨rfl, rfl⟩
end FL
