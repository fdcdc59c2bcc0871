/-! Flight: a cell of nine numbers -/
/-- the fields: minute, cell, height, thinker, idea, since, aboard, used, lost -/
abbrev oFl (mi ce he th id si ab us lo : Int32) : AC := .inr (.inr (0, [.int mi, .int ce, .int he, .int th, .int id, .int si, .int ab, .int us, .int lo]))
section FL
variable (X : EX) (d : Nat) (h : AH) (a : Nat) (mi ce he th id si ab us lo : Int32)
theorem c_Fl_usedBy (p : Int32) (ha : h.2 a = some (oFl mi ce he th id si ab us lo)) : Ci X d M_Fl_usedBy [.ref a, .int p] h (fun v h1 => h1 = h ∧ v = us >>> ((4 * p) &&& 31) &&& 15) := by
  refine C_of_T rfl rfl (Nat.le_of_ble_eq_true rfl) rfl ?_
  refine T_aload_n (pc' := 1) d_Fl_usedBy_0 rfl rfl rfl ?_
  refine T_get (pc' := 4) d_Fl_usedBy_1 rfl g_Fl_27 (by first | assumption | exact e_put_s | simp [e_put, *]) rfl ?_
  refine T_iconst (v := 4) (pc' := 5) d_Fl_usedBy_4 rfl (by decide) ?_
  refine T_iload_n (pc' := 6) d_Fl_usedBy_5 rfl rfl rfl ?_
  refine T_imul (pc' := 7) d_Fl_usedBy_6 rfl ?_
  refine T_ishr (pc' := 8) d_Fl_usedBy_7 rfl ?_
  refine T_bipush (v := 15) (pc' := 10) d_Fl_usedBy_8 rfl (by decide) ?_
  refine T_iand (pc' := 11) d_Fl_usedBy_10 rfl ?_
  refine T_iret d_Fl_usedBy_11 rfl ?_
  exact ⟨_, rfl, rfl, rfl⟩
theorem c_Fl_hasAboard (p : Int32) (ha : h.2 a = some (oFl mi ce he th id si ab us lo)) : Ci X d M_Fl_hasAboard [.ref a, .int p] h (fun v h1 => h1 = h ∧ v = if ab >>> (p &&& 31) &&& 1 = 1 then 1 else 0) := by
  refine C_of_T rfl rfl (Nat.le_of_ble_eq_true rfl) rfl ?_
  refine T_aload_n (pc' := 1) d_Fl_hasAboard_0 rfl rfl rfl ?_
  refine T_get (pc' := 4) d_Fl_hasAboard_1 rfl g_Fl_24 (by first | assumption | exact e_put_s | simp [e_put, *]) rfl ?_
  refine T_iload_n (pc' := 5) d_Fl_hasAboard_4 rfl rfl rfl ?_
  refine T_ishr (pc' := 6) d_Fl_hasAboard_5 rfl ?_
  refine T_iconst (v := 1) (pc' := 7) d_Fl_hasAboard_6 rfl (by decide) ?_
  refine T_iand (pc' := 8) d_Fl_hasAboard_7 rfl ?_
  refine T_iconst (v := 1) (pc' := 9) d_Fl_hasAboard_8 rfl (by decide) ?_
  refine T_icmp_ne (pc' := 12) (tgt := 16) d_Fl_hasAboard_9 rfl (by decide) (fun hc => ?_) (fun hc => ?_)
  · refine T_iconst (v := 0) (pc' := 17) d_Fl_hasAboard_16 rfl (by decide) ?_
    refine T_zret d_Fl_hasAboard_17 rfl (by first | assumption | exact Or.inl rfl | exact Or.inr rfl) ?_
    exact ⟨_, rfl, rfl, (if_neg hc).symm⟩
  · refine T_iconst (v := 1) (pc' := 13) d_Fl_hasAboard_12 rfl (by decide) ?_
    refine T_goto (pc' := 17) d_Fl_hasAboard_13 (by decide) ?_
    refine T_zret d_Fl_hasAboard_17 rfl (by first | assumption | exact Or.inl rfl | exact Or.inr rfl) ?_
    exact ⟨_, rfl, rfl, (if_pos (by simpa using hc)).symm⟩
theorem c_Fl_thinkNothing (ha : h.2 a = some (oFl mi ce he th id si ab us lo)) : Cv X d M_Fl_thinkNothing [.ref a] h (fun h1 => h1 = e_put (e_put (e_put h a (oFl mi ce he (-9) id si ab us lo)) a (oFl mi ce he (-9) (-9) si ab us lo)) a (oFl mi ce he (-9) (-9) 0 ab us lo)) := by
  refine C_of_T rfl rfl (Nat.le_of_ble_eq_true rfl) rfl ?_
  refine T_aload_n (pc' := 1) d_Fl_thinkNothing_0 rfl rfl rfl ?_
  refine T_bipush (v := (-9)) (pc' := 3) d_Fl_thinkNothing_1 rfl (by decide) ?_
  refine T_puti (pc' := 6) d_Fl_thinkNothing_3 rfl f_Fl_34 (fun z => absurd z Bool.false_ne_true) (by first | assumption | exact e_put_s | simp [e_put, *]) (Nat.le_of_ble_eq_true rfl) rfl ?_
  refine T_aload_n (pc' := 7) d_Fl_thinkNothing_6 rfl rfl rfl ?_
  refine T_bipush (v := (-9)) (pc' := 9) d_Fl_thinkNothing_7 rfl (by decide) ?_
  refine T_puti (pc' := 12) d_Fl_thinkNothing_9 rfl f_Fl_37 (fun z => absurd z Bool.false_ne_true) (by first | assumption | exact e_put_s | simp [e_put, *]) (Nat.le_of_ble_eq_true rfl) rfl ?_
  refine T_aload_n (pc' := 13) d_Fl_thinkNothing_12 rfl rfl rfl ?_
  refine T_iconst (v := 0) (pc' := 14) d_Fl_thinkNothing_13 rfl (by decide) ?_
  refine T_puti (pc' := 17) d_Fl_thinkNothing_14 rfl f_Fl_40 (fun z => absurd z Bool.false_ne_true) (by first | assumption | exact e_put_s | simp [e_put, *]) (Nat.le_of_ble_eq_true rfl) rfl ?_
  refine T_vret d_Fl_thinkNothing_17 rfl ?_
  exact ⟨rfl, rfl⟩
end FL
