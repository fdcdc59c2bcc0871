/-! odds: the object -/
def sumI (F : Int32 → Nat) (e : Int32) : Nat → Nat
  | 0 => 0
  | i + 1 => sumI F e i + (if nI i = e then F (nI i) else 0)
theorem sumI_k (F : Int32 → Nat) {k : Nat} (hk : k ≤ 40) : ∀ i, i ≤ 41 → sumI F (nI k) i = if k < i then F (nI k) else 0
  | 0, _ => rfl
  | i + 1, hi => by
    rw [sumI, sumI_k F hk i (by omega)]
    by_cases e : i = k
    · subst e
      rw [if_neg (by omega), if_pos rfl, if_pos (by omega), Nat.zero_add]
    · rw [if_neg (fun q => e ((nI_eq (by omega) (by omega)).mp q))]
      by_cases hl : k < i
      · rw [if_pos hl, if_pos (by omega), Nat.add_zero]
      · rw [if_neg hl, if_neg (by omega)]
theorem in40_nI {k : Nat} (hk : k ≤ 40) : in40 (nI k) := ⟨nI_pos' (by omega), nI_le (b := 40) hk (by decide)⟩
theorem nI_in40 {e : Int32} (h : in40 e) : ∃ k, k ≤ 40 ∧ e = nI k := nI_of2 (M := 40) (n := 40) (by decide) (Int32.not_lt.mpr h.1) h.2
theorem sumI_o (F : Int32 → Nat) {e : Int32} (he : ¬ in40 e) : ∀ i, i ≤ 41 → sumI F e i = 0
  | 0, _ => rfl
  | i + 1, hi => by
    rw [sumI, sumI_o F he i (by omega), if_neg (fun q => he (by rw [← q]; exact in40_nI (by omega)))]
theorem sumI_all (F : Int32 → Nat) (e : Int32) (hF : ¬ in40 e → F e = 0) : sumI F e 41 = F e := by
  by_cases he : in40 e
  · obtain ⟨k, hk, rfl⟩ := nI_in40 he
    rw [sumI_k F hk 41 (Nat.le_refl _), if_pos (by omega)]
  · rw [sumI_o F he 41 (Nat.le_refl _), hF he]
theorem i_sub1 (a w c : Int32) : a - w = c ↔ a = c + w := by rw [Int32.sub_eq_add_neg]; exact i_subadd a w c
theorem s_10x : ∀ x, x ≤ 10 → (10 : Int32) - nI x = nI (10 - x) := by decide +kernel
def OD (h : AH) (al : Nat) (f : Nat → Int32) : Prop := h.2 46 = some (oOd (nI al)) ∧ h.2 47 = some (.inl (0, 41, f)) ∧ ∃ g, h.2 48 = some (.inl (0, 41, g))
section ODDS2
variable (X : EX) (d : Nat) (h : AH)
theorem c_Od_carry (al to : Int32) (N : Int32) (f : Nat → Int32) (h46 : h.2 46 = some (oOd al)) (h47 : h.2 47 = some (.inl (0, 41, f))) : Cv X (d + 1) M_Od_carry [.ref 46, .int N, .int to] h (fun h1 => ∃ f', h1 = e_put h 47 (.inl (0, 41, f')) ∧ ∀ j, j < 41 → f' j = f j + (if nI j = to then N else 0)) := by
  refine C_of_T rfl rfl (Nat.le_of_ble_eq_true rfl) rfl ?_
  refine T_iload_n (pc' := 1) d_Od_carry_0 rfl rfl rfl ?_
  refine T_iconst (v := 0) (pc' := 2) d_Od_carry_1 rfl (by decide) ?_
  refine T_bipush (v := 40) (pc' := 4) d_Od_carry_2 rfl (by decide) ?_
  refine T_S3i (pc' := 7) d_Od_carry_4 rfl l_Od_24 v_Tb_within (Nat.le_of_ble_eq_true rfl) (c_Tb_within X _ h to 0 40) (fun v h1 hq => ?_)
  obtain ⟨rfl, ⟨hi, rfl⟩ | ⟨hi, rfl⟩⟩ := hq
  · refine T_if_eq (pc' := 10) (tgt := 20) d_Od_carry_7 rfl (by decide) (fun hzz => absurd hzz (by decide)) (fun _ => ?_)
    obtain ⟨k, hk, rfl⟩ := nI_in40 hi
    refine T_aload_n (pc' := 11) d_Od_carry_10 rfl rfl rfl ?_
    refine T_get (pc' := 14) d_Od_carry_11 rfl g_Od_9 (by first | assumption | exact e_put_s | simp [e_put, *]) rfl ?_
    refine T_iload_n (pc' := 15) d_Od_carry_14 rfl rfl rfl ?_
    refine T_dup2 (pc' := 16) d_Od_carry_15 rfl rfl rfl ?_
    refine T_ialoadN k (pc' := 17) d_Od_carry_16 rfl h47 ⟨by omega, by decide⟩ ?_
    refine T_iload_n (pc' := 18) d_Od_carry_17 rfl rfl rfl ?_
    refine T_iadd (pc' := 19) d_Od_carry_18 rfl ?_
    refine T_iastoreN k (pc' := 20) d_Od_carry_19 rfl h47 ⟨by omega, by decide⟩ ?_
    refine T_vret d_Od_carry_20 rfl ?_
    refine ⟨rfl, _, rfl, fun j hj => ?_⟩
    by_cases e : j = k
    · subst e; rw [e_upL, if_pos rfl, if_pos rfl]
    · rw [e_upL, if_neg e, if_neg (fun q => e ((nI_eq (by omega) (by omega)).mp q))]; simp
  · refine T_if_eq (pc' := 10) (tgt := 20) d_Od_carry_7 rfl (by decide) (fun _ => ?_) (fun hzz => absurd (by decide) hzz)
    refine T_vret d_Od_carry_20 rfl ?_
    refine ⟨rfl, f, (e_put_self h47).symm, fun j hj => ?_⟩
    rw [if_neg (fun q => hi (by rw [← q]; exact in40_nI (by omega)))]; simp
theorem c_Od_startAt (c : Nat) (al : Int32) (hc : c ≤ 40) (f g : Nat → Int32) (h46 : h.2 46 = some (oOd al)) (h47 : h.2 47 = some (.inl (0, 41, f))) (h48 : h.2 48 = some (.inl (0, 41, g))) : Cv X (d + 1) M_Od_startAt [.ref 46, .int (nI c)] h (fun h1 => ∃ f', OD h1 1 f' ∧ Fr 46 49 h h1 ∧ ∀ j, j < 41 → f' j = if nI j = nI c then 1 else 0) := by
  refine C_of_T rfl rfl (Nat.le_of_ble_eq_true rfl) rfl ?_
  refine T_aload_n (pc' := 1) d_Od_startAt_0 rfl rfl rfl ?_
  refine T_get (pc' := 4) d_Od_startAt_1 rfl g_Od_9 (by first | assumption | exact e_put_s | simp [e_put, *]) rfl ?_
  refine T_iconst (v := 0) (pc' := 5) d_Od_startAt_4 rfl (by decide) ?_
  refine T_S2v (pc' := 8) d_Od_startAt_5 rfl l_Od_18 v_Ar_fill (Nat.le_of_ble_eq_true rfl) (c_Ar_fill X _ h 47 41 f 0 (by decide) h47) (fun h1 hq => ?_)
  subst hq
  refine T_iload_n (pc' := 9) d_Od_startAt_8 rfl rfl rfl ?_
  refine T_iconst (v := 0) (pc' := 10) d_Od_startAt_9 rfl (by decide) ?_
  refine T_bipush (v := 40) (pc' := 12) d_Od_startAt_10 rfl (by decide) ?_
  refine T_S3i (pc' := 15) d_Od_startAt_12 rfl l_Od_24 v_Tb_within (Nat.le_of_ble_eq_true rfl) (c_Tb_within X _ _ (nI c) 0 40) (fun v h1 hq => ?_)
  obtain ⟨rfl, ⟨hi, rfl⟩ | ⟨hi, rfl⟩⟩ := hq
  · refine T_if_eq (pc' := 18) (tgt := 25) d_Od_startAt_15 rfl (by decide) (fun hzz => absurd hzz (by decide)) (fun _ => ?_)
    refine T_aload_n (pc' := 19) d_Od_startAt_18 rfl rfl rfl ?_
    refine T_get (pc' := 22) d_Od_startAt_19 rfl g_Od_9 ((e_put_n (by decide)).trans h46) rfl ?_
    refine T_iload_n (pc' := 23) d_Od_startAt_22 rfl rfl rfl ?_
    refine T_iconst (v := 1) (pc' := 24) d_Od_startAt_23 rfl (by decide) ?_
    refine T_iastoreN c (pc' := 25) d_Od_startAt_24 rfl e_put_s ⟨by omega, by decide⟩ ?_
    rw [e_pp]
    refine T_aload_n (pc' := 26) d_Od_startAt_25 rfl rfl rfl ?_
    refine T_iconst (v := 1) (pc' := 27) d_Od_startAt_26 rfl (by decide) ?_
    refine T_puti2 (pc' := 30) d_Od_startAt_27 rfl f_Od_28 (fun z => absurd z Bool.false_ne_true) ((e_put_n (by decide)).trans h46) ?_
    refine T_vret d_Od_startAt_30 rfl ?_
    refine ⟨rfl, _, ⟨e_put_s, (e_put_n (by decide)).trans e_put_s, g, (e_put_n (by decide)).trans ((e_put_n (by decide)).trans h48)⟩, (Fr.rf.put ⟨by omega, by omega⟩).put ⟨by omega, by omega⟩, fun j hj => ?_⟩
    by_cases e : j = c
    · subst e; rw [e_upL, if_pos rfl, if_pos rfl]
    · rw [e_upL, if_neg e, if_neg (fun q => e ((nI_eq (by omega) (by omega)).mp q)), sFill, if_pos hj]
  · exact absurd (in40_nI hc) hi
theorem l_Od_spread (G : Int32 → Nat) (w : Int32) (x al : Nat) (hx : x ≤ 10) (g : Nat → Int32) (h46 : h.2 46 = some (oOd (nI al))) (h48 : h.2 48 = some (.inl (0, 41, g))) (hg : ∀ j, j < 41 → g j = nI (G (nI j))) (Q : Option Value → AH → Prop) (hk : ∀ f, (∀ j, j < 41 → f j = nI ((10 - x) * sumI G (nI j - w) 41 + x * sumI G (nI j + w) 41)) → T X (d + 2) M_Od_spread 70 [.ref 46, .int w, .int (nI x), .null] [] (e_put h 47 (.inl (0, 41, f))) Q) : ∀ (k i : Nat), i + k = 41 → ∀ f, (∀ j, j < 41 → f j = nI ((10 - x) * sumI G (nI j - w) i + x * sumI G (nI j + w) i)) → T X (d + 2) M_Od_spread 25 [.ref 46, .int w, .int (nI x), .int (nI i)] [] (e_put h 47 (.inl (0, 41, f))) Q
  | 0, i, hi, f, hf => by
    have : i = 41 := by omega
    subst this
    refine T_iload_n (pc' := 26) d_Od_spread_25 rfl rfl rfl ?_
    refine T_bipush (v := 40) (pc' := 28) d_Od_spread_26 rfl (by decide) ?_
    refine T_icmp_gt (pc' := 31) (tgt := 70) d_Od_spread_28 rfl (by decide) (fun _ => ?_) (fun hzz => absurd (by decide) hzz)
    exact T_fg (by simp [e_le]) (hk f hf)
  | k + 1, i, hi, f, hf => by
    have ih := l_Od_spread G w x al hx g h46 h48 hg Q hk k (i + 1) (by omega)
    refine T_iload_n (pc' := 26) d_Od_spread_25 rfl rfl rfl ?_
    refine T_bipush (v := 40) (pc' := 28) d_Od_spread_26 rfl (by decide) ?_
    refine T_icmp_gt (pc' := 31) (tgt := 70) d_Od_spread_28 rfl (by decide) (fun hzz => absurd hzz (nI_nlt (a := 40) (b := i) (by omega) (by decide))) (fun _ => ?_)
    refine T_aload_n (pc' := 32) d_Od_spread_31 rfl rfl rfl ?_
    refine T_aload_n (pc' := 33) d_Od_spread_32 rfl rfl rfl ?_
    refine T_get (pc' := 36) d_Od_spread_33 rfl g_Od_15 ((e_put_n (by decide)).trans h46) rfl ?_
    refine T_iload_n (pc' := 37) d_Od_spread_36 rfl rfl rfl ?_
    refine T_ialoadN i (pc' := 38) d_Od_spread_37 rfl ((e_put_n (by decide)).trans h48) ⟨by omega, by decide⟩ ?_
    rw [hg i (by omega)]
    refine T_bipush (v := 10) (pc' := 40) d_Od_spread_38 rfl (by decide) ?_
    refine T_iload_n (pc' := 41) d_Od_spread_40 rfl rfl rfl ?_
    refine T_isub (pc' := 42) d_Od_spread_41 rfl ?_
    rw [s_10x x hx]
    refine T_imul (pc' := 43) d_Od_spread_42 rfl ?_
    rw [pk_mul]
    refine T_iload_n (pc' := 44) d_Od_spread_43 rfl rfl rfl ?_
    refine T_iload_n (pc' := 45) d_Od_spread_44 rfl rfl rfl ?_
    refine T_iadd (pc' := 46) d_Od_spread_45 rfl ?_
    refine T_V2v (pc' := 49) d_Od_spread_46 rfl l_Od_38 v_Od_carry ((e_put_n (by decide)).trans h46) (Nat.le_of_ble_eq_true rfl) (c_Od_carry X _ _ _ _ _ f ((e_put_n (by decide)).trans h46) e_put_s) (fun h1 hq => ?_)
    obtain ⟨f1, rfl, hf1⟩ := hq
    rw [e_pp]
    refine T_aload_n (pc' := 50) d_Od_spread_49 rfl rfl rfl ?_
    refine T_aload_n (pc' := 51) d_Od_spread_50 rfl rfl rfl ?_
    refine T_get (pc' := 54) d_Od_spread_51 rfl g_Od_15 ((e_put_n (by decide)).trans h46) rfl ?_
    refine T_iload_n (pc' := 55) d_Od_spread_54 rfl rfl rfl ?_
    refine T_ialoadN i (pc' := 56) d_Od_spread_55 rfl ((e_put_n (by decide)).trans h48) ⟨by omega, by decide⟩ ?_
    rw [hg i (by omega)]
    refine T_iload_n (pc' := 57) d_Od_spread_56 rfl rfl rfl ?_
    refine T_imul (pc' := 58) d_Od_spread_57 rfl ?_
    rw [pk_mul]
    refine T_iload_n (pc' := 59) d_Od_spread_58 rfl rfl rfl ?_
    refine T_iload_n (pc' := 60) d_Od_spread_59 rfl rfl rfl ?_
    refine T_isub (pc' := 61) d_Od_spread_60 rfl ?_
    refine T_V2v (pc' := 64) d_Od_spread_61 rfl l_Od_38 v_Od_carry ((e_put_n (by decide)).trans h46) (Nat.le_of_ble_eq_true rfl) (c_Od_carry X _ _ _ _ _ f1 ((e_put_n (by decide)).trans h46) e_put_s) (fun h1 hq => ?_)
    obtain ⟨f2, rfl, hf2⟩ := hq
    rw [e_pp]
    refine T_ii3 (c := 1) (pc' := 67) d_Od_spread_64 rfl (by decide) (Nat.le_of_ble_eq_true rfl) rfl ?_
    rw [nI_1]
    refine T_goto (pc' := 25) d_Od_spread_67 (by decide) ?_
    refine ih f2 (fun j hj => ?_)
    rw [hf2 j hj, hf1 j hj, hf j hj, sumI, sumI, Nat.mul_add, Nat.mul_add]
    have c1 : (nI j = nI i + w) ↔ (nI i = nI j - w) := ⟨fun q => (i_addsub _ _ _).mp q.symm, fun q => ((i_addsub _ _ _).mpr q).symm⟩
    have c2 : (nI j = nI i - w) ↔ (nI i = nI j + w) := ⟨fun q => (i_sub1 _ _ _).mp q.symm, fun q => ((i_sub1 _ _ _).mpr q).symm⟩
    generalize (10 - x) * sumI G (nI j - w) i = S1
    generalize x * sumI G (nI j + w) i = S2
    have e1 : (if nI j = nI i + w then nI (G (nI i) * (10 - x)) else 0) = nI ((10 - x) * (if nI i = nI j - w then G (nI i) else 0)) := by
      by_cases q : nI j = nI i + w
      · rw [if_pos q, if_pos (c1.mp q), Nat.mul_comm]
      · rw [if_neg q, if_neg (fun z => q (c1.mpr z)), Nat.mul_zero]; rfl
    have e2 : (if nI j = nI i - w then nI (G (nI i) * x) else 0) = nI (x * (if nI i = nI j + w then G (nI i) else 0)) := by
      by_cases q : nI j = nI i - w
      · rw [if_pos q, if_pos (c2.mp q), Nat.mul_comm]
      · rw [if_neg q, if_neg (fun z => q (c2.mpr z)), Nat.mul_zero]; rfl
    rw [e1, e2, nI_add, nI_add]
    congr 1
    omega
theorem c_Od_spread (G : Int32 → Nat) (w : Int32) (x al : Nat) (hx : x ≤ 10) (f : Nat → Int32) (od : OD h al f) (hf : ∀ j, j < 41 → f j = nI (G (nI j))) (hG : ∀ e, ¬ in40 e → G e = 0) : Cv X (d + 2) M_Od_spread [.ref 46, .int w, .int (nI x)] h (fun h1 => ∃ f', OD h1 (al * 10) f' ∧ Fr 46 49 h h1 ∧ ∀ j, j < 41 → f' j = nI ((10 - x) * G (nI j - w) + x * G (nI j + w))) := by
  obtain ⟨h46, h47, g, h48⟩ := od
  refine C_of_T rfl rfl (Nat.le_of_ble_eq_true rfl) rfl ?_
  refine T_aload_n (pc' := 1) d_Od_spread_0 rfl rfl rfl ?_
  refine T_get (pc' := 4) d_Od_spread_1 rfl g_Od_9 (by first | assumption | exact e_put_s | simp [e_put, *]) rfl ?_
  refine T_iconst (v := 0) (pc' := 5) d_Od_spread_4 rfl (by decide) ?_
  refine T_aload_n (pc' := 6) d_Od_spread_5 rfl rfl rfl ?_
  refine T_get (pc' := 9) d_Od_spread_6 rfl g_Od_15 (by first | assumption | exact e_put_s | simp [e_put, *]) rfl ?_
  refine T_iconst (v := 0) (pc' := 10) d_Od_spread_9 rfl (by decide) ?_
  refine T_bipush (v := 41) (pc' := 12) d_Od_spread_10 rfl (by decide) ?_
  refine T_copyi (pc' := 15) d_Od_spread_12 rfl cp_Od_32 cp_w h47 h48 (by decide) (by decide) (by decide) (by decide) (by decide) ?_
  rw [sCp_eq f g 41 41 (by decide)]
  refine T_aload_n (pc' := 16) d_Od_spread_15 rfl rfl rfl ?_
  refine T_get (pc' := 19) d_Od_spread_16 rfl g_Od_9 ((e_put_n (by decide)).trans h46) rfl ?_
  refine T_iconst (v := 0) (pc' := 20) d_Od_spread_19 rfl (by decide) ?_
  refine T_S2v (pc' := 23) d_Od_spread_20 rfl l_Od_18 v_Ar_fill (Nat.le_of_ble_eq_true rfl) (c_Ar_fill X _ _ 47 41 f 0 (by decide) ((e_put_n (by decide)).trans h47)) (fun h1 hq => ?_)
  subst hq
  refine T_iconst (v := 0) (pc' := 24) d_Od_spread_23 rfl (by decide) ?_
  refine T_is_n3 (pc' := 25) d_Od_spread_24 rfl rfl (Nat.le_of_ble_eq_true rfl) rfl ?_
  generalize hH : e_put h 48 (.inl (0, 41, sCp f g 41)) = H
  have k46 : H.2 46 = some (oOd (nI al)) := by rw [← hH]; exact (e_put_n (by decide)).trans h46
  have k48 : H.2 48 = some (.inl (0, 41, sCp f g 41)) := by rw [← hH]; exact e_put_s
  have frH : Fr 46 49 h H := by rw [← hH]; exact Fr.rf.put ⟨by omega, by omega⟩
  clear hH
  refine l_Od_spread X d H G w x al hx (sCp f g 41) k46 k48 (fun j hj => by rw [sCp, if_pos hj]; exact hf j hj) _ (fun f' hf' => ?_) 41 0 rfl _ (fun j hj => by rw [sFill, if_pos hj]; rfl)
  refine T_aload_n (pc' := 71) d_Od_spread_70 rfl rfl rfl ?_
  refine T_dup (pc' := 72) d_Od_spread_71 rfl rfl ?_
  refine T_get (pc' := 75) d_Od_spread_72 rfl g_Od_28 ((e_put_n (by decide)).trans k46) rfl ?_
  refine T_bipush (v := 10) (pc' := 77) d_Od_spread_75 rfl (by decide) ?_
  refine T_imul (pc' := 78) d_Od_spread_77 rfl ?_
  rw [show nI al * 10 = nI (al * 10) from pk_mul al 10]
  refine T_puti2 (pc' := 81) d_Od_spread_78 rfl f_Od_28 (fun z => absurd z Bool.false_ne_true) ((e_put_n (by decide)).trans k46) ?_
  refine T_vret d_Od_spread_81 rfl ?_
  refine ⟨rfl, f', ⟨e_put_s, (e_put_n (by decide)).trans e_put_s, _, (e_put_n (by decide)).trans ((e_put_n (by decide)).trans k48)⟩, (frH.put ⟨by omega, by omega⟩).put ⟨by omega, by omega⟩, fun j hj => ?_⟩
  rw [hf' j hj, sumI_all G _ (hG _), sumI_all G _ (hG _)]
theorem l_Od_common (c : Int32) (a0 b0 : Nat) (ha0 : 0 < a0) (Q : Option Value → AH → Prop) (hend : (eu 100 a0 b0).2 = 0) (hQ : Q (some (.int (nI (Nat.gcd a0 b0)))) h) : ∀ (k i a b : Nat), i + k = 100 → a < 2 ^ 31 → b < 2 ^ 31 → 0 < a → eu k a b = eu 100 a0 b0 → T X (d + 1) M_Od_common 15 [.ref 46, .int c, .int (nI a), .int (nI b), .int (nI i), .null] [] h Q
  | 0, i, a, b, hi, ha, hb, h0, he => by
    have : i = 100 := by omega
    subst this
    have e1 : (eu 100 a0 b0).1 = a := by rw [← he]; rfl
    have eg := eu_gcd 100 a0 b0 hend
    refine T_iload (pc' := 17) d_Od_common_15 rfl rfl ?_
    refine T_bipush (v := 100) (pc' := 19) d_Od_common_17 rfl (by decide) ?_
    refine T_icmp_ge (pc' := 22) (tgt := 42) d_Od_common_19 rfl (by decide) (fun _ => ?_) (fun hzz => absurd (by decide) hzz)
    refine T_iconst (v := 1) (pc' := 43) d_Od_common_42 rfl (by decide) ?_
    refine T_iload_n (pc' := 44) d_Od_common_43 rfl rfl rfl ?_
    refine T_mmax (pc' := 47) d_Od_common_44 rfl l_Od_46 (Nat.le_of_ble_eq_true rfl) ?_
    have hm : (if (1 : Int32) < nI a then nI a else 1) = nI (Nat.gcd a0 b0) := by
      rw [← eg, e1]
      by_cases h1 : 1 < a
      · exact if_pos (nI_lt (a := 1) h1 ha)
      · rw [show a = 1 by omega]; rfl
    rw [hm]
    refine T_iret d_Od_common_47 rfl ?_
    exact hQ
  | k + 1, i, a, b, hi, ha, hb, h0, he => by
    have ih := l_Od_common c a0 b0 ha0 Q hend hQ k (i + 1) b (a % b) (by omega) hb
    refine T_iload (pc' := 17) d_Od_common_15 rfl rfl ?_
    refine T_bipush (v := 100) (pc' := 19) d_Od_common_17 rfl (by decide) ?_
    refine T_icmp_ge (pc' := 22) (tgt := 42) d_Od_common_19 rfl (by decide) (fun hzz => absurd hzz (nI_ge (a := i) (b := 100) (by omega) (by decide))) (fun _ => ?_)
    refine T_iload_n (pc' := 23) d_Od_common_22 rfl rfl rfl ?_
    rw [eu] at he
    by_cases hz : b = 0
    · subst hz
      rw [if_pos rfl] at he
      have e1 : (eu 100 a0 b0).1 = a := by rw [← he]
      have eg := eu_gcd 100 a0 b0 hend
      refine T_if_eq (pc' := 26) (tgt := 42) d_Od_common_23 rfl (by decide) (fun _ => ?_) (fun hzz => absurd rfl hzz)
      refine T_iconst (v := 1) (pc' := 43) d_Od_common_42 rfl (by decide) ?_
      refine T_iload_n (pc' := 44) d_Od_common_43 rfl rfl rfl ?_
      refine T_mmax (pc' := 47) d_Od_common_44 rfl l_Od_46 (Nat.le_of_ble_eq_true rfl) ?_
      have hm : (if (1 : Int32) < nI a then nI a else 1) = nI (Nat.gcd a0 b0) := by
        rw [← eg, e1]
        by_cases h1 : 1 < a
        · exact if_pos (nI_lt (a := 1) h1 ha)
        · rw [show a = 1 by omega]; rfl
      rw [hm]
      refine T_iret d_Od_common_47 rfl ?_
      exact hQ
    · rw [if_neg hz] at he
      have hne : ¬ nI b = 0 := nI_ne0 (by omega) hb
      have hlt := Nat.mod_lt a (show 0 < b by omega)
      refine T_if_eq (pc' := 26) (tgt := 42) d_Od_common_23 rfl (by decide) (fun hzz => absurd hzz hne) (fun _ => ?_)
      refine T_iload_n (pc' := 27) d_Od_common_26 rfl rfl rfl ?_
      refine T_iload_n (pc' := 28) d_Od_common_27 rfl rfl rfl ?_
      refine T_irem (pc' := 29) d_Od_common_28 rfl (by first | assumption | decide) ?_
      rw [pk_rem ha (by omega) hb]
      refine T_is5 (pc' := 31) d_Od_common_29 rfl (Nat.le_of_ble_eq_true rfl) rfl ?_
      refine T_iload_n (pc' := 32) d_Od_common_31 rfl rfl rfl ?_
      refine T_is_n2 (pc' := 33) d_Od_common_32 rfl rfl (Nat.le_of_ble_eq_true rfl) rfl ?_
      refine T_iload (pc' := 35) d_Od_common_33 rfl rfl ?_
      refine T_is_n3 (pc' := 36) d_Od_common_35 rfl rfl (Nat.le_of_ble_eq_true rfl) rfl ?_
      refine T_ii4 (c := 1) (pc' := 39) d_Od_common_36 rfl (by decide) (Nat.le_of_ble_eq_true rfl) rfl ?_
      rw [nI_1]
      refine T_goto (pc' := 15) d_Od_common_39 (by decide) ?_
      exact T_fg (by simp [e_le]) (ih (by omega) (by omega) he)
theorem c_Od_common (c al b : Nat) (hc : c ≤ 40) (f : Nat → Int32) (od : OD h al f) (hal : al ≤ 1000000) (h0 : 0 < al) (hb : b ≤ 1000000) (hf : f c = nI b) : Ci X (d + 1) M_Od_common [.ref 46, .int (nI c)] h (fun v h1 => h1 = h ∧ v = nI (Nat.gcd al b)) := by
  obtain ⟨h46, h47, g, h48⟩ := od
  refine C_of_T rfl rfl (Nat.le_of_ble_eq_true rfl) rfl ?_
  refine T_aload_n (pc' := 1) d_Od_common_0 rfl rfl rfl ?_
  refine T_get (pc' := 4) d_Od_common_1 rfl g_Od_28 (by first | assumption | exact e_put_s | simp [e_put, *]) rfl ?_
  refine T_is_n2 (pc' := 5) d_Od_common_4 rfl rfl (Nat.le_of_ble_eq_true rfl) rfl ?_
  refine T_aload_n (pc' := 6) d_Od_common_5 rfl rfl rfl ?_
  refine T_get (pc' := 9) d_Od_common_6 rfl g_Od_9 (by first | assumption | exact e_put_s | simp [e_put, *]) rfl ?_
  refine T_iload_n (pc' := 10) d_Od_common_9 rfl rfl rfl ?_
  refine T_ialoadN c (pc' := 11) d_Od_common_10 rfl h47 ⟨by omega, by decide⟩ ?_
  rw [hf]
  refine T_is_n3 (pc' := 12) d_Od_common_11 rfl rfl (Nat.le_of_ble_eq_true rfl) rfl ?_
  refine T_iconst (v := 0) (pc' := 13) d_Od_common_12 rfl (by decide) ?_
  refine T_is4 (pc' := 15) d_Od_common_13 rfl (Nat.le_of_ble_eq_true rfl) rfl ?_
  have hend : (eu 100 al b).2 = 0 := by
    have h41 := eu_end 49 al b (Nat.lt_of_le_of_lt hb (by decide))
    have mono : ∀ k a b, (eu k a b).2 = 0 → (eu (k + 1) a b).2 = 0 := by
      intro k
      induction k with
      | zero =>
        intro a b q
        have hb : b = 0 := q
        subst hb
        rfl
      | succ k ik =>
        intro a b q
        rw [eu] at q ⊢
        by_cases hz : b = 0
        · rw [if_pos hz]; exact hz
        · rw [if_neg hz] at q ⊢
          exact ik _ _ q
    exact mono 99 al b h41
  exact l_Od_common X d h (nI c) al b h0 _ hend ⟨_, rfl, rfl, rfl⟩ 100 0 al b rfl (by omega) (by omega) h0 rfl
theorem c_Od_upper (c al b : Nat) (hc : c ≤ 40) (f : Nat → Int32) (od : OD h al f) (hal : al ≤ 1000000) (h0 : 0 < al) (hb : b ≤ 1000000) (hf : f c = nI b) : Ci X (d + 2) M_Od_upper [.ref 46, .int (nI c)] h (fun v h1 => h1 = h ∧ v = nI (b / Nat.gcd al b)) := by
  have od' := od
  obtain ⟨h46, h47, g, h48⟩ := od
  have hg1 := Nat.gcd_pos_of_pos_left b h0
  have hg2 := Nat.gcd_le_left b h0
  have hne : ¬ nI (Nat.gcd al b) = 0 := nI_ne0 hg1 (by omega)
  refine C_of_T rfl rfl (Nat.le_of_ble_eq_true rfl) rfl ?_
  refine T_aload_n (pc' := 1) d_Od_upper_0 rfl rfl rfl ?_
  refine T_get (pc' := 4) d_Od_upper_1 rfl g_Od_9 (by first | assumption | exact e_put_s | simp [e_put, *]) rfl ?_
  refine T_iload_n (pc' := 5) d_Od_upper_4 rfl rfl rfl ?_
  refine T_ialoadN c (pc' := 6) d_Od_upper_5 rfl h47 ⟨by omega, by decide⟩ ?_
  rw [hf]
  refine T_aload_n (pc' := 7) d_Od_upper_6 rfl rfl rfl ?_
  refine T_iload_n (pc' := 8) d_Od_upper_7 rfl rfl rfl ?_
  refine T_V1i (pc' := 11) d_Od_upper_8 rfl l_Od_42 v_Od_common (by first | assumption | exact e_put_s | simp [e_put, *]) (Nat.le_of_ble_eq_true rfl) (c_Od_common X _ h c al b hc f od' hal h0 hb hf) (fun v h1 hq => ?_)
  obtain ⟨rfl, rfl⟩ := hq
  refine T_idiv (pc' := 12) d_Od_upper_11 rfl (by first | assumption | decide) ?_
  refine T_iret d_Od_upper_12 rfl ?_
  exact ⟨_, rfl, rfl, pk_div (by omega) hg1 (by omega)⟩
theorem c_Od_lower (c al b : Nat) (hc : c ≤ 40) (f : Nat → Int32) (od : OD h al f) (hal : al ≤ 1000000) (h0 : 0 < al) (hb : b ≤ 1000000) (hf : f c = nI b) : Ci X (d + 2) M_Od_lower [.ref 46, .int (nI c)] h (fun v h1 => h1 = h ∧ v = nI (al / Nat.gcd al b)) := by
  have od' := od
  obtain ⟨h46, h47, g, h48⟩ := od
  have hg1 := Nat.gcd_pos_of_pos_left b h0
  have hg2 := Nat.gcd_le_left b h0
  have hne : ¬ nI (Nat.gcd al b) = 0 := nI_ne0 hg1 (by omega)
  refine C_of_T rfl rfl (Nat.le_of_ble_eq_true rfl) rfl ?_
  refine T_aload_n (pc' := 1) d_Od_lower_0 rfl rfl rfl ?_
  refine T_get (pc' := 4) d_Od_lower_1 rfl g_Od_28 (by first | assumption | exact e_put_s | simp [e_put, *]) rfl ?_
  refine T_aload_n (pc' := 5) d_Od_lower_4 rfl rfl rfl ?_
  refine T_iload_n (pc' := 6) d_Od_lower_5 rfl rfl rfl ?_
  refine T_V1i (pc' := 9) d_Od_lower_6 rfl l_Od_42 v_Od_common (by first | assumption | exact e_put_s | simp [e_put, *]) (Nat.le_of_ble_eq_true rfl) (c_Od_common X _ h c al b hc f od' hal h0 hb hf) (fun v h1 hq => ?_)
  obtain ⟨rfl, rfl⟩ := hq
  refine T_idiv (pc' := 10) d_Od_lower_9 rfl (by first | assumption | decide) ?_
  refine T_iret d_Od_lower_10 rfl ?_
  exact ⟨_, rfl, rfl, pk_div (by omega) hg1 (by omega)⟩
end ODDS2
section ODDS3
variable (X : EX) (d : Nat) (h : AH) (σ : Sp)
theorem l_odds (hh x N : Nat) (cell w : Int32) (h9 : 1 ≤ hh ∧ hh ≤ 9) (hx : x ≤ 10) (hN : N ≤ 6) (ci : CI h σ) (si : SI σ) (Q : Option Value → AH → Prop) (hk : ∀ h1 f, Fr 46 49 h h1 → OD h1 (10 ^ N) f → (∀ j, j < 41 → f j = nI (oG (σ.2.1 6 1) (σ.2.1 1 hh) (10 - x) x N (nI j))) → T X (d + 9) M_Tb_odds 101 [.ref 0, .int (nI hh), .int cell, .int (nI N), .int (nI x), .int w, .null] [] h1 Q) : ∀ (k i : Nat), i + k = N → ∀ h1 f, Fr 46 49 h h1 → OD h1 (10 ^ i) f → (∀ j, j < 41 → f j = nI (oG (σ.2.1 6 1) (σ.2.1 1 hh) (10 - x) x i (nI j))) → T X (d + 9) M_Tb_odds 72 [.ref 0, .int (nI hh), .int cell, .int (nI N), .int (nI x), .int w, .int (nI i)] [] h1 Q
  | 0, i, hi, h1, f, fr, od, hf => by
    have : i = N := by omega
    subst this
    refine T_iload (pc' := 74) d_Tb_odds_72 rfl rfl ?_
    refine T_iload_n (pc' := 75) d_Tb_odds_74 rfl rfl rfl ?_
    refine T_icmp_ge (pc' := 78) (tgt := 101) d_Tb_odds_75 rfl (by decide) (fun _ => ?_) (fun hzz => absurd (Int32.le_refl _) hzz)
    exact T_fg (by simp [e_le]) (hk h1 f fr od hf)
  | k + 1, i, hi, h1, f, fr, od, hf => by
    have ih := l_odds hh x N cell w h9 hx hN ci si Q hk k (i + 1) (by omega)
    have h0 := (fr.2 0 (by decide)).trans ci.1
    obtain ⟨ab, tr⟩ := ci.2.2.1
    have tr1 := TR_fr fr (by decide) tr
    have t0 := tr1.1
    obtain ⟨c0, hc0, ec0⟩ := si.2.2.1.1
    have hout : ∀ e, ¬ in40 e → oG (σ.2.1 6 1) (σ.2.1 1 hh) (10 - x) x i e = 0 := oG_out _ _ _ _ (by rw [ec0]; exact in40_nI hc0) i
    have od0 := od.1
    refine T_iload (pc' := 74) d_Tb_odds_72 rfl rfl ?_
    refine T_iload_n (pc' := 75) d_Tb_odds_74 rfl rfl rfl ?_
    refine T_icmp_ge (pc' := 78) (tgt := 101) d_Tb_odds_75 rfl (by decide) (fun hzz => absurd hzz (nI_ge (by omega) (by omega))) (fun _ => ?_)
    refine T_aload_n (pc' := 79) d_Tb_odds_78 rfl rfl rfl ?_
    refine T_get (pc' := 82) d_Tb_odds_79 rfl g_Tb_59 (by first | assumption | exact e_put_s | simp [e_put, *]) rfl ?_
    refine T_aload_n (pc' := 83) d_Tb_odds_82 rfl rfl rfl ?_
    refine T_get (pc' := 86) d_Tb_odds_83 rfl g_Tb_19 (by first | assumption | exact e_put_s | simp [e_put, *]) rfl ?_
    refine T_iload_n (pc' := 87) d_Tb_odds_86 rfl rfl rfl ?_
    refine T_V1i (pc' := 90) d_Tb_odds_87 rfl l_Tb_105 v_To_windAt (by first | assumption | exact e_put_s | simp [e_put, *]) (Nat.le_of_ble_eq_true rfl) (c_To_windAt X _ h1 4 _ _ _ _ _ _ _ _ _ (nI hh) hh h9.2 rfl tr1) (fun v h2 hq => ?_)
    obtain ⟨rfl, rfl⟩ := hq
    rw [nI_clamp (by omega)]
    refine T_iload (pc' := 92) d_Tb_odds_90 rfl rfl ?_
    refine T_V2v (pc' := 95) d_Tb_odds_92 rfl l_Tb_236 v_Od_spread (by first | assumption | exact e_put_s | simp [e_put, *]) (Nat.le_of_ble_eq_true rfl) (c_Od_spread X _ h2 (oG (σ.2.1 6 1) (σ.2.1 1 hh) (10 - x) x i) (σ.2.1 1 hh) x _ hx f od hf hout) (fun h3 hq => ?_)
    obtain ⟨f', od', fr', hf'⟩ := hq
    refine T_ii6 (c := 1) (pc' := 98) d_Tb_odds_95 rfl (by decide) (Nat.le_of_ble_eq_true rfl) rfl ?_
    rw [nI_1]
    refine T_goto (pc' := 72) d_Tb_odds_98 (by decide) ?_
    refine ih h3 f' (fr.tr fr') (by rw [Nat.pow_succ]; exact od') (fun j hj => ?_)
    rw [hf' j hj]
    exact congrArg nI (if_pos (in40_nI (by omega))).symm
theorem OR_of_OD {h : AH} {al : Nat} {f : Nat → Int32} (od : OD h al f) : OR_ h := ⟨⟨_, od.1⟩, ⟨_, od.2.1⟩, od.2.2⟩
theorem p_Tb_odds (hh cell n x w : Int32) (ci : CI h σ) (si : SI σ) : Ci X (d + 20) M_Tb_odds [.ref 0, .int hh, .int cell, .int n, .int x, .int w] h (fun v h1 => v = q_odds σ hh cell n x w ∧ CI h1 σ ∧ Fr 0 86 h h1) := by
  have h0 := ci.1
  obtain ⟨⟨al0, o46⟩, ⟨g1, o47⟩, g2, o48⟩ := ci.2.2.2.2.2.2.2.2.2.1
  obtain ⟨c16, r16, fc⟩ := ci.2.2.2.2.1
  obtain ⟨si_, us, rfl, -, -⟩ := id fc
  obtain ⟨cc, hcc, ecc⟩ := si.2.2.1.1
  refine C_of_T rfl rfl (Nat.le_of_ble_eq_true rfl) rfl ?_
  refine T_iload_n (pc' := 1) d_Tb_odds_0 rfl rfl rfl ?_
  refine T_iconst (v := 1) (pc' := 2) d_Tb_odds_1 rfl (by decide) ?_
  refine T_bipush (v := 9) (pc' := 4) d_Tb_odds_2 rfl (by decide) ?_
  refine T_S3i (pc' := 7) d_Tb_odds_4 rfl l_Tb_85 v_Tb_within (Nat.le_of_ble_eq_true rfl) (c_Tb_within X _ h hh 1 9) (fun v h1 hq => ?_)
  obtain ⟨rfl, ⟨q1, rfl⟩ | ⟨q1, rfl⟩⟩ := hq
  · refine T_if_eq (pc' := 10) (tgt := 30) d_Tb_odds_7 rfl (by decide) (fun hzz => absurd hzz (by decide)) (fun _ => ?_)
    refine T_iload_n (pc' := 11) d_Tb_odds_10 rfl rfl rfl ?_
    refine T_iconst (v := 0) (pc' := 12) d_Tb_odds_11 rfl (by decide) ?_
    refine T_bipush (v := 40) (pc' := 14) d_Tb_odds_12 rfl (by decide) ?_
    refine T_S3i (pc' := 17) d_Tb_odds_14 rfl l_Tb_85 v_Tb_within (Nat.le_of_ble_eq_true rfl) (c_Tb_within X _ h1 cell 0 40) (fun v h2 hq => ?_)
    obtain ⟨rfl, ⟨q2, rfl⟩ | ⟨q2, rfl⟩⟩ := hq
    · refine T_if_eq (pc' := 20) (tgt := 30) d_Tb_odds_17 rfl (by decide) (fun hzz => absurd hzz (by decide)) (fun _ => ?_)
      refine T_iload_n (pc' := 21) d_Tb_odds_20 rfl rfl rfl ?_
      refine T_iconst (v := 0) (pc' := 22) d_Tb_odds_21 rfl (by decide) ?_
      refine T_bipush (v := 6) (pc' := 24) d_Tb_odds_22 rfl (by decide) ?_
      refine T_S3i (pc' := 27) d_Tb_odds_24 rfl l_Tb_85 v_Tb_within (Nat.le_of_ble_eq_true rfl) (c_Tb_within X _ h2 n 0 6) (fun v h3 hq => ?_)
      obtain ⟨rfl, ⟨q3, rfl⟩ | ⟨q3, rfl⟩⟩ := hq
      · refine T_if_ne (pc' := 30) (tgt := 32) d_Tb_odds_27 rfl (by decide) (fun _ => ?_) (fun hzz => absurd hzz (by decide))
        refine T_iload (pc' := 34) d_Tb_odds_32 rfl rfl ?_
        refine T_iconst (v := 0) (pc' := 35) d_Tb_odds_34 rfl (by decide) ?_
        refine T_bipush (v := 10) (pc' := 37) d_Tb_odds_35 rfl (by decide) ?_
        refine T_S3i (pc' := 40) d_Tb_odds_37 rfl l_Tb_85 v_Tb_within (Nat.le_of_ble_eq_true rfl) (c_Tb_within X _ h3 x 0 10) (fun v h4 hq => ?_)
        obtain ⟨rfl, ⟨q4, rfl⟩ | ⟨q4, rfl⟩⟩ := hq
        · refine T_if_eq (pc' := 43) (tgt := 53) d_Tb_odds_40 rfl (by decide) (fun hzz => absurd hzz (by decide)) (fun _ => ?_)
          refine T_iload (pc' := 45) d_Tb_odds_43 rfl rfl ?_
          refine T_iconst (v := 0) (pc' := 46) d_Tb_odds_45 rfl (by decide) ?_
          refine T_iconst (v := 1) (pc' := 47) d_Tb_odds_46 rfl (by decide) ?_
          refine T_S3i (pc' := 50) d_Tb_odds_47 rfl l_Tb_85 v_Tb_within (Nat.le_of_ble_eq_true rfl) (c_Tb_within X _ h4 w 0 1) (fun v h5 hq => ?_)
          obtain ⟨rfl, ⟨q5, rfl⟩ | ⟨q5, rfl⟩⟩ := hq
          · refine T_if_ne (pc' := 53) (tgt := 55) d_Tb_odds_50 rfl (by decide) (fun _ => ?_) (fun hzz => absurd hzz (by decide))
            rw [q_odds, if_pos ⟨⟨q1, q2, q3⟩, q4, q5⟩]
            obtain ⟨k1, hk1, rfl⟩ := nI_of2 (M := 9) (n := 9) (by decide) (Int32.not_lt.mpr (Int32.le_trans (by decide) q1.1)) q1.2
            have k11 : 1 ≤ k1 := by
              rcases Nat.eq_zero_or_pos k1 with z | z
              · subst z; exact absurd q1.1 (by decide)
              · exact z
            obtain ⟨k2, hk2, rfl⟩ := nI_in40 q2
            obtain ⟨k3, hk3, rfl⟩ := nI_of2 (M := 6) (n := 6) (by decide) (Int32.not_lt.mpr q3.1) q3.2
            obtain ⟨k4, hk4, rfl⟩ := nI_of2 (M := 10) (n := 10) (by decide) (Int32.not_lt.mpr q4.1) q4.2
            rw [nI_clamp (by omega), nI_clamp (by omega), nI_clamp (by omega)]
            obtain ⟨p10, p0⟩ := pow_10_6 hk3
            have hle := oG_le (σ.2.1 6 1) (σ.2.1 1 k1) (show (10 - k4) + k4 = 10 by omega) k3 (nI k2)
            refine T_aload_n (pc' := 56) d_Tb_odds_55 rfl rfl rfl ?_
            refine T_get (pc' := 59) d_Tb_odds_56 rfl g_Tb_59 (by first | assumption | exact e_put_s | simp [e_put, *]) rfl ?_
            refine T_aload_n (pc' := 60) d_Tb_odds_59 rfl rfl rfl ?_
            refine T_get (pc' := 63) d_Tb_odds_60 rfl g_Tb_29 (by first | assumption | exact e_put_s | simp [e_put, *]) rfl ?_
            refine T_get (pc' := 66) d_Tb_odds_63 rfl g_Tb_165 (by first | assumption | exact e_put_s | simp [e_put, *]) rfl ?_
            rw [ecc]
            refine T_V1v (pc' := 69) d_Tb_odds_66 rfl l_Tb_233 v_Od_startAt (by first | assumption | exact e_put_s | simp [e_put, *]) (Nat.le_of_ble_eq_true rfl) (c_Od_startAt X _ h5 cc al0 hcc g1 g2 o46 o47 o48) (fun h6 hq => ?_)
            obtain ⟨f', od', fr', hf'⟩ := hq
            refine T_iconst (v := 0) (pc' := 70) d_Tb_odds_69 rfl (by decide) ?_
            refine T_is6 (pc' := 72) d_Tb_odds_70 rfl (Nat.le_of_ble_eq_true rfl) rfl ?_
            refine l_odds X _ h5 σ k1 k4 k3 (nI k2) w ⟨k11, hk1⟩ hk4 hk3 ci si _ (fun h7 f7 fr7 od7 hf7 => ?_) k3 0 (by omega) h6 f' fr' od' (fun j hj => by rw [hf' j hj, ecc]; show _ = nI (if nI j = nI cc then 1 else 0); split <;> rfl)
            have ci7 := CI_odds ci si fr7 (OR_of_OD od7)
            have k0 := ci7.1
            have od70 := od7.1
            rcases s_01 q5 with rfl | rfl
            · refine T_iload (pc' := 103) d_Tb_odds_101 rfl rfl ?_
              refine T_if_ne (pc' := 106) (tgt := 117) d_Tb_odds_103 rfl (by decide) (fun hzz => absurd (by decide) hzz) (fun _ => ?_)
              refine T_aload_n (pc' := 107) d_Tb_odds_106 rfl rfl rfl ?_
              refine T_get (pc' := 110) d_Tb_odds_107 rfl g_Tb_59 (by first | assumption | exact e_put_s | simp [e_put, *]) rfl ?_
              refine T_iload_n (pc' := 111) d_Tb_odds_110 rfl rfl rfl ?_
              refine T_V1i (pc' := 114) d_Tb_odds_111 rfl l_Tb_239 v_Od_upper (by first | assumption | exact e_put_s | simp [e_put, *]) (Nat.le_of_ble_eq_true rfl) (c_Od_upper X _ h7 k2 _ _ hk2 f7 od7 p10 p0 (Nat.le_trans hle p10) (hf7 k2 (by omega))) (fun v h8 hq => ?_)
              obtain ⟨rfl, rfl⟩ := hq
              refine T_goto (pc' := 125) d_Tb_odds_114 (by decide) ?_
              refine T_iret d_Tb_odds_125 rfl ?_
              exact ⟨_, rfl, rfl, ci7, fr7.wide (by omega) (by omega)⟩
            · refine T_iload (pc' := 103) d_Tb_odds_101 rfl rfl ?_
              refine T_if_ne (pc' := 106) (tgt := 117) d_Tb_odds_103 rfl (by decide) (fun _ => ?_) (fun hzz => absurd hzz (by decide))
              refine T_aload_n (pc' := 118) d_Tb_odds_117 rfl rfl rfl ?_
              refine T_get (pc' := 121) d_Tb_odds_118 rfl g_Tb_59 (by first | assumption | exact e_put_s | simp [e_put, *]) rfl ?_
              refine T_iload_n (pc' := 122) d_Tb_odds_121 rfl rfl rfl ?_
              refine T_V1i (pc' := 125) d_Tb_odds_122 rfl l_Tb_242 v_Od_lower (by first | assumption | exact e_put_s | simp [e_put, *]) (Nat.le_of_ble_eq_true rfl) (c_Od_lower X _ h7 k2 _ _ hk2 f7 od7 p10 p0 (Nat.le_trans hle p10) (hf7 k2 (by omega))) (fun v h8 hq => ?_)
              obtain ⟨rfl, rfl⟩ := hq
              refine T_iret d_Tb_odds_125 rfl ?_
              exact ⟨_, rfl, rfl, ci7, fr7.wide (by omega) (by omega)⟩
          · refine T_if_ne (pc' := 53) (tgt := 55) d_Tb_odds_50 rfl (by decide) (fun hzz => absurd (by decide) hzz) (fun _ => ?_)
            refine T_iconst (v := (-1)) (pc' := 54) d_Tb_odds_53 rfl (by decide) ?_
            refine T_iret d_Tb_odds_54 rfl ?_
            exact ⟨_, rfl, by rw [q_odds, if_neg (fun q => q5 q.2.2)], ci, Fr.rf⟩
        · refine T_if_eq (pc' := 43) (tgt := 53) d_Tb_odds_40 rfl (by decide) (fun _ => ?_) (fun hzz => absurd (by decide) hzz)
          refine T_iconst (v := (-1)) (pc' := 54) d_Tb_odds_53 rfl (by decide) ?_
          refine T_iret d_Tb_odds_54 rfl ?_
          exact ⟨_, rfl, by rw [q_odds, if_neg (fun q => q4 q.2.1)], ci, Fr.rf⟩
      · refine T_if_ne (pc' := 30) (tgt := 32) d_Tb_odds_27 rfl (by decide) (fun hzz => absurd (by decide) hzz) (fun _ => ?_)
        refine T_iconst (v := (-1)) (pc' := 31) d_Tb_odds_30 rfl (by decide) ?_
        refine T_iret d_Tb_odds_31 rfl ?_
        exact ⟨_, rfl, by rw [q_odds, if_neg (fun q => q3 q.1.2.2)], ci, Fr.rf⟩
    · refine T_if_eq (pc' := 20) (tgt := 30) d_Tb_odds_17 rfl (by decide) (fun _ => ?_) (fun hzz => absurd (by decide) hzz)
      refine T_iconst (v := (-1)) (pc' := 31) d_Tb_odds_30 rfl (by decide) ?_
      refine T_iret d_Tb_odds_31 rfl ?_
      exact ⟨_, rfl, by rw [q_odds, if_neg (fun q => q2 q.1.2.1)], ci, Fr.rf⟩
  · refine T_if_eq (pc' := 10) (tgt := 30) d_Tb_odds_7 rfl (by decide) (fun _ => ?_) (fun hzz => absurd (by decide) hzz)
    refine T_iconst (v := (-1)) (pc' := 31) d_Tb_odds_30 rfl (by decide) ?_
    refine T_iret d_Tb_odds_31 rfl ?_
    exact ⟨_, rfl, by rw [q_odds, if_neg (fun q => q1 q.1.1)], ci, Fr.rf⟩
end ODDS3
