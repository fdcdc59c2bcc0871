/-! best: the object; the call -/
theorem gW_pos (σ : Sp) (w : Int32) : ∀ r g, 0 < gW σ w r g 0
  | 0, g => by show 0 < vN w g + 1; omega
  | r + 1, g => by
    show 0 < if bOk σ g (0 / 13 ^ r % 13) then gW σ w r (bSt σ g (0 / 13 ^ r % 13)) 0 else 0
    have e0 : 0 / 13 ^ r % 13 = 0 := by rw [Nat.zero_div]
    generalize 0 / 13 ^ r % 13 = c at e0
    rw [if_pos (Or.inl e0)]
    exact gW_pos σ w r _
theorem bR_pos (σ : Sp) (w : Int32) {N : Nat} (hN : N ≤ 4) : 0 < (bR σ w N).2 :=
  Nat.lt_of_lt_of_le (gW_pos σ w N (σ.2.1 6)) (am_max (gW σ w N (σ.2.1 6)) (13 ^ N) 0 (pow_13 hN).2)
theorem s_min4 : ∀ N, N ≤ 4 → (if (4 : Int32) < nI N then 4 else nI N) = nI N := by decide +kernel
theorem SR_SQ {h : AH} {F : Nat → Nat → Int32} {N : Nat} {w : Int32} {acc : Nat × Nat} {row : Nat → Int32} (sq : SQ h F N w acc row) : SR h := by
  obtain ⟨a1, a2, a3, ⟨f, a4, -⟩, a5, a6, a7⟩ := sq
  refine ⟨⟨_, _, _, a1⟩, a2, ⟨_, a3⟩, ⟨f, a4⟩, a5, fun i g1 g2 => ?_, a7⟩
  obtain ⟨l, rfl⟩ : ∃ l, i = 36 + l := ⟨i - 36, by omega⟩
  exact ⟨_, a6 l (by omega)⟩
section BEST6
variable (X : EX) (d : Nat) (h : AH) (σ : Sp)
theorem c_Se_run (N : Nat) (w : Int32) (hw : w = 0 ∨ w = 1) (hN : N ≤ 4) (ci : CI h σ) (si : SI σ) : Cv X (sDp d N + 1) M_Se_run [.ref 31, .ref 4, .ref 16, .int (nI N), .int w] h (fun h1 => ∃ F row, SQ h1 F N w (bR σ w N) row ∧ Fr 31 46 h h1) := by
  obtain ⟨ab, tr⟩ := ci.2.2.1
  obtain ⟨c16, r16, fc⟩ := ci.2.2.2.2.1
  obtain ⟨⟨tu, wh, gr, a1⟩, ⟨r32, a2, a2'⟩, ⟨f33, a3⟩, ⟨f34, a4⟩, ⟨r35, a5, a5'⟩, a6, a7⟩ := ci.2.2.2.2.2.2.2.2.1
  obtain ⟨e, he⟩ := sDp_5 d N
  have hg := si.2.2.1
  have fl16 := fc.fl hg
  have tall := fun F gf => try_all X d σ F N w ab hw hN si gf N 0 (by omega)
  rw [he] at tall ⊢
  refine C_of_T rfl rfl (Nat.le_of_ble_eq_true rfl) rfl ?_
  refine T_aload_n (pc' := 1) d_Se_run_0 rfl rfl rfl ?_
  refine T_iload_n (pc' := 2) d_Se_run_1 rfl rfl rfl ?_
  refine T_iconst (v := 4) (pc' := 3) d_Se_run_2 rfl (by decide) ?_
  refine T_mmin (pc' := 6) d_Se_run_3 rfl l_Se_30 (Nat.le_of_ble_eq_true rfl) ?_
  rw [s_min4 N hN]
  refine T_puti4 (pc' := 9) d_Se_run_6 rfl f_Se_36 (fun z => absurd z Bool.false_ne_true) (by first | assumption | exact e_put_s | simp [e_put, *]) ?_
  refine T_aload_n (pc' := 10) d_Se_run_9 rfl rfl rfl ?_
  refine T_iload (pc' := 12) d_Se_run_10 rfl rfl ?_
  refine T_puti5 (pc' := 15) d_Se_run_12 rfl f_Se_40 (fun z => absurd z Bool.false_ne_true) e_put_s ?_
  rw [e_pp]
  refine T_aload_n (pc' := 16) d_Se_run_15 rfl rfl rfl ?_
  refine T_iconst (v := (-1)) (pc' := 17) d_Se_run_16 rfl (by decide) ?_
  refine T_puti6 (pc' := 20) d_Se_run_17 rfl f_Se_43 (fun z => absurd z Bool.false_ne_true) e_put_s ?_
  rw [e_pp]
  generalize hH : e_put h 31 (oSe (nI N) w (-1)) = H
  have frH : Fr 31 46 h H := by rw [← hH]; exact Fr.rf.put ⟨by omega, by omega⟩
  have k31 : H.2 31 = some (oSe (nI N) w (-1)) := by rw [← hH]; exact e_put_s
  have kn : ∀ i, i ≠ 31 → H.2 i = h.2 i := fun i hi => by rw [← hH]; exact e_put_n hi
  clear hH
  refine T_aload_n (pc' := 21) d_Se_run_20 rfl rfl rfl ?_
  refine T_aload_n (pc' := 22) d_Se_run_21 rfl rfl rfl ?_
  refine T_V1v (pc' := 25) d_Se_run_22 rfl l_Se_46 v_Se_fillReach (by first | assumption | exact e_put_s | simp [e_put, *]) (Nat.le_of_ble_eq_true rfl) (c_Se_fillReach X _ H σ _ _ _ si k31 ⟨r35, (kn 35 (by decide)).trans a5, a5'⟩ (fun i g1 g2 => by obtain ⟨f, q⟩ := a6 i g1 g2; exact ⟨f, (kn i (by omega)).trans q⟩) ab (TR_fr frH (by decide) tr)) (fun h1 hq => ?_)
  obtain ⟨F, fr1, hf, gf⟩ := hq
  have b31 := (fr1.2 31 (by decide)).trans k31
  have b32 := (fr1.2 32 (by decide)).trans ((kn 32 (by decide)).trans a2)
  have b16 := (fr1.2 16 (by decide)).trans ((kn 16 (by decide)).trans r16)
  obtain ⟨c41, q41, fl41⟩ := a7 41 (by omega) (by omega)
  have b41 := (fr1.2 41 (by decide)).trans ((kn 41 (by decide)).trans q41)
  have fl41' := fl41
  obtain ⟨mi7, ce7, he7, th7, id7, si7, ab7, us7, lo7, rfl, hlo7⟩ := fl41
  refine T_aload_n (pc' := 26) d_Se_run_25 rfl rfl rfl ?_
  refine T_get (pc' := 29) d_Se_run_26 rfl g_Se_11 (by first | assumption | exact e_put_s | simp [e_put, *]) rfl ?_
  refine T_iconst (v := 0) (pc' := 30) d_Se_run_29 rfl (by decide) ?_
  refine T_aaloadL 0 (pc' := 31) d_Se_run_30 rfl b32 (by decide) (by decide) (a2' 0 (by omega)) ?_
  refine T_aload_n (pc' := 32) d_Se_run_31 rfl rfl rfl ?_
  refine T_V1v (pc' := 35) d_Se_run_32 rfl l_Se_50 v_Fl_copyFrom (by first | assumption | exact e_put_s | simp [e_put, *]) (Nat.le_of_ble_eq_true rfl) (c_Fl_copy X _ h1 41 16 _ c16 (by decide) b41 b16 fl41' fl16) (fun h2 hq => ?_)
  subst hq
  have fr2 : Fr 31 46 h1 (e_put h1 41 c16) := Fr.rf.put ⟨by omega, by omega⟩
  have sq : SQ (e_put h1 41 c16) F N w (0, 0) f33 := by
    refine ⟨(e_put_n (by decide)).trans b31, ⟨r32, (e_put_n (by decide)).trans b32, a2'⟩, (e_put_n (by decide)).trans ((fr1.2 33 (by decide)).trans ((kn 33 (by decide)).trans a3)), ⟨f34, (e_put_n (by decide)).trans ((fr1.2 34 (by decide)).trans ((kn 34 (by decide)).trans a4)), fun q => absurd q (by decide)⟩, ⟨r35, (e_put_n (by decide)).trans ((fr1.2 35 (by decide)).trans ((kn 35 (by decide)).trans a5)), a5'⟩, fun l hl => (e_put_n (by omega)).trans (hf l hl), fun i g1 g2 => ?_⟩
    by_cases e41 : i = 41
    · subst e41; exact ⟨c16, e_put_s, fl16⟩
    · obtain ⟨c', q1, q2⟩ := a7 i g1 g2
      exact ⟨c', (e_put_n e41).trans ((fr1.2 i (by omega)).trans ((kn i (by omega)).trans q1)), q2⟩
  have s31 := sq.1
  refine T_aload_n (pc' := 36) d_Se_run_35 rfl rfl rfl ?_
  refine T_aload_n (pc' := 37) d_Se_run_36 rfl rfl rfl ?_
  refine T_iconst (v := 0) (pc' := 38) d_Se_run_37 rfl (by decide) ?_
  refine T_V2v (pc' := 41) d_Se_run_38 rfl l_Se_54 v_Se_tryTurns (by first | assumption | exact e_put_s | simp [e_put, *]) (Nat.le_of_ble_eq_true rfl) (tall F gf _ (σ.2.1 6) (0, 0) 0 f33 c16 sq (fun j hj => absurd hj (by omega)) (TR_fr fr2 (by decide) (TR_fr fr1 (by decide) (TR_fr frH (by decide) tr))) e_put_s fc hg (by decide)) (fun h3 hq => ?_)
  obtain ⟨row', z1, -, -, z4⟩ := hq
  refine T_vret d_Se_run_41 rfl ?_
  refine ⟨rfl, F, row', ?_, ((frH.tr (fr1.wide (by omega) (by omega))).tr fr2).tr z4⟩
  have eb : bB σ w N (σ.2.1 6) (0, 0) 0 = bR σ w N := by
    rw [bB, Nat.zero_mul, ← am2_0]
  rw [eb] at z1
  exact z1
theorem p_Tb_best (n w k : Int32) (ci : CI h σ) (si : SI σ) : Ci X (d + 20) M_Tb_best [.ref 0, .int n, .int w, .int k] h (fun v h1 => v = q_best σ n w k ∧ CI h1 σ ∧ Fr 0 86 h h1) := by
  have h0 := ci.1
  obtain ⟨tu, wh, gr, a1⟩ := ci.2.2.2.2.2.2.2.2.1.1
  refine C_of_T rfl rfl (Nat.le_of_ble_eq_true rfl) rfl ?_
  refine T_iload_n (pc' := 1) d_Tb_best_0 rfl rfl rfl ?_
  refine T_iconst (v := 0) (pc' := 2) d_Tb_best_1 rfl (by decide) ?_
  refine T_iconst (v := 4) (pc' := 3) d_Tb_best_2 rfl (by decide) ?_
  refine T_S3i (pc' := 6) d_Tb_best_3 rfl l_Tb_85 v_Tb_within (Nat.le_of_ble_eq_true rfl) (c_Tb_within X _ h n 0 4) (fun v h1 hq => ?_)
  obtain ⟨rfl, ⟨q1, rfl⟩ | ⟨q1, rfl⟩⟩ := hq
  · refine T_if_eq (pc' := 9) (tgt := 27) d_Tb_best_6 rfl (by decide) (fun hzz => absurd hzz (by decide)) (fun _ => ?_)
    refine T_iload_n (pc' := 10) d_Tb_best_9 rfl rfl rfl ?_
    refine T_iconst (v := 0) (pc' := 11) d_Tb_best_10 rfl (by decide) ?_
    refine T_iconst (v := 1) (pc' := 12) d_Tb_best_11 rfl (by decide) ?_
    refine T_S3i (pc' := 15) d_Tb_best_12 rfl l_Tb_85 v_Tb_within (Nat.le_of_ble_eq_true rfl) (c_Tb_within X _ h1 w 0 1) (fun v h2 hq => ?_)
    obtain ⟨rfl, ⟨q2, rfl⟩ | ⟨q2, rfl⟩⟩ := hq
    · refine T_if_eq (pc' := 18) (tgt := 27) d_Tb_best_15 rfl (by decide) (fun hzz => absurd hzz (by decide)) (fun _ => ?_)
      refine T_iload_n (pc' := 19) d_Tb_best_18 rfl rfl rfl ?_
      refine T_iconst (v := (-1)) (pc' := 20) d_Tb_best_19 rfl (by decide) ?_
      refine T_iconst (v := 3) (pc' := 21) d_Tb_best_20 rfl (by decide) ?_
      refine T_S3i (pc' := 24) d_Tb_best_21 rfl l_Tb_85 v_Tb_within (Nat.le_of_ble_eq_true rfl) (c_Tb_within X _ h2 k (-1) 3) (fun v h3 hq => ?_)
      obtain ⟨rfl, ⟨q3, rfl⟩ | ⟨q3, rfl⟩⟩ := hq
      · refine T_if_ne (pc' := 27) (tgt := 29) d_Tb_best_24 rfl (by decide) (fun _ => ?_) (fun hzz => absurd hzz (by decide))
        rw [q_best, if_pos ⟨q1, q2, q3⟩]
        obtain ⟨N, hN, rfl⟩ := nI_of2 (M := 4) (n := 4) (by decide) (Int32.not_lt.mpr q1.1) q1.2
        rw [nI_clamp (by omega)]
        refine T_up (d := sDp d N + 1 + 1) (by rw [sDp_le]; omega) ?_
        refine T_aload_n (pc' := 30) d_Tb_best_29 rfl rfl rfl ?_
        refine T_get (pc' := 33) d_Tb_best_30 rfl g_Tb_52 (by first | assumption | exact e_put_s | simp [e_put, *]) rfl ?_
        refine T_aload_n (pc' := 34) d_Tb_best_33 rfl rfl rfl ?_
        refine T_get (pc' := 37) d_Tb_best_34 rfl g_Tb_19 (by first | assumption | exact e_put_s | simp [e_put, *]) rfl ?_
        refine T_aload_n (pc' := 38) d_Tb_best_37 rfl rfl rfl ?_
        refine T_get (pc' := 41) d_Tb_best_38 rfl g_Tb_29 (by first | assumption | exact e_put_s | simp [e_put, *]) rfl ?_
        refine T_iload_n (pc' := 42) d_Tb_best_41 rfl rfl rfl ?_
        refine T_iload_n (pc' := 43) d_Tb_best_42 rfl rfl rfl ?_
        refine T_V4v (pc' := 46) d_Tb_best_43 rfl l_Tb_213 v_Se_run (by first | assumption | exact e_put_s | simp [e_put, *]) (Nat.le_of_ble_eq_true rfl) (c_Se_run X d h3 σ N w (s_01 q2) hN ci si) (fun h4 hq => ?_)
        obtain ⟨F, row, sq, fr⟩ := hq
        have ci4 := CI_search ci si fr (SR_SQ sq)
        have k0 := ci4.1
        obtain ⟨s31, -, -, ⟨f34, s34, s34'⟩, -⟩ := sq
        refine T_iload_n (pc' := 47) d_Tb_best_46 rfl rfl rfl ?_
        refine T_iconst (v := (-1)) (pc' := 48) d_Tb_best_47 rfl (by decide) ?_
        by_cases hk1 : k = -1
        · refine T_icmp_ne (pc' := 51) (tgt := 59) d_Tb_best_48 rfl (by decide) (fun hzz => absurd hk1 hzz) (fun _ => ?_)
          refine T_aload_n (pc' := 52) d_Tb_best_51 rfl rfl rfl ?_
          refine T_get (pc' := 55) d_Tb_best_52 rfl g_Tb_52 (by first | assumption | exact e_put_s | simp [e_put, *]) rfl ?_
          refine T_get (pc' := 58) d_Tb_best_55 rfl g_Tb_217 (by first | assumption | exact e_put_s | simp [e_put, *]) rfl ?_
          refine T_iret d_Tb_best_58 rfl ?_
          exact ⟨_, rfl, by rw [if_pos hk1], ci4, fr.wide (by omega) (by omega)⟩
        · refine T_icmp_ne (pc' := 51) (tgt := 59) d_Tb_best_48 rfl (by decide) (fun _ => ?_) (fun hzz => absurd hzz hk1)
          rw [if_neg hk1]
          obtain ⟨K, hK, rfl⟩ := s_m13 q3 hk1
          rw [nI_clamp (by omega)]
          refine T_iload_n (pc' := 60) d_Tb_best_59 rfl rfl rfl ?_
          refine T_iload_n (pc' := 61) d_Tb_best_60 rfl rfl rfl ?_
          by_cases hlt : K < N
          · refine T_icmp_ge (pc' := 64) (tgt := 76) d_Tb_best_61 rfl (by decide) (fun hzz => absurd hzz (nI_ge hlt (by omega))) (fun _ => ?_)
            refine T_aload_n (pc' := 65) d_Tb_best_64 rfl rfl rfl ?_
            refine T_get (pc' := 68) d_Tb_best_65 rfl g_Tb_52 (by first | assumption | exact e_put_s | simp [e_put, *]) rfl ?_
            refine T_get (pc' := 71) d_Tb_best_68 rfl g_Tb_220 (by first | assumption | exact e_put_s | simp [e_put, *]) rfl ?_
            refine T_iload_n (pc' := 72) d_Tb_best_71 rfl rfl rfl ?_
            refine T_ialoadN K (pc' := 73) d_Tb_best_72 rfl s34 ⟨by omega, by decide⟩ ?_
            refine T_goto (pc' := 78) d_Tb_best_73 (by decide) ?_
            refine T_iret d_Tb_best_78 rfl ?_
            exact ⟨_, rfl, by rw [if_pos (nI_lt hlt (by omega))]; exact s34' (bR_pos σ w hN) K hlt, ci4, fr.wide (by omega) (by omega)⟩
          · refine T_icmp_ge (pc' := 64) (tgt := 76) d_Tb_best_61 rfl (by decide) (fun _ => ?_) (fun hzz => absurd (nI_le (by omega) (by omega)) hzz)
            refine T_bipush (v := (-9)) (pc' := 78) d_Tb_best_76 rfl (by decide) ?_
            refine T_iret d_Tb_best_78 rfl ?_
            exact ⟨_, rfl, by rw [if_neg (nI_nlt (by omega) (by omega))], ci4, fr.wide (by omega) (by omega)⟩
      · refine T_if_ne (pc' := 27) (tgt := 29) d_Tb_best_24 rfl (by decide) (fun hzz => absurd (by decide) hzz) (fun _ => ?_)
        refine T_iconst (v := (-1)) (pc' := 28) d_Tb_best_27 rfl (by decide) ?_
        refine T_iret d_Tb_best_28 rfl ?_
        exact ⟨_, rfl, by rw [q_best, if_neg (fun q => q3 q.2.2)], ci, Fr.rf⟩
    · refine T_if_eq (pc' := 18) (tgt := 27) d_Tb_best_15 rfl (by decide) (fun _ => ?_) (fun hzz => absurd (by decide) hzz)
      refine T_iconst (v := (-1)) (pc' := 28) d_Tb_best_27 rfl (by decide) ?_
      refine T_iret d_Tb_best_28 rfl ?_
      exact ⟨_, rfl, by rw [q_best, if_neg (fun q => q2 q.2.1)], ci, Fr.rf⟩
  · refine T_if_eq (pc' := 9) (tgt := 27) d_Tb_best_6 rfl (by decide) (fun _ => ?_) (fun hzz => absurd (by decide) hzz)
    refine T_iconst (v := (-1)) (pc' := 28) d_Tb_best_27 rfl (by decide) ?_
    refine T_iret d_Tb_best_28 rfl ?_
    exact ⟨_, rfl, by rw [q_best, if_neg (fun q => q1 q.1)], ci, Fr.rf⟩
end BEST6
