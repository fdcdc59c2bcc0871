/-! the model: keep, back -/
section MPUB7
variable (X : EX) (d : Nat) (h : AH) (σ : Sp)
theorem MI_keep (i : Nat) (hi : i < 2) (mi : MI h σ) (si : SI σ) (f6 f7 f8 f9 : Nat → Int32) (r6 : h.2 98 = some (.inl (0, 3, f6))) (r7 : h.2 99 = some (.inl (0, 330, f7))) (r8 : h.2 100 = some (.inl (0, 22, f8))) (r9 : h.2 101 = some (.inl (2, 2, f9))) : MI (e_put (e_put (e_put (e_put h 100 (.inl (0, 22, sRow f8 (11 * i) (σ.2.1 6) 11))) 99 (.inl (0, 330, sRow f7 (110 * (1 + i)) f7 110))) 98 (.inl (0, 3, e_up f6 (1 + i) (nI (σ.1 3))))) 101 (.inl (2, 2, e_up f9 i 1))) (sG σ i (σ.1 3) (σ.2.1 6) (fun j => σ.2.1 (20 + j))) ∧ Ex [98, 99, 100, 101] h (e_put (e_put (e_put (e_put h 100 (.inl (0, 22, sRow f8 (11 * i) (σ.2.1 6) 11))) 99 (.inl (0, 330, sRow f7 (110 * (1 + i)) f7 110))) 98 (.inl (0, 3, e_up f6 (1 + i) (nI (σ.1 3))))) 101 (.inl (2, 2, e_up f9 i 1))) := by
  have ex : Ex [98, 99, 100, 101] h (e_put (e_put (e_put (e_put h 100 (.inl (0, 22, sRow f8 (11 * i) (σ.2.1 6) 11))) 99 (.inl (0, 330, sRow f7 (110 * (1 + i)) f7 110))) 98 (.inl (0, 3, e_up f6 (1 + i) (nI (σ.1 3))))) 101 (.inl (2, 2, e_up f9 i 1))) := (((Ex.rf.put (by decide)).put (by decide)).put (by decide)).put (by decide)
  refine ⟨?_, ex⟩
  generalize hH : e_put (e_put (e_put (e_put h 100 (.inl (0, 22, sRow f8 (11 * i) (σ.2.1 6) 11))) 99 (.inl (0, 330, sRow f7 (110 * (1 + i)) f7 110))) 98 (.inl (0, 3, e_up f6 (1 + i) (nI (σ.1 3))))) 101 (.inl (2, 2, e_up f9 i 1)) = H at ex
  have k9 : H.2 101 = some (.inl (2, 2, e_up f9 i 1)) := by rw [← hH]; exact e_put_s
  have k6 : H.2 98 = some (.inl (0, 3, e_up f6 (1 + i) (nI (σ.1 3)))) := by rw [← hH]; exact (e_put_n (by decide)).trans e_put_s
  have k7 : H.2 99 = some (.inl (0, 330, sRow f7 (110 * (1 + i)) f7 110)) := by rw [← hH]; exact (e_put_n (by decide)).trans ((e_put_n (by decide)).trans e_put_s)
  have k8 : H.2 100 = some (.inl (0, 22, sRow f8 (11 * i) (σ.2.1 6) 11)) := by rw [← hH]; exact (e_put_n (by decide)).trans ((e_put_n (by decide)).trans ((e_put_n (by decide)).trans e_put_s))
  clear hH
  have hkn := si.1.2.2.2.1
  have h8 := si.1.2.2.2.2.2.2.2.2.1
  have h9 := si.1.2.2.2.2.2.2.2.2.2
  have s6 := si.1.2.2.2.2.2.2.1
  have s7 := si.1.2.2.2.2.2.2.2.1
  obtain ⟨⟨sc0, z0, y0⟩, ⟨f1, z1, y1⟩, z2, ⟨f3, z3⟩, ⟨f4, z4, y4⟩, z5, ⟨g6, z6, y6, y6a, y6b⟩, ⟨g7, z7, y7, y7a, y7b⟩, ⟨g8, z8, y8, y8a⟩, ⟨g9, z9, y9, y9a⟩, ⟨f10, z10⟩, ⟨f11, z11⟩, ⟨f12, z12, y12⟩, ⟨f13, z13, y13⟩, ⟨f14, z14, y14⟩, ⟨f15, z15, y15⟩, ⟨f16, z16, y16⟩⟩ := mi
  rw [r6] at z6
  rw [r7] at z7
  rw [r8] at z8
  rw [r9] at z9
  cases z6
  cases z7
  cases z8
  cases z9
  have hc : i = 0 ∨ i = 1 := by omega
  rcases hc with rfl | rfl
  · refine ⟨⟨sc0, (ex.2 _ (by decide)).trans z0, y0⟩, ⟨f1, (ex.2 _ (by decide)).trans z1, y1⟩, MT_ex ex (by decide) z2, ⟨f3, (ex.2 _ (by decide)).trans z3⟩, ⟨f4, (ex.2 _ (by decide)).trans z4, y4⟩, (ex.2 _ (by decide)).trans z5, ⟨_, k6, y6, fun _ => rfl, y6b⟩, ⟨_, k7, fun j (hj : j < σ.1 3) k hk => ?_, fun _ j (hj : j < σ.1 3) k hk => ?_, fun z j (hj : j < σ.1 9) k hk => ?_⟩, ⟨_, k8, fun _ k hk => ?_, fun z k hk => ?_⟩, ⟨_, k9, rfl, y9a⟩, ⟨f10, (ex.2 _ (by decide)).trans z10⟩, ⟨f11, (ex.2 _ (by decide)).trans z11⟩, ⟨f12, (ex.2 _ (by decide)).trans z12, y12⟩, ⟨f13, (ex.2 _ (by decide)).trans z13, y13⟩, ⟨f14, (ex.2 _ (by decide)).trans z14, y14⟩, ⟨f15, (ex.2 _ (by decide)).trans z15, y15⟩, ⟨f16, (ex.2 _ (by decide)).trans z16, y16⟩⟩
    · rw [sRow, if_neg (by omega), y7 j hj k hk]
      exact congrFun ((if_neg (by omega)).trans (if_neg (by omega))).symm k
    · rw [sRow, if_pos (by omega), show 110 + (11 * j + k) - 110 * (1 + 0) = 11 * j + k by omega, y7 j hj k hk]
      exact congrFun ((if_neg (by omega)).trans ((if_pos ⟨by omega, by omega⟩).trans (by rw [show 30 + j - (30 + 10 * 0) = j by omega]))).symm k
    · have := h9 z
      rw [sRow, if_neg (by omega), y7b z j hj k hk]
      exact congrFun ((if_neg (by omega)).trans (if_neg (by omega))).symm k
    · rw [sRow, if_pos (by omega), show k - 11 * 0 = k by omega]
      rfl
    · rw [sRow, if_neg (by omega), y8a z k hk]
      rfl
  · refine ⟨⟨sc0, (ex.2 _ (by decide)).trans z0, y0⟩, ⟨f1, (ex.2 _ (by decide)).trans z1, y1⟩, MT_ex ex (by decide) z2, ⟨f3, (ex.2 _ (by decide)).trans z3⟩, ⟨f4, (ex.2 _ (by decide)).trans z4, y4⟩, (ex.2 _ (by decide)).trans z5, ⟨_, k6, y6, y6a, fun _ => rfl⟩, ⟨_, k7, fun j (hj : j < σ.1 3) k hk => ?_, fun z j (hj : j < σ.1 8) k hk => ?_, fun _ j (hj : j < σ.1 3) k hk => ?_⟩, ⟨_, k8, fun z k hk => ?_, fun _ k hk => ?_⟩, ⟨_, k9, y9, rfl⟩, ⟨f10, (ex.2 _ (by decide)).trans z10⟩, ⟨f11, (ex.2 _ (by decide)).trans z11⟩, ⟨f12, (ex.2 _ (by decide)).trans z12, y12⟩, ⟨f13, (ex.2 _ (by decide)).trans z13, y13⟩, ⟨f14, (ex.2 _ (by decide)).trans z14, y14⟩, ⟨f15, (ex.2 _ (by decide)).trans z15, y15⟩, ⟨f16, (ex.2 _ (by decide)).trans z16, y16⟩⟩
    · rw [sRow, if_neg (by omega), y7 j hj k hk]
      exact congrFun ((if_neg (by omega)).trans (if_neg (by omega))).symm k
    · have := h8 z
      rw [sRow, if_neg (by omega), y7a z j hj k hk]
      exact congrFun ((if_neg (by omega)).trans (if_neg (by omega))).symm k
    · rw [sRow, if_pos (by omega), show 220 + (11 * j + k) - 110 * (1 + 1) = 11 * j + k by omega, y7 j hj k hk]
      exact congrFun ((if_neg (by omega)).trans ((if_pos ⟨by omega, by omega⟩).trans (by rw [show 40 + j - (30 + 10 * 1) = j by omega]))).symm k
    · rw [sRow, if_neg (by omega), y8 z k hk]
      rfl
    · rw [sRow, if_pos (by omega), show 11 + k - 11 * 1 = k by omega]
      rfl
theorem l_keep1 (i : Nat) (hi : i < 2) (sc : Nat → Int32) (tc : Int64) (f g : Nat → Int32) (h0 : h.2 86 = some (oMo sc tc)) (hg : h.2 97 = some (.inl (0, 11, g))) (Q : Option Value → AH → Prop) (hk : T X d M_Mo_keep 42 [.ref 86, .int (nI i), .int (nI 11)] [] (e_put h 100 (.inl (0, 22, sRow f (11 * i) g 11))) Q) : ∀ (k j : Nat), j + k = 11 → T X d M_Mo_keep 13 [.ref 86, .int (nI i), .int (nI j)] [] (e_put h 100 (.inl (0, 22, sRow f (11 * i) g j))) Q
  | 0, j, hj => by
    have : j = 11 := by omega
    subst this
    refine T_iload_n (pc' := 14) d_Mo_keep_13 rfl rfl rfl ?_
    refine T_bipush (v := 11) (pc' := 16) d_Mo_keep_14 rfl (by decide) ?_
    refine T_icmp_ge (pc' := 19) (tgt := 42) d_Mo_keep_16 rfl (by decide) (fun _ => ?_) (fun hzz => absurd (by decide) hzz)
    exact hk
  | k + 1, j, hj => by
    have ih := l_keep1 i hi sc tc f g h0 hg Q hk k (j + 1) (by omega)
    refine T_iload_n (pc' := 14) d_Mo_keep_13 rfl rfl rfl ?_
    refine T_bipush (v := 11) (pc' := 16) d_Mo_keep_14 rfl (by decide) ?_
    refine T_icmp_ge (pc' := 19) (tgt := 42) d_Mo_keep_16 rfl (by decide) (fun hzz => absurd hzz (nI_ge (a := j) (b := 11) (by omega) (by decide))) (fun _ => ?_)
    refine T_aload_n (pc' := 20) d_Mo_keep_19 rfl rfl rfl ?_
    refine T_get (pc' := 23) d_Mo_keep_20 rfl g_Mo_50 ((e_put_n (by decide)).trans h0) rfl ?_
    refine T_bipush (v := 11) (pc' := 25) d_Mo_keep_23 rfl (by decide) ?_
    refine T_iload_n (pc' := 26) d_Mo_keep_25 rfl rfl rfl ?_
    refine T_imul (pc' := 27) d_Mo_keep_26 rfl ?_
    refine T_iload_n (pc' := 28) d_Mo_keep_27 rfl rfl rfl ?_
    refine T_iadd (pc' := 29) d_Mo_keep_28 rfl ?_
    refine T_aload_n (pc' := 30) d_Mo_keep_29 rfl rfl rfl ?_
    refine T_get (pc' := 33) d_Mo_keep_30 rfl g_Mo_41 ((e_put_n (by decide)).trans h0) rfl ?_
    refine T_iload_n (pc' := 34) d_Mo_keep_33 rfl rfl rfl ?_
    refine T_ialoadN j (pc' := 35) d_Mo_keep_34 rfl ((e_put_n (by decide)).trans hg) ⟨by omega, by decide⟩ ?_
    rw [s_11 i (by omega), nI_add]
    refine T_iastoreN (11 * i + j) (pc' := 36) d_Mo_keep_35 rfl e_put_s ⟨by omega, by decide⟩ ?_
    rw [e_pp, sRow_s]
    refine T_ii2 (c := 1) (pc' := 39) d_Mo_keep_36 rfl (by decide) (Nat.le_of_ble_eq_true rfl) rfl ?_
    rw [nI_1]
    refine T_goto (pc' := 13) d_Mo_keep_39 (by decide) ?_
    exact ih
theorem l_keep2 (i : Nat) (hi : i < 2) (sc : Nat → Int32) (tc : Int64) (f : Nat → Int32) (h0 : h.2 86 = some (oMo sc tc)) (Q : Option Value → AH → Prop) (hk : T X d M_Mo_keep 75 [.ref 86, .int (nI i), .int (nI 110)] [] (e_put h 99 (.inl (0, 330, sRow f (110 * (1 + i)) f 110))) Q) : ∀ (k j : Nat), j + k = 110 → T X d M_Mo_keep 44 [.ref 86, .int (nI i), .int (nI j)] [] (e_put h 99 (.inl (0, 330, sRow f (110 * (1 + i)) f j))) Q
  | 0, j, hj => by
    have : j = 110 := by omega
    subst this
    refine T_iload_n (pc' := 45) d_Mo_keep_44 rfl rfl rfl ?_
    refine T_bipush (v := 110) (pc' := 47) d_Mo_keep_45 rfl (by decide) ?_
    refine T_icmp_ge (pc' := 50) (tgt := 75) d_Mo_keep_47 rfl (by decide) (fun _ => ?_) (fun hzz => absurd (by decide) hzz)
    exact hk
  | k + 1, j, hj => by
    have ih := l_keep2 i hi sc tc f h0 Q hk k (j + 1) (by omega)
    refine T_iload_n (pc' := 45) d_Mo_keep_44 rfl rfl rfl ?_
    refine T_bipush (v := 110) (pc' := 47) d_Mo_keep_45 rfl (by decide) ?_
    refine T_icmp_ge (pc' := 50) (tgt := 75) d_Mo_keep_47 rfl (by decide) (fun hzz => absurd hzz (nI_ge (a := j) (b := 110) (by omega) (by decide))) (fun _ => ?_)
    refine T_aload_n (pc' := 51) d_Mo_keep_50 rfl rfl rfl ?_
    refine T_get (pc' := 54) d_Mo_keep_51 rfl g_Mo_47 ((e_put_n (by decide)).trans h0) rfl ?_
    refine T_bipush (v := 110) (pc' := 56) d_Mo_keep_54 rfl (by decide) ?_
    refine T_iconst (v := 1) (pc' := 57) d_Mo_keep_56 rfl (by decide) ?_
    refine T_iload_n (pc' := 58) d_Mo_keep_57 rfl rfl rfl ?_
    refine T_iadd (pc' := 59) d_Mo_keep_58 rfl ?_
    refine T_imul (pc' := 60) d_Mo_keep_59 rfl ?_
    refine T_iload_n (pc' := 61) d_Mo_keep_60 rfl rfl rfl ?_
    refine T_iadd (pc' := 62) d_Mo_keep_61 rfl ?_
    refine T_aload_n (pc' := 63) d_Mo_keep_62 rfl rfl rfl ?_
    refine T_get (pc' := 66) d_Mo_keep_63 rfl g_Mo_47 ((e_put_n (by decide)).trans h0) rfl ?_
    refine T_iload_n (pc' := 67) d_Mo_keep_66 rfl rfl rfl ?_
    refine T_ialoadN j (pc' := 68) d_Mo_keep_67 rfl e_put_s ⟨by omega, by decide⟩ ?_
    rw [s_110 i hi, nI_add]
    refine T_iastoreN (110 * (1 + i) + j) (pc' := 69) d_Mo_keep_68 rfl e_put_s ⟨by omega, by decide⟩ ?_
    have e1 : sRow f (110 * (1 + i)) f j j = f j := by rw [sRow, if_neg (by omega)]
    rw [e_pp, e1, sRow_s]
    refine T_ii2 (c := 1) (pc' := 72) d_Mo_keep_69 rfl (by decide) (Nat.le_of_ble_eq_true rfl) rfl ?_
    rw [nI_1]
    refine T_goto (pc' := 44) d_Mo_keep_72 (by decide) ?_
    exact ih
theorem p_Mo_keep (i : Int32) (mi : MI h σ) (si : SI σ) : Ci X (d + 20) M_Mo_keep [.ref 86, .int i] h (fun v h1 => v = (a_keep σ i).1 ∧ MI h1 (a_keep σ i).2 ∧ Fr 86 109 h h1) := by
  have mi' := mi
  obtain ⟨⟨sc, r0, -⟩, -, -, -, -, r5, ⟨f6, r6, q6, -⟩, ⟨f7, r7, -⟩, ⟨f8, r8, -⟩, ⟨f9, r9, -⟩, -⟩ := mi
  refine C_of_T rfl rfl (Nat.le_of_ble_eq_true rfl) rfl ?_
  refine T_iload_n (pc' := 1) d_Mo_keep_0 rfl rfl rfl ?_
  refine T_iconst (v := 0) (pc' := 2) d_Mo_keep_1 rfl (by decide) ?_
  refine T_iconst (v := 1) (pc' := 3) d_Mo_keep_2 rfl (by decide) ?_
  refine T_S3i (pc' := 6) d_Mo_keep_3 rfl l_Mo_78 v_Mo_in (Nat.le_of_ble_eq_true rfl) (c_Mo_in X _ h i 0 1) (fun v h1 hq => ?_)
  obtain ⟨rfl, ⟨hi, rfl⟩ | ⟨hi, rfl⟩⟩ := hq
  · refine T_if_ne (pc' := 9) (tgt := 11) d_Mo_keep_6 rfl (by decide) (fun _ => ?_) (fun hzz => absurd hzz (by decide))
    rw [a_keep]
    simp only [hi, and_self, if_true]
    obtain ⟨j, hj, rfl⟩ := nI_of2 (M := 1) (n := 1) (by decide) (Int32.not_lt.mpr hi.1) hi.2
    rw [nI_clamp (by omega)]
    obtain ⟨mk, exk⟩ := MI_keep h1 σ j (by omega) mi' si f6 f7 f8 f9 r6 r7 r8 r9
    refine T_iconst (v := 0) (pc' := 12) d_Mo_keep_11 rfl (by decide) ?_
    refine T_is_n2 (pc' := 13) d_Mo_keep_12 rfl rfl (Nat.le_of_ble_eq_true rfl) rfl ?_
    have hs : h1 = e_put h1 100 (.inl (0, 22, sRow f8 (11 * j) (σ.2.1 6) 0)) := by rw [sRow_0]; exact (e_put_self r8).symm
    rw [hs]
    refine l_keep1 X _ h1 j (by omega) sc σ.2.2 f8 (σ.2.1 6) r0 r5 _ ?_ 11 0 rfl
    rw [← hs]
    clear hs
    refine T_iconst (v := 0) (pc' := 43) d_Mo_keep_42 rfl (by decide) ?_
    refine T_is_n2 (pc' := 44) d_Mo_keep_43 rfl rfl (Nat.le_of_ble_eq_true rfl) rfl ?_
    have hs : e_put h1 100 (.inl (0, 22, sRow f8 (11 * j) (σ.2.1 6) 11)) = e_put (e_put h1 100 (.inl (0, 22, sRow f8 (11 * j) (σ.2.1 6) 11))) 99 (.inl (0, 330, sRow f7 (110 * (1 + j)) f7 0)) := by rw [sRow_0]; exact (e_put_self ((e_put_n (by decide)).trans r7)).symm
    rw [hs]
    refine l_keep2 X _ _ j (by omega) sc σ.2.2 f7 ((e_put_n (by decide)).trans r0) _ ?_ 110 0 rfl
    clear hs
    refine T_aload_n (pc' := 76) d_Mo_keep_75 rfl rfl rfl ?_
    refine T_get (pc' := 79) d_Mo_keep_76 rfl g_Mo_44 ((e_put_n (by decide)).trans ((e_put_n (by decide)).trans r0)) rfl ?_
    refine T_iconst (v := 1) (pc' := 80) d_Mo_keep_79 rfl (by decide) ?_
    refine T_iload_n (pc' := 81) d_Mo_keep_80 rfl rfl rfl ?_
    refine T_iadd (pc' := 82) d_Mo_keep_81 rfl ?_
    refine T_aload_n (pc' := 83) d_Mo_keep_82 rfl rfl rfl ?_
    refine T_get (pc' := 86) d_Mo_keep_83 rfl g_Mo_44 ((e_put_n (by decide)).trans ((e_put_n (by decide)).trans r0)) rfl ?_
    refine T_iconst (v := 0) (pc' := 87) d_Mo_keep_86 rfl (by decide) ?_
    refine T_ialoadL 0 (pc' := 88) d_Mo_keep_87 rfl ((e_put_n (by decide)).trans ((e_put_n (by decide)).trans r6)) (by decide) ?_
    rw [q6, s_1i j (by omega)]
    refine T_iastoreN (1 + j) (pc' := 89) d_Mo_keep_88 rfl ((e_put_n (by decide)).trans ((e_put_n (by decide)).trans r6)) ⟨by omega, by decide⟩ ?_
    refine T_aload_n (pc' := 90) d_Mo_keep_89 rfl rfl rfl ?_
    refine T_get (pc' := 93) d_Mo_keep_90 rfl g_Mo_53 ((e_put_n (by decide)).trans ((e_put_n (by decide)).trans ((e_put_n (by decide)).trans r0))) rfl ?_
    refine T_iload_n (pc' := 94) d_Mo_keep_93 rfl rfl rfl ?_
    refine T_iconst (v := 1) (pc' := 95) d_Mo_keep_94 rfl (by decide) ?_
    refine T_zastore (pc' := 96) d_Mo_keep_95 rfl ((e_put_n (by decide)).trans ((e_put_n (by decide)).trans ((e_put_n (by decide)).trans r9))) (vp_in_nI (by omega) (by decide)) ?_
    rw [nI_clamp (by omega), show (1 : Int32) &&& 1 = 1 by decide]
    refine T_aload_n (pc' := 97) d_Mo_keep_96 rfl rfl rfl ?_
    refine T_get (pc' := 100) d_Mo_keep_97 rfl g_Mo_41 (by first | exact (exk.2 _ (by decide)).trans r0 | exact (exk.2 _ (by decide)).trans r5) rfl ?_
    refine T_iconst (v := 0) (pc' := 101) d_Mo_keep_100 rfl (by decide) ?_
    refine T_ialoadL 0 (pc' := 102) d_Mo_keep_101 rfl (by first | exact (exk.2 _ (by decide)).trans r0 | exact (exk.2 _ (by decide)).trans r5) (by decide) ?_
    refine T_iret d_Mo_keep_102 rfl ?_
    exact ⟨_, rfl, rfl, mk, exk.fr (by decide)⟩
  · refine T_if_ne (pc' := 9) (tgt := 11) d_Mo_keep_6 rfl (by decide) (fun hzz => absurd (by decide) hzz) (fun _ => ?_)
    refine T_iconst (v := (-1)) (pc' := 10) d_Mo_keep_9 rfl (by decide) ?_
    refine T_iret d_Mo_keep_10 rfl ?_
    refine ⟨_, rfl, ?_⟩
    rw [a_keep, if_neg hi]
    exact ⟨rfl, mi', Fr.rf⟩
theorem l_back1 (i : Nat) (hi : i < 2) (sc : Nat → Int32) (tc : Int64) (f g row : Nat → Int32) (h0 : h.2 86 = some (oMo sc tc)) (hf : h.2 100 = some (.inl (0, 22, f))) (hr : ∀ k, k < 11 → f (11 * i + k) = row k) (Q : Option Value → AH → Prop) (hk : T X d M_Mo_back 54 [.ref 86, .int (nI i), .int (nI 11)] [] (e_put h 97 (.inl (0, 11, sCp row g 11))) Q) : ∀ (k j : Nat), j + k = 11 → T X d M_Mo_back 25 [.ref 86, .int (nI i), .int (nI j)] [] (e_put h 97 (.inl (0, 11, sCp row g j))) Q
  | 0, j, hj => by
    have : j = 11 := by omega
    subst this
    refine T_iload_n (pc' := 26) d_Mo_back_25 rfl rfl rfl ?_
    refine T_bipush (v := 11) (pc' := 28) d_Mo_back_26 rfl (by decide) ?_
    refine T_icmp_ge (pc' := 31) (tgt := 54) d_Mo_back_28 rfl (by decide) (fun _ => ?_) (fun hzz => absurd (by decide) hzz)
    exact hk
  | k + 1, j, hj => by
    have ih := l_back1 i hi sc tc f g row h0 hf hr Q hk k (j + 1) (by omega)
    refine T_iload_n (pc' := 26) d_Mo_back_25 rfl rfl rfl ?_
    refine T_bipush (v := 11) (pc' := 28) d_Mo_back_26 rfl (by decide) ?_
    refine T_icmp_ge (pc' := 31) (tgt := 54) d_Mo_back_28 rfl (by decide) (fun hzz => absurd hzz (nI_ge (a := j) (b := 11) (by omega) (by decide))) (fun _ => ?_)
    refine T_aload_n (pc' := 32) d_Mo_back_31 rfl rfl rfl ?_
    refine T_get (pc' := 35) d_Mo_back_32 rfl g_Mo_41 ((e_put_n (by decide)).trans h0) rfl ?_
    refine T_iload_n (pc' := 36) d_Mo_back_35 rfl rfl rfl ?_
    refine T_aload_n (pc' := 37) d_Mo_back_36 rfl rfl rfl ?_
    refine T_get (pc' := 40) d_Mo_back_37 rfl g_Mo_50 ((e_put_n (by decide)).trans h0) rfl ?_
    refine T_bipush (v := 11) (pc' := 42) d_Mo_back_40 rfl (by decide) ?_
    refine T_iload_n (pc' := 43) d_Mo_back_42 rfl rfl rfl ?_
    refine T_imul (pc' := 44) d_Mo_back_43 rfl ?_
    refine T_iload_n (pc' := 45) d_Mo_back_44 rfl rfl rfl ?_
    refine T_iadd (pc' := 46) d_Mo_back_45 rfl ?_
    rw [s_11 i (by omega), nI_add]
    refine T_ialoadN (11 * i + j) (pc' := 47) d_Mo_back_46 rfl ((e_put_n (by decide)).trans hf) ⟨by omega, by decide⟩ ?_
    refine T_iastoreN j (pc' := 48) d_Mo_back_47 rfl e_put_s ⟨by omega, by decide⟩ ?_
    rw [e_pp, hr j (by omega), sCp_s]
    refine T_ii2 (c := 1) (pc' := 51) d_Mo_back_48 rfl (by decide) (Nat.le_of_ble_eq_true rfl) rfl ?_
    rw [nI_1]
    refine T_goto (pc' := 25) d_Mo_back_51 (by decide) ?_
    exact ih
theorem l_back2 (i : Nat) (hi : i < 2) (sc : Nat → Int32) (tc : Int64) (f : Nat → Int32) (h0 : h.2 86 = some (oMo sc tc)) (Q : Option Value → AH → Prop) (hk : T X d M_Mo_back 87 [.ref 86, .int (nI i), .int (nI 110)] [] (e_put h 99 (.inl (0, 330, sCp (fun q => f (110 * (1 + i) + q)) f 110))) Q) : ∀ (k j : Nat), j + k = 110 → T X d M_Mo_back 56 [.ref 86, .int (nI i), .int (nI j)] [] (e_put h 99 (.inl (0, 330, sCp (fun q => f (110 * (1 + i) + q)) f j))) Q
  | 0, j, hj => by
    have : j = 110 := by omega
    subst this
    refine T_iload_n (pc' := 57) d_Mo_back_56 rfl rfl rfl ?_
    refine T_bipush (v := 110) (pc' := 59) d_Mo_back_57 rfl (by decide) ?_
    refine T_icmp_ge (pc' := 62) (tgt := 87) d_Mo_back_59 rfl (by decide) (fun _ => ?_) (fun hzz => absurd (by decide) hzz)
    exact hk
  | k + 1, j, hj => by
    have ih := l_back2 i hi sc tc f h0 Q hk k (j + 1) (by omega)
    refine T_iload_n (pc' := 57) d_Mo_back_56 rfl rfl rfl ?_
    refine T_bipush (v := 110) (pc' := 59) d_Mo_back_57 rfl (by decide) ?_
    refine T_icmp_ge (pc' := 62) (tgt := 87) d_Mo_back_59 rfl (by decide) (fun hzz => absurd hzz (nI_ge (a := j) (b := 110) (by omega) (by decide))) (fun _ => ?_)
    refine T_aload_n (pc' := 63) d_Mo_back_62 rfl rfl rfl ?_
    refine T_get (pc' := 66) d_Mo_back_63 rfl g_Mo_47 ((e_put_n (by decide)).trans h0) rfl ?_
    refine T_iload_n (pc' := 67) d_Mo_back_66 rfl rfl rfl ?_
    refine T_aload_n (pc' := 68) d_Mo_back_67 rfl rfl rfl ?_
    refine T_get (pc' := 71) d_Mo_back_68 rfl g_Mo_47 ((e_put_n (by decide)).trans h0) rfl ?_
    refine T_bipush (v := 110) (pc' := 73) d_Mo_back_71 rfl (by decide) ?_
    refine T_iconst (v := 1) (pc' := 74) d_Mo_back_73 rfl (by decide) ?_
    refine T_iload_n (pc' := 75) d_Mo_back_74 rfl rfl rfl ?_
    refine T_iadd (pc' := 76) d_Mo_back_75 rfl ?_
    refine T_imul (pc' := 77) d_Mo_back_76 rfl ?_
    refine T_iload_n (pc' := 78) d_Mo_back_77 rfl rfl rfl ?_
    refine T_iadd (pc' := 79) d_Mo_back_78 rfl ?_
    rw [s_110 i hi, nI_add]
    refine T_ialoadN (110 * (1 + i) + j) (pc' := 80) d_Mo_back_79 rfl e_put_s ⟨by omega, by decide⟩ ?_
    refine T_iastoreN j (pc' := 81) d_Mo_back_80 rfl e_put_s ⟨by omega, by decide⟩ ?_
    have e1 : sCp (fun q => f (110 * (1 + i) + q)) f j (110 * (1 + i) + j) = (fun q => f (110 * (1 + i) + q)) j := by rw [sCp, if_neg (by omega)]
    rw [e_pp, e1, sCp_s]
    refine T_ii2 (c := 1) (pc' := 84) d_Mo_back_81 rfl (by decide) (Nat.le_of_ble_eq_true rfl) rfl ?_
    rw [nI_1]
    refine T_goto (pc' := 56) d_Mo_back_84 (by decide) ?_
    exact ih
theorem p_Mo_back (i : Int32) (mi : MI h σ) (si : SI σ) : Ci X (d + 20) M_Mo_back [.ref 86, .int i] h (fun v h1 => v = (a_back σ i).1 ∧ MI h1 (a_back σ i).2 ∧ Fr 86 109 h h1) := by
  have mi' := mi
  have s6 := si.1.2.2.2.2.2.2.1
  have s7 := si.1.2.2.2.2.2.2.2.1
  have s8 := si.1.2.2.2.2.2.2.2.2.1
  have s9 := si.1.2.2.2.2.2.2.2.2.2
  obtain ⟨⟨sc, r0, -⟩, -, -, -, -, r5, ⟨f6, r6, q6, q6a, q6b⟩, ⟨f7, r7, q7, q7a, q7b⟩, ⟨f8, r8, q8a, q8b⟩, ⟨f9, r9, q9a, q9b⟩, -⟩ := mi
  refine C_of_T rfl rfl (Nat.le_of_ble_eq_true rfl) rfl ?_
  refine T_iload_n (pc' := 1) d_Mo_back_0 rfl rfl rfl ?_
  refine T_iconst (v := 0) (pc' := 2) d_Mo_back_1 rfl (by decide) ?_
  refine T_iconst (v := 1) (pc' := 3) d_Mo_back_2 rfl (by decide) ?_
  refine T_S3i (pc' := 6) d_Mo_back_3 rfl l_Mo_78 v_Mo_in (Nat.le_of_ble_eq_true rfl) (c_Mo_in X _ h i 0 1) (fun v h1 hq => ?_)
  obtain ⟨rfl, ⟨hi, rfl⟩ | ⟨hi, rfl⟩⟩ := hq
  · refine T_if_ne (pc' := 9) (tgt := 11) d_Mo_back_6 rfl (by decide) (fun _ => ?_) (fun hzz => absurd hzz (by decide))
    rw [a_back]
    simp only [hi, and_self, if_true]
    obtain ⟨j, hj, rfl⟩ := nI_of2 (M := 1) (n := 1) (by decide) (Int32.not_lt.mpr hi.1) hi.2
    have ecl : (nI j).toNatClampNeg = j := nI_clamp (by omega)
    rw [ecl]
    have hjc : j = 0 ∨ j = 1 := by omega
    have g9 : f9 j = nI (σ.1 (6 + j)) := by rcases hjc with rfl | rfl; exact q9a; exact q9b
    have hk1 : σ.1 (6 + j) ≤ 1 := by rcases hjc with rfl | rfl; exact s6; exact s7
    refine T_aload_n (pc' := 12) d_Mo_back_11 rfl rfl rfl ?_
    refine T_get (pc' := 15) d_Mo_back_12 rfl g_Mo_53 (by first | assumption | exact e_put_s | simp [e_put, *]) rfl ?_
    refine T_iload_n (pc' := 16) d_Mo_back_15 rfl rfl rfl ?_
    refine T_zaload (pc' := 17) d_Mo_back_16 rfl r9 (vp_in_nI (by omega) (by decide)) ?_
    rw [ecl, g9]
    by_cases hke : σ.1 (6 + j) = 1
    · refine T_if_ne (pc' := 20) (tgt := 23) d_Mo_back_17 rfl (by decide) (fun _ => ?_) (fun hzz => absurd hzz (by rw [hke]; decide))
      rw [if_pos hke]
      have g8 : ∀ k, k < 11 → f8 (11 * j + k) = σ.2.1 (13 + j) k := by
        rcases hjc with rfl | rfl
        · intro k hk; rw [show 11 * 0 + k = k by omega]; exact q8a hke k hk
        · intro k hk; rw [show 11 * 1 + k = 11 + k by omega]; exact q8b hke k hk
      have g6 : f6 (1 + j) = nI (σ.1 (8 + j)) := by rcases hjc with rfl | rfl; exact q6a hke; exact q6b hke
      have g10 : σ.1 (8 + j) ≤ 10 := by rcases hjc with rfl | rfl; exact s8 hke; exact s9 hke
      have g7 : ∀ q, q < σ.1 (8 + j) → ∀ k, k < 11 → f7 (110 * (1 + j) + (11 * q + k)) = σ.2.1 (30 + 10 * j + q) k := by
        rcases hjc with rfl | rfl
        · exact q7a hke
        · exact q7b hke
      refine T_iconst (v := 0) (pc' := 24) d_Mo_back_23 rfl (by decide) ?_
      refine T_is_n2 (pc' := 25) d_Mo_back_24 rfl rfl (Nat.le_of_ble_eq_true rfl) rfl ?_
      have hs : h1 = e_put h1 97 (.inl (0, 11, sCp (σ.2.1 (13 + j)) (σ.2.1 6) 0)) := by rw [sCp_0]; exact (e_put_self r5).symm
      rw [hs]
      refine l_back1 X _ h1 j (by omega) sc σ.2.2 f8 (σ.2.1 6) (σ.2.1 (13 + j)) r0 r8 g8 _ ?_ 11 0 rfl
      rw [← hs]
      clear hs
      have ex1 : Ex [97] h1 (e_put h1 97 (.inl (0, 11, sCp (σ.2.1 (13 + j)) (σ.2.1 6) 11))) := Ex.rf.put (by decide)
      have mi1 := MI_now mi' ex1 e_put_s
      generalize hH : e_put h1 97 (.inl (0, 11, sCp (σ.2.1 (13 + j)) (σ.2.1 6) 11)) = H at ex1 mi1
      have nH : H.2 97 = some (.inl (0, 11, sCp (σ.2.1 (13 + j)) (σ.2.1 6) 11)) := by rw [← hH]; exact e_put_s
      clear hH
      have o0 : H.2 86 = _ := (ex1.2 _ (by decide)).trans r0
      have o6 : H.2 98 = _ := (ex1.2 _ (by decide)).trans r6
      have o7 : H.2 99 = _ := (ex1.2 _ (by decide)).trans r7
      refine T_iconst (v := 0) (pc' := 55) d_Mo_back_54 rfl (by decide) ?_
      refine T_is_n2 (pc' := 56) d_Mo_back_55 rfl rfl (Nat.le_of_ble_eq_true rfl) rfl ?_
      have hs : H = e_put H 99 (.inl (0, 330, sCp (fun q => f7 (110 * (1 + j) + q)) f7 0)) := by rw [sCp_0]; exact (e_put_self o7).symm
      rw [hs]
      refine l_back2 X _ H j (by omega) sc σ.2.2 f7 o0 _ ?_ 110 0 rfl
      clear hs
      refine T_aload_n (pc' := 88) d_Mo_back_87 rfl rfl rfl ?_
      refine T_get (pc' := 91) d_Mo_back_88 rfl g_Mo_44 ((e_put_n (by decide)).trans o0) rfl ?_
      refine T_iconst (v := 0) (pc' := 92) d_Mo_back_91 rfl (by decide) ?_
      refine T_aload_n (pc' := 93) d_Mo_back_92 rfl rfl rfl ?_
      refine T_get (pc' := 96) d_Mo_back_93 rfl g_Mo_44 ((e_put_n (by decide)).trans o0) rfl ?_
      refine T_iconst (v := 1) (pc' := 97) d_Mo_back_96 rfl (by decide) ?_
      refine T_iload_n (pc' := 98) d_Mo_back_97 rfl rfl rfl ?_
      refine T_iadd (pc' := 99) d_Mo_back_98 rfl ?_
      rw [s_1i j (by omega)]
      refine T_ialoadN (1 + j) (pc' := 100) d_Mo_back_99 rfl ((e_put_n (by decide)).trans o6) ⟨by omega, by decide⟩ ?_
      rw [g6]
      refine T_iastoreL 0 (pc' := 101) d_Mo_back_100 rfl ((e_put_n (by decide)).trans o6) (by decide) ?_
      have ex2 : Ex [98, 99] H (e_put (e_put H 99 (.inl (0, 330, sCp (fun q => f7 (110 * (1 + j) + q)) f7 110))) 98 (.inl (0, 3, e_up f6 0 (nI (σ.1 (8 + j)))))) := (Ex.rf.put (by decide)).put (by decide)
      have mi2 := MI_hist (kn := σ.1 (8 + j)) (rows := fun q => σ.2.1 (30 + 10 * j + q)) g10 mi1 ex2 e_put_s rfl q6a q6b ((e_put_n (by decide)).trans e_put_s) (fun q hq k hk => by rw [sCp, if_pos (by omega)]; exact g7 q hq k hk) (fun z q (hq : q < σ.1 8) k hk => by
        have := s8 z
        rw [sCp, if_neg (by omega), q7a z q hq k hk]; exact congrFun (if_neg (by omega)).symm k) (fun z q (hq : q < σ.1 9) k hk => by
        have := s9 z
        rw [sCp, if_neg (by omega), q7b z q hq k hk]; exact congrFun (if_neg (by omega)).symm k)
      refine T_aload_n (pc' := 102) d_Mo_back_101 rfl rfl rfl ?_
      refine T_get (pc' := 105) d_Mo_back_102 rfl g_Mo_41 (by first | exact (ex2.2 _ (by decide)).trans o0 | exact (ex2.2 _ (by decide)).trans nH) rfl ?_
      refine T_iconst (v := 0) (pc' := 106) d_Mo_back_105 rfl (by decide) ?_
      refine T_ialoadL 0 (pc' := 107) d_Mo_back_106 rfl (by first | exact (ex2.2 _ (by decide)).trans o0 | exact (ex2.2 _ (by decide)).trans nH) (by decide) ?_
      refine T_iret d_Mo_back_107 rfl ?_
      exact ⟨_, rfl, rfl, mi2, ((ex1.mono (S' := [98, 99, 97]) (by decide)).tr (ex2.mono (by decide))).fr (by decide)⟩
    · refine T_if_ne (pc' := 20) (tgt := 23) d_Mo_back_17 rfl (by decide) (fun hzz => absurd (by rw [show σ.1 (6 + j) = 0 by omega]; rfl) hzz) (fun _ => ?_)
      refine T_bipush (v := (-2)) (pc' := 22) d_Mo_back_20 rfl (by decide) ?_
      refine T_iret d_Mo_back_22 rfl ?_
      rw [if_neg hke]
      exact ⟨_, rfl, rfl, mi', Fr.rf⟩
  · refine T_if_ne (pc' := 9) (tgt := 11) d_Mo_back_6 rfl (by decide) (fun hzz => absurd (by decide) hzz) (fun _ => ?_)
    refine T_iconst (v := (-1)) (pc' := 10) d_Mo_back_9 rfl (by decide) ?_
    refine T_iret d_Mo_back_10 rfl ?_
    refine ⟨_, rfl, ?_⟩
    rw [a_back, if_neg hi]
    exact ⟨rfl, mi', Fr.rf⟩
end MPUB7
