/-! CONSTRUCTORS: the object -/
section INIT3
variable (X : EX) (d : Nat) (h : AH)
theorem c_Tb_init (s : Nat) (hm : h.1 = (1, s)) (hb : h.2 0 = some (.inr (.inr (8, [.null, .null, .null, .null, .null, .null, .null, .null, .null, .null, .null, .null, .long 0])))) : Cv X (d + 4) M_Tb_init [.ref 0] h (fun h1 => CI h1 s00 ∧ h1.1 = (86, s + 806)) := by
  refine C_of_T rfl rfl (Nat.le_of_ble_eq_true rfl) rfl ?_
  refine T_aload_n (pc' := 1) d_Tb_init_0 rfl rfl rfl ?_
  refine T_objInit (pc' := 4) d_Tb_init_1 rfl ol_Tb_1 oi_i oi_c ?_
  refine T_aload_n (pc' := 5) d_Tb_init_4 rfl rfl rfl ?_
  refine T_new1 (m := 1) (pc' := 8) d_Tb_init_5 rfl kc_Tx cl_Tb_7 in_Tx it_Tx df_Tx hm (by omega) (fun K1 n1 => ?_)
  have a1 := (n1.2.2 0 (by omega)).trans hb
  refine T_dup (pc' := 9) d_Tb_init_8 rfl rfl ?_
  refine T_I0v (pc' := 12) d_Tb_init_9 rfl l_Tb_9 v_Tx_init (Nat.le_of_ble_eq_true rfl) (c_Tx_init X _ K1 _ n1.1 n1.2.1) (fun H1 hq => ?_)
  obtain ⟨xr, m1, g1⟩ := hq
  have b1 := (g1 0 (by omega)).trans a1
  refine T_puto0 (pc' := 15) d_Tb_init_12 rfl f_Tb_10 (fun _ => rfl) b1 ?_
  refine T_aload_n (pc' := 16) d_Tb_init_15 rfl rfl rfl ?_
  refine T_new1 (m := 4) (pc' := 19) d_Tb_init_16 rfl kc_To cl_Tb_16 in_To it_To df_To m1 (by omega) (fun K2 n2 => ?_)
  have a2 := (n2.2.2 0 (by omega)).trans e_put_s
  refine T_dup (pc' := 20) d_Tb_init_19 rfl rfl ?_
  refine T_I0v (pc' := 23) d_Tb_init_20 rfl l_Tb_18 v_To_init (Nat.le_of_ble_eq_true rfl) (c_To_init X _ K2 4 _ (by decide) n2.1 n2.2.1) (fun H2 hq => ?_)
  obtain ⟨tr2, m2, g2⟩ := hq
  have b2 := (g2 0 (by omega)).trans a2
  have f1 : ∀ k, 1 ≤ k → k < 4 → H2.2 k = H1.2 k := fun k q1 q2 => (g2 k (by omega)).trans ((n2.2.2 k (by omega)).trans (e_put_n (by omega)))
  refine T_puto1 (pc' := 26) d_Tb_init_23 rfl f_Tb_19 (fun _ => rfl) b2 ?_
  refine T_aload_n (pc' := 27) d_Tb_init_26 rfl rfl rfl ?_
  refine T_new1 (m := 10) (pc' := 30) d_Tb_init_27 rfl kc_To cl_Tb_16 in_To it_To df_To m2 (by omega) (fun K3 n3 => ?_)
  have a3 := (n3.2.2 0 (by omega)).trans e_put_s
  refine T_dup (pc' := 31) d_Tb_init_30 rfl rfl ?_
  refine T_I0v (pc' := 34) d_Tb_init_31 rfl l_Tb_18 v_To_init (Nat.le_of_ble_eq_true rfl) (c_To_init X _ K3 10 _ (by decide) n3.1 n3.2.1) (fun H3 hq => ?_)
  obtain ⟨tr3, m3, g3⟩ := hq
  have b3 := (g3 0 (by omega)).trans a3
  have f2 : ∀ k, 1 ≤ k → k < 10 → H3.2 k = H2.2 k := fun k q1 q2 => (g3 k (by omega)).trans ((n3.2.2 k (by omega)).trans (e_put_n (by omega)))
  refine T_puto2 (pc' := 37) d_Tb_init_34 rfl f_Tb_23 (fun _ => rfl) b3 ?_
  refine T_aload_n (pc' := 38) d_Tb_init_37 rfl rfl rfl ?_
  refine T_new1 (m := 16) (pc' := 41) d_Tb_init_38 rfl kc_Fl cl_Tb_26 in_Fl it_Fl df_Fl m3 (by omega) (fun K4 n4 => ?_)
  have a4 := (n4.2.2 0 (by omega)).trans e_put_s
  refine T_dup (pc' := 42) d_Tb_init_41 rfl rfl ?_
  refine T_I0v (pc' := 45) d_Tb_init_42 rfl l_Tb_28 v_Fl_init (Nat.le_of_ble_eq_true rfl) (c_Fl_init X _ K4 16 _ _ _ _ _ _ _ _ _ n4.2.1) (fun H4 hq => ?_)
  have m4 : H4.1 = _ := hq ▸ n4.1
  have c4 : H4.2 16 = _ := hq ▸ n4.2.1
  have b4 : H4.2 0 = _ := hq ▸ a4
  have g4 : ∀ k, k < 16 → H4.2 k = K4.2 k := fun k _ => hq ▸ rfl
  have f3 : ∀ k, 1 ≤ k → k < 16 → H4.2 k = H3.2 k := fun k q1 q2 => (g4 k (by omega)).trans ((n4.2.2 k (by omega)).trans (e_put_n (by omega)))
  refine T_puto3 (pc' := 48) d_Tb_init_45 rfl f_Tb_29 (fun _ => rfl) b4 ?_
  refine T_aload_n (pc' := 49) d_Tb_init_48 rfl rfl rfl ?_
  refine T_new1 (m := 17) (pc' := 52) d_Tb_init_49 rfl kc_Fl cl_Tb_26 in_Fl it_Fl df_Fl m4 (by omega) (fun K5 n5 => ?_)
  have a5 := (n5.2.2 0 (by omega)).trans e_put_s
  refine T_dup (pc' := 53) d_Tb_init_52 rfl rfl ?_
  refine T_I0v (pc' := 56) d_Tb_init_53 rfl l_Tb_28 v_Fl_init (Nat.le_of_ble_eq_true rfl) (c_Fl_init X _ K5 17 _ _ _ _ _ _ _ _ _ n5.2.1) (fun H5 hq => ?_)
  have m5 : H5.1 = _ := hq ▸ n5.1
  have c5 : H5.2 17 = _ := hq ▸ n5.2.1
  have b5 : H5.2 0 = _ := hq ▸ a5
  have g5 : ∀ k, k < 17 → H5.2 k = K5.2 k := fun k _ => hq ▸ rfl
  have f4 : ∀ k, 1 ≤ k → k < 17 → H5.2 k = H4.2 k := fun k q1 q2 => (g5 k (by omega)).trans ((n5.2.2 k (by omega)).trans (e_put_n (by omega)))
  refine T_puto4 (pc' := 59) d_Tb_init_56 rfl f_Tb_33 (fun _ => rfl) b5 ?_
  refine T_aload_n (pc' := 60) d_Tb_init_59 rfl rfl rfl ?_
  refine T_new1 (m := 18) (pc' := 63) d_Tb_init_60 rfl kc_Hi cl_Tb_36 in_Hi it_Hi df_Hi m5 (by omega) (fun K6 n6 => ?_)
  have a6 := (n6.2.2 0 (by omega)).trans e_put_s
  refine T_dup (pc' := 64) d_Tb_init_63 rfl rfl ?_
  refine T_I0v (pc' := 67) d_Tb_init_64 rfl l_Tb_38 v_Hi_init (Nat.le_of_ble_eq_true rfl) (c_Hi_init X _ K6 18 _ (by decide) n6.1 n6.2.1) (fun H6 hq => ?_)
  obtain ⟨hr6, m6, g6⟩ := hq
  have b6 := (g6 0 (by omega)).trans a6
  have f5 : ∀ k, 1 ≤ k → k < 18 → H6.2 k = H5.2 k := fun k q1 q2 => (g6 k (by omega)).trans ((n6.2.2 k (by omega)).trans (e_put_n (by omega)))
  refine T_puto5 (pc' := 70) d_Tb_init_67 rfl f_Tb_39 (fun _ => rfl) b6 ?_
  refine T_aload_n (pc' := 71) d_Tb_init_70 rfl rfl rfl ?_
  refine T_iconst (v := 2) (pc' := 72) d_Tb_init_71 rfl (by decide) ?_
  refine T_newr1 (N := 2) (m := 30) (pc' := 75) d_Tb_init_72 rfl (Or.inr ⟨rfl, rfl⟩) cl_Tb_43 (by decide) (by decide) (by decide) m6 (by omega) (fun K7 n7 => ?_)
  have a7 := (n7.2.2 0 (by omega)).trans e_put_s
  have b7 := a7
  have f6 : ∀ k, 1 ≤ k → k < 30 → K7.2 k = H6.2 k := fun k q1 q2 => (n7.2.2 k (by omega)).trans (e_put_n (by omega))
  refine T_puta6 (pc' := 78) d_Tb_init_75 rfl f_Tb_45 (fun _ => rfl) b7 ?_
  refine T_aload_n (pc' := 79) d_Tb_init_78 rfl rfl rfl ?_
  refine T_new1 (m := 31) (pc' := 82) d_Tb_init_79 rfl kc_Se cl_Tb_49 in_Se it_Se df_Se n7.1 (by omega) (fun K8 n8 => ?_)
  have a8 := (n8.2.2 0 (by omega)).trans e_put_s
  refine T_dup (pc' := 83) d_Tb_init_82 rfl rfl ?_
  refine T_I0v (pc' := 86) d_Tb_init_83 rfl l_Tb_51 v_Se_init (Nat.le_of_ble_eq_true rfl) (c_Se_init X _ K8 _ n8.1 n8.2.1) (fun H8 hq => ?_)
  obtain ⟨sr8, m8, g8⟩ := hq
  have b8 := (g8 0 (by omega)).trans a8
  have f7 : ∀ k, 1 ≤ k → k < 31 → H8.2 k = K7.2 k := fun k q1 q2 => (g8 k (by omega)).trans ((n8.2.2 k (by omega)).trans (e_put_n (by omega)))
  refine T_puto7 (pc' := 89) d_Tb_init_86 rfl f_Tb_52 (fun _ => rfl) b8 ?_
  refine T_aload_n (pc' := 90) d_Tb_init_89 rfl rfl rfl ?_
  refine T_new1 (m := 46) (pc' := 93) d_Tb_init_90 rfl kc_Od cl_Tb_56 in_Od it_Od df_Od m8 (by omega) (fun K9 n9 => ?_)
  have a9 := (n9.2.2 0 (by omega)).trans e_put_s
  refine T_dup (pc' := 94) d_Tb_init_93 rfl rfl ?_
  refine T_I0v (pc' := 97) d_Tb_init_94 rfl l_Tb_58 v_Od_init (Nat.le_of_ble_eq_true rfl) (c_Od_init X _ K9 _ n9.1 n9.2.1) (fun H9 hq => ?_)
  obtain ⟨or9, m9, g9⟩ := hq
  have b9 := (g9 0 (by omega)).trans a9
  have f8 : ∀ k, 1 ≤ k → k < 46 → H9.2 k = H8.2 k := fun k q1 q2 => (g9 k (by omega)).trans ((n9.2.2 k (by omega)).trans (e_put_n (by omega)))
  refine T_puto8 (pc' := 100) d_Tb_init_97 rfl f_Tb_59 (fun _ => rfl) b9 ?_
  refine T_aload_n (pc' := 101) d_Tb_init_100 rfl rfl rfl ?_
  refine T_new1 (m := 49) (pc' := 104) d_Tb_init_101 rfl kc_Re cl_Tb_63 in_Re it_Re df_Re m9 (by omega) (fun K10 n10 => ?_)
  have a10 := (n10.2.2 0 (by omega)).trans e_put_s
  refine T_dup (pc' := 105) d_Tb_init_104 rfl rfl ?_
  refine T_I0v (pc' := 108) d_Tb_init_105 rfl l_Tb_65 v_Re_init (Nat.le_of_ble_eq_true rfl) (c_Re_init X _ K10 49 _ (by decide) n10.1 n10.2.1) (fun H10 hq => ?_)
  obtain ⟨rr10, m10, g10⟩ := hq
  have b10 := (g10 0 (by omega)).trans a10
  have f9 : ∀ k, 1 ≤ k → k < 49 → H10.2 k = H9.2 k := fun k q1 q2 => (g10 k (by omega)).trans ((n10.2.2 k (by omega)).trans (e_put_n (by omega)))
  refine T_puto9 (pc' := 111) d_Tb_init_108 rfl f_Tb_66 (fun _ => rfl) b10 ?_
  refine T_aload_n (pc' := 112) d_Tb_init_111 rfl rfl rfl ?_
  refine T_new1 (m := 53) (pc' := 115) d_Tb_init_112 rfl kc_Re cl_Tb_63 in_Re it_Re df_Re m10 (by omega) (fun K11 n11 => ?_)
  have a11 := (n11.2.2 0 (by omega)).trans e_put_s
  refine T_dup (pc' := 116) d_Tb_init_115 rfl rfl ?_
  refine T_I0v (pc' := 119) d_Tb_init_116 rfl l_Tb_65 v_Re_init (Nat.le_of_ble_eq_true rfl) (c_Re_init X _ K11 53 _ (by decide) n11.1 n11.2.1) (fun H11 hq => ?_)
  obtain ⟨rr11, m11, g11⟩ := hq
  have b11 := (g11 0 (by omega)).trans a11
  have f10 : ∀ k, 1 ≤ k → k < 53 → H11.2 k = H10.2 k := fun k q1 q2 => (g11 k (by omega)).trans ((n11.2.2 k (by omega)).trans (e_put_n (by omega)))
  refine T_puto10 (pc' := 122) d_Tb_init_119 rfl f_Tb_70 (fun _ => rfl) b11 ?_
  refine T_aload_n (pc' := 123) d_Tb_init_122 rfl rfl rfl ?_
  refine T_bipush (v := 10) (pc' := 125) d_Tb_init_123 rfl (by decide) ?_
  refine T_newi1 (N := 10) (m := 57) (pc' := 127) d_Tb_init_125 rfl (Or.inl ⟨rfl, rfl⟩) ac_int (by decide) (by decide) (by decide) m11 (by omega) (fun K12 n12 => ?_)
  have a12 := (n12.2.2 0 (by omega)).trans e_put_s
  have b12 := a12
  have f11 : ∀ k, 1 ≤ k → k < 57 → K12.2 k = H11.2 k := fun k q1 q2 => (n12.2.2 k (by omega)).trans (e_put_n (by omega))
  refine T_puta11 (pc' := 130) d_Tb_init_127 rfl f_Tb_73 (fun _ => rfl) b12 ?_
  refine T_aload_n (pc' := 131) d_Tb_init_130 rfl rfl rfl ?_
  refine T_lconst (v := 0) (pc' := 132) d_Tb_init_131 rfl (by decide) ?_
  refine T_putl12 (pc' := 135) d_Tb_init_132 rfl f_Tb_77 (fun z => absurd z Bool.false_ne_true) e_put_s ?_
  refine T_iconst (v := 0) (pc' := 136) d_Tb_init_135 rfl (by decide) ?_
  refine T_is_n1 (pc' := 137) d_Tb_init_136 rfl rfl (Nat.le_of_ble_eq_true rfl) rfl ?_
  rw [e_pp]
  refine T_iload_n (pc' := 138) d_Tb_init_137 rfl rfl rfl ?_
  refine T_iconst (v := 2) (pc' := 139) d_Tb_init_138 rfl (by decide) ?_
  refine T_icmp_ge (pc' := 142) (tgt := 161) d_Tb_init_139 rfl (by decide) (fun hzz => absurd hzz (by decide)) (fun _ => ?_)
  refine T_aload_n (pc' := 143) d_Tb_init_142 rfl rfl rfl ?_
  refine T_get (pc' := 146) d_Tb_init_143 rfl g_Tb_45 e_put_s rfl ?_
  refine T_iload_n (pc' := 147) d_Tb_init_146 rfl rfl rfl ?_
  refine T_new1 (m := 58) (pc' := 150) d_Tb_init_147 rfl kc_Im cl_Tb_43 in_Im it_Im df_Im n12.1 (by omega) (fun K13 n13 => ?_)
  refine T_dup (pc' := 151) d_Tb_init_150 rfl rfl ?_
  refine T_I0v (pc' := 154) d_Tb_init_151 rfl l_Tb_81 v_Im_init (Nat.le_of_ble_eq_true rfl) (c_Im_init X _ K13 58 _ (by decide) n13.1 n13.2.1) (fun H13 hq => ?_)
  obtain ⟨iz13, m13, g13⟩ := hq
  have f12 : ∀ k, 1 ≤ k → k < 58 → H13.2 k = K12.2 k := fun k q1 q2 => (g13 k (by omega)).trans ((n13.2.2 k (by omega)).trans (e_put_n (by omega)))
  have b13 := (g13 0 (by omega)).trans ((n13.2.2 0 (by omega)).trans e_put_s)
  have i13 : H13.2 30 = some (.inr (.inl (4, 2, fun _ => none))) := (f12 30 (by omega) (by omega)).trans ((f11 30 (by omega) (by omega)).trans ((f10 30 (by omega) (by omega)).trans ((f9 30 (by omega) (by omega)).trans ((f8 30 (by omega) (by omega)).trans ((f7 30 (by omega) (by omega)).trans n7.2.1)))))
  refine T_aastoreL 0 (pc' := 155) d_Tb_init_154 rfl i13 (Or.inr ⟨rfl, rfl⟩) (by decide) iz13.1 ?_
  refine T_ii1 (c := 1) (pc' := 158) d_Tb_init_155 rfl (by decide) (Nat.le_of_ble_eq_true rfl) rfl ?_
  refine T_goto (pc' := 137) d_Tb_init_158 (by decide) ?_
  refine T_iload_n (pc' := 138) d_Tb_init_137 rfl rfl rfl ?_
  refine T_iconst (v := 2) (pc' := 139) d_Tb_init_138 rfl (by decide) ?_
  refine T_icmp_ge (pc' := 142) (tgt := 161) d_Tb_init_139 rfl (by decide) (fun hzz => absurd hzz (by decide)) (fun _ => ?_)
  refine T_aload_n (pc' := 143) d_Tb_init_142 rfl rfl rfl ?_
  refine T_get (pc' := 146) d_Tb_init_143 rfl g_Tb_45 ((e_put_n (by decide)).trans b13) rfl ?_
  refine T_iload_n (pc' := 147) d_Tb_init_146 rfl rfl rfl ?_
  refine T_new1 (m := 72) (pc' := 150) d_Tb_init_147 rfl kc_Im cl_Tb_43 in_Im it_Im df_Im m13 (by omega) (fun K14 n14 => ?_)
  refine T_dup (pc' := 151) d_Tb_init_150 rfl rfl ?_
  refine T_I0v (pc' := 154) d_Tb_init_151 rfl l_Tb_81 v_Im_init (Nat.le_of_ble_eq_true rfl) (c_Im_init X _ K14 72 _ (by decide) n14.1 n14.2.1) (fun H14 hq => ?_)
  obtain ⟨iz14, m14, g14⟩ := hq
  have f13 : ∀ k, k < 72 → k ≠ 30 → H14.2 k = H13.2 k := fun k q1 q2 => (g14 k (by omega)).trans ((n14.2.2 k (by omega)).trans (e_put_n q2))
  have i14 := (g14 30 (by omega)).trans ((n14.2.2 30 (by omega)).trans e_put_s)
  refine T_aastoreL 1 (pc' := 155) d_Tb_init_154 rfl i14 (Or.inr ⟨rfl, rfl⟩) (by decide) iz14.1 ?_
  refine T_ii1 (c := 1) (pc' := 158) d_Tb_init_155 rfl (by decide) (Nat.le_of_ble_eq_true rfl) rfl ?_
  refine T_goto (pc' := 137) d_Tb_init_158 (by decide) ?_
  refine T_iload_n (pc' := 138) d_Tb_init_137 rfl rfl rfl ?_
  refine T_iconst (v := 2) (pc' := 139) d_Tb_init_138 rfl (by decide) ?_
  refine T_icmp_ge (pc' := 142) (tgt := 161) d_Tb_init_139 rfl (by decide) (fun _ => ?_) (fun hzz => absurd (by decide) hzz)
  have x14 : ∀ k, k ≠ 30 → (e_put H14 30 (.inr (.inl (4, 2, e_upr (e_upr (fun _ => none) 0 58) 1 72)))).2 k = H14.2 k := fun k q => e_put_n q
  have x30 : (e_put H14 30 (.inr (.inl (4, 2, e_upr (e_upr (fun _ => none) 0 58) 1 72)))).2 30 = some (.inr (.inl (4, 2, e_upr (e_upr (fun _ => none) 0 58) 1 72))) := e_put_s
  have xs : (e_put H14 30 (.inr (.inl (4, 2, e_upr (e_upr (fun _ => none) 0 58) 1 72)))).1 = H14.1 := rfl
  generalize e_put H14 30 (.inr (.inl (4, 2, e_upr (e_upr (fun _ => none) 0 58) 1 72))) = Z at x14 x30 xs ⊢
  have y13 : ∀ k, k < 72 → k ≠ 30 → Z.2 k = H13.2 k := fun k q1 q2 => (x14 k q2).trans (f13 k q1 q2)
  have y12 : ∀ k, 1 ≤ k → k < 58 → k ≠ 30 → Z.2 k = K12.2 k := fun k q0 q1 q2 => (y13 k (by omega) q2).trans (f12 k q0 q1)
  have y11 : ∀ k, 1 ≤ k → k < 57 → k ≠ 30 → Z.2 k = H11.2 k := fun k q0 q1 q2 => (y12 k q0 (by omega) q2).trans (f11 k q0 q1)
  have y10 : ∀ k, 1 ≤ k → k < 53 → k ≠ 30 → Z.2 k = H10.2 k := fun k q0 q1 q2 => (y11 k q0 (by omega) q2).trans (f10 k q0 q1)
  have y9 : ∀ k, 1 ≤ k → k < 49 → k ≠ 30 → Z.2 k = H9.2 k := fun k q0 q1 q2 => (y10 k q0 (by omega) q2).trans (f9 k q0 q1)
  have y8 : ∀ k, 1 ≤ k → k < 46 → k ≠ 30 → Z.2 k = H8.2 k := fun k q0 q1 q2 => (y9 k q0 (by omega) q2).trans (f8 k q0 q1)
  have y7 : ∀ k, 1 ≤ k → k < 31 → k ≠ 30 → Z.2 k = K7.2 k := fun k q0 q1 q2 => (y8 k q0 (by omega) q2).trans (f7 k q0 q1)
  have y6 : ∀ k, 1 ≤ k → k < 30 → k ≠ 30 → Z.2 k = H6.2 k := fun k q0 q1 q2 => (y7 k q0 (by omega) q2).trans (f6 k q0 q1)
  have y5 : ∀ k, 1 ≤ k → k < 18 → k ≠ 30 → Z.2 k = H5.2 k := fun k q0 q1 q2 => (y6 k q0 (by omega) q2).trans (f5 k q0 q1)
  have y4 : ∀ k, 1 ≤ k → k < 17 → k ≠ 30 → Z.2 k = H4.2 k := fun k q0 q1 q2 => (y5 k q0 (by omega) q2).trans (f4 k q0 q1)
  have y3 : ∀ k, 1 ≤ k → k < 16 → k ≠ 30 → Z.2 k = H3.2 k := fun k q0 q1 q2 => (y4 k q0 (by omega) q2).trans (f3 k q0 q1)
  have y2 : ∀ k, 1 ≤ k → k < 10 → k ≠ 30 → Z.2 k = H2.2 k := fun k q0 q1 q2 => (y3 k q0 (by omega) q2).trans (f2 k q0 q1)
  have y1 : ∀ k, 1 ≤ k → k < 4 → k ≠ 30 → Z.2 k = H1.2 k := fun k q0 q1 q2 => (y2 k q0 (by omega) q2).trans (f1 k q0 q1)
  have z0 : Z.2 0 = some (oTb 0) := (y13 0 (by omega) (by omega)).trans b13
  have ztr := TR_ag (fun k q1 q2 => y2 k (by omega) (by omega) (by omega)) tr2
  have ztr3 := TR_ag (fun k q1 q2 => y3 k (by omega) (by omega) (by omega)) tr3
  have z16 := (y4 16 (by omega) (by omega) (by omega)).trans c4
  have z17 := (y5 17 (by omega) (by omega) (by omega)).trans c5
  have zhr := HR_ag (fun k q1 q2 => y6 k (by omega) (by omega) (by omega)) hr6
  have zsr := SR_ag (fun k q1 q2 => y8 k (by omega) (by omega) (by omega)) sr8
  have zor := OR_ag (fun k q1 q2 => y9 k (by omega) (by omega) (by omega)) or9
  have zr10 := RR_ag (fun k q1 q2 => y10 k (by omega) (by omega) (by omega)) rr10
  have zr11 := RR_ag (fun k q1 q2 => y11 k (by omega) (by omega) (by omega)) rr11
  have z57 := (y12 57 (by omega) (by omega) (by omega)).trans n12.2.1
  have ziz13 := IZ_ag (fun k q1 q2 => y13 k (by omega) (by omega)) iz13
  have ziz14 := IZ_ag (fun k q1 q2 => x14 k (by omega)) iz14
  have zxr := XR_ag (fun k q1 q2 => y1 k (by omega) (by omega) (by omega)) xr
  have z18 : Z.2 18 = some (oHi 19 0) := by
    obtain ⟨ρ, q, -⟩ := id zhr
    exact q
  clear y1 y2 y3 y4 y5 y6 y7 y8 y9 y10 y11 y12 y13 f1 f2 f3 f4 f5 f6 f7 f8 f9 f10 f11 f12 f13
  refine T_aload_n (pc' := 162) d_Tb_init_161 rfl rfl rfl ?_
  refine T_V0v (pc' := 165) d_Tb_init_162 rfl l_Tb_82 v_Tb_startAnew (by first | assumption | exact e_put_s | simp [e_put, *]) (Nat.le_of_ble_eq_true rfl) (c_startAnew X _ Z 0 _ _ _ _ _ _ _ _ _ _ _ _ _ _ _ _ _ _ _ _ _ _ z0 ztr z16 isFl_0 z18 zr10 zr11 x30 rfl rfl ziz13.1 ziz14.1) (fun W hq => ?_)
  obtain ⟨w16, w18, w49, w53, w58, w72, w1, wo⟩ := hq
  refine T_vret d_Tb_init_165 rfl ?_
  refine ⟨rfl, ⟨(wo 0 (by decide) (by decide) (by decide) (by decide) (by decide)).trans z0, XR_ag (fun k q1 q2 => wo k (by omega) (by omega) (by omega) (by omega) (by omega)) zxr, ⟨_, TR_ag (fun k q1 q2 => wo k (by omega) (by omega) (by omega) (by omega) (by omega)) ztr⟩, ⟨_, _, _, _, _, _, _, _, _, TR_ag (fun k q1 q2 => wo k (by omega) (by omega) (by omega) (by omega) (by omega)) ztr3⟩, ⟨_, w16, FC_start _ _ _⟩, ⟨_, (wo 17 (by decide) (by decide) (by decide) (by decide) (by decide)).trans z17, isFl_0⟩, HR_any (HR_ag (fun k q1 q2 => ?_) zhr), ⟨_, (wo 30 (by decide) (by decide) (by decide) (by decide) (by decide)).trans x30, rfl, rfl⟩, SR_ag (fun k q1 q2 => wo k (by omega) (by omega) (by omega) (by omega) (by omega)) zsr, OR_ag (fun k q1 q2 => wo k (by omega) (by omega) (by omega) (by omega) (by omega)) zor, w49, ⟨_, w53⟩, ⟨_, (wo 57 (by decide) (by decide) (by decide) (by decide) (by decide)).trans z57⟩, IZ_IR (IZ_ag (fun k q1 q2 => ?_) ziz13), IZ_IR (IZ_ag (fun k q1 q2 => ?_) ziz14)⟩, ?_⟩
  · by_cases e : k = 18
    · rw [e]; exact w18.trans z18.symm
    · exact wo k (by omega) e (by omega) (by omega) (by omega)
  · by_cases e : k = 58
    · rw [e]; exact w58.trans ziz13.1.symm
    · exact wo k (by omega) (by omega) (by omega) e (by omega)
  · by_cases e : k = 72
    · rw [e]; exact w72.trans ziz14.1.symm
    · exact wo k (by omega) (by omega) (by omega) (by omega) e
  · rw [w1, xs, m14]
    exact Prod.ext rfl (by show s + 8 + 123 + 9 + 24 + 9 + 24 + 9 + 9 + 2 + 100 + 2 + 7 + 113 + 3 + 82 + 4 + 18 + 4 + 18 + 10 + 3 + 111 + 3 + 111 = s + 806; omega)
theorem SI_00 : SI s00 := by
  refine ⟨⟨by decide, by decide, by decide, by decide, by decide, by decide, by decide, by decide, fun _ => by decide, fun _ => by decide⟩, ⟨rfl, fun i _ => ⟨3, by decide, by show (0 : Int32) = nI 3 - 3; decide⟩⟩, GI_start 0 0 (fun _ => 0) (c := 20) (b := 0) (by decide) (by decide), fun i hi => absurd (show i < 0 from hi) (by omega), fun z => absurd (show (0 : Nat) = 1 from z) (by decide), fun z => absurd (show (0 : Nat) = 1 from z) (by decide), fun i hi => absurd (show i < 0 from hi) (by omega), ⟨20, by decide, rfl⟩, fun i hi => absurd (show i < 0 from hi) (by omega)⟩
end INIT3
