def bi (b : Bool) : Int32 := if b = true then 1 else 0
theorem pow_16 {m : Nat} (hm : m ≤ 4) : 2 ^ m ≤ 16 := by
  have : m = 0 ∨ m = 1 ∨ m = 2 ∨ m = 3 ∨ m = 4 := by omega
  rcases this with rfl | rfl | rfl | rfl | rfl <;> decide
section MPUB4
variable (X : EX) (d : Nat) (h : AH) (σ : Sp)
theorem l_Mo_cov1 (n m : Nat) (wi we br li fa : Nat → Int32) (hn : n ≤ 3) (hm : m ≤ 4) (mt : MT h n m wi we br li fa) (found set : Int32) (b0 : Bool) (Q : Option Value → AH → Prop) (hk : T X (d + 1) M_Mo_cover 81 [.ref 86, .int found, .int set, .int (bi (b0 && sCovB li we m set n)), .int (nI n)] [] h Q) : ∀ (k i : Nat), i + k = n → T X (d + 1) M_Mo_cover 43 [.ref 86, .int found, .int set, .int (bi (b0 && sCovB li we m set i)), .int (nI i)] [] h Q
  | 0, i, hi => by
    have : i = n := by omega
    subst this
    obtain ⟨⟨sc, tc, h0⟩, -, ⟨f2, h2, e2⟩, -⟩ := id mt
    refine T_iload (pc' := 45) d_Mo_cover_43 rfl rfl ?_
    refine T_aload_n (pc' := 46) d_Mo_cover_45 rfl rfl rfl ?_
    refine T_get (pc' := 49) d_Mo_cover_46 rfl g_Mo_17 (by first | assumption | exact e_put_s | simp [e_put, *]) rfl ?_
    refine T_iconst (v := 0) (pc' := 50) d_Mo_cover_49 rfl (by decide) ?_
    refine T_ialoadL 0 (pc' := 51) d_Mo_cover_50 rfl (by first | assumption | exact e_put_s | simp [e_put, *]) (by decide) ?_
    rw [e2]
    refine T_icmp_ge (pc' := 54) (tgt := 81) d_Mo_cover_51 rfl (by decide) (fun _ => ?_) (fun hzz => absurd (Int32.le_refl _) hzz)
    exact hk
  | k + 1, i, hi => by
    have ih := l_Mo_cov1 n m wi we br li fa hn hm mt found set b0 Q hk k (i + 1) (by omega)
    obtain ⟨⟨sc, tc, h0⟩, -, ⟨f2, h2, e2⟩, -⟩ := id mt
    refine T_iload (pc' := 45) d_Mo_cover_43 rfl rfl ?_
    refine T_aload_n (pc' := 46) d_Mo_cover_45 rfl rfl rfl ?_
    refine T_get (pc' := 49) d_Mo_cover_46 rfl g_Mo_17 (by first | assumption | exact e_put_s | simp [e_put, *]) rfl ?_
    refine T_iconst (v := 0) (pc' := 50) d_Mo_cover_49 rfl (by decide) ?_
    refine T_ialoadL 0 (pc' := 51) d_Mo_cover_50 rfl (by first | assumption | exact e_put_s | simp [e_put, *]) (by decide) ?_
    rw [e2]
    refine T_icmp_ge (pc' := 54) (tgt := 81) d_Mo_cover_51 rfl (by decide) (fun hzz => absurd hzz (nI_ge (by omega) (by omega))) (fun _ => ?_)
    have fin : ∀ v : Int32, v = bi (b0 && sCovB li we m set (i + 1)) → T X (d + 1) M_Mo_cover 74 [.ref 86, .int found, .int set, .int (bi (b0 && sCovB li we m set i)), .int (nI i)] [.int v] h Q := by
      intro v hv
      subst hv
      refine T_is_n3 (pc' := 75) d_Mo_cover_74 rfl rfl (Nat.le_of_ble_eq_true rfl) rfl ?_
      refine T_ii4 (c := 1) (pc' := 78) d_Mo_cover_75 rfl (by decide) (Nat.le_of_ble_eq_true rfl) rfl ?_
      rw [nI_1]
      refine T_goto (pc' := 43) d_Mo_cover_78 (by decide) ?_
      exact ih
    refine T_iload_n (pc' := 55) d_Mo_cover_54 rfl rfl rfl ?_
    by_cases hb : (b0 && sCovB li we m set i) = true
    · refine T_if_eq (pc' := 58) (tgt := 73) d_Mo_cover_55 rfl (by decide) (fun hzz => absurd hzz (by rw [hb]; decide)) (fun _ => ?_)
      refine T_aload_n (pc' := 59) d_Mo_cover_58 rfl rfl rfl ?_
      refine T_iload (pc' := 61) d_Mo_cover_59 rfl rfl ?_
      refine T_V1i (pc' := 64) d_Mo_cover_61 rfl l_Mo_155 v_Mo_liftsOf (by first | assumption | exact e_put_s | simp [e_put, *]) (Nat.le_of_ble_eq_true rfl) (c_Mo_liftsOf X d h n m wi we br li fa i (by omega) hn hm mt) (fun v h9 hq => ?_)
      obtain ⟨rfl, rfl⟩ := hq
      refine T_iload_n (pc' := 65) d_Mo_cover_64 rfl rfl rfl ?_
      refine T_iand (pc' := 66) d_Mo_cover_65 rfl ?_
      have hb' := hb
      rw [Bool.and_eq_true] at hb'
      by_cases hz : sLi li (we i) m &&& set = 0
      · refine T_if_eq (pc' := 69) (tgt := 73) d_Mo_cover_66 rfl (by decide) (fun _ => ?_) (fun hzz => absurd hz hzz)
        refine T_iconst (v := 0) (pc' := 74) d_Mo_cover_73 rfl (by decide) ?_
        exact fin 0 (by rw [sCovB, hz, hb'.1, hb'.2]; rfl)
      · refine T_if_eq (pc' := 69) (tgt := 73) d_Mo_cover_66 rfl (by decide) (fun hzz => absurd hzz hz) (fun _ => ?_)
        refine T_iconst (v := 1) (pc' := 70) d_Mo_cover_69 rfl (by decide) ?_
        refine T_goto (pc' := 74) d_Mo_cover_70 (by decide) ?_
        refine fin 1 ?_
        have hz' : (sLi li (we i) m &&& set == 0) = false := by simpa using hz
        rw [sCovB, hz', hb'.1, hb'.2]; rfl
    · refine T_if_eq (pc' := 58) (tgt := 73) d_Mo_cover_55 rfl (by decide) (fun _ => ?_) (fun hzz => absurd (by rw [Bool.not_eq_true] at hb; rw [hb]; rfl) hzz)
      refine T_iconst (v := 0) (pc' := 74) d_Mo_cover_73 rfl (by decide) ?_
      refine fin 0 ?_
      rw [Bool.not_eq_true] at hb
      rw [sCovB, ← Bool.and_assoc, hb]; rfl
theorem l_Mo_cover (n m : Nat) (wi we br li fa : Nat → Int32) (hn : n ≤ 3) (hm : m ≤ 4) (mt : MT h n m wi we br li fa) (Q : Option Value → AH → Prop) (hQ : Q (some (.int (sCv li we n m (2 ^ m)))) h) : ∀ (k i : Nat), i + k = 2 ^ m → T X (d + 1) M_Mo_cover 5 [.ref 86, .int (sCv li we n m i), .int (nI i), .null, .null] [] h Q
  | 0, i, hi => by
    have : i = 2 ^ m := by omega
    subst this
    obtain ⟨⟨sc, tc, h0⟩, -, -, -, -, ⟨f5, h5, e5⟩, -⟩ := id mt
    refine T_iload_n (pc' := 6) d_Mo_cover_5 rfl rfl rfl ?_
    refine T_iconst (v := 1) (pc' := 7) d_Mo_cover_6 rfl (by decide) ?_
    refine T_aload_n (pc' := 8) d_Mo_cover_7 rfl rfl rfl ?_
    refine T_get (pc' := 11) d_Mo_cover_8 rfl g_Mo_29 (by first | assumption | exact e_put_s | simp [e_put, *]) rfl ?_
    refine T_iconst (v := 0) (pc' := 12) d_Mo_cover_11 rfl (by decide) ?_
    refine T_ialoadL 0 (pc' := 13) d_Mo_cover_12 rfl (by first | assumption | exact e_put_s | simp [e_put, *]) (by decide) ?_
    rw [e5]
    refine T_ishl (pc' := 14) d_Mo_cover_13 rfl ?_
    rw [s_shl m (by omega)]
    refine T_icmp_ge (pc' := 17) (tgt := 97) d_Mo_cover_14 rfl (by decide) (fun _ => ?_) (fun hzz => absurd (Int32.le_refl _) hzz)
    refine T_iload_n (pc' := 98) d_Mo_cover_97 rfl rfl rfl ?_
    refine T_iret d_Mo_cover_98 rfl ?_
    exact hQ
  | k + 1, i, hi => by
    have ih := l_Mo_cover n m wi we br li fa hn hm mt Q hQ k (i + 1) (by omega)
    have h16 := pow_16 hm
    obtain ⟨⟨sc, tc, h0⟩, -, -, -, -, ⟨f5, h5, e5⟩, -⟩ := id mt
    refine T_iload_n (pc' := 6) d_Mo_cover_5 rfl rfl rfl ?_
    refine T_iconst (v := 1) (pc' := 7) d_Mo_cover_6 rfl (by decide) ?_
    refine T_aload_n (pc' := 8) d_Mo_cover_7 rfl rfl rfl ?_
    refine T_get (pc' := 11) d_Mo_cover_8 rfl g_Mo_29 (by first | assumption | exact e_put_s | simp [e_put, *]) rfl ?_
    refine T_iconst (v := 0) (pc' := 12) d_Mo_cover_11 rfl (by decide) ?_
    refine T_ialoadL 0 (pc' := 13) d_Mo_cover_12 rfl (by first | assumption | exact e_put_s | simp [e_put, *]) (by decide) ?_
    rw [e5]
    refine T_ishl (pc' := 14) d_Mo_cover_13 rfl ?_
    rw [s_shl m (by omega)]
    refine T_icmp_ge (pc' := 17) (tgt := 97) d_Mo_cover_14 rfl (by decide) (fun hzz => absurd hzz (nI_ge (by omega) (by omega))) (fun _ => ?_)
    have fin : ∀ b0 : Bool, (b0 = true ↔ (sCv li we n m i = -9 ∨ sBO (nI i) < sBO (sCv li we n m i))) → T X (d + 1) M_Mo_cover 39 [.ref 86, .int (sCv li we n m i), .int (nI i), .null, .null] [.int (bi b0)] h Q := by
      intro b0 hb0
      refine T_is_n3 (pc' := 40) d_Mo_cover_39 rfl rfl (Nat.le_of_ble_eq_true rfl) rfl ?_
      refine T_iconst (v := 0) (pc' := 41) d_Mo_cover_40 rfl (by decide) ?_
      refine T_is4 (pc' := 43) d_Mo_cover_41 rfl (Nat.le_of_ble_eq_true rfl) rfl ?_
      have e0 : bi b0 = bi (b0 && sCovB li we m (nI i) 0) := by rw [sCovB, Bool.and_true]
      rw [e0]
      refine l_Mo_cov1 X d h n m wi we br li fa hn hm mt _ _ b0 Q ?_ n 0 (by omega)
      refine T_iload_n (pc' := 82) d_Mo_cover_81 rfl rfl rfl ?_
      by_cases hb : (b0 && sCovB li we m (nI i) n) = true
      · refine T_if_eq (pc' := 85) (tgt := 89) d_Mo_cover_82 rfl (by decide) (fun hzz => absurd hzz (by rw [hb]; decide)) (fun _ => ?_)
        refine T_iload_n (pc' := 86) d_Mo_cover_85 rfl rfl rfl ?_
        refine T_goto (pc' := 90) d_Mo_cover_86 (by decide) ?_
        refine T_is_n1 (pc' := 91) d_Mo_cover_90 rfl rfl (Nat.le_of_ble_eq_true rfl) rfl ?_
        refine T_ii2 (c := 1) (pc' := 94) d_Mo_cover_91 rfl (by decide) (Nat.le_of_ble_eq_true rfl) rfl ?_
        rw [nI_1]
        refine T_goto (pc' := 5) d_Mo_cover_94 (by decide) ?_
        rw [Bool.and_eq_true] at hb
        have e1 : sCv li we n m (i + 1) = nI i := by rw [sCv, if_pos ⟨hb.2, hb0.mp hb.1⟩]
        rw [e1] at ih
        exact T_fg (by simp [e_le]) ih
      · refine T_if_eq (pc' := 85) (tgt := 89) d_Mo_cover_82 rfl (by decide) (fun _ => ?_) (fun hzz => absurd (by rw [Bool.not_eq_true] at hb; rw [hb]; rfl) hzz)
        refine T_iload_n (pc' := 90) d_Mo_cover_89 rfl rfl rfl ?_
        refine T_is_n1 (pc' := 91) d_Mo_cover_90 rfl rfl (Nat.le_of_ble_eq_true rfl) rfl ?_
        refine T_ii2 (c := 1) (pc' := 94) d_Mo_cover_91 rfl (by decide) (Nat.le_of_ble_eq_true rfl) rfl ?_
        rw [nI_1]
        refine T_goto (pc' := 5) d_Mo_cover_94 (by decide) ?_
        have e1 : sCv li we n m (i + 1) = sCv li we n m i := by
          rw [sCv, if_neg]
          rintro ⟨q1, q2⟩
          exact hb (by rw [Bool.and_eq_true]; exact ⟨hb0.mpr q2, q1⟩)
        rw [e1] at ih
        exact T_fg (by simp [e_le]) ih
    refine T_iload_n (pc' := 18) d_Mo_cover_17 rfl rfl rfl ?_
    refine T_bipush (v := (-9)) (pc' := 20) d_Mo_cover_18 rfl (by decide) ?_
    by_cases h9 : sCv li we n m i = -9
    · refine T_icmp_eq (pc' := 23) (tgt := 34) d_Mo_cover_20 rfl (by decide) (fun _ => ?_) (fun hzz => absurd h9 hzz)
      refine T_iconst (v := 1) (pc' := 35) d_Mo_cover_34 rfl (by decide) ?_
      refine T_goto (pc' := 39) d_Mo_cover_35 (by decide) ?_
      exact fin true ⟨fun _ => Or.inl h9, fun _ => rfl⟩
    · refine T_icmp_eq (pc' := 23) (tgt := 34) d_Mo_cover_20 rfl (by decide) (fun hzz => absurd hzz h9) (fun _ => ?_)
      refine T_iload_n (pc' := 24) d_Mo_cover_23 rfl rfl rfl ?_
      refine T_S1i (pc' := 27) d_Mo_cover_24 rfl l_Mo_181 v_Mo_bitsOf (Nat.le_of_ble_eq_true rfl) (c_Mo_bitsOf X d h (nI i)) (fun v h9' hq => ?_)
      obtain ⟨rfl, rfl⟩ := hq
      refine T_iload_n (pc' := 28) d_Mo_cover_27 rfl rfl rfl ?_
      refine T_S1i (pc' := 31) d_Mo_cover_28 rfl l_Mo_181 v_Mo_bitsOf (Nat.le_of_ble_eq_true rfl) (c_Mo_bitsOf X d h9' (sCv li we n m i)) (fun v h10 hq => ?_)
      obtain ⟨rfl, rfl⟩ := hq
      by_cases hl : sBO (nI i) < sBO (sCv li we n m i)
      · refine T_icmp_ge (pc' := 34) (tgt := 38) d_Mo_cover_31 rfl (by decide) (fun hzz => absurd hzz (Int32.not_le.mpr hl)) (fun _ => ?_)
        refine T_iconst (v := 1) (pc' := 35) d_Mo_cover_34 rfl (by decide) ?_
        refine T_goto (pc' := 39) d_Mo_cover_35 (by decide) ?_
        exact fin true ⟨fun _ => Or.inr hl, fun _ => rfl⟩
      · refine T_icmp_ge (pc' := 34) (tgt := 38) d_Mo_cover_31 rfl (by decide) (fun _ => ?_) (fun hzz => absurd (Int32.not_lt.mp hl) hzz)
        refine T_iconst (v := 0) (pc' := 39) d_Mo_cover_38 rfl (by decide) ?_
        exact fin false ⟨fun q => absurd q (by decide), fun q => q.elim (fun q => absurd q h9) (fun q => absurd q hl)⟩
theorem c_Mo_cover (n m : Nat) (wi we br li fa : Nat → Int32) (hn : n ≤ 3) (hm : m ≤ 4) (mt : MT h n m wi we br li fa) : Ci X (d + 1) M_Mo_cover [.ref 86] h (fun v h1 => h1 = h ∧ v = sCv li we n m (2 ^ m)) := by
  refine C_of_T rfl rfl (Nat.le_of_ble_eq_true rfl) rfl ?_
  refine T_bipush (v := (-9)) (pc' := 2) d_Mo_cover_0 rfl (by decide) ?_
  refine T_is_n1 (pc' := 3) d_Mo_cover_2 rfl rfl (Nat.le_of_ble_eq_true rfl) rfl ?_
  refine T_iconst (v := 0) (pc' := 4) d_Mo_cover_3 rfl (by decide) ?_
  refine T_is_n2 (pc' := 5) d_Mo_cover_4 rfl rfl (Nat.le_of_ble_eq_true rfl) rfl ?_
  exact l_Mo_cover X d h n m wi we br li fa hn hm mt _ ⟨_, rfl, rfl, rfl⟩ (2 ^ m) 0 (by omega)
theorem p_Mo_now (w : Int32) (mi : MI h σ) (si : SI σ) : Ci X (d + 20) M_Mo_now [.ref 86, .int w] h (fun v h1 => v = q_now σ w ∧ MI h1 σ ∧ Fr 86 109 h h1) := by
  have hn := si.1.2.1
  have hm := si.1.2.2.1
  have hg := si.2.2.1
  have mt := mi.2.2.1
  have r5 := mi.2.2.2.2.2.1
  obtain ⟨sc, r0, -⟩ := mi.1
  refine C_of_T rfl rfl (Nat.le_of_ble_eq_true rfl) rfl ?_
  refine T_iload_n (pc' := 1) d_Mo_now_0 rfl rfl rfl ?_
  refine sw_Mo_now_1 (fun hx => ?_) (fun hx => ?_) (fun hx => ?_) (fun hx => ?_) (fun hx => ?_) (fun hx => ?_) (fun hx => ?_) (fun hx => ?_) (fun hx => ?_) (fun x0 x1 x2 x3 x4 x5 x6 x7 x8 => ?_)
  · subst hx
    refine T_aload_n (pc' := 53) d_Mo_now_52 rfl rfl rfl ?_
    refine T_get (pc' := 56) d_Mo_now_53 rfl g_Mo_41 (by first | assumption | exact e_put_s | simp [e_put, *]) rfl ?_
    refine T_iload_n (pc' := 57) d_Mo_now_56 rfl rfl rfl ?_
    refine T_iaload (pc' := 58) d_Mo_now_57 rfl (by first | assumption | exact e_put_s | simp [e_put, *]) (by first | assumption | exact in_dec rfl) ?_
    refine T_iret d_Mo_now_58 rfl ?_
    exact ⟨_, rfl, rfl, mi, Fr.rf⟩
  · subst hx
    refine T_aload_n (pc' := 53) d_Mo_now_52 rfl rfl rfl ?_
    refine T_get (pc' := 56) d_Mo_now_53 rfl g_Mo_41 (by first | assumption | exact e_put_s | simp [e_put, *]) rfl ?_
    refine T_iload_n (pc' := 57) d_Mo_now_56 rfl rfl rfl ?_
    refine T_iaload (pc' := 58) d_Mo_now_57 rfl (by first | assumption | exact e_put_s | simp [e_put, *]) (by first | assumption | exact in_dec rfl) ?_
    refine T_iret d_Mo_now_58 rfl ?_
    exact ⟨_, rfl, rfl, mi, Fr.rf⟩
  · subst hx
    refine T_aload_n (pc' := 53) d_Mo_now_52 rfl rfl rfl ?_
    refine T_get (pc' := 56) d_Mo_now_53 rfl g_Mo_41 (by first | assumption | exact e_put_s | simp [e_put, *]) rfl ?_
    refine T_iload_n (pc' := 57) d_Mo_now_56 rfl rfl rfl ?_
    refine T_iaload (pc' := 58) d_Mo_now_57 rfl (by first | assumption | exact e_put_s | simp [e_put, *]) (by first | assumption | exact in_dec rfl) ?_
    refine T_iret d_Mo_now_58 rfl ?_
    exact ⟨_, rfl, rfl, mi, Fr.rf⟩
  · subst hx
    refine T_aload_n (pc' := 53) d_Mo_now_52 rfl rfl rfl ?_
    refine T_get (pc' := 56) d_Mo_now_53 rfl g_Mo_41 (by first | assumption | exact e_put_s | simp [e_put, *]) rfl ?_
    refine T_iload_n (pc' := 57) d_Mo_now_56 rfl rfl rfl ?_
    refine T_iaload (pc' := 58) d_Mo_now_57 rfl (by first | assumption | exact e_put_s | simp [e_put, *]) (by first | assumption | exact in_dec rfl) ?_
    refine T_iret d_Mo_now_58 rfl ?_
    exact ⟨_, rfl, rfl, mi, Fr.rf⟩
  · subst hx
    refine T_aload_n (pc' := 53) d_Mo_now_52 rfl rfl rfl ?_
    refine T_get (pc' := 56) d_Mo_now_53 rfl g_Mo_41 (by first | assumption | exact e_put_s | simp [e_put, *]) rfl ?_
    refine T_iload_n (pc' := 57) d_Mo_now_56 rfl rfl rfl ?_
    refine T_iaload (pc' := 58) d_Mo_now_57 rfl (by first | assumption | exact e_put_s | simp [e_put, *]) (by first | assumption | exact in_dec rfl) ?_
    refine T_iret d_Mo_now_58 rfl ?_
    exact ⟨_, rfl, rfl, mi, Fr.rf⟩
  · subst hx
    refine T_aload_n (pc' := 60) d_Mo_now_59 rfl rfl rfl ?_
    refine T_aload_n (pc' := 61) d_Mo_now_60 rfl rfl rfl ?_
    refine T_get (pc' := 64) d_Mo_now_61 rfl g_Mo_41 (by first | assumption | exact e_put_s | simp [e_put, *]) rfl ?_
    refine T_V1i (pc' := 67) d_Mo_now_64 rfl l_Mo_144 v_Mo_hold (by first | assumption | exact e_put_s | simp [e_put, *]) (Nat.le_of_ble_eq_true rfl) (c_Mo_hold X _ h _ _ _ _ _ _ _ 97 _ hn hm mt r5 hg.2.2.1) (fun v h1 hq => ?_)
    obtain ⟨rfl, rfl⟩ := hq
    refine T_iret d_Mo_now_67 rfl ?_
    exact ⟨_, rfl, rfl, mi, Fr.rf⟩
  · subst hx
    refine T_aload_n (pc' := 69) d_Mo_now_68 rfl rfl rfl ?_
    refine T_aload_n (pc' := 70) d_Mo_now_69 rfl rfl rfl ?_
    refine T_get (pc' := 73) d_Mo_now_70 rfl g_Mo_41 (by first | assumption | exact e_put_s | simp [e_put, *]) rfl ?_
    refine T_V1i (pc' := 76) d_Mo_now_73 rfl l_Mo_148 v_Mo_weights (by first | assumption | exact e_put_s | simp [e_put, *]) (Nat.le_of_ble_eq_true rfl) (c_Mo_weights X _ h _ _ _ _ _ _ _ 97 _ hn mt r5) (fun v h1 hq => ?_)
    obtain ⟨rfl, rfl⟩ := hq
    refine T_iret d_Mo_now_76 rfl ?_
    exact ⟨_, rfl, rfl, mi, Fr.rf⟩
  · subst hx
    refine T_aload_n (pc' := 78) d_Mo_now_77 rfl rfl rfl ?_
    refine T_get (pc' := 81) d_Mo_now_78 rfl g_Mo_41 (by first | assumption | exact e_put_s | simp [e_put, *]) rfl ?_
    refine T_bipush (v := 10) (pc' := 83) d_Mo_now_81 rfl (by decide) ?_
    refine T_ialoadL 10 (pc' := 84) d_Mo_now_83 rfl (by first | assumption | exact e_put_s | simp [e_put, *]) (by decide) ?_
    refine T_iret d_Mo_now_84 rfl ?_
    exact ⟨_, rfl, rfl, mi, Fr.rf⟩
  · subst hx
    refine T_aload_n (pc' := 86) d_Mo_now_85 rfl rfl rfl ?_
    refine T_V0i (pc' := 89) d_Mo_now_86 rfl l_Mo_184 v_Mo_cover (by first | assumption | exact e_put_s | simp [e_put, *]) (Nat.le_of_ble_eq_true rfl) (c_Mo_cover X _ h _ _ _ _ _ _ _ hn hm mt) (fun v h1 hq => ?_)
    obtain ⟨rfl, rfl⟩ := hq
    refine T_iret d_Mo_now_89 rfl ?_
    exact ⟨_, rfl, rfl, mi, Fr.rf⟩
  · refine T_iconst (v := (-1)) (pc' := 91) d_Mo_now_90 rfl (by decide) ?_
    refine T_iret d_Mo_now_91 rfl ?_
    exact ⟨_, rfl, by rw [q_now, if_neg x0, if_neg x1, if_neg x2, if_neg x3, if_neg x4, if_neg x5, if_neg x6, if_neg x7, if_neg x8], mi, Fr.rf⟩
theorem l_Mo_take (sc : Nat → Int32) (tc : Int64) (f g : Nat → Int32) (h0 : h.2 86 = some (oMo sc tc)) (hg : h.2 97 = some (.inl (0, 11, g))) (Q : Option Value → AH → Prop) (hQ : Q none (e_put h 102 (.inl (0, 11, sCp g f 11)))) : ∀ (k i : Nat), i + k = 11 → T X d M_Mo_take 2 [.ref 86, .int (nI i)] [] (e_put h 102 (.inl (0, 11, sCp g f i))) Q
  | 0, i, hi => by
    have : i = 11 := by omega
    subst this
    refine T_iload_n (pc' := 3) d_Mo_take_2 rfl rfl rfl ?_
    refine T_bipush (v := 11) (pc' := 5) d_Mo_take_3 rfl (by decide) ?_
    refine T_icmp_ge (pc' := 8) (tgt := 26) d_Mo_take_5 rfl (by decide) (fun _ => ?_) (fun hzz => absurd (by decide) hzz)
    refine T_vret d_Mo_take_26 rfl ?_
    exact hQ
  | k + 1, i, hi => by
    refine T_iload_n (pc' := 3) d_Mo_take_2 rfl rfl rfl ?_
    refine T_bipush (v := 11) (pc' := 5) d_Mo_take_3 rfl (by decide) ?_
    refine T_icmp_ge (pc' := 8) (tgt := 26) d_Mo_take_5 rfl (by decide) (fun hzz => absurd hzz (nI_ge (a := i) (b := 11) (by omega) (by decide))) (fun _ => ?_)
    refine T_aload_n (pc' := 9) d_Mo_take_8 rfl rfl rfl ?_
    refine T_get (pc' := 12) d_Mo_take_9 rfl g_Mo_57 ((e_put_n (by decide)).trans h0) rfl ?_
    refine T_iload_n (pc' := 13) d_Mo_take_12 rfl rfl rfl ?_
    refine T_aload_n (pc' := 14) d_Mo_take_13 rfl rfl rfl ?_
    refine T_get (pc' := 17) d_Mo_take_14 rfl g_Mo_41 ((e_put_n (by decide)).trans h0) rfl ?_
    refine T_iload_n (pc' := 18) d_Mo_take_17 rfl rfl rfl ?_
    refine T_ialoadN i (pc' := 19) d_Mo_take_18 rfl ((e_put_n (by decide)).trans hg) ⟨by omega, by decide⟩ ?_
    refine T_iastoreN i (pc' := 20) d_Mo_take_19 rfl e_put_s ⟨by omega, by decide⟩ ?_
    rw [e_pp, sCp_s]
    refine T_ii1 (c := 1) (pc' := 23) d_Mo_take_20 rfl (by decide) (Nat.le_of_ble_eq_true rfl) rfl ?_
    rw [nI_1]
    refine T_goto (pc' := 2) d_Mo_take_23 (by decide) ?_
    exact l_Mo_take sc tc f g h0 hg Q hQ k (i + 1) (by omega)
/-- the flight, tried: as a row of its own, alike in its eleven numbers -/
theorem c_Mo_take (mi : MI h σ) : Cv X d M_Mo_take [.ref 86] h (fun h1 => ∃ f, h1 = e_put h 102 (.inl (0, 11, sCp (σ.2.1 6) f 11))) := by
  have r5 := mi.2.2.2.2.2.1
  obtain ⟨sc, r0, -⟩ := mi.1
  obtain ⟨f, r10⟩ := mi.2.2.2.2.2.2.2.2.2.2.1
  refine C_of_T rfl rfl (Nat.le_of_ble_eq_true rfl) rfl ?_
  refine T_iconst (v := 0) (pc' := 1) d_Mo_take_0 rfl (by decide) ?_
  refine T_is_n1 (pc' := 2) d_Mo_take_1 rfl rfl (Nat.le_of_ble_eq_true rfl) rfl ?_
  have hs : h = e_put h 102 (.inl (0, 11, sCp (σ.2.1 6) f 0)) := by rw [sCp_0]; exact (e_put_self r10).symm
  rw [hs]
  refine l_Mo_take X d h sc _ f _ r0 r5 _ ⟨rfl, f, ?_⟩ 11 0 rfl
  rw [← hs]
end MPUB4
