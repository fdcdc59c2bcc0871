/-! small things: bounds, bits, Math, Integer.bitCount, Arrays.fill -/
theorem e_pp {h : AH} {a : Nat} {c c' : AC} : e_put (e_put h a c) a c' = e_put h a c' := by
  unfold e_put
  refine congrArg (Prod.mk h.1) (funext fun k => ?_)
  by_cases hk : k = a
  · simp [hk]
  · simp [hk]
section BASE
variable (X : EX) (d : Nat) (h : AH)
theorem c_Tb_within (x lo hi : Int32) : Ci X d M_Tb_within [.int x, .int lo, .int hi] h (fun v h1 => h1 = h ∧ ((lo ≤ x ∧ x ≤ hi) ∧ v = 1 ∨ ¬ (lo ≤ x ∧ x ≤ hi) ∧ v = 0)) := by
  refine C_of_T rfl rfl (Nat.le_of_ble_eq_true rfl) rfl ?_
  refine T_iload_n (pc' := 1) d_Tb_within_0 rfl rfl rfl ?_
  refine T_iload_n (pc' := 2) d_Tb_within_1 rfl rfl rfl ?_
  refine T_icmp_lt (pc' := 5) (tgt := 14) d_Tb_within_2 rfl (by decide) (fun hc => ?_) (fun hc => ?_)
  · refine T_iconst (v := 0) (pc' := 15) d_Tb_within_14 rfl (by decide) ?_
    refine T_zret d_Tb_within_15 rfl (by first | assumption | exact Or.inl rfl | exact Or.inr rfl) ?_
    exact ⟨_, rfl, rfl, Or.inr ⟨fun q => absurd q.1 (Int32.not_le.mpr hc), rfl⟩⟩
  · refine T_iload_n (pc' := 6) d_Tb_within_5 rfl rfl rfl ?_
    refine T_iload_n (pc' := 7) d_Tb_within_6 rfl rfl rfl ?_
    refine T_icmp_gt (pc' := 10) (tgt := 14) d_Tb_within_7 rfl (by decide) (fun hc => ?_) (fun hc => ?_)
    · refine T_iconst (v := 0) (pc' := 15) d_Tb_within_14 rfl (by decide) ?_
      refine T_zret d_Tb_within_15 rfl (by first | assumption | exact Or.inl rfl | exact Or.inr rfl) ?_
      exact ⟨_, rfl, rfl, Or.inr ⟨fun q => absurd q.2 (Int32.not_le.mpr hc), rfl⟩⟩
    · refine T_iconst (v := 1) (pc' := 11) d_Tb_within_10 rfl (by decide) ?_
      refine T_goto (pc' := 15) d_Tb_within_11 (by decide) ?_
      refine T_zret d_Tb_within_15 rfl (by first | assumption | exact Or.inl rfl | exact Or.inr rfl) ?_
      exact ⟨_, rfl, rfl, Or.inl ⟨⟨by simpa using Int32.not_lt.mp ‹_›, Int32.not_lt.mp hc⟩, rfl⟩⟩
theorem c_Mo_in (x lo hi : Int32) : Ci X d M_Mo_in [.int x, .int lo, .int hi] h (fun v h1 => h1 = h ∧ ((lo ≤ x ∧ x ≤ hi) ∧ v = 1 ∨ ¬ (lo ≤ x ∧ x ≤ hi) ∧ v = 0)) := by
  refine C_of_T rfl rfl (Nat.le_of_ble_eq_true rfl) rfl ?_
  refine T_iload_n (pc' := 1) d_Mo_in_0 rfl rfl rfl ?_
  refine T_iload_n (pc' := 2) d_Mo_in_1 rfl rfl rfl ?_
  refine T_icmp_lt (pc' := 5) (tgt := 14) d_Mo_in_2 rfl (by decide) (fun hc => ?_) (fun hc => ?_)
  · refine T_iconst (v := 0) (pc' := 15) d_Mo_in_14 rfl (by decide) ?_
    refine T_zret d_Mo_in_15 rfl (by first | assumption | exact Or.inl rfl | exact Or.inr rfl) ?_
    exact ⟨_, rfl, rfl, Or.inr ⟨fun q => absurd q.1 (Int32.not_le.mpr hc), rfl⟩⟩
  · refine T_iload_n (pc' := 6) d_Mo_in_5 rfl rfl rfl ?_
    refine T_iload_n (pc' := 7) d_Mo_in_6 rfl rfl rfl ?_
    refine T_icmp_gt (pc' := 10) (tgt := 14) d_Mo_in_7 rfl (by decide) (fun hc => ?_) (fun hc => ?_)
    · refine T_iconst (v := 0) (pc' := 15) d_Mo_in_14 rfl (by decide) ?_
      refine T_zret d_Mo_in_15 rfl (by first | assumption | exact Or.inl rfl | exact Or.inr rfl) ?_
      exact ⟨_, rfl, rfl, Or.inr ⟨fun q => absurd q.2 (Int32.not_le.mpr hc), rfl⟩⟩
    · refine T_iconst (v := 1) (pc' := 11) d_Mo_in_10 rfl (by decide) ?_
      refine T_goto (pc' := 15) d_Mo_in_11 (by decide) ?_
      refine T_zret d_Mo_in_15 rfl (by first | assumption | exact Or.inl rfl | exact Or.inr rfl) ?_
      exact ⟨_, rfl, rfl, Or.inl ⟨⟨by simpa using Int32.not_lt.mp ‹_›, Int32.not_lt.mp hc⟩, rfl⟩⟩
/-- bit k of a set -/
abbrev sHas (set k : Int32) : Prop := set >>> (k &&& 31) &&& 1 = 1
theorem c_Mo_has (set k : Int32) : Ci X d M_Mo_has [.int set, .int k] h (fun v h1 => h1 = h ∧ (sHas set k ∧ v = 1 ∨ ¬ sHas set k ∧ v = 0)) := by
  refine C_of_T rfl rfl (Nat.le_of_ble_eq_true rfl) rfl ?_
  refine T_iload_n (pc' := 1) d_Mo_has_0 rfl rfl rfl ?_
  refine T_iload_n (pc' := 2) d_Mo_has_1 rfl rfl rfl ?_
  refine T_ishr (pc' := 3) d_Mo_has_2 rfl ?_
  refine T_iconst (v := 1) (pc' := 4) d_Mo_has_3 rfl (by decide) ?_
  refine T_iand (pc' := 5) d_Mo_has_4 rfl ?_
  refine T_iconst (v := 1) (pc' := 6) d_Mo_has_5 rfl (by decide) ?_
  refine T_icmp_ne (pc' := 9) (tgt := 13) d_Mo_has_6 rfl (by decide) (fun hc => ?_) (fun hc => ?_)
  · refine T_iconst (v := 0) (pc' := 14) d_Mo_has_13 rfl (by decide) ?_
    refine T_zret d_Mo_has_14 rfl (by first | assumption | exact Or.inl rfl | exact Or.inr rfl) ?_
    exact ⟨_, rfl, rfl, Or.inr ⟨hc, rfl⟩⟩
  · refine T_iconst (v := 1) (pc' := 10) d_Mo_has_9 rfl (by decide) ?_
    refine T_goto (pc' := 14) d_Mo_has_10 (by decide) ?_
    refine T_zret d_Mo_has_14 rfl (by first | assumption | exact Or.inl rfl | exact Or.inr rfl) ?_
    exact ⟨_, rfl, rfl, Or.inl ⟨hc, rfl⟩⟩
def sU (x : Int32) (k : Int32) : Int32 := (x.toUInt32 >>> (k.toUInt32 &&& Int32.toUInt32 31)).toInt32
def sBC1 (x : Int32) : Int32 := x - (sU x 1 &&& 1431655765)
def sBC2 (x : Int32) : Int32 := (x &&& 858993459) + (sU x 2 &&& 858993459)
def sBC3 (x : Int32) : Int32 := (x + sU x 4) &&& 252645135
def sBC4 (x : Int32) : Int32 := x + sU x 8
def sBC5 (x : Int32) : Int32 := x + sU x 16
def sBC (x : Int32) : Int32 := sBC5 (sBC4 (sBC3 (sBC2 (sBC1 x)))) &&& 63
theorem c_In_bitCount (x : Int32) : Ci X d M_In_bitCount [.int x] h (fun v h1 => h1 = h ∧ v = sBC x) := by
  refine C_of_T rfl rfl (Nat.le_of_ble_eq_true rfl) rfl ?_
  refine T_iload_n (pc' := 1) d_In_bitCount_0 rfl rfl rfl ?_
  refine T_iload_n (pc' := 2) d_In_bitCount_1 rfl rfl rfl ?_
  refine T_iconst (v := 1) (pc' := 3) d_In_bitCount_2 rfl (by decide) ?_
  refine T_iushr (pc' := 4) d_In_bitCount_3 rfl ?_
  refine T_ldcw (pc' := 7) d_In_bitCount_4 rfl ck_In_265 ?_
  refine T_iand (pc' := 8) d_In_bitCount_7 rfl ?_
  refine T_isub (pc' := 9) d_In_bitCount_8 rfl ?_
  refine T_is_n0 (pc' := 10) d_In_bitCount_9 rfl rfl (Nat.le_of_ble_eq_true rfl) rfl ?_
  refine T_iload_n (pc' := 11) d_In_bitCount_10 rfl rfl rfl ?_
  refine T_ldcw (pc' := 14) d_In_bitCount_11 rfl ck_In_266 ?_
  refine T_iand (pc' := 15) d_In_bitCount_14 rfl ?_
  refine T_iload_n (pc' := 16) d_In_bitCount_15 rfl rfl rfl ?_
  refine T_iconst (v := 2) (pc' := 17) d_In_bitCount_16 rfl (by decide) ?_
  refine T_iushr (pc' := 18) d_In_bitCount_17 rfl ?_
  refine T_ldcw (pc' := 21) d_In_bitCount_18 rfl ck_In_266 ?_
  refine T_iand (pc' := 22) d_In_bitCount_21 rfl ?_
  refine T_iadd (pc' := 23) d_In_bitCount_22 rfl ?_
  refine T_is_n0 (pc' := 24) d_In_bitCount_23 rfl rfl (Nat.le_of_ble_eq_true rfl) rfl ?_
  refine T_iload_n (pc' := 25) d_In_bitCount_24 rfl rfl rfl ?_
  refine T_iload_n (pc' := 26) d_In_bitCount_25 rfl rfl rfl ?_
  refine T_iconst (v := 4) (pc' := 27) d_In_bitCount_26 rfl (by decide) ?_
  refine T_iushr (pc' := 28) d_In_bitCount_27 rfl ?_
  refine T_iadd (pc' := 29) d_In_bitCount_28 rfl ?_
  refine T_ldcw (pc' := 32) d_In_bitCount_29 rfl ck_In_267 ?_
  refine T_iand (pc' := 33) d_In_bitCount_32 rfl ?_
  refine T_is_n0 (pc' := 34) d_In_bitCount_33 rfl rfl (Nat.le_of_ble_eq_true rfl) rfl ?_
  refine T_iload_n (pc' := 35) d_In_bitCount_34 rfl rfl rfl ?_
  refine T_iload_n (pc' := 36) d_In_bitCount_35 rfl rfl rfl ?_
  refine T_bipush (v := 8) (pc' := 38) d_In_bitCount_36 rfl (by decide) ?_
  refine T_iushr (pc' := 39) d_In_bitCount_38 rfl ?_
  refine T_iadd (pc' := 40) d_In_bitCount_39 rfl ?_
  refine T_is_n0 (pc' := 41) d_In_bitCount_40 rfl rfl (Nat.le_of_ble_eq_true rfl) rfl ?_
  refine T_iload_n (pc' := 42) d_In_bitCount_41 rfl rfl rfl ?_
  refine T_iload_n (pc' := 43) d_In_bitCount_42 rfl rfl rfl ?_
  refine T_bipush (v := 16) (pc' := 45) d_In_bitCount_43 rfl (by decide) ?_
  refine T_iushr (pc' := 46) d_In_bitCount_45 rfl ?_
  refine T_iadd (pc' := 47) d_In_bitCount_46 rfl ?_
  refine T_is_n0 (pc' := 48) d_In_bitCount_47 rfl rfl (Nat.le_of_ble_eq_true rfl) rfl ?_
  refine T_iload_n (pc' := 49) d_In_bitCount_48 rfl rfl rfl ?_
  refine T_bipush (v := 63) (pc' := 51) d_In_bitCount_49 rfl (by decide) ?_
  refine T_iand (pc' := 52) d_In_bitCount_51 rfl ?_
  refine T_iret d_In_bitCount_52 rfl ?_
  exact ⟨_, rfl, rfl, rfl⟩
def sBOk (x : Int32) : Nat → Int32
  | 0 => 0
  | k + 1 => sBOk x k + (x >>> (nI k &&& 31) &&& 1)
def sBO (x : Int32) : Int32 := sBOk x 8
theorem l_Mo_bitsOf (x : Int32) (Q : Option Value → AH → Prop) (hQ : Q (some (.int (sBO x))) h) : ∀ (k i : Nat), i + k = 8 → T X d M_Mo_bitsOf 4 [.int x, .int (sBOk x i), .int (nI i)] [] h Q
  | 0, i, hi => by
    have : i = 8 := by omega
    subst this
    refine T_iload_n (pc' := 5) d_Mo_bitsOf_4 rfl rfl rfl ?_
    refine T_bipush (v := 8) (pc' := 7) d_Mo_bitsOf_5 rfl (by decide) ?_
    refine T_icmp_ge (pc' := 10) (tgt := 24) d_Mo_bitsOf_7 rfl (by decide) (fun _ => ?_) (fun hzz => absurd (by decide) hzz)
    refine T_iload_n (pc' := 25) d_Mo_bitsOf_24 rfl rfl rfl ?_
    refine T_iret d_Mo_bitsOf_25 rfl ?_
    exact hQ
  | k + 1, i, hi => by
    refine T_iload_n (pc' := 5) d_Mo_bitsOf_4 rfl rfl rfl ?_
    refine T_bipush (v := 8) (pc' := 7) d_Mo_bitsOf_5 rfl (by decide) ?_
    refine T_icmp_ge (pc' := 10) (tgt := 24) d_Mo_bitsOf_7 rfl (by decide) (fun hzz => absurd hzz (nI_ge (a := i) (b := 8) (by omega) (by decide))) (fun _ => ?_)
    refine T_iload_n (pc' := 11) d_Mo_bitsOf_10 rfl rfl rfl ?_
    refine T_iload_n (pc' := 12) d_Mo_bitsOf_11 rfl rfl rfl ?_
    refine T_iload_n (pc' := 13) d_Mo_bitsOf_12 rfl rfl rfl ?_
    refine T_ishr (pc' := 14) d_Mo_bitsOf_13 rfl ?_
    refine T_iconst (v := 1) (pc' := 15) d_Mo_bitsOf_14 rfl (by decide) ?_
    refine T_iand (pc' := 16) d_Mo_bitsOf_15 rfl ?_
    refine T_iadd (pc' := 17) d_Mo_bitsOf_16 rfl ?_
    refine T_is_n1 (pc' := 18) d_Mo_bitsOf_17 rfl rfl (Nat.le_of_ble_eq_true rfl) rfl ?_
    refine T_ii2 (c := 1) (pc' := 21) d_Mo_bitsOf_18 rfl (by decide) (Nat.le_of_ble_eq_true rfl) rfl ?_
    refine T_goto (pc' := 4) d_Mo_bitsOf_21 (by decide) ?_
    rw [nI_1]
    exact l_Mo_bitsOf x Q hQ k (i + 1) (by omega)
theorem c_Mo_bitsOf (x : Int32) : Ci X d M_Mo_bitsOf [.int x] h (fun v h1 => h1 = h ∧ v = sBO x) := by
  refine C_of_T rfl rfl (Nat.le_of_ble_eq_true rfl) rfl ?_
  refine T_iconst (v := 0) (pc' := 1) d_Mo_bitsOf_0 rfl (by decide) ?_
  refine T_is_n1 (pc' := 2) d_Mo_bitsOf_1 rfl rfl (Nat.le_of_ble_eq_true rfl) rfl ?_
  refine T_iconst (v := 0) (pc' := 3) d_Mo_bitsOf_2 rfl (by decide) ?_
  refine T_is_n2 (pc' := 4) d_Mo_bitsOf_3 rfl rfl (Nat.le_of_ble_eq_true rfl) rfl ?_
  exact l_Mo_bitsOf X d h x _ ⟨_, rfl, rfl, rfl⟩ 8 0 rfl
theorem sBC_BO : ∀ i : Nat, i < 16 → sBC (nI i) = sBO (nI i) := by decide +kernel
/-- the first i of f are v -/
def sFill (f : Nat → Int32) (v : Int32) (i : Nat) : Nat → Int32 := fun j => if j < i then v else f j
theorem sFill_s (f : Nat → Int32) (v : Int32) (i : Nat) : e_up (sFill f v i) i v = sFill f v (i + 1) := by
  funext j
  by_cases h1 : j = i
  · subst h1; simp [e_up, sFill]
  · by_cases h2 : j < i
    · simp [e_up, sFill, h1, h2, Nat.lt_succ_of_lt h2]
    · simp [e_up, sFill, h1, h2, show ¬ j < i + 1 by omega]
theorem l_Ar_fill (a n : Nat) (f : Nat → Int32) (v : Int32) (hn : n < 2 ^ 31) (ha : h.2 a = some (.inl (0, n, f))) (Q : Option Value → AH → Prop) (hQ : Q none (e_put h a (.inl (0, n, sFill f v n)))) : ∀ (k i : Nat), i + k = n → T X d M_Ar_fill 5 [.ref a, .int v, .int (nI i), .int (nI n)] [] (e_put h a (.inl (0, n, sFill f v i))) Q
  | 0, i, hi => by
    have : i = n := by omega
    subst this
    refine T_iload_n (pc' := 6) d_Ar_fill_5 rfl rfl rfl ?_
    refine T_iload_n (pc' := 7) d_Ar_fill_6 rfl rfl rfl ?_
    refine T_icmp_ge (pc' := 10) (tgt := 20) d_Ar_fill_7 rfl (by decide) (fun _ => ?_) (fun hzz => absurd (Int32.le_refl _) hzz)
    refine T_vret d_Ar_fill_20 rfl ?_
    exact hQ
  | k + 1, i, hi => by
    refine T_iload_n (pc' := 6) d_Ar_fill_5 rfl rfl rfl ?_
    refine T_iload_n (pc' := 7) d_Ar_fill_6 rfl rfl rfl ?_
    refine T_icmp_ge (pc' := 10) (tgt := 20) d_Ar_fill_7 rfl (by decide) (fun hzz => absurd hzz (nI_ge (by omega) hn)) (fun _ => ?_)
    have hin : vp_in (nI i) n := vp_in_nI (by omega) hn
    refine T_aload_n (pc' := 11) d_Ar_fill_10 rfl rfl rfl ?_
    refine T_iload_n (pc' := 12) d_Ar_fill_11 rfl rfl rfl ?_
    refine T_iload_n (pc' := 13) d_Ar_fill_12 rfl rfl rfl ?_
    refine T_iastore (pc' := 14) d_Ar_fill_13 rfl (by first | assumption | exact e_put_s | simp [e_put, *]) (by first | assumption | exact in_dec rfl) ?_
    refine T_ii2 (c := 1) (pc' := 17) d_Ar_fill_14 rfl (by decide) (Nat.le_of_ble_eq_true rfl) rfl ?_
    refine T_goto (pc' := 5) d_Ar_fill_17 (by decide) ?_
    rw [e_pp, nI_clamp (by omega), sFill_s]
    rw [nI_1]
    exact l_Ar_fill a n f v hn ha Q hQ k (i + 1) (by omega)
theorem c_Ar_fill (a n : Nat) (f : Nat → Int32) (v : Int32) (hn : n < 2 ^ 31) (ha : h.2 a = some (.inl (0, n, f))) : Cv X d M_Ar_fill [.ref a, .int v] h (fun h1 => h1 = e_put h a (.inl (0, n, sFill f v n))) := by
  refine C_of_T rfl rfl (Nat.le_of_ble_eq_true rfl) rfl ?_
  refine T_iconst (v := 0) (pc' := 1) d_Ar_fill_0 rfl (by decide) ?_
  refine T_is_n2 (pc' := 2) d_Ar_fill_1 rfl rfl (Nat.le_of_ble_eq_true rfl) rfl ?_
  refine T_aload_n (pc' := 3) d_Ar_fill_2 rfl rfl rfl ?_
  refine T_alen (pc' := 4) d_Ar_fill_3 rfl (by first | assumption | exact e_put_s | simp [e_put, *]) ?_
  refine T_is_n3 (pc' := 5) d_Ar_fill_4 rfl rfl (Nat.le_of_ble_eq_true rfl) rfl ?_
  have hs : e_put h a (.inl (0, n, sFill f v 0)) = h := by
    unfold e_put
    refine Prod.ext rfl (funext fun k => ?_)
    by_cases hk : k = a
    · subst hk
      have : sFill f v 0 = f := by funext j; simp [sFill]
      simp [this, ha]
    · simp [hk]
  have := l_Ar_fill X d h a n f v hn ha (fun r h1 => r = none ∧ h1 = e_put h a (.inl (0, n, sFill f v n))) ⟨rfl, rfl⟩ n 0 (by omega)
  rw [hs] at this
  exact this
end BASE
