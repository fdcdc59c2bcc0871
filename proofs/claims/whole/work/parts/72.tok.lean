/-! the text: tokens -/
def isL (b : Nat) : Bool := decide (97 ≤ b ∧ b ≤ 122)
def isD (b : Nat) : Bool := decide (48 ≤ b ∧ b ≤ 57)
def isS (b : Nat) : Bool := decide (b = 32)
/-- the first place that isn't of this sort -/
def fp (c : Nat → Bool) (B : Nat → Nat) (L : Nat) : Nat → Nat → Nat
  | 0, p => p
  | k + 1, p => if p < L ∧ c (B p) = true then fp c B L k (p + 1) else p
theorem fp_ge (c : Nat → Bool) (B : Nat → Nat) (L : Nat) : ∀ k p, p ≤ fp c B L k p
  | 0, p => Nat.le_refl _
  | k + 1, p => by
    rw [fp]
    split
    · have := fp_ge c B L k (p + 1); omega
    · exact Nat.le_refl _
theorem fp_le (c : Nat → Bool) (B : Nat → Nat) (L : Nat) : ∀ k p, p ≤ L → fp c B L k p ≤ L
  | 0, p, h => h
  | k + 1, p, h => by
    rw [fp]
    split
    · exact fp_le c B L k (p + 1) (by omega)
    · exact h
/-- a number: what it says (100: unfit), and where it ends -/
def ov (z : Bool) (B : Nat → Nat) (L : Nat) : Nat → Nat → Nat → Nat × Nat
  | 0, q, v => (v, q)
  | k + 1, q, v => if q < L ∧ isD (B q) = true then ov z B L k (q + 1) (if z = true then 100 else min 100 (10 * v + (B q - 48))) else (v, q)
theorem ov_e (z : Bool) (B : Nat → Nat) (L : Nat) : ∀ k q v, q ≤ (ov z B L k q v).2 ∧ (q ≤ L → (ov z B L k q v).2 ≤ L)
  | 0, q, v => ⟨Nat.le_refl _, fun h => h⟩
  | k + 1, q, v => by
    rw [ov]
    split
    · obtain ⟨h1, h2⟩ := ov_e z B L k (q + 1) (if z = true then 100 else min 100 (10 * v + (B q - 48)))
      exact ⟨by omega, fun _ => h2 (by omega)⟩
    · exact ⟨Nat.le_refl _, fun h => h⟩
theorem ov_v (z : Bool) (B : Nat → Nat) (L : Nat) : ∀ k q v, v ≤ 100 → (ov z B L k q v).1 ≤ 100
  | 0, q, v, h => h
  | k + 1, q, v, h => by
    rw [ov]
    split
    · refine ov_v z B L k (q + 1) _ ?_
      split
      · exact Nat.le_refl _
      · exact Nat.min_le_left _ _
    · exact h
/-- a token that begins at q: sort (0 end, 1 letters, 2 number, 3 semicolon, 4 unfit), what it says, place, end -/
def tk1 (B : Nat → Nat) (L q : Nat) : Nat × Nat × Nat × Nat :=
  if ¬ q < L then (0, 0, q, q)
  else if isL (B q) = true then (1, (if fp isL B L 120 (q + 1) = q + 1 then B q else 0), q, fp isL B L 120 (q + 1))
  else if isD (B q) = true then (if (ov (decide (B q - 48 = 0)) B L 120 (q + 1) (B q - 48)).1 < 100 then (2, (ov (decide (B q - 48 = 0)) B L 120 (q + 1) (B q - 48)).1, q, (ov (decide (B q - 48 = 0)) B L 120 (q + 1) (B q - 48)).2) else (4, 0, q, (ov (decide (B q - 48 = 0)) B L 120 (q + 1) (B q - 48)).2))
  else ((if B q = 59 then 3 else 4), 0, q, q + 1)
def tkn (B : Nat → Nat) (L p : Nat) : Nat × Nat × Nat × Nat := tk1 B L (fp isS B L 120 p)
theorem tk1_pl (B : Nat → Nat) (L q : Nat) : (tk1 B L q).2.2.1 = q := by
  rw [tk1]
  split
  · rfl
  · split
    · rfl
    · split
      · split <;> rfl
      · rfl
theorem tkn_facts (B : Nat → Nat) (L p : Nat) (hp : p ≤ L) : p ≤ (tkn B L p).2.2.1 ∧ (tkn B L p).2.2.1 ≤ L ∧ (tkn B L p).2.2.1 ≤ (tkn B L p).2.2.2 ∧ (tkn B L p).2.2.2 ≤ L ∧ ((tkn B L p).1 = 0 ↔ ¬ (tkn B L p).2.2.1 < L) ∧ (¬ (tkn B L p).1 = 0 → (tkn B L p).2.2.1 < (tkn B L p).2.2.2) ∧ (tkn B L p).1 ≤ 4 := by
  have h1 := fp_ge isS B L 120 p
  have h2 := fp_le isS B L 120 p hp
  rw [tkn]
  generalize fp isS B L 120 p = q at h1 h2
  rw [tk1_pl]
  refine ⟨h1, h2, ?_⟩
  rw [tk1]
  by_cases hq : q < L
  · rw [if_neg (by omega)]
    by_cases hl : isL (B q) = true
    · rw [if_pos hl]
      have a1 := fp_ge isL B L 120 (q + 1)
      have a2 := fp_le isL B L 120 (q + 1) (by omega)
      refine ⟨?_, a2, ⟨fun z => absurd (show (1 : Nat) = 0 from z) (by decide), fun z => absurd hq z⟩, fun _ => ?_, show (1 : Nat) ≤ 4 by decide⟩
      · show q ≤ fp isL B L 120 (q + 1); omega
      · show q < fp isL B L 120 (q + 1); omega
    · rw [if_neg hl]
      by_cases hd : isD (B q) = true
      · rw [if_pos hd]
        obtain ⟨a1, a2⟩ := ov_e (decide (B q - 48 = 0)) B L 120 (q + 1) (B q - 48)
        have a3 := a2 (by omega)
        split
        · exact ⟨by show q ≤ (ov (decide (B q - 48 = 0)) B L 120 (q + 1) (B q - 48)).2; omega, a3, ⟨fun z => absurd (show (2 : Nat) = 0 from z) (by decide), fun z => absurd hq z⟩, fun _ => by show q < (ov (decide (B q - 48 = 0)) B L 120 (q + 1) (B q - 48)).2; omega, show (2 : Nat) ≤ 4 by decide⟩
        · exact ⟨by show q ≤ (ov (decide (B q - 48 = 0)) B L 120 (q + 1) (B q - 48)).2; omega, a3, ⟨fun z => absurd (show (4 : Nat) = 0 from z) (by decide), fun z => absurd hq z⟩, fun _ => by show q < (ov (decide (B q - 48 = 0)) B L 120 (q + 1) (B q - 48)).2; omega, show (4 : Nat) ≤ 4 by decide⟩
      · rw [if_neg hd]
        refine ⟨by show q ≤ q + 1; omega, by show q + 1 ≤ L; omega, ⟨fun z => ?_, fun z => absurd hq z⟩, fun _ => by show q < q + 1; omega, ?_⟩
        · have z' : (if B q = 59 then 3 else 4) = 0 := z
          split at z' <;> omega
        · show (if B q = 59 then 3 else 4) ≤ 4
          split <;> omega
  · rw [if_pos hq]
    exact ⟨Nat.le_refl _, h2, ⟨fun _ => hq, fun _ => rfl⟩, fun z => absurd rfl z, show (0 : Nat) ≤ 4 by decide⟩
/-- the object's latest token -/
def OTok (t : Nat × Nat × Nat × Nat) (tok va : Int32) : Prop := (t.1 = 4 ∧ ((tok = 4 ∧ va = 0) ∨ (tok = 2 ∧ va = 100))) ∨ (¬ t.1 = 4 ∧ tok = nI t.1 ∧ va = nI t.2.1)
def okB (tx : Nat → Int32) (B : Nat → Nat) (L : Nat) : Prop := L ≤ 120 ∧ ∀ i, i < L → tx i = nI (B i) ∧ B i < 256
section TOK
variable (X : EX) (d : Nat) (h : AH)
theorem s_isL : ∀ b, b < 256 → ((97 ≤ nI b ∧ nI b ≤ 122) ↔ isL b = true) := by decide +kernel
theorem s_isD : ∀ b, b < 256 → ((48 ≤ nI b ∧ nI b ≤ 57) ↔ isD b = true) := by decide +kernel
theorem s_isS : ∀ b, b < 256 → (nI b = 32 ↔ isS b = true) := by decide +kernel
theorem c_Tx_isLetter (b : Nat) (hb : b < 256) : Ci X d M_Tx_isLetter [.int (nI b)] h (fun v h1 => h1 = h ∧ (isL b = true ∧ v = 1 ∨ ¬ isL b = true ∧ v = 0)) := by
  have hs := s_isL b hb
  refine C_of_T rfl rfl (Nat.le_of_ble_eq_true rfl) rfl ?_
  refine T_iload_n (pc' := 1) d_Tx_isLetter_0 rfl rfl rfl ?_
  refine T_bipush (v := 97) (pc' := 3) d_Tx_isLetter_1 rfl (by decide) ?_
  refine T_icmp_lt (pc' := 6) (tgt := 16) d_Tx_isLetter_3 rfl (by decide) (fun hc => ?_) (fun hc => ?_)
  · refine T_iconst (v := 0) (pc' := 17) d_Tx_isLetter_16 rfl (by decide) ?_
    refine T_zret d_Tx_isLetter_17 rfl (by first | assumption | exact Or.inl rfl | exact Or.inr rfl) ?_
    exact ⟨_, rfl, rfl, Or.inr ⟨fun q => absurd (hs.mpr q).1 (Int32.not_le.mpr hc), rfl⟩⟩
  · have h1 := Int32.not_lt.mp hc
    refine T_iload_n (pc' := 7) d_Tx_isLetter_6 rfl rfl rfl ?_
    refine T_bipush (v := 122) (pc' := 9) d_Tx_isLetter_7 rfl (by decide) ?_
    refine T_icmp_gt (pc' := 12) (tgt := 16) d_Tx_isLetter_9 rfl (by decide) (fun hc => ?_) (fun hc => ?_)
    · refine T_iconst (v := 0) (pc' := 17) d_Tx_isLetter_16 rfl (by decide) ?_
      refine T_zret d_Tx_isLetter_17 rfl (by first | assumption | exact Or.inl rfl | exact Or.inr rfl) ?_
      exact ⟨_, rfl, rfl, Or.inr ⟨fun q => absurd (hs.mpr q).2 (Int32.not_le.mpr hc), rfl⟩⟩
    · refine T_iconst (v := 1) (pc' := 13) d_Tx_isLetter_12 rfl (by decide) ?_
      refine T_goto (pc' := 17) d_Tx_isLetter_13 (by decide) ?_
      refine T_zret d_Tx_isLetter_17 rfl (by first | assumption | exact Or.inl rfl | exact Or.inr rfl) ?_
      exact ⟨_, rfl, rfl, Or.inl ⟨hs.mp ⟨h1, Int32.not_lt.mp hc⟩, rfl⟩⟩
theorem c_Tx_isDigit (b : Nat) (hb : b < 256) : Ci X d M_Tx_isDigit [.int (nI b)] h (fun v h1 => h1 = h ∧ (isD b = true ∧ v = 1 ∨ ¬ isD b = true ∧ v = 0)) := by
  have hs := s_isD b hb
  refine C_of_T rfl rfl (Nat.le_of_ble_eq_true rfl) rfl ?_
  refine T_iload_n (pc' := 1) d_Tx_isDigit_0 rfl rfl rfl ?_
  refine T_bipush (v := 48) (pc' := 3) d_Tx_isDigit_1 rfl (by decide) ?_
  refine T_icmp_lt (pc' := 6) (tgt := 16) d_Tx_isDigit_3 rfl (by decide) (fun hc => ?_) (fun hc => ?_)
  · refine T_iconst (v := 0) (pc' := 17) d_Tx_isDigit_16 rfl (by decide) ?_
    refine T_zret d_Tx_isDigit_17 rfl (by first | assumption | exact Or.inl rfl | exact Or.inr rfl) ?_
    exact ⟨_, rfl, rfl, Or.inr ⟨fun q => absurd (hs.mpr q).1 (Int32.not_le.mpr hc), rfl⟩⟩
  · have h1 := Int32.not_lt.mp hc
    refine T_iload_n (pc' := 7) d_Tx_isDigit_6 rfl rfl rfl ?_
    refine T_bipush (v := 57) (pc' := 9) d_Tx_isDigit_7 rfl (by decide) ?_
    refine T_icmp_gt (pc' := 12) (tgt := 16) d_Tx_isDigit_9 rfl (by decide) (fun hc => ?_) (fun hc => ?_)
    · refine T_iconst (v := 0) (pc' := 17) d_Tx_isDigit_16 rfl (by decide) ?_
      refine T_zret d_Tx_isDigit_17 rfl (by first | assumption | exact Or.inl rfl | exact Or.inr rfl) ?_
      exact ⟨_, rfl, rfl, Or.inr ⟨fun q => absurd (hs.mpr q).2 (Int32.not_le.mpr hc), rfl⟩⟩
    · refine T_iconst (v := 1) (pc' := 13) d_Tx_isDigit_12 rfl (by decide) ?_
      refine T_goto (pc' := 17) d_Tx_isDigit_13 (by decide) ?_
      refine T_zret d_Tx_isDigit_17 rfl (by first | assumption | exact Or.inl rfl | exact Or.inr rfl) ?_
      exact ⟨_, rfl, rfl, Or.inl ⟨hs.mp ⟨h1, Int32.not_lt.mp hc⟩, rfl⟩⟩
theorem l_letters (tx : Nat → Int32) (B : Nat → Nat) (L q : Nat) (tok pl is_ : Int32) (ok : okB tx B L) (h2 : h.2 2 = some (.inl (0, 120, tx))) (Q : Option Value → AH → Prop) (e : Nat) (hQ : Q none (e_put h 1 (oTx (nI L) (nI e) tok pl (if e = q + 1 then nI (B q) else 0) is_))) : ∀ (k p : Nat), q + 1 ≤ p → L ≤ p + k → p ≤ L → fp isL B L k p = e → T X (d + 1) M_Tx_readLetters 28 [.ref 1] [] (e_put h 1 (oTx (nI L) (nI p) tok pl (if p = q + 1 then nI (B q) else 0) is_)) Q
  | 0, p, hq, hk, hp, he => by
    have : p = L := by omega
    have ep : p = e := he
    subst ep
    have hL := ok.1
    refine T_aload_n (pc' := 29) d_Tx_readLetters_28 rfl rfl rfl ?_
    refine T_get (pc' := 32) d_Tx_readLetters_29 rfl g_Tx_31 e_put_s rfl ?_
    refine T_aload_n (pc' := 33) d_Tx_readLetters_32 rfl rfl rfl ?_
    refine T_get (pc' := 36) d_Tx_readLetters_33 rfl g_Tx_15 e_put_s rfl ?_
    refine T_icmp_ge (pc' := 39) (tgt := 72) d_Tx_readLetters_36 rfl (by decide) (fun _ => ?_) (fun hzz => absurd (by rw [this]; exact Int32.le_refl _) hzz)
    refine T_vret d_Tx_readLetters_72 rfl ?_
    exact hQ
  | k + 1, p, hq, hk, hp, he => by
    have ih := l_letters tx B L q tok pl is_ ok h2 Q e hQ k (p + 1) (by omega)
    have hL := ok.1
    rw [fp] at he
    refine T_aload_n (pc' := 29) d_Tx_readLetters_28 rfl rfl rfl ?_
    refine T_get (pc' := 32) d_Tx_readLetters_29 rfl g_Tx_31 e_put_s rfl ?_
    refine T_aload_n (pc' := 33) d_Tx_readLetters_32 rfl rfl rfl ?_
    refine T_get (pc' := 36) d_Tx_readLetters_33 rfl g_Tx_15 e_put_s rfl ?_
    by_cases hlt : p < L
    · obtain ⟨ob1, ob2⟩ := ok.2 p hlt
      refine T_icmp_ge (pc' := 39) (tgt := 72) d_Tx_readLetters_36 rfl (by decide) (fun hzz => absurd hzz (nI_ge hlt (by omega))) (fun _ => ?_)
      refine T_aload_n (pc' := 40) d_Tx_readLetters_39 rfl rfl rfl ?_
      refine T_get (pc' := 43) d_Tx_readLetters_40 rfl g_Tx_9 e_put_s rfl ?_
      refine T_aload_n (pc' := 44) d_Tx_readLetters_43 rfl rfl rfl ?_
      refine T_get (pc' := 47) d_Tx_readLetters_44 rfl g_Tx_31 e_put_s rfl ?_
      refine T_ialoadN p (pc' := 48) d_Tx_readLetters_47 rfl ((e_put_n (by decide)).trans h2) ⟨by omega, by decide⟩ ?_
      rw [ob1]
      refine T_S1i (pc' := 51) d_Tx_readLetters_48 rfl l_Tx_91 v_Tx_isLetter (Nat.le_of_ble_eq_true rfl) (c_Tx_isLetter X _ _ (B p) ob2) (fun v h1 hq => ?_)
      obtain ⟨rfl, ⟨hl, rfl⟩ | ⟨hl, rfl⟩⟩ := hq
      · refine T_if_eq (pc' := 54) (tgt := 72) d_Tx_readLetters_51 rfl (by decide) (fun hzz => absurd hzz (by decide)) (fun _ => ?_)
        rw [if_pos ⟨hlt, hl⟩] at he
        refine T_aload_n (pc' := 55) d_Tx_readLetters_54 rfl rfl rfl ?_
        refine T_iconst (v := 0) (pc' := 56) d_Tx_readLetters_55 rfl (by decide) ?_
        refine T_puti5 (pc' := 59) d_Tx_readLetters_56 rfl f_Tx_54 (fun z => absurd z Bool.false_ne_true) e_put_s ?_
        rw [e_pp]
        refine T_aload_n (pc' := 60) d_Tx_readLetters_59 rfl rfl rfl ?_
        refine T_dup (pc' := 61) d_Tx_readLetters_60 rfl rfl ?_
        refine T_get (pc' := 64) d_Tx_readLetters_61 rfl g_Tx_31 e_put_s rfl ?_
        refine T_iconst (v := 1) (pc' := 65) d_Tx_readLetters_64 rfl (by decide) ?_
        refine T_iadd (pc' := 66) d_Tx_readLetters_65 rfl ?_
        rw [nI_1]
        refine T_puti2 (pc' := 69) d_Tx_readLetters_66 rfl f_Tx_31 (fun z => absurd z Bool.false_ne_true) e_put_s ?_
        refine T_goto (pc' := 28) d_Tx_readLetters_69 (by decide) ?_
        rw [e_pp]
        have ih' := ih (by omega) (by omega) he
        rw [if_neg (by omega)] at ih'
        exact ih'
      · refine T_if_eq (pc' := 54) (tgt := 72) d_Tx_readLetters_51 rfl (by decide) (fun _ => ?_) (fun hzz => absurd (by decide) hzz)
        rw [if_neg (fun z => hl z.2)] at he
        subst he
        refine T_vret d_Tx_readLetters_72 rfl ?_
        exact hQ
    · refine T_icmp_ge (pc' := 39) (tgt := 72) d_Tx_readLetters_36 rfl (by decide) (fun _ => ?_) (fun hzz => absurd (nI_le (by omega) (by omega)) hzz)
      rw [if_neg (fun z => hlt z.1)] at he
      subst he
      refine T_vret d_Tx_readLetters_72 rfl ?_
      exact hQ
theorem c_Tx_readLetters (tx : Nat → Int32) (B : Nat → Nat) (L q : Nat) (tok pl va is_ : Int32) (ok : okB tx B L) (hq : q < L) (h1 : h.2 1 = some (oTx (nI L) (nI q) tok pl va is_)) (h2 : h.2 2 = some (.inl (0, 120, tx))) : Cv X (d + 1) M_Tx_readLetters [.ref 1] h (fun h' => h' = e_put h 1 (oTx (nI L) (nI (fp isL B L 120 (q + 1))) 1 pl (if fp isL B L 120 (q + 1) = q + 1 then nI (B q) else 0) is_)) := by
  have hL := ok.1
  obtain ⟨ob1, ob2⟩ := ok.2 q hq
  refine C_of_T rfl rfl (Nat.le_of_ble_eq_true rfl) rfl ?_
  refine T_aload_n (pc' := 1) d_Tx_readLetters_0 rfl rfl rfl ?_
  refine T_iconst (v := 1) (pc' := 2) d_Tx_readLetters_1 rfl (by decide) ?_
  refine T_puti3 (pc' := 5) d_Tx_readLetters_2 rfl f_Tx_37 (fun z => absurd z Bool.false_ne_true) (by first | assumption | exact e_put_s | simp [e_put, *]) ?_
  refine T_aload_n (pc' := 6) d_Tx_readLetters_5 rfl rfl rfl ?_
  refine T_aload_n (pc' := 7) d_Tx_readLetters_6 rfl rfl rfl ?_
  refine T_get (pc' := 10) d_Tx_readLetters_7 rfl g_Tx_9 e_put_s rfl ?_
  refine T_aload_n (pc' := 11) d_Tx_readLetters_10 rfl rfl rfl ?_
  refine T_get (pc' := 14) d_Tx_readLetters_11 rfl g_Tx_31 e_put_s rfl ?_
  refine T_ialoadN q (pc' := 15) d_Tx_readLetters_14 rfl ((e_put_n (by decide)).trans h2) ⟨by omega, by decide⟩ ?_
  rw [ob1]
  refine T_puti5 (pc' := 18) d_Tx_readLetters_15 rfl f_Tx_54 (fun z => absurd z Bool.false_ne_true) e_put_s ?_
  rw [e_pp]
  refine T_aload_n (pc' := 19) d_Tx_readLetters_18 rfl rfl rfl ?_
  refine T_dup (pc' := 20) d_Tx_readLetters_19 rfl rfl ?_
  refine T_get (pc' := 23) d_Tx_readLetters_20 rfl g_Tx_31 e_put_s rfl ?_
  refine T_iconst (v := 1) (pc' := 24) d_Tx_readLetters_23 rfl (by decide) ?_
  refine T_iadd (pc' := 25) d_Tx_readLetters_24 rfl ?_
  rw [nI_1]
  refine T_puti2 (pc' := 28) d_Tx_readLetters_25 rfl f_Tx_31 (fun z => absurd z Bool.false_ne_true) e_put_s ?_
  rw [e_pp]
  have := l_letters X d h tx B L q 1 pl is_ ok h2 (fun r h' => r = none ∧ h' = e_put h 1 (oTx (nI L) (nI (fp isL B L 120 (q + 1))) 1 pl (if fp isL B L 120 (q + 1) = q + 1 then nI (B q) else 0) is_)) _ ⟨rfl, rfl⟩ 120 (q + 1) (Nat.le_refl _) (by omega) (by omega) rfl
  rw [if_pos rfl] at this
  exact this
theorem s_dig : ∀ b, b < 256 → isD b = true → b - 48 < 10 ∧ nI b - 48 = nI (b - 48) := by decide +kernel
theorem s_num : ∀ v, v ≤ 100 → ∀ b, b < 58 → 48 ≤ b → (if (10 : Int32) * nI v + nI b - 48 < 100 then 10 * nI v + nI b - 48 else 100) = nI (min 100 (10 * v + (b - 48))) := by decide +kernel
theorem isD_rng {b : Nat} (h : isD b = true) : 48 ≤ b ∧ b < 58 := by
  have := of_decide_eq_true h
  omega
theorem l_number (tx : Nat → Int32) (B : Nat → Nat) (L : Nat) (z : Bool) (tok pl is_ : Int32) (ok : okB tx B L) (h2 : h.2 2 = some (.inl (0, 120, tx))) (Q : Option Value → AH → Prop) (e : Nat × Nat) (hQ : Q none (e_put h 1 (oTx (nI L) (nI e.2) tok pl (nI e.1) is_))) : ∀ (k p v : Nat), L ≤ p + k → p ≤ L → v ≤ 100 → ov z B L k p v = e → T X (d + 1) M_Tx_readNumber 44 [.ref 1, .int (bi z)] [] (e_put h 1 (oTx (nI L) (nI p) tok pl (nI v) is_)) Q
  | 0, p, v, hk, hp, hv, he => by
    have : p = L := by omega
    have ep : (v, p) = e := he
    subst ep
    have hL := ok.1
    refine T_aload_n (pc' := 45) d_Tx_readNumber_44 rfl rfl rfl ?_
    refine T_get (pc' := 48) d_Tx_readNumber_45 rfl g_Tx_31 e_put_s rfl ?_
    refine T_aload_n (pc' := 49) d_Tx_readNumber_48 rfl rfl rfl ?_
    refine T_get (pc' := 52) d_Tx_readNumber_49 rfl g_Tx_15 e_put_s rfl ?_
    refine T_icmp_ge (pc' := 55) (tgt := 121) d_Tx_readNumber_52 rfl (by decide) (fun _ => ?_) (fun hzz => absurd (by rw [this]; exact Int32.le_refl _) hzz)
    refine T_vret d_Tx_readNumber_121 rfl ?_
    exact hQ
  | k + 1, p, v, hk, hp, hv, he => by
    have ih := l_number tx B L z tok pl is_ ok h2 Q e hQ k (p + 1)
    have hL := ok.1
    rw [ov] at he
    refine T_aload_n (pc' := 45) d_Tx_readNumber_44 rfl rfl rfl ?_
    refine T_get (pc' := 48) d_Tx_readNumber_45 rfl g_Tx_31 e_put_s rfl ?_
    refine T_aload_n (pc' := 49) d_Tx_readNumber_48 rfl rfl rfl ?_
    refine T_get (pc' := 52) d_Tx_readNumber_49 rfl g_Tx_15 e_put_s rfl ?_
    by_cases hlt : p < L
    · obtain ⟨ob1, ob2⟩ := ok.2 p hlt
      refine T_icmp_ge (pc' := 55) (tgt := 121) d_Tx_readNumber_52 rfl (by decide) (fun hzz => absurd hzz (nI_ge hlt (by omega))) (fun _ => ?_)
      refine T_aload_n (pc' := 56) d_Tx_readNumber_55 rfl rfl rfl ?_
      refine T_get (pc' := 59) d_Tx_readNumber_56 rfl g_Tx_9 e_put_s rfl ?_
      refine T_aload_n (pc' := 60) d_Tx_readNumber_59 rfl rfl rfl ?_
      refine T_get (pc' := 63) d_Tx_readNumber_60 rfl g_Tx_31 e_put_s rfl ?_
      refine T_ialoadN p (pc' := 64) d_Tx_readNumber_63 rfl ((e_put_n (by decide)).trans h2) ⟨by omega, by decide⟩ ?_
      rw [ob1]
      refine T_S1i (pc' := 67) d_Tx_readNumber_64 rfl l_Tx_98 v_Tx_isDigit (Nat.le_of_ble_eq_true rfl) (c_Tx_isDigit X _ _ (B p) ob2) (fun v h1 hq => ?_)
      obtain ⟨rfl, ⟨hl, rfl⟩ | ⟨hl, rfl⟩⟩ := hq
      · refine T_if_eq (pc' := 70) (tgt := 121) d_Tx_readNumber_67 rfl (by decide) (fun hzz => absurd hzz (by decide)) (fun _ => ?_)
        rw [if_pos ⟨hlt, hl⟩] at he
        obtain ⟨r1, r2⟩ := isD_rng hl
        refine T_aload_n (pc' := 71) d_Tx_readNumber_70 rfl rfl rfl ?_
        refine T_iload_n (pc' := 72) d_Tx_readNumber_71 rfl rfl rfl ?_
        cases z with
        | true =>
          refine T_if_eq (pc' := 75) (tgt := 80) d_Tx_readNumber_72 rfl (by decide) (fun hzz => absurd hzz (by decide)) (fun _ => ?_)
          refine T_bipush (v := 100) (pc' := 77) d_Tx_readNumber_75 rfl (by decide) ?_
          refine T_goto (pc' := 105) d_Tx_readNumber_77 (by decide) ?_
          refine T_puti5 (pc' := 108) d_Tx_readNumber_105 rfl f_Tx_54 (fun z => absurd z Bool.false_ne_true) e_put_s ?_
          rw [e_pp]
          refine T_aload_n (pc' := 109) d_Tx_readNumber_108 rfl rfl rfl ?_
          refine T_dup (pc' := 110) d_Tx_readNumber_109 rfl rfl ?_
          refine T_get (pc' := 113) d_Tx_readNumber_110 rfl g_Tx_31 e_put_s rfl ?_
          refine T_iconst (v := 1) (pc' := 114) d_Tx_readNumber_113 rfl (by decide) ?_
          refine T_iadd (pc' := 115) d_Tx_readNumber_114 rfl ?_
          rw [nI_1]
          refine T_puti2 (pc' := 118) d_Tx_readNumber_115 rfl f_Tx_31 (fun z => absurd z Bool.false_ne_true) e_put_s ?_
          refine T_goto (pc' := 44) d_Tx_readNumber_118 (by decide) ?_
          rw [e_pp]
          exact ih 100 (by omega) (by omega) (by omega) he
        | false =>
          refine T_if_eq (pc' := 75) (tgt := 80) d_Tx_readNumber_72 rfl (by decide) (fun _ => ?_) (fun hzz => absurd (by decide) hzz)
          refine T_bipush (v := 100) (pc' := 82) d_Tx_readNumber_80 rfl (by decide) ?_
          refine T_bipush (v := 10) (pc' := 84) d_Tx_readNumber_82 rfl (by decide) ?_
          refine T_aload_n (pc' := 85) d_Tx_readNumber_84 rfl rfl rfl ?_
          refine T_get (pc' := 88) d_Tx_readNumber_85 rfl g_Tx_54 e_put_s rfl ?_
          refine T_imul (pc' := 89) d_Tx_readNumber_88 rfl ?_
          refine T_aload_n (pc' := 90) d_Tx_readNumber_89 rfl rfl rfl ?_
          refine T_get (pc' := 93) d_Tx_readNumber_90 rfl g_Tx_9 e_put_s rfl ?_
          refine T_aload_n (pc' := 94) d_Tx_readNumber_93 rfl rfl rfl ?_
          refine T_get (pc' := 97) d_Tx_readNumber_94 rfl g_Tx_31 e_put_s rfl ?_
          refine T_ialoadN p (pc' := 98) d_Tx_readNumber_97 rfl ((e_put_n (by decide)).trans h2) ⟨by omega, by decide⟩ ?_
          rw [ob1]
          refine T_iadd (pc' := 99) d_Tx_readNumber_98 rfl ?_
          refine T_bipush (v := 48) (pc' := 101) d_Tx_readNumber_99 rfl (by decide) ?_
          refine T_isub (pc' := 102) d_Tx_readNumber_101 rfl ?_
          refine T_mmin (pc' := 105) d_Tx_readNumber_102 rfl l_Tx_104 (Nat.le_of_ble_eq_true rfl) ?_
          rw [s_num v hv (B p) r2 r1]
          refine T_puti5 (pc' := 108) d_Tx_readNumber_105 rfl f_Tx_54 (fun z => absurd z Bool.false_ne_true) e_put_s ?_
          rw [e_pp]
          refine T_aload_n (pc' := 109) d_Tx_readNumber_108 rfl rfl rfl ?_
          refine T_dup (pc' := 110) d_Tx_readNumber_109 rfl rfl ?_
          refine T_get (pc' := 113) d_Tx_readNumber_110 rfl g_Tx_31 e_put_s rfl ?_
          refine T_iconst (v := 1) (pc' := 114) d_Tx_readNumber_113 rfl (by decide) ?_
          refine T_iadd (pc' := 115) d_Tx_readNumber_114 rfl ?_
          rw [nI_1]
          refine T_puti2 (pc' := 118) d_Tx_readNumber_115 rfl f_Tx_31 (fun z => absurd z Bool.false_ne_true) e_put_s ?_
          refine T_goto (pc' := 44) d_Tx_readNumber_118 (by decide) ?_
          rw [e_pp]
          exact ih _ (by omega) (by omega) (Nat.min_le_left _ _) he
      · refine T_if_eq (pc' := 70) (tgt := 121) d_Tx_readNumber_67 rfl (by decide) (fun _ => ?_) (fun hzz => absurd (by decide) hzz)
        rw [if_neg (fun z => hl z.2)] at he
        subst he
        refine T_vret d_Tx_readNumber_121 rfl ?_
        exact hQ
    · refine T_icmp_ge (pc' := 55) (tgt := 121) d_Tx_readNumber_52 rfl (by decide) (fun _ => ?_) (fun hzz => absurd (nI_le (by omega) (by omega)) hzz)
      rw [if_neg (fun z => hlt z.1)] at he
      subst he
      refine T_vret d_Tx_readNumber_121 rfl ?_
      exact hQ
theorem c_Tx_readNumber (tx : Nat → Int32) (B : Nat → Nat) (L q : Nat) (tok pl va is_ : Int32) (ok : okB tx B L) (hq : q < L) (hdg : isD (B q) = true) (h1 : h.2 1 = some (oTx (nI L) (nI q) tok pl va is_)) (h2 : h.2 2 = some (.inl (0, 120, tx))) : Cv X (d + 1) M_Tx_readNumber [.ref 1] h (fun h' => h' = e_put h 1 (oTx (nI L) (nI (ov (decide (B q - 48 = 0)) B L 120 (q + 1) (B q - 48)).2) 2 pl (nI (ov (decide (B q - 48 = 0)) B L 120 (q + 1) (B q - 48)).1) is_)) := by
  have hL := ok.1
  obtain ⟨ob1, ob2⟩ := ok.2 q hq
  obtain ⟨sd1, sd2⟩ := s_dig (B q) ob2 hdg
  refine C_of_T rfl rfl (Nat.le_of_ble_eq_true rfl) rfl ?_
  refine T_aload_n (pc' := 1) d_Tx_readNumber_0 rfl rfl rfl ?_
  refine T_iconst (v := 2) (pc' := 2) d_Tx_readNumber_1 rfl (by decide) ?_
  refine T_puti3 (pc' := 5) d_Tx_readNumber_2 rfl f_Tx_37 (fun z => absurd z Bool.false_ne_true) (by first | assumption | exact e_put_s | simp [e_put, *]) ?_
  refine T_aload_n (pc' := 6) d_Tx_readNumber_5 rfl rfl rfl ?_
  refine T_aload_n (pc' := 7) d_Tx_readNumber_6 rfl rfl rfl ?_
  refine T_get (pc' := 10) d_Tx_readNumber_7 rfl g_Tx_9 e_put_s rfl ?_
  refine T_aload_n (pc' := 11) d_Tx_readNumber_10 rfl rfl rfl ?_
  refine T_get (pc' := 14) d_Tx_readNumber_11 rfl g_Tx_31 e_put_s rfl ?_
  refine T_ialoadN q (pc' := 15) d_Tx_readNumber_14 rfl ((e_put_n (by decide)).trans h2) ⟨by omega, by decide⟩ ?_
  rw [ob1]
  refine T_bipush (v := 48) (pc' := 17) d_Tx_readNumber_15 rfl (by decide) ?_
  refine T_isub (pc' := 18) d_Tx_readNumber_17 rfl ?_
  rw [sd2]
  refine T_puti5 (pc' := 21) d_Tx_readNumber_18 rfl f_Tx_54 (fun z => absurd z Bool.false_ne_true) e_put_s ?_
  rw [e_pp]
  have fin : ∀ z : Bool, z = decide (B q - 48 = 0) → T X (d + 1) M_Tx_readNumber 33 [.ref 1, .null] [.int (bi z)] (e_put h 1 (oTx (nI L) (nI q) 2 pl (nI (B q - 48)) is_)) (fun r h' => r = none ∧ h' = e_put h 1 (oTx (nI L) (nI (ov (decide (B q - 48 = 0)) B L 120 (q + 1) (B q - 48)).2) 2 pl (nI (ov (decide (B q - 48 = 0)) B L 120 (q + 1) (B q - 48)).1) is_)) := by
    intro z hz
    refine T_is_n1 (pc' := 34) d_Tx_readNumber_33 rfl rfl (Nat.le_of_ble_eq_true rfl) rfl ?_
    refine T_aload_n (pc' := 35) d_Tx_readNumber_34 rfl rfl rfl ?_
    refine T_dup (pc' := 36) d_Tx_readNumber_35 rfl rfl ?_
    refine T_get (pc' := 39) d_Tx_readNumber_36 rfl g_Tx_31 e_put_s rfl ?_
    refine T_iconst (v := 1) (pc' := 40) d_Tx_readNumber_39 rfl (by decide) ?_
    refine T_iadd (pc' := 41) d_Tx_readNumber_40 rfl ?_
    rw [nI_1]
    refine T_puti2 (pc' := 44) d_Tx_readNumber_41 rfl f_Tx_31 (fun z => absurd z Bool.false_ne_true) e_put_s ?_
    rw [e_pp]
    exact l_number X d h tx B L z 2 pl is_ ok h2 _ _ ⟨rfl, rfl⟩ 120 (q + 1) (B q - 48) (by omega) (by omega) (by omega) (by rw [hz])
  refine T_aload_n (pc' := 22) d_Tx_readNumber_21 rfl rfl rfl ?_
  refine T_get (pc' := 25) d_Tx_readNumber_22 rfl g_Tx_54 e_put_s rfl ?_
  by_cases hz : B q - 48 = 0
  · refine T_if_ne (pc' := 28) (tgt := 32) d_Tx_readNumber_25 rfl (by decide) (fun hzz => absurd (by rw [hz]; rfl) hzz) (fun _ => ?_)
    refine T_iconst (v := 1) (pc' := 29) d_Tx_readNumber_28 rfl (by decide) ?_
    refine T_goto (pc' := 33) d_Tx_readNumber_29 (by decide) ?_
    exact fin true (decide_eq_true hz).symm
  · refine T_if_ne (pc' := 28) (tgt := 32) d_Tx_readNumber_25 rfl (by decide) (fun _ => ?_) (fun hzz => absurd hzz (nI_ne0 (by omega) (by omega)))
    refine T_iconst (v := 0) (pc' := 33) d_Tx_readNumber_32 rfl (by decide) ?_
    exact fin false (decide_eq_false hz).symm
theorem l_token (tx : Nat → Int32) (B : Nat → Nat) (L : Nat) (tok pl va is_ : Int32) (ok : okB tx B L) (h2 : h.2 2 = some (.inl (0, 120, tx))) (Q : Option Value → AH → Prop) (q : Nat) (hk : T X (d + 2) M_Tx_readToken 38 [.ref 1] [] (e_put h 1 (oTx (nI L) (nI q) tok pl va is_)) Q) : ∀ (k p : Nat), L ≤ p + k → p ≤ L → fp isS B L k p = q → T X (d + 2) M_Tx_readToken 0 [.ref 1] [] (e_put h 1 (oTx (nI L) (nI p) tok pl va is_)) Q
  | 0, p, hl, hp, he => by
    have : p = L := by omega
    have ep : p = q := he
    subst ep
    have hL := ok.1
    refine T_aload_n (pc' := 1) d_Tx_readToken_0 rfl rfl rfl ?_
    refine T_get (pc' := 4) d_Tx_readToken_1 rfl g_Tx_31 e_put_s rfl ?_
    refine T_aload_n (pc' := 5) d_Tx_readToken_4 rfl rfl rfl ?_
    refine T_get (pc' := 8) d_Tx_readToken_5 rfl g_Tx_15 e_put_s rfl ?_
    refine T_icmp_ge (pc' := 11) (tgt := 38) d_Tx_readToken_8 rfl (by decide) (fun _ => ?_) (fun hzz => absurd (by rw [this]; exact Int32.le_refl _) hzz)
    exact hk
  | k + 1, p, hl, hp, he => by
    have ih := l_token tx B L tok pl va is_ ok h2 Q q hk k (p + 1)
    have hL := ok.1
    rw [fp] at he
    refine T_aload_n (pc' := 1) d_Tx_readToken_0 rfl rfl rfl ?_
    refine T_get (pc' := 4) d_Tx_readToken_1 rfl g_Tx_31 e_put_s rfl ?_
    refine T_aload_n (pc' := 5) d_Tx_readToken_4 rfl rfl rfl ?_
    refine T_get (pc' := 8) d_Tx_readToken_5 rfl g_Tx_15 e_put_s rfl ?_
    by_cases hlt : p < L
    · obtain ⟨ob1, ob2⟩ := ok.2 p hlt
      refine T_icmp_ge (pc' := 11) (tgt := 38) d_Tx_readToken_8 rfl (by decide) (fun hzz => absurd hzz (nI_ge hlt (by omega))) (fun _ => ?_)
      refine T_aload_n (pc' := 12) d_Tx_readToken_11 rfl rfl rfl ?_
      refine T_get (pc' := 15) d_Tx_readToken_12 rfl g_Tx_9 e_put_s rfl ?_
      refine T_aload_n (pc' := 16) d_Tx_readToken_15 rfl rfl rfl ?_
      refine T_get (pc' := 19) d_Tx_readToken_16 rfl g_Tx_31 e_put_s rfl ?_
      refine T_ialoadN p (pc' := 20) d_Tx_readToken_19 rfl ((e_put_n (by decide)).trans h2) ⟨by omega, by decide⟩ ?_
      rw [ob1]
      refine T_bipush (v := 32) (pc' := 22) d_Tx_readToken_20 rfl (by decide) ?_
      by_cases hs : isS (B p) = true
      · refine T_icmp_ne (pc' := 25) (tgt := 38) d_Tx_readToken_22 rfl (by decide) (fun hzz => absurd ((s_isS (B p) ob2).mpr hs) hzz) (fun _ => ?_)
        rw [if_pos ⟨hlt, hs⟩] at he
        refine T_aload_n (pc' := 26) d_Tx_readToken_25 rfl rfl rfl ?_
        refine T_dup (pc' := 27) d_Tx_readToken_26 rfl rfl ?_
        refine T_get (pc' := 30) d_Tx_readToken_27 rfl g_Tx_31 e_put_s rfl ?_
        refine T_iconst (v := 1) (pc' := 31) d_Tx_readToken_30 rfl (by decide) ?_
        refine T_iadd (pc' := 32) d_Tx_readToken_31 rfl ?_
        rw [nI_1]
        refine T_puti2 (pc' := 35) d_Tx_readToken_32 rfl f_Tx_31 (fun z => absurd z Bool.false_ne_true) e_put_s ?_
        refine T_goto (pc' := 0) d_Tx_readToken_35 (by decide) ?_
        rw [e_pp]
        exact ih (by omega) (by omega) he
      · refine T_icmp_ne (pc' := 25) (tgt := 38) d_Tx_readToken_22 rfl (by decide) (fun _ => ?_) (fun hzz => absurd hzz (fun z => hs ((s_isS (B p) ob2).mp z)))
        rw [if_neg (fun z => hs z.2)] at he
        subst he
        exact hk
    · refine T_icmp_ge (pc' := 11) (tgt := 38) d_Tx_readToken_8 rfl (by decide) (fun _ => ?_) (fun hzz => absurd (nI_le (by omega) (by omega)) hzz)
      rw [if_neg (fun z => hlt z.1)] at he
      subst he
      exact hk
theorem s_59 : ∀ b, b < 256 → (nI b = 59 ↔ b = 59) := by decide +kernel
theorem c_Tx_readToken (tx : Nat → Int32) (B : Nat → Nat) (L p : Nat) (tok pl va is_ : Int32) (ok : okB tx B L) (hp : p ≤ L) (h1 : h.2 1 = some (oTx (nI L) (nI p) tok pl va is_)) (h2 : h.2 2 = some (.inl (0, 120, tx))) : Cv X (d + 2) M_Tx_readToken [.ref 1] h (fun h' => ∃ tok' va', h' = e_put h 1 (oTx (nI L) (nI (tkn B L p).2.2.2) tok' (nI (tkn B L p).2.2.1) va' is_) ∧ OTok (tkn B L p) tok' va') := by
  have hL := ok.1
  refine C_of_T rfl rfl (Nat.le_of_ble_eq_true rfl) rfl ?_
  have hs : h = e_put h 1 (oTx (nI L) (nI p) tok pl va is_) := (e_put_self h1).symm
  rw [hs]
  refine l_token X d h tx B L tok pl va is_ ok h2 _ (fp isS B L 120 p) ?_ 120 p (by omega) hp rfl
  rw [← hs]
  have hq1 := fp_ge isS B L 120 p
  have hq2 := fp_le isS B L 120 p hp
  rw [tkn]
  generalize fp isS B L 120 p = q at hq1 hq2
  rw [tk1_pl]
  refine T_aload_n (pc' := 39) d_Tx_readToken_38 rfl rfl rfl ?_
  refine T_aload_n (pc' := 40) d_Tx_readToken_39 rfl rfl rfl ?_
  refine T_get (pc' := 43) d_Tx_readToken_40 rfl g_Tx_31 e_put_s rfl ?_
  refine T_puti4 (pc' := 46) d_Tx_readToken_43 rfl f_Tx_44 (fun z => absurd z Bool.false_ne_true) e_put_s ?_
  rw [e_pp]
  refine T_aload_n (pc' := 47) d_Tx_readToken_46 rfl rfl rfl ?_
  refine T_iconst (v := 0) (pc' := 48) d_Tx_readToken_47 rfl (by decide) ?_
  refine T_puti5 (pc' := 51) d_Tx_readToken_48 rfl f_Tx_54 (fun z => absurd z Bool.false_ne_true) e_put_s ?_
  rw [e_pp]
  refine T_aload_n (pc' := 52) d_Tx_readToken_51 rfl rfl rfl ?_
  refine T_get (pc' := 55) d_Tx_readToken_52 rfl g_Tx_31 e_put_s rfl ?_
  refine T_aload_n (pc' := 56) d_Tx_readToken_55 rfl rfl rfl ?_
  refine T_get (pc' := 59) d_Tx_readToken_56 rfl g_Tx_15 e_put_s rfl ?_
  rw [tk1]
  by_cases hlt : q < L
  · obtain ⟨ob1, ob2⟩ := ok.2 q hlt
    refine T_icmp_lt (pc' := 62) (tgt := 70) d_Tx_readToken_59 rfl (by decide) (fun _ => ?_) (fun hzz => absurd (nI_lt hlt (by omega)) hzz)
    rw [if_neg (fun z => z hlt)]
    refine T_aload_n (pc' := 71) d_Tx_readToken_70 rfl rfl rfl ?_
    refine T_get (pc' := 74) d_Tx_readToken_71 rfl g_Tx_9 e_put_s rfl ?_
    refine T_aload_n (pc' := 75) d_Tx_readToken_74 rfl rfl rfl ?_
    refine T_get (pc' := 78) d_Tx_readToken_75 rfl g_Tx_31 e_put_s rfl ?_
    refine T_ialoadN q (pc' := 79) d_Tx_readToken_78 rfl ((e_put_n (by decide)).trans h2) ⟨by omega, by decide⟩ ?_
    rw [ob1]
    refine T_S1i (pc' := 82) d_Tx_readToken_79 rfl l_Tx_91 v_Tx_isLetter (Nat.le_of_ble_eq_true rfl) (c_Tx_isLetter X _ _ (B q) ob2) (fun v h1 hq => ?_)
    obtain ⟨rfl, ⟨hl, rfl⟩ | ⟨hl, rfl⟩⟩ := hq
    · refine T_if_eq (pc' := 85) (tgt := 92) d_Tx_readToken_82 rfl (by decide) (fun hzz => absurd hzz (by decide)) (fun _ => ?_)
      rw [if_pos hl]
      refine T_aload_n (pc' := 86) d_Tx_readToken_85 rfl rfl rfl ?_
      refine T_V0v (pc' := 89) d_Tx_readToken_86 rfl l_Tx_95 v_Tx_readLetters e_put_s (Nat.le_of_ble_eq_true rfl) (c_Tx_readLetters X _ _ tx B L q tok (nI q) 0 is_ ok hlt e_put_s ((e_put_n (by decide)).trans h2)) (fun h1 hq => ?_)
      subst hq
      rw [e_pp]
      refine T_goto (pc' := 147) d_Tx_readToken_89 (by decide) ?_
      refine T_vret d_Tx_readToken_147 rfl ?_
      refine ⟨rfl, _, _, rfl, Or.inr ⟨show ¬ (1 : Nat) = 4 by decide, rfl, ?_⟩⟩
      show (if fp isL B L 120 (q + 1) = q + 1 then nI (B q) else 0) = nI (if fp isL B L 120 (q + 1) = q + 1 then B q else 0)
      split <;> rfl
    · refine T_if_eq (pc' := 85) (tgt := 92) d_Tx_readToken_82 rfl (by decide) (fun _ => ?_) (fun hzz => absurd (by decide) hzz)
      rw [if_neg hl]
      refine T_aload_n (pc' := 93) d_Tx_readToken_92 rfl rfl rfl ?_
      refine T_get (pc' := 96) d_Tx_readToken_93 rfl g_Tx_9 e_put_s rfl ?_
      refine T_aload_n (pc' := 97) d_Tx_readToken_96 rfl rfl rfl ?_
      refine T_get (pc' := 100) d_Tx_readToken_97 rfl g_Tx_31 e_put_s rfl ?_
      refine T_ialoadN q (pc' := 101) d_Tx_readToken_100 rfl ((e_put_n (by decide)).trans h2) ⟨by omega, by decide⟩ ?_
      rw [ob1]
      refine T_S1i (pc' := 104) d_Tx_readToken_101 rfl l_Tx_98 v_Tx_isDigit (Nat.le_of_ble_eq_true rfl) (c_Tx_isDigit X _ _ (B q) ob2) (fun v h1 hq => ?_)
      obtain ⟨rfl, ⟨hd, rfl⟩ | ⟨hd, rfl⟩⟩ := hq
      · refine T_if_eq (pc' := 107) (tgt := 114) d_Tx_readToken_104 rfl (by decide) (fun hzz => absurd hzz (by decide)) (fun _ => ?_)
        rw [if_pos hd]
        refine T_aload_n (pc' := 108) d_Tx_readToken_107 rfl rfl rfl ?_
        refine T_V0v (pc' := 111) d_Tx_readToken_108 rfl l_Tx_101 v_Tx_readNumber e_put_s (Nat.le_of_ble_eq_true rfl) (c_Tx_readNumber X _ _ tx B L q tok (nI q) 0 is_ ok hlt hd e_put_s ((e_put_n (by decide)).trans h2)) (fun h1 hq => ?_)
        subst hq
        rw [e_pp]
        refine T_goto (pc' := 147) d_Tx_readToken_111 (by decide) ?_
        refine T_vret d_Tx_readToken_147 rfl ?_
        have hv := ov_v (decide (B q - 48 = 0)) B L 120 (q + 1) (B q - 48) (by have := (isD_rng hd); omega)
        generalize ov (decide (B q - 48 = 0)) B L 120 (q + 1) (B q - 48) = o at hv
        by_cases h100 : o.1 < 100
        · rw [if_pos h100]
          exact ⟨rfl, _, _, rfl, Or.inr ⟨show ¬ (2 : Nat) = 4 by decide, rfl, rfl⟩⟩
        · rw [if_neg h100]
          refine ⟨rfl, _, _, rfl, Or.inl ⟨rfl, Or.inr ⟨rfl, ?_⟩⟩⟩
          rw [show o.1 = 100 by omega]; rfl
      · refine T_if_eq (pc' := 107) (tgt := 114) d_Tx_readToken_104 rfl (by decide) (fun _ => ?_) (fun hzz => absurd (by decide) hzz)
        rw [if_neg hd]
        refine T_aload_n (pc' := 115) d_Tx_readToken_114 rfl rfl rfl ?_
        refine T_aload_n (pc' := 116) d_Tx_readToken_115 rfl rfl rfl ?_
        refine T_get (pc' := 119) d_Tx_readToken_116 rfl g_Tx_9 e_put_s rfl ?_
        refine T_aload_n (pc' := 120) d_Tx_readToken_119 rfl rfl rfl ?_
        refine T_get (pc' := 123) d_Tx_readToken_120 rfl g_Tx_31 e_put_s rfl ?_
        refine T_ialoadN q (pc' := 124) d_Tx_readToken_123 rfl ((e_put_n (by decide)).trans h2) ⟨by omega, by decide⟩ ?_
        rw [ob1]
        refine T_bipush (v := 59) (pc' := 126) d_Tx_readToken_124 rfl (by decide) ?_
        by_cases h59 : B q = 59
        · refine T_icmp_ne (pc' := 129) (tgt := 133) d_Tx_readToken_126 rfl (by decide) (fun hzz => absurd ((s_59 _ ob2).mpr h59) hzz) (fun _ => ?_)
          rw [if_pos h59]
          refine T_iconst (v := 3) (pc' := 130) d_Tx_readToken_129 rfl (by decide) ?_
          refine T_goto (pc' := 134) d_Tx_readToken_130 (by decide) ?_
          refine T_puti3 (pc' := 137) d_Tx_readToken_134 rfl f_Tx_37 (fun z => absurd z Bool.false_ne_true) e_put_s ?_
          rw [e_pp]
          refine T_aload_n (pc' := 138) d_Tx_readToken_137 rfl rfl rfl ?_
          refine T_dup (pc' := 139) d_Tx_readToken_138 rfl rfl ?_
          refine T_get (pc' := 142) d_Tx_readToken_139 rfl g_Tx_31 e_put_s rfl ?_
          refine T_iconst (v := 1) (pc' := 143) d_Tx_readToken_142 rfl (by decide) ?_
          refine T_iadd (pc' := 144) d_Tx_readToken_143 rfl ?_
          rw [nI_1]
          refine T_puti2 (pc' := 147) d_Tx_readToken_144 rfl f_Tx_31 (fun z => absurd z Bool.false_ne_true) e_put_s ?_
          refine T_vret d_Tx_readToken_147 rfl ?_
          rw [e_pp]
          exact ⟨rfl, _, _, rfl, Or.inr ⟨show ¬ (3 : Nat) = 4 by decide, rfl, rfl⟩⟩
        · refine T_icmp_ne (pc' := 129) (tgt := 133) d_Tx_readToken_126 rfl (by decide) (fun _ => ?_) (fun hzz => absurd hzz (fun z => h59 ((s_59 _ ob2).mp z)))
          rw [if_neg h59]
          refine T_iconst (v := 4) (pc' := 134) d_Tx_readToken_133 rfl (by decide) ?_
          refine T_puti3 (pc' := 137) d_Tx_readToken_134 rfl f_Tx_37 (fun z => absurd z Bool.false_ne_true) e_put_s ?_
          rw [e_pp]
          refine T_aload_n (pc' := 138) d_Tx_readToken_137 rfl rfl rfl ?_
          refine T_dup (pc' := 139) d_Tx_readToken_138 rfl rfl ?_
          refine T_get (pc' := 142) d_Tx_readToken_139 rfl g_Tx_31 e_put_s rfl ?_
          refine T_iconst (v := 1) (pc' := 143) d_Tx_readToken_142 rfl (by decide) ?_
          refine T_iadd (pc' := 144) d_Tx_readToken_143 rfl ?_
          rw [nI_1]
          refine T_puti2 (pc' := 147) d_Tx_readToken_144 rfl f_Tx_31 (fun z => absurd z Bool.false_ne_true) e_put_s ?_
          refine T_vret d_Tx_readToken_147 rfl ?_
          rw [e_pp]
          exact ⟨rfl, _, _, rfl, Or.inl ⟨rfl, Or.inl ⟨rfl, rfl⟩⟩⟩
  · refine T_icmp_lt (pc' := 62) (tgt := 70) d_Tx_readToken_59 rfl (by decide) (fun hzz => absurd hzz (nI_nlt (by omega) (by omega))) (fun _ => ?_)
    rw [if_pos hlt]
    refine T_aload_n (pc' := 63) d_Tx_readToken_62 rfl rfl rfl ?_
    refine T_iconst (v := 0) (pc' := 64) d_Tx_readToken_63 rfl (by decide) ?_
    refine T_puti3 (pc' := 67) d_Tx_readToken_64 rfl f_Tx_37 (fun z => absurd z Bool.false_ne_true) e_put_s ?_
    refine T_goto (pc' := 147) d_Tx_readToken_67 (by decide) ?_
    refine T_vret d_Tx_readToken_147 rfl ?_
    rw [e_pp]
    exact ⟨rfl, _, _, rfl, Or.inr ⟨show ¬ (0 : Nat) = 4 by decide, rfl, rfl⟩⟩
end TOK
