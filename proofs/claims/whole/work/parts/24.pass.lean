/-! Told.passMinute, passMinutes -/
theorem i_shift (x y : Int32) : x + 1 - y = x - y + 1 := by
  rw [Int32.sub_eq_add_neg, Int32.sub_eq_add_neg, Int32.add_assoc, Int32.add_comm 1, ← Int32.add_assoc]
section PASS
variable (X : EX) (d : Nat) (h : AH) (a n m : Nat) (wi we br li fa : Nat → Int32) (sta abf : Int32)
theorem c_To_passMinute (b : Nat) (c : AC) (g : Nat → Int32) (hn : n ≤ 3) (hm : m ≤ 4) (tr : TR h a n m wi we br li fa sta abf) (hab : b < a ∨ a + 5 < b) (hb : h.2 b = some c) (hf : FC c g) (hg : GI n m g) : Cv X (d + 3) M_To_passMinute [.ref a, .ref b] h (fun h1 => ∃ c', h1 = e_put h b c' ∧ FC c' (sPass n wi we br li fa g)) := by
  obtain ⟨si, us, rfl, hel, hus⟩ := hf
  have tr0 := tr
  have trp : ∀ c, TR (e_put h b c) a n m wi we br li fa sta abf := fun c => TR_put tr hab
  obtain ⟨t0, t1, t2, t3, t4, t5⟩ := tr
  refine C_of_T rfl rfl (Nat.le_of_ble_eq_true rfl) rfl ?_
  refine T_aload_n (pc' := 1) d_To_passMinute_0 rfl rfl rfl ?_
  refine T_dup (pc' := 2) d_To_passMinute_1 rfl rfl ?_
  refine T_get (pc' := 5) d_To_passMinute_2 rfl g_To_70 (by first | assumption | exact e_put_s | simp [e_put, *]) rfl ?_
  refine T_iconst (v := 1) (pc' := 6) d_To_passMinute_5 rfl (by decide) ?_
  refine T_iadd (pc' := 7) d_To_passMinute_6 rfl ?_
  refine T_puti0 (pc' := 10) d_To_passMinute_7 rfl f_To_70 (fun z => absurd z Bool.false_ne_true) (by first | assumption | exact e_put_s | simp [e_put, *]) ?_
  refine T_aload_n (pc' := 11) d_To_passMinute_10 rfl rfl rfl ?_
  refine T_get (pc' := 14) d_To_passMinute_11 rfl g_To_94 e_put_s rfl ?_
  rcases hg.2.2.2.1 with hlo | hlo
  · refine T_if_eq (pc' := 17) (tgt := 18) d_To_passMinute_14 rfl (by decide) (fun _ => ?_) (fun hzz => absurd hlo hzz)
    refine T_aload_n (pc' := 19) d_To_passMinute_18 rfl rfl rfl ?_
    refine T_aload_n (pc' := 20) d_To_passMinute_19 rfl rfl rfl ?_
    refine T_V1i (pc' := 23) d_To_passMinute_20 rfl l_To_98 v_To_hold (trp _).1 (Nat.le_of_ble_eq_true rfl) (c_To_hold X d _ a n m wi we br li fa sta abf b _ _ _ _ _ _ _ _ _ hn hm (trp _) e_put_s hg.2.2.1) (fun v h1 hq => ?_)
    obtain ⟨rfl, rfl⟩ := hq
    refine T_aload_n (pc' := 24) d_To_passMinute_23 rfl rfl rfl ?_
    refine T_aload_n (pc' := 25) d_To_passMinute_24 rfl rfl rfl ?_
    refine T_V1i (pc' := 28) d_To_passMinute_25 rfl l_To_102 v_To_load (trp _).1 (Nat.le_of_ble_eq_true rfl) (c_To_load X (d + 1) _ a n m wi we br li fa sta abf b _ _ _ _ _ _ _ _ _ hn (trp _) e_put_s) (fun v h2 hq => ?_)
    obtain ⟨rfl, rfl⟩ := hq
    have hhold : sHold br li fa (g 3) (g 4) (g 0 + 1 - si) = sHold br li fa (g 3) (g 4) (g 5 + 1) := by
      by_cases h9 : g 3 = -9
      · rw [sHold, sHold, if_pos (Or.inl h9), if_pos (Or.inl h9)]
      · rw [i_shift, hel h9]
    rw [hhold]
    have key : ∀ u : Int32, u = sUp (sMore n we br li fa g) → T X (d + 2 + 1) M_To_passMinute 48 [.ref a, .ref b, .int (sHold br li fa (g 3) (g 4) (g 5 + 1) - sW we (g 6) n)] [.int u, .ref b] (e_put h b (oFl (g 0 + 1) (g 1) (g 2) (g 3) (g 4) si (g 6) us (g 10))) (fun r h1 => r = none ∧ ∃ c', h1 = e_put h b c' ∧ FC c' (sPass n wi we br li fa g)) := by
      intro u hu
      subst hu
      obtain ⟨kk, hk9, hk⟩ := sHe_in (sMore n we br li fa g) (g 2)
      refine T_V1v (pc' := 51) d_To_passMinute_48 rfl l_To_105 v_Fl_climb e_put_s (Nat.le_of_ble_eq_true rfl) (c_Fl_climb X (d + 1) _ b _ _ _ _ _ _ _ _ _ (sUp (sMore n we br li fa g)) e_put_s) (fun h1 hq => ?_)
      subst hq
      rw [e_pp]
      refine T_aload_n (pc' := 52) d_To_passMinute_51 rfl rfl rfl ?_
      refine T_aload_n (pc' := 53) d_To_passMinute_52 rfl rfl rfl ?_
      refine T_aload_n (pc' := 54) d_To_passMinute_53 rfl rfl rfl ?_
      refine T_get (pc' := 57) d_To_passMinute_54 rfl g_To_109 e_put_s rfl ?_
      refine T_V1i (pc' := 60) d_To_passMinute_57 rfl l_To_112 v_To_windAt (trp _).1 (Nat.le_of_ble_eq_true rfl) (c_To_windAt X (d + 1) _ a n m wi we br li fa sta abf _ kk hk9 hk (trp _)) (fun v h2 hq => ?_)
      obtain ⟨rfl, rfl⟩ := hq
      refine T_V1v (pc' := 63) d_To_passMinute_60 rfl l_To_116 v_Fl_drift e_put_s (Nat.le_of_ble_eq_true rfl) (c_Fl_drift X (d + 1) _ b _ _ _ _ _ _ _ _ _ _ e_put_s) (fun h1 hq => ?_)
      subst hq
      rw [e_pp]
      refine T_vret d_To_passMinute_63 rfl ?_
      refine ⟨rfl, _, rfl, si, us, ?_, ?_, ?_⟩
      · have h1 : ¬ g 10 = 1 := by rw [hlo]; decide
        simp [sPass, h1, sTo, sHe]
        rfl
      · intro h9
        have h1 : ¬ g 10 = 1 := by rw [hlo]; decide
        have h9' : g 3 ≠ -9 := by simpa [sPass, h1] using h9
        have := hel h9'
        simp [sPass, i_shift, this]
      · intro p hp
        have h1 : ¬ g 10 = 1 := by rw [hlo]; decide
        rw [hus p hp]
        simp only [sPass, if_neg (show ¬ 7 + p = 0 by omega), if_neg (show ¬ 7 + p = 5 by omega), if_neg h1, if_neg (show ¬ 7 + p = 2 by omega), if_neg (show ¬ 7 + p = 1 by omega), if_neg (show ¬ 7 + p = 10 by omega)]
    refine T_isub (pc' := 29) d_To_passMinute_28 rfl ?_
    refine T_is_n2 (pc' := 30) d_To_passMinute_29 rfl rfl (Nat.le_of_ble_eq_true rfl) rfl ?_
    refine T_aload_n (pc' := 31) d_To_passMinute_30 rfl rfl rfl ?_
    refine T_iload_n (pc' := 32) d_To_passMinute_31 rfl rfl rfl ?_
    refine T_if_le (pc' := 35) (tgt := 39) d_To_passMinute_32 rfl (by decide) (fun hc => ?_) (fun hc => ?_)
    · refine T_iload_n (pc' := 40) d_To_passMinute_39 rfl rfl rfl ?_
      refine T_if_ge (pc' := 43) (tgt := 47) d_To_passMinute_40 rfl (by decide) (fun hc => ?_) (fun hc => ?_)
      · refine T_iconst (v := 0) (pc' := 48) d_To_passMinute_47 rfl (by decide) ?_
        exact key 0 (by show _ = sUp (sHold br li fa (g 3) (g 4) (g 5 + 1) - sW we (g 6) n); rw [sUp, if_neg (Int32.not_lt.mpr ‹_›), if_neg (Int32.not_lt.mpr hc)])
      · refine T_iconst (v := (-1)) (pc' := 44) d_To_passMinute_43 rfl (by decide) ?_
        refine T_goto (pc' := 48) d_To_passMinute_44 (by decide) ?_
        exact key (-1) (by show _ = sUp (sHold br li fa (g 3) (g 4) (g 5 + 1) - sW we (g 6) n); rw [sUp, if_neg (Int32.not_lt.mpr ‹_›), if_pos (Int32.not_le.mp hc)])
    · refine T_iconst (v := 1) (pc' := 36) d_To_passMinute_35 rfl (by decide) ?_
      refine T_goto (pc' := 48) d_To_passMinute_36 (by decide) ?_
      exact key 1 (by show _ = sUp (sHold br li fa (g 3) (g 4) (g 5 + 1) - sW we (g 6) n); rw [sUp, if_pos (Int32.not_le.mp hc)])
  · refine T_if_eq (pc' := 17) (tgt := 18) d_To_passMinute_14 rfl (by decide) (fun hzz => absurd hzz (by rw [hlo]; decide)) (fun _ => ?_)
    refine T_vret d_To_passMinute_17 rfl ?_
    refine ⟨rfl, _, rfl, si, us, ?_, ?_, ?_⟩
    · simp [sPass, hlo]
    · intro h9
      have h9' : g 3 ≠ -9 := by simpa [sPass, hlo] using h9
      simp [sPass, i_shift, hel h9']
    · intro p hp
      rw [hus p hp]
      simp [sPass, hlo, show ¬ 7 + p = 0 by omega, show ¬ 7 + p = 5 by omega]
def sPassN (n : Nat) (wi we br li fa : Nat → Int32) (g : Nat → Int32) : Nat → Nat → Int32
  | 0 => g
  | k + 1 => sPass n wi we br li fa (sPassN n wi we br li fa g k)
theorem GI_passN {n m : Nat} {wi we br li fa g : Nat → Int32} (hg : GI n m g) : ∀ k, GI n m (sPassN n wi we br li fa g k)
  | 0 => hg
  | k + 1 => GI_pass (GI_passN hg k)
theorem l_To_passMinutes (b N : Nat) (g : Nat → Int32) (hn : n ≤ 3) (hm : m ≤ 4) (hN : N < 2 ^ 31) (hab : b < a ∨ a + 5 < b) (hg : GI n m g) (Q : Option Value → AH → Prop) (h0 : AH) (hQ : ∀ c, FC c (sPassN n wi we br li fa g N) → Q none (e_put h0 b c)) : ∀ (k i : Nat), i + k = N → ∀ (h : AH) (c : AC), h = e_put h0 b c → TR h a n m wi we br li fa sta abf → FC c (sPassN n wi we br li fa g i) → T X (d + 4) M_To_passMinutes 2 [.ref a, .ref b, .int (nI N), .int (nI i)] [] h Q
  | 0, i, hi, h, c, hh, tr, hf => by
    have : i = N := by omega
    subst this
    refine T_iload_n (pc' := 3) d_To_passMinutes_2 rfl rfl rfl ?_
    refine T_iload_n (pc' := 4) d_To_passMinutes_3 rfl rfl rfl ?_
    refine T_icmp_ge (pc' := 7) (tgt := 18) d_To_passMinutes_4 rfl (by decide) (fun _ => ?_) (fun hzz => absurd (Int32.le_refl _) hzz)
    refine T_vret d_To_passMinutes_18 rfl ?_
    rw [hh]
    exact hQ c hf
  | k + 1, i, hi, h, c, hh, tr, hf => by
    subst hh
    refine T_iload_n (pc' := 3) d_To_passMinutes_2 rfl rfl rfl ?_
    refine T_iload_n (pc' := 4) d_To_passMinutes_3 rfl rfl rfl ?_
    refine T_icmp_ge (pc' := 7) (tgt := 18) d_To_passMinutes_4 rfl (by decide) (fun hzz => absurd hzz (nI_ge (by omega) hN)) (fun _ => ?_)
    refine T_aload_n (pc' := 8) d_To_passMinutes_7 rfl rfl rfl ?_
    refine T_aload_n (pc' := 9) d_To_passMinutes_8 rfl rfl rfl ?_
    refine T_V1v (pc' := 12) d_To_passMinutes_9 rfl l_To_90 v_To_passMinute tr.1 (Nat.le_of_ble_eq_true rfl) (c_To_passMinute X d _ a n m wi we br li fa sta abf b c _ hn hm tr hab e_put_s hf (GI_passN hg i)) (fun h1 hq => ?_)
    obtain ⟨c', rfl, hf'⟩ := hq
    rw [e_pp]
    refine T_ii3 (c := 1) (pc' := 15) d_To_passMinutes_12 rfl (by decide) (Nat.le_of_ble_eq_true rfl) rfl ?_
    rw [nI_1]
    refine T_goto (pc' := 2) d_To_passMinutes_15 (by decide) ?_
    have tr' := TR_put (c := c') tr hab
    rw [e_pp] at tr'
    exact l_To_passMinutes b N g hn hm hN hab hg Q h0 hQ k (i + 1) (by omega) _ c' rfl tr' hf'
theorem e_put_self {h : AH} {b : Nat} {c : AC} (hb : h.2 b = some c) : e_put h b c = h := by
  unfold e_put
  refine Prod.ext rfl (funext fun k => ?_)
  by_cases hk : k = b
  · subst hk; simp [hb]
  · simp [hk]
theorem c_To_passMinutes (b N : Nat) (c : AC) (g : Nat → Int32) (hn : n ≤ 3) (hm : m ≤ 4) (hN : N < 2 ^ 31) (tr : TR h a n m wi we br li fa sta abf) (hab : b < a ∨ a + 5 < b) (hb : h.2 b = some c) (hf : FC c g) (hg : GI n m g) : Cv X (d + 4) M_To_passMinutes [.ref a, .ref b, .int (nI N)] h (fun h1 => ∃ c', h1 = e_put h b c' ∧ FC c' (sPassN n wi we br li fa g N)) := by
  refine C_of_T rfl rfl (Nat.le_of_ble_eq_true rfl) rfl ?_
  refine T_iconst (v := 0) (pc' := 1) d_To_passMinutes_0 rfl (by decide) ?_
  refine T_is_n3 (pc' := 2) d_To_passMinutes_1 rfl rfl (Nat.le_of_ble_eq_true rfl) rfl ?_
  exact l_To_passMinutes X d a n m wi we br li fa sta abf b N g hn hm hN hab hg _ h (fun c' hc' => ⟨rfl, c', rfl, hc'⟩) N 0 (by omega) h c (e_put_self hb).symm tr hf
end PASS
