/-! the text: items, the object -/
def XT (X : EX) : Prop := ((X.2.2.2 0).1 = 4 ∧ ∀ i, i < 4 → (X.2.2.2 0).2 i = nI (cntT i)) ∧ ((X.2.2.2 1).1 = 12 ∧ ∀ i, i < 12 → (X.2.2.2 1).2 i = nI (loT i)) ∧ ((X.2.2.2 2).1 = 12 ∧ ∀ i, i < 12 → (X.2.2.2 2).2 i = nI (hiT i))
def FrD (h h1 : AH) : Prop := h1.1 = h.1 ∧ ∀ k, k ≠ 1 → k ≠ 3 → ¬ (10 ≤ k ∧ k < 16) → h1.2 k = h.2 k
theorem FrD.rf {h : AH} : FrD h h := ⟨rfl, fun _ _ _ _ => rfl⟩
theorem FrD.tr {h h1 h2 : AH} (a : FrD h h1) (b : FrD h1 h2) : FrD h h2 := ⟨b.1.trans a.1, fun k q1 q2 q3 => (b.2 k q1 q2 q3).trans (a.2 k q1 q2 q3)⟩
theorem FrD.put {h h1 : AH} {k : Nat} {c : AC} (a : FrD h h1) (hk : k = 1 ∨ k = 3) : FrD h (e_put h1 k c) := ⟨a.1, fun j q1 q2 q3 => (e_put_n (by omega)).trans (a.2 j q1 q2 q3)⟩
theorem FrD.fr {h h1 : AH} (a : Fr 10 16 h h1) : FrD h h1 := ⟨a.1, fun k _ _ q => a.2 k q⟩
theorem FrD.wide {h h1 : AH} (a : FrD h h1) : Fr 1 16 h h1 := ⟨a.1, fun k q => a.2 k (by omega) (by omega) (by omega)⟩
/-- the text, its latest token, the numbers -/
def TXS (h : AH) (tx : Nat → Int32) (L : Nat) (t : Nat × Nat × Nat × Nat) (s : Nat) (f : Nat → Int32) : Prop := (∃ tok va, h.2 1 = some (oTx (nI L) (nI t.2.2.2) tok (nI t.2.2.1) va (nI s)) ∧ OTok t tok va) ∧ h.2 2 = some (.inl (0, 120, tx)) ∧ h.2 3 = some (.inl (0, 3, f))
/-- the draft is what was told so far -/
def DR (h : AH) (ps : PS) : Prop := ∃ wi we br li fa, TR h 10 (ps.1 0) (ps.1 1) wi we br li fa (ps.2 5 0) (sAb (ps.2 6) (ps.1 0)) ∧ (∀ i, i < 10 → wi i = ps.2 0 i) ∧ (∀ i, i < ps.1 0 → we i = ps.2 1 i ∧ br i = ps.2 2 i) ∧ ∀ i, i < ps.1 1 → li i = ps.2 3 i ∧ fa i = ps.2 4 i
theorem sAb_congr (f g : Nat → Int32) : ∀ n, (∀ i, i < n → f i = g i) → sAb f n = sAb g n
  | 0, _ => rfl
  | n + 1, h => by rw [sAb, sAb, sAb_congr f g n (fun i hi => h i (by omega)), h n (by omega)]
section PARSE2
variable (X : EX) (d : Nat) (h : AH)
theorem c_token (tx : Nat → Int32) (B : Nat → Nat) (L : Nat) (t : Nat × Nat × Nat × Nat) (s : Nat) (f : Nat → Int32) (ok : okB tx B L) (ht : t.2.2.2 ≤ L) (txs : TXS h tx L t s f) : Cv X (d + 2) M_Tx_readToken [.ref 1] h (fun h1 => TXS h1 tx L (tkn B L t.2.2.2) s f ∧ Fr 1 2 h h1) := by
  obtain ⟨⟨tok, va, x1, ot⟩, x2, x3⟩ := txs
  refine C_mono (c_Tx_readToken X d h tx B L t.2.2.2 tok (nI t.2.2.1) va (nI s) ok ht x1 x2) ?_
  rintro r h1 ⟨rfl, tok', va', rfl, ot'⟩
  exact ⟨rfl, ⟨⟨tok', va', e_put_s, ot'⟩, (e_put_n (by decide)).trans x2, (e_put_n (by decide)).trans x3⟩, Fr.rf.put ⟨by omega, by omega⟩⟩
theorem s_key : ∀ b, b < 256 → ((nI b = 119 ↔ b = 119) ∧ (nI b = 112 ↔ b = 112) ∧ (nI b = 116 ↔ b = 116) ∧ (nI b = 120 ↔ b = 120)) := by decide +kernel
theorem tk_val (B : Nat → Nat) (L q : Nat) (hB : ∀ i, i < L → B i < 256) : (tk1 B L q).2.1 < 256 := by
  rw [tk1]
  split
  · show 0 < 256; omega
  · rename_i hq
    have hb := hB q (by omega)
    split
    · show (if fp isL B L 120 (q + 1) = q + 1 then B q else 0) < 256
      split <;> omega
    · split
      · split
        · rename_i z; show (ov (decide (B q - 48 = 0)) B L 120 (q + 1) (B q - 48)).1 < 256; omega
        · show 0 < 256; omega
      · show 0 < 256; omega
theorem c_Tx_itemBegun (tx : Nat → Int32) (L : Nat) (t : Nat × Nat × Nat × Nat) (ps : PS) (f : Nat → Int32) (ht4 : t.1 ≤ 4) (hv : t.2.1 < 256) (hi : PSI ps) (txs : TXS h tx L t (ps.1 2) f) (dr : DR h ps) : Ci X d M_Tx_itemBegun [.ref 1, .ref 10] h (fun v h1 => h1 = h ∧ v = if itN ps t = 4 then -9 else nI (itN ps t)) := by
  obtain ⟨⟨tok, va, x1, ot⟩, x2, x3⟩ := txs
  obtain ⟨wi, we, br, li, fa, ⟨t0, -⟩, -⟩ := dr
  obtain ⟨i1, i2, i3, -⟩ := hi
  refine C_of_T rfl rfl (Nat.le_of_ble_eq_true rfl) rfl ?_
  refine T_aload_n (pc' := 1) d_Tx_itemBegun_0 rfl rfl rfl ?_
  refine T_get (pc' := 4) d_Tx_itemBegun_1 rfl g_Tx_37 (by first | assumption | exact e_put_s | simp [e_put, *]) rfl ?_
  refine T_iconst (v := 1) (pc' := 5) d_Tx_itemBegun_4 rfl (by decide) ?_
  have fin4 : itN ps t = 4 → T X d M_Tx_itemBegun 8 [.ref 1, .ref 10] [] h (fun r h1 => ∃ v : Int32, r = some (.int v) ∧ h1 = h ∧ v = if itN ps t = 4 then -9 else nI (itN ps t)) := fun e => by
    refine T_bipush (v := (-9)) (pc' := 10) d_Tx_itemBegun_8 rfl (by decide) ?_
    refine T_iret d_Tx_itemBegun_10 rfl ?_
    exact ⟨_, rfl, rfl, by rw [if_pos e]⟩
  rcases ot with ⟨o1, o2⟩ | ⟨o1, rfl, rfl⟩
  · have hne : ¬ tok = 1 := by
      rcases o2 with ⟨rfl, -⟩ | ⟨rfl, -⟩ <;> decide
    refine T_icmp_eq (pc' := 8) (tgt := 11) d_Tx_itemBegun_5 rfl (by decide) (fun hzz => absurd hzz hne) (fun _ => ?_)
    exact fin4 (by rw [itN, if_neg (by omega)])
  · by_cases h1 : t.1 = 1
    · refine T_icmp_eq (pc' := 8) (tgt := 11) d_Tx_itemBegun_5 rfl (by decide) (fun _ => ?_) (fun hzz => absurd (by rw [h1]; rfl) hzz)
      obtain ⟨k1, k2, k3, k4⟩ := s_key t.2.1 hv
      refine T_aload_n (pc' := 12) d_Tx_itemBegun_11 rfl rfl rfl ?_
      refine T_get (pc' := 15) d_Tx_itemBegun_12 rfl g_Tx_54 (by first | assumption | exact e_put_s | simp [e_put, *]) rfl ?_
      refine sw_Tx_itemBegun_15 (fun hx => ?_) (fun hx => ?_) (fun hx => ?_) (fun hx => ?_) (fun y1 y2 y3 y4 => ?_)
      · have e := k2.mp hx
        have ei : itN ps t = if ps.1 0 < 3 then 1 else 4 := by rw [itN, if_pos h1, e, if_neg (by decide), if_pos rfl]
        refine T_aload_n (pc' := 67) d_Tx_itemBegun_66 rfl rfl rfl ?_
        refine T_get (pc' := 70) d_Tx_itemBegun_67 rfl g_Tx_71 (by first | assumption | exact e_put_s | simp [e_put, *]) rfl ?_
        refine T_iconst (v := 3) (pc' := 71) d_Tx_itemBegun_70 rfl (by decide) ?_
        by_cases hn : ps.1 0 < 3
        · refine T_icmp_ge (pc' := 74) (tgt := 78) d_Tx_itemBegun_71 rfl (by decide) (fun hzz => absurd hzz (nI_ge (a := ps.1 0) (b := 3) hn (by decide))) (fun _ => ?_)
          refine T_iconst (v := 1) (pc' := 75) d_Tx_itemBegun_74 rfl (by decide) ?_
          refine T_goto (pc' := 80) d_Tx_itemBegun_75 (by decide) ?_
          refine T_iret d_Tx_itemBegun_80 rfl ?_
          exact ⟨_, rfl, rfl, by rw [ei, if_pos hn]; rfl⟩
        · refine T_icmp_ge (pc' := 74) (tgt := 78) d_Tx_itemBegun_71 rfl (by decide) (fun _ => ?_) (fun hzz => absurd (nI_le (a := 3) (by omega) (by omega)) hzz)
          refine T_bipush (v := (-9)) (pc' := 80) d_Tx_itemBegun_78 rfl (by decide) ?_
          refine T_iret d_Tx_itemBegun_80 rfl ?_
          exact ⟨_, rfl, rfl, by rw [ei, if_neg hn]; rfl⟩
      · have e := k3.mp hx
        have ei : itN ps t = if ps.1 1 < 4 then 2 else 4 := by rw [itN, if_pos h1, e, if_neg (by decide), if_neg (by decide), if_pos rfl]
        refine T_aload_n (pc' := 82) d_Tx_itemBegun_81 rfl rfl rfl ?_
        refine T_get (pc' := 85) d_Tx_itemBegun_82 rfl g_Tx_74 (by first | assumption | exact e_put_s | simp [e_put, *]) rfl ?_
        refine T_iconst (v := 4) (pc' := 86) d_Tx_itemBegun_85 rfl (by decide) ?_
        by_cases hn : ps.1 1 < 4
        · refine T_icmp_ge (pc' := 89) (tgt := 93) d_Tx_itemBegun_86 rfl (by decide) (fun hzz => absurd hzz (nI_ge (a := ps.1 1) (b := 4) hn (by decide))) (fun _ => ?_)
          refine T_iconst (v := 2) (pc' := 90) d_Tx_itemBegun_89 rfl (by decide) ?_
          refine T_goto (pc' := 95) d_Tx_itemBegun_90 (by decide) ?_
          refine T_iret d_Tx_itemBegun_95 rfl ?_
          exact ⟨_, rfl, rfl, by rw [ei, if_pos hn]; rfl⟩
        · refine T_icmp_ge (pc' := 89) (tgt := 93) d_Tx_itemBegun_86 rfl (by decide) (fun _ => ?_) (fun hzz => absurd (nI_le (a := 4) (by omega) (by omega)) hzz)
          refine T_bipush (v := (-9)) (pc' := 95) d_Tx_itemBegun_93 rfl (by decide) ?_
          refine T_iret d_Tx_itemBegun_95 rfl ?_
          exact ⟨_, rfl, rfl, by rw [ei, if_neg hn]; rfl⟩
      · have e := k1.mp hx
        have ei : itN ps t = 0 := by rw [itN, if_pos h1, e, if_pos rfl]
        refine T_iconst (v := 0) (pc' := 65) d_Tx_itemBegun_64 rfl (by decide) ?_
        refine T_iret d_Tx_itemBegun_65 rfl ?_
        exact ⟨_, rfl, rfl, by rw [ei]; rfl⟩
      · have e := k4.mp hx
        have ei : itN ps t = if ps.1 2 = 0 then 3 else 4 := by rw [itN, if_pos h1, e, if_neg (by decide), if_neg (by decide), if_neg (by decide), if_pos rfl]
        refine T_aload_n (pc' := 97) d_Tx_itemBegun_96 rfl rfl rfl ?_
        refine T_get (pc' := 100) d_Tx_itemBegun_97 rfl g_Tx_27 (by first | assumption | exact e_put_s | simp [e_put, *]) rfl ?_
        by_cases hn : ps.1 2 = 0
        · refine T_if_eq (pc' := 103) (tgt := 108) d_Tx_itemBegun_100 rfl (by decide) (fun _ => ?_) (fun hzz => absurd (by rw [hn]; rfl) hzz)
          refine T_iconst (v := 3) (pc' := 109) d_Tx_itemBegun_108 rfl (by decide) ?_
          refine T_iret d_Tx_itemBegun_109 rfl ?_
          exact ⟨_, rfl, rfl, by rw [ei, if_pos hn]; rfl⟩
        · refine T_if_eq (pc' := 103) (tgt := 108) d_Tx_itemBegun_100 rfl (by decide) (fun hzz => absurd hzz (nI_ne0 (by omega) (by omega))) (fun _ => ?_)
          refine T_bipush (v := (-9)) (pc' := 105) d_Tx_itemBegun_103 rfl (by decide) ?_
          refine T_goto (pc' := 109) d_Tx_itemBegun_105 (by decide) ?_
          refine T_iret d_Tx_itemBegun_109 rfl ?_
          exact ⟨_, rfl, rfl, by rw [ei, if_neg hn]; rfl⟩
      · have ei : itN ps t = 4 := by
          rw [itN, if_pos h1, if_neg (fun e => y3 (k1.mpr e)), if_neg (fun e => y1 (k2.mpr e)), if_neg (fun e => y2 (k3.mpr e)), if_neg (fun e => y4 (k4.mpr e))]
        refine T_bipush (v := (-9)) (pc' := 112) d_Tx_itemBegun_110 rfl (by decide) ?_
        refine T_iret d_Tx_itemBegun_112 rfl ?_
        exact ⟨_, rfl, rfl, by rw [ei]; rfl⟩
    · have hl : ¬ nI t.1 = 1 := by
        intro q
        have := (nI_eq (b := 1) (show t.1 < 2 ^ 31 by omega) (by decide)).mp q
        omega
      refine T_icmp_eq (pc' := 8) (tgt := 11) d_Tx_itemBegun_5 rfl (by decide) (fun hzz => absurd hzz hl) (fun _ => ?_)
      exact fin4 (by rw [itN, if_neg h1])
theorem c_Tx_tell (tx : Nat → Int32) (L : Nat) (t : Nat × Nat × Nat × Nat) (ps : PS) (f : Nat → Int32) (it : Nat) (ns : Nat → Nat) (h4 : it < 4) (hn : it = 1 → ps.1 0 < 3) (hm : it = 2 → ps.1 1 < 4) (hr : ∀ k, k < cntT it → loT (3 * it + k) ≤ ns k ∧ ns k ≤ hiT (3 * it + k)) (hf : ∀ k, k < cntT it → f k = nI (ns k)) (txs : TXS h tx L t (ps.1 2) f) (dr : DR h ps) : Cv X (d + 2) M_Tx_tell [.ref 1, .ref 10, .int (nI it)] h (fun h1 => TXS h1 tx L t ((pTell ps it ns).1 2) f ∧ DR h1 (pTell ps it ns) ∧ FrD h h1) := by
  have txs0 := txs
  obtain ⟨⟨tok, va, x1, ot⟩, x2, x3⟩ := txs
  obtain ⟨wi, we, br, li, fa, tr, a1, a2, a3⟩ := dr
  have t0 := tr.1
  have TX_fr : ∀ h1, Fr 10 16 h h1 → TXS h1 tx L t (ps.1 2) f := fun h1 fr => ⟨⟨tok, va, (fr.2 1 (by omega)).trans x1, ot⟩, (fr.2 2 (by omega)).trans x2, (fr.2 3 (by omega)).trans x3⟩
  refine C_of_T rfl rfl (Nat.le_of_ble_eq_true rfl) rfl ?_
  refine T_iload_n (pc' := 1) d_Tx_tell_0 rfl rfl rfl ?_
  have hc : it = 0 ∨ it = 1 ∨ it = 2 ∨ it = 3 := by omega
  rcases hc with rfl | rfl | rfl | rfl
  · have r0 : 1 ≤ ns 0 ∧ ns 0 ≤ 9 := hr 0 (by decide)
    refine sw_Tx_tell_1 (fun _ => ?_) (fun hx => absurd hx (by decide)) (fun hx => absurd hx (by decide)) (fun y _ _ => absurd rfl y)
    refine T_aload_n (pc' := 29) d_Tx_tell_28 rfl rfl rfl ?_
    refine T_aload_n (pc' := 30) d_Tx_tell_29 rfl rfl rfl ?_
    refine T_get (pc' := 33) d_Tx_tell_30 rfl g_Tx_19 (by first | assumption | exact e_put_s | simp [e_put, *]) rfl ?_
    refine T_iconst (v := 0) (pc' := 34) d_Tx_tell_33 rfl (by decide) ?_
    refine T_ialoadL 0 (pc' := 35) d_Tx_tell_34 rfl (by first | assumption | exact e_put_s | simp [e_put, *]) (by decide) ?_
    refine T_aload_n (pc' := 36) d_Tx_tell_35 rfl rfl rfl ?_
    refine T_get (pc' := 39) d_Tx_tell_36 rfl g_Tx_19 (by first | assumption | exact e_put_s | simp [e_put, *]) rfl ?_
    refine T_iconst (v := 1) (pc' := 40) d_Tx_tell_39 rfl (by decide) ?_
    refine T_ialoadL 1 (pc' := 41) d_Tx_tell_40 rfl (by first | assumption | exact e_put_s | simp [e_put, *]) (by decide) ?_
    rw [hf 0 (by decide), hf 1 (by decide)]
    refine T_V2v (pc' := 44) d_Tx_tell_41 rfl l_Tx_77 v_To_tellWind (by first | assumption | exact e_put_s | simp [e_put, *]) (Nat.le_of_ble_eq_true rfl) (c_To_tellWind X _ h 10 _ _ _ _ _ _ _ _ _ (ns 0) (nI (ns 1)) r0 tr) (fun h1 hq => ?_)
    obtain ⟨tr1, fr1⟩ := hq
    refine T_goto (pc' := 106) d_Tx_tell_44 (by decide) ?_
    refine T_vret d_Tx_tell_106 rfl ?_
    refine ⟨rfl, TX_fr h1 fr1, ⟨_, _, _, _, _, tr1, fun i hi => ?_, a2, a3⟩, FrD.fr fr1⟩
    show e_up wi (ns 0) (nI (ns 1) - 3) i = e_up (ps.2 0) (ns 0) (nI (ns 1) - 3) i
    rw [e_upL, e_upL, a1 i hi]
  · have h3 := hn rfl
    refine sw_Tx_tell_1 (fun hx => absurd hx (by decide)) (fun _ => ?_) (fun hx => absurd hx (by decide)) (fun _ y _ => absurd rfl y)
    refine T_aload_n (pc' := 48) d_Tx_tell_47 rfl rfl rfl ?_
    refine T_aload_n (pc' := 49) d_Tx_tell_48 rfl rfl rfl ?_
    refine T_get (pc' := 52) d_Tx_tell_49 rfl g_Tx_19 (by first | assumption | exact e_put_s | simp [e_put, *]) rfl ?_
    refine T_iconst (v := 0) (pc' := 53) d_Tx_tell_52 rfl (by decide) ?_
    refine T_ialoadL 0 (pc' := 54) d_Tx_tell_53 rfl (by first | assumption | exact e_put_s | simp [e_put, *]) (by decide) ?_
    refine T_aload_n (pc' := 55) d_Tx_tell_54 rfl rfl rfl ?_
    refine T_get (pc' := 58) d_Tx_tell_55 rfl g_Tx_19 (by first | assumption | exact e_put_s | simp [e_put, *]) rfl ?_
    refine T_iconst (v := 1) (pc' := 59) d_Tx_tell_58 rfl (by decide) ?_
    refine T_ialoadL 1 (pc' := 60) d_Tx_tell_59 rfl (by first | assumption | exact e_put_s | simp [e_put, *]) (by decide) ?_
    refine T_aload_n (pc' := 61) d_Tx_tell_60 rfl rfl rfl ?_
    refine T_get (pc' := 64) d_Tx_tell_61 rfl g_Tx_19 (by first | assumption | exact e_put_s | simp [e_put, *]) rfl ?_
    refine T_iconst (v := 2) (pc' := 65) d_Tx_tell_64 rfl (by decide) ?_
    refine T_ialoadL 2 (pc' := 66) d_Tx_tell_65 rfl (by first | assumption | exact e_put_s | simp [e_put, *]) (by decide) ?_
    rw [hf 0 (by decide), hf 1 (by decide), hf 2 (by decide)]
    refine T_V3v (pc' := 69) d_Tx_tell_66 rfl l_Tx_81 v_To_tellPerson (by first | assumption | exact e_put_s | simp [e_put, *]) (Nat.le_of_ble_eq_true rfl) (c_To_tellPerson X _ h 10 _ _ _ _ _ _ _ _ _ (nI (ns 0)) (nI (ns 1)) (nI (ns 2)) h3 tr) (fun h1 hq => ?_)
    obtain ⟨tr1, fr1⟩ := hq
    refine T_goto (pc' := 106) d_Tx_tell_69 (by decide) ?_
    refine T_vret d_Tx_tell_106 rfl ?_
    have eab : sAb (ps.2 6) (ps.1 0) ||| (nI (ns 2) <<< (nI (ps.1 0) &&& 31)) = sAb (e_up (ps.2 6) (ps.1 0) (nI (ns 2))) (ps.1 0 + 1) := by
      rw [sAb, sAb_congr (e_up (ps.2 6) (ps.1 0) (nI (ns 2))) (ps.2 6) (ps.1 0) (fun i hi => by rw [e_upL, if_neg (by omega)]), e_upL, if_pos rfl]
    rw [eab] at tr1
    refine ⟨rfl, TX_fr h1 fr1, ⟨_, _, _, _, _, tr1, a1, fun i (hi : i < ps.1 0 + 1) => ?_, a3⟩, FrD.fr fr1⟩
    show e_up we (ps.1 0) (nI (ns 0)) i = e_up (ps.2 1) (ps.1 0) (nI (ns 0)) i ∧ e_up br (ps.1 0) (nI (ns 1)) i = e_up (ps.2 2) (ps.1 0) (nI (ns 1)) i
    rw [e_upL, e_upL, e_upL, e_upL]
    by_cases e : i = ps.1 0
    · rw [if_pos e, if_pos e, if_pos e, if_pos e]; exact ⟨rfl, rfl⟩
    · rw [if_neg e, if_neg e, if_neg e, if_neg e]; exact a2 i (by omega)
  · have h3 := hm rfl
    refine sw_Tx_tell_1 (fun hx => absurd hx (by decide)) (fun hx => absurd hx (by decide)) (fun _ => ?_) (fun _ _ y => absurd rfl y)
    refine T_aload_n (pc' := 73) d_Tx_tell_72 rfl rfl rfl ?_
    refine T_aload_n (pc' := 74) d_Tx_tell_73 rfl rfl rfl ?_
    refine T_get (pc' := 77) d_Tx_tell_74 rfl g_Tx_19 (by first | assumption | exact e_put_s | simp [e_put, *]) rfl ?_
    refine T_iconst (v := 0) (pc' := 78) d_Tx_tell_77 rfl (by decide) ?_
    refine T_ialoadL 0 (pc' := 79) d_Tx_tell_78 rfl (by first | assumption | exact e_put_s | simp [e_put, *]) (by decide) ?_
    refine T_aload_n (pc' := 80) d_Tx_tell_79 rfl rfl rfl ?_
    refine T_get (pc' := 83) d_Tx_tell_80 rfl g_Tx_19 (by first | assumption | exact e_put_s | simp [e_put, *]) rfl ?_
    refine T_iconst (v := 1) (pc' := 84) d_Tx_tell_83 rfl (by decide) ?_
    refine T_ialoadL 1 (pc' := 85) d_Tx_tell_84 rfl (by first | assumption | exact e_put_s | simp [e_put, *]) (by decide) ?_
    rw [hf 0 (by decide), hf 1 (by decide)]
    refine T_V2v (pc' := 88) d_Tx_tell_85 rfl l_Tx_85 v_To_tellThought (by first | assumption | exact e_put_s | simp [e_put, *]) (Nat.le_of_ble_eq_true rfl) (c_To_tellThought X _ h 10 _ _ _ _ _ _ _ _ _ (nI (ns 0)) (nI (ns 1)) h3 tr) (fun h1 hq => ?_)
    obtain ⟨tr1, fr1⟩ := hq
    refine T_goto (pc' := 106) d_Tx_tell_88 (by decide) ?_
    refine T_vret d_Tx_tell_106 rfl ?_
    refine ⟨rfl, TX_fr h1 fr1, ⟨_, _, _, _, _, tr1, a1, a2, fun i (hi : i < ps.1 1 + 1) => ?_⟩, FrD.fr fr1⟩
    show e_up li (ps.1 1) (nI (ns 0)) i = e_up (ps.2 3) (ps.1 1) (nI (ns 0)) i ∧ e_up fa (ps.1 1) (nI (ns 1)) i = e_up (ps.2 4) (ps.1 1) (nI (ns 1)) i
    rw [e_upL, e_upL, e_upL, e_upL]
    by_cases e : i = ps.1 1
    · rw [if_pos e, if_pos e, if_pos e, if_pos e]; exact ⟨rfl, rfl⟩
    · rw [if_neg e, if_neg e, if_neg e, if_neg e]; exact a3 i (by omega)
  · refine sw_Tx_tell_1 (fun hx => absurd hx (by decide)) (fun hx => absurd hx (by decide)) (fun hx => absurd hx (by decide)) (fun _ _ _ => ?_)
    refine T_aload_n (pc' := 92) d_Tx_tell_91 rfl rfl rfl ?_
    refine T_aload_n (pc' := 93) d_Tx_tell_92 rfl rfl rfl ?_
    refine T_get (pc' := 96) d_Tx_tell_93 rfl g_Tx_19 (by first | assumption | exact e_put_s | simp [e_put, *]) rfl ?_
    refine T_iconst (v := 0) (pc' := 97) d_Tx_tell_96 rfl (by decide) ?_
    refine T_ialoadL 0 (pc' := 98) d_Tx_tell_97 rfl (by first | assumption | exact e_put_s | simp [e_put, *]) (by decide) ?_
    rw [hf 0 (by decide)]
    refine T_puti7 (pc' := 101) d_Tx_tell_98 rfl f_Tx_88 (fun z => absurd z Bool.false_ne_true) t0 ?_
    refine T_aload_n (pc' := 102) d_Tx_tell_101 rfl rfl rfl ?_
    refine T_iconst (v := 1) (pc' := 103) d_Tx_tell_102 rfl (by decide) ?_
    refine T_putz7 (pc' := 106) d_Tx_tell_103 rfl f_Tx_27 (fun z => absurd z Bool.false_ne_true) ((e_put_n (by decide)).trans x1) (by first | assumption | exact Or.inl rfl | exact Or.inr rfl) ?_
    refine T_vret d_Tx_tell_106 rfl ?_
    obtain ⟨-, t1, t2, t3, t4, t5⟩ := tr
    refine ⟨rfl, ⟨⟨tok, va, e_put_s, ot⟩, (e_put_n (by decide)).trans ((e_put_n (by decide)).trans x2), (e_put_n (by decide)).trans ((e_put_n (by decide)).trans x3)⟩, ⟨wi, we, br, li, fa, ⟨(e_put_n (by decide)).trans e_put_s, (e_put_n (by decide)).trans ((e_put_n (by decide)).trans t1), (e_put_n (by decide)).trans ((e_put_n (by decide)).trans t2), (e_put_n (by decide)).trans ((e_put_n (by decide)).trans t3), (e_put_n (by decide)).trans ((e_put_n (by decide)).trans t4), (e_put_n (by decide)).trans ((e_put_n (by decide)).trans t5)⟩, a1, a2, a3⟩, ?_⟩
    exact FrD.tr (FrD.fr (Fr.rf.put ⟨by omega, by omega⟩)) (FrD.rf.put (Or.inl rfl))
theorem l_numbers (xt : XT X) (tx : Nat → Int32) (B : Nat → Nat) (L : Nat) (ps : PS) (it : Nat) (h4 : it < 4) (ok : okB tx B L) (hB : ∀ i, i < L → B i < 256) (R : Nat ⊕ ((Nat → Nat) × Nat)) (Q : Option Value → AH → Prop) (hbad : ∀ f, R = .inl f → ∀ h1 t' fn, TXS h1 tx L t' (ps.1 2) fn → t'.2.2.1 = f → FrD h h1 → DR h1 ps → Q (some (.int 0)) h1) (hgood : ∀ z, R = .inr z → ∀ h1 t' fn, TXS h1 tx L t' (ps.1 2) fn → t'.2.2.2 = z.2 → (∀ k, k < cntT it → fn k = nI (z.1 k)) → FrD h h1 → DR h1 ps → T X (d + 3) M_Tx_readItem 84 [.ref 1, .ref 10, .int (nI it), .null, .null] [] h1 Q) : ∀ (j i pos : Nat) (ns : Nat → Nat), i + j = cntT it → pos ≤ L → pNums B L it j i pos ns = R → ∀ h1 t' fn, TXS h1 tx L t' (ps.1 2) fn → t'.2.2.2 = pos → (∀ k, k < i → fn k = nI (ns k)) → FrD h h1 → DR h1 ps → T X (d + 3) M_Tx_readItem 16 [.ref 1, .ref 10, .int (nI it), .int (nI i), .null] [] h1 Q
  | 0, i, pos, ns, hi, hpos, hR, h1, t', fn, txs, hp, hfn, fr, dr => by
    obtain ⟨⟨x0a, x0b⟩, -, -⟩ := xt
    refine T_iload_n (pc' := 17) d_Tx_readItem_16 rfl rfl rfl ?_
    refine T_gets (j := 0) (pc' := 20) d_Tx_readItem_17 rfl (by decide) gs_Tx_51 ?_
    refine T_iload_n (pc' := 21) d_Tx_readItem_20 rfl rfl rfl ?_
    refine T_roald (j := 0) (pc' := 22) d_Tx_readItem_21 rfl (by decide) (by rw [x0a]; exact vp_in_nI h4 (by decide)) ?_
    rw [nI_clamp (by omega), x0b it h4]
    refine T_icmp_ge (pc' := 25) (tgt := 84) d_Tx_readItem_22 rfl (by decide) (fun _ => ?_) (fun hzz => absurd (by rw [show i = cntT it by omega]; exact Int32.le_refl _) hzz)
    have hR' : (.inr (ns, pos) : Nat ⊕ ((Nat → Nat) × Nat)) = R := hR
    exact T_fg (by simp [e_le]) (hgood (ns, pos) hR'.symm h1 t' fn txs hp (fun k hk => hfn k (by omega)) fr dr)
  | j + 1, i, pos, ns, hi, hpos, hR, h1, t', fn, txs, hp, hfn, fr, dr => by
    have ih := l_numbers xt tx B L ps it h4 ok hB R Q hbad hgood j (i + 1)
    obtain ⟨⟨x0a, x0b⟩, ⟨x1a, x1b⟩, ⟨x2a, x2b⟩⟩ := xt
    have hc3 := (cntT_le it h4).2
    obtain ⟨tf1, tf2, tf3, tf4, tf5, tf6, tf7⟩ := tkn_facts B L pos hpos
    refine T_iload_n (pc' := 17) d_Tx_readItem_16 rfl rfl rfl ?_
    refine T_gets (j := 0) (pc' := 20) d_Tx_readItem_17 rfl (by decide) gs_Tx_51 ?_
    refine T_iload_n (pc' := 21) d_Tx_readItem_20 rfl rfl rfl ?_
    refine T_roald (j := 0) (pc' := 22) d_Tx_readItem_21 rfl (by decide) (by rw [x0a]; exact vp_in_nI h4 (by decide)) ?_
    rw [nI_clamp (by omega), x0b it h4]
    refine T_icmp_ge (pc' := 25) (tgt := 84) d_Tx_readItem_22 rfl (by decide) (fun hzz => absurd hzz (nI_ge (by omega) (by omega))) (fun _ => ?_)
    have hx1 := txs.1
    obtain ⟨tok0, va0, x10, -⟩ := hx1
    refine T_aload_n (pc' := 26) d_Tx_readItem_25 rfl rfl rfl ?_
    refine T_V0v (pc' := 29) d_Tx_readItem_26 rfl l_Tx_34 v_Tx_readToken (by first | assumption | exact e_put_s | simp [e_put, *]) (Nat.le_of_ble_eq_true rfl) (c_token X _ h1 tx B L t' (ps.1 2) fn ok (by rw [hp]; exact hpos) txs) (fun h2 hq => ?_)
    obtain ⟨txs2, fr2⟩ := hq
    have frD2 : FrD h h2 := FrD.tr fr ⟨fr2.1, fun k q1 q2 q3 => fr2.2 k (by omega)⟩
    have dr2 : DR h2 ps := by
      obtain ⟨wi, we, br, li, fa, tr, a1, a2, a3⟩ := dr
      exact ⟨wi, we, br, li, fa, TR_fr fr2 (by decide) tr, a1, a2, a3⟩
    rw [hp] at txs2
    rw [pNums] at hR
    have hval := tk_val B L (fp isS B L 120 pos) hB
    have hval' : (tkn B L pos).2.1 < 256 := hval
    have txs2' := txs2
    obtain ⟨⟨tok, va, y1, ot⟩, y2, y3⟩ := txs2
    generalize tkn B L pos = t at *
    refine T_iconst (v := 3) (pc' := 30) d_Tx_readItem_29 rfl (by decide) ?_
    refine T_iload_n (pc' := 31) d_Tx_readItem_30 rfl rfl rfl ?_
    refine T_imul (pc' := 32) d_Tx_readItem_31 rfl ?_
    refine T_iload_n (pc' := 33) d_Tx_readItem_32 rfl rfl rfl ?_
    refine T_iadd (pc' := 34) d_Tx_readItem_33 rfl ?_
    rw [show (3 : Int32) * nI it = nI (3 * it) from pk_mul 3 it, nI_add]
    refine T_is4 (pc' := 36) d_Tx_readItem_34 rfl (Nat.le_of_ble_eq_true rfl) rfl ?_
    refine T_aload_n (pc' := 37) d_Tx_readItem_36 rfl rfl rfl ?_
    refine T_get (pc' := 40) d_Tx_readItem_37 rfl g_Tx_37 (by first | assumption | exact e_put_s | simp [e_put, *]) rfl ?_
    refine T_iconst (v := 2) (pc' := 41) d_Tx_readItem_40 rfl (by decide) ?_
    have bad : ¬ (t.1 = 2 ∧ loT (3 * it + i) ≤ t.2.1 ∧ t.2.1 ≤ hiT (3 * it + i)) → ∀ ls, T X (d + 3) M_Tx_readItem 66 ls [] h2 Q := fun hb ls => by
      rw [if_neg hb] at hR
      refine T_iconst (v := 0) (pc' := 67) d_Tx_readItem_66 rfl (by decide) ?_
      refine T_zret d_Tx_readItem_67 rfl (by first | assumption | exact Or.inl rfl | exact Or.inr rfl) ?_
      exact hbad _ hR.symm h2 t fn txs2' rfl frD2 dr2
    by_cases h2k : t.1 = 2
    · have ot' : tok = nI t.1 ∧ va = nI t.2.1 := by
        rcases ot with ⟨o1, -⟩ | ⟨-, o2⟩
        · omega
        · exact o2
      obtain ⟨rfl, rfl⟩ := ot'
      refine T_icmp_ne (pc' := 44) (tgt := 66) d_Tx_readItem_41 rfl (by decide) (fun hzz => absurd (by rw [h2k]; rfl) hzz) (fun _ => ?_)
      refine T_aload_n (pc' := 45) d_Tx_readItem_44 rfl rfl rfl ?_
      refine T_get (pc' := 48) d_Tx_readItem_45 rfl g_Tx_54 (by first | assumption | exact e_put_s | simp [e_put, *]) rfl ?_
      refine T_gets (j := 1) (pc' := 51) d_Tx_readItem_48 rfl (by decide) gs_Tx_57 ?_
      refine T_iload (pc' := 53) d_Tx_readItem_51 rfl rfl ?_
      refine T_roald (j := 1) (pc' := 54) d_Tx_readItem_53 rfl (by decide) (by rw [x1a]; exact vp_in_nI (by omega) (by decide)) ?_
      rw [nI_clamp (by omega), x1b (3 * it + i) (by omega)]
      refine T_gets (j := 2) (pc' := 57) d_Tx_readItem_54 rfl (by decide) gs_Tx_60 ?_
      refine T_iload (pc' := 59) d_Tx_readItem_57 rfl rfl ?_
      refine T_roald (j := 2) (pc' := 60) d_Tx_readItem_59 rfl (by decide) (by rw [x2a]; exact vp_in_nI (by omega) (by decide)) ?_
      rw [nI_clamp (by omega), x2b (3 * it + i) (by omega)]
      have hlt : ∀ q, q < 12 → loT q < 1000 ∧ hiT q < 1000 := by decide
      obtain ⟨l1, l2⟩ := hlt (3 * it + i) (by omega)
      refine T_S3i (pc' := 63) d_Tx_readItem_60 rfl l_Tx_63 v_Tb_within (Nat.le_of_ble_eq_true rfl) (c_Tb_within X _ h2 (nI t.2.1) (nI (loT (3 * it + i))) (nI (hiT (3 * it + i)))) (fun v h3 hq => ?_)
      rw [nI_leI (by omega) (by omega), nI_leI (by omega) (by omega)] at hq
      obtain ⟨rfl, ⟨hin, rfl⟩ | ⟨hin, rfl⟩⟩ := hq
      · refine T_if_ne (pc' := 66) (tgt := 68) d_Tx_readItem_63 rfl (by decide) (fun _ => ?_) (fun hzz => absurd hzz (by decide))
        rw [if_pos ⟨h2k, hin⟩] at hR
        refine T_aload_n (pc' := 69) d_Tx_readItem_68 rfl rfl rfl ?_
        refine T_get (pc' := 72) d_Tx_readItem_69 rfl g_Tx_19 (by first | assumption | exact e_put_s | simp [e_put, *]) rfl ?_
        refine T_iload_n (pc' := 73) d_Tx_readItem_72 rfl rfl rfl ?_
        refine T_aload_n (pc' := 74) d_Tx_readItem_73 rfl rfl rfl ?_
        refine T_get (pc' := 77) d_Tx_readItem_74 rfl g_Tx_54 (by first | assumption | exact e_put_s | simp [e_put, *]) rfl ?_
        refine T_iastoreN i (pc' := 78) d_Tx_readItem_77 rfl y3 ⟨by omega, by decide⟩ ?_
        refine T_ii3 (c := 1) (pc' := 81) d_Tx_readItem_78 rfl (by decide) (Nat.le_of_ble_eq_true rfl) rfl ?_
        rw [nI_1]
        refine T_goto (pc' := 16) d_Tx_readItem_81 (by decide) ?_
        refine T_fg (by simp [e_le]) (ih t.2.2.2 _ (by omega) tf4 hR _ t (e_up fn i (nI t.2.1)) ⟨⟨_, _, (e_put_n (by decide)).trans y1, ot⟩, (e_put_n (by decide)).trans y2, e_put_s⟩ rfl (fun k hk => ?_) (frD2.put (Or.inr rfl)) ?_)
        · rw [e_upL]
          by_cases e : k = i
          · rw [if_pos e, if_pos e]
          · rw [if_neg e, if_neg e]; exact hfn k (by omega)
        · obtain ⟨wi, we, br, li, fa, tr, a1, a2, a3⟩ := dr2
          exact ⟨wi, we, br, li, fa, TR_put tr (by omega), a1, a2, a3⟩
      · refine T_if_ne (pc' := 66) (tgt := 68) d_Tx_readItem_63 rfl (by decide) (fun hzz => absurd (by decide) hzz) (fun _ => ?_)
        exact bad (fun q => hin q.2) _
    · have hne : ¬ tok = 2 ∨ (tok = 2 ∧ va = 100) := by
        rcases ot with ⟨-, ⟨o, -⟩ | ⟨o, o'⟩⟩ | ⟨-, o, -⟩
        · exact Or.inl (by rw [o]; decide)
        · exact Or.inr ⟨o, o'⟩
        · refine Or.inl (fun q => h2k ?_)
          rw [o] at q
          exact (nI_eq (b := 2) (by omega) (by decide)).mp q
      rcases hne with hne | ⟨rfl, rfl⟩
      · refine T_icmp_ne (pc' := 44) (tgt := 66) d_Tx_readItem_41 rfl (by decide) (fun _ => ?_) (fun hzz => absurd hzz hne)
        exact bad (fun q => h2k q.1) _
      · refine T_icmp_ne (pc' := 44) (tgt := 66) d_Tx_readItem_41 rfl (by decide) (fun hzz => absurd rfl hzz) (fun _ => ?_)
        refine T_aload_n (pc' := 45) d_Tx_readItem_44 rfl rfl rfl ?_
        refine T_get (pc' := 48) d_Tx_readItem_45 rfl g_Tx_54 (by first | assumption | exact e_put_s | simp [e_put, *]) rfl ?_
        refine T_gets (j := 1) (pc' := 51) d_Tx_readItem_48 rfl (by decide) gs_Tx_57 ?_
        refine T_iload (pc' := 53) d_Tx_readItem_51 rfl rfl ?_
        refine T_roald (j := 1) (pc' := 54) d_Tx_readItem_53 rfl (by decide) (by rw [x1a]; exact vp_in_nI (by omega) (by decide)) ?_
        rw [nI_clamp (by omega), x1b (3 * it + i) (by omega)]
        refine T_gets (j := 2) (pc' := 57) d_Tx_readItem_54 rfl (by decide) gs_Tx_60 ?_
        refine T_iload (pc' := 59) d_Tx_readItem_57 rfl rfl ?_
        refine T_roald (j := 2) (pc' := 60) d_Tx_readItem_59 rfl (by decide) (by rw [x2a]; exact vp_in_nI (by omega) (by decide)) ?_
        rw [nI_clamp (by omega), x2b (3 * it + i) (by omega)]
        have hlt : ∀ q, q < 12 → ¬ (100 : Int32) ≤ nI (hiT q) := by decide
        refine T_S3i (pc' := 63) d_Tx_readItem_60 rfl l_Tx_63 v_Tb_within (Nat.le_of_ble_eq_true rfl) (c_Tb_within X _ h2 100 (nI (loT (3 * it + i))) (nI (hiT (3 * it + i)))) (fun v h3 hq => ?_)
        obtain ⟨rfl, ⟨hin, rfl⟩ | ⟨hin, rfl⟩⟩ := hq
        · exact absurd hin.2 (hlt (3 * it + i) (by omega))
        · refine T_if_ne (pc' := 66) (tgt := 68) d_Tx_readItem_63 rfl (by decide) (fun hzz => absurd (by decide) hzz) (fun _ => ?_)
          exact bad (fun q => h2k q.1) _
theorem c_Tx_readItem (xt : XT X) (tx : Nat → Int32) (B : Nat → Nat) (L : Nat) (t : Nat × Nat × Nat × Nat) (ps : PS) (f : Nat → Int32) (ok : okB tx B L) (ht : t.2.2.2 ≤ L) (ht4 : t.1 ≤ 4) (hv : t.2.1 < 256) (hi : PSI ps) (txs : TXS h tx L t (ps.1 2) f) (dr : DR h ps) : Ci X (d + 3) M_Tx_readItem [.ref 1, .ref 10] h (fun v h1 => FrD h h1 ∧ ((∃ q, pOne B L ps t = .inl q ∧ v = 0 ∧ (∃ t' s' fn, TXS h1 tx L t' s' fn ∧ t'.2.2.1 = q) ∧ ∃ ps', DR h1 ps') ∨ (∃ z, pOne B L ps t = .inr z ∧ v = 1 ∧ (∃ fn, TXS h1 tx L (tkn B L z.2) (z.1.1 2) fn) ∧ DR h1 z.1))) := by
  have hB : ∀ i, i < L → B i < 256 := fun i q => (ok.2 i q).2
  have hle := itN_le ps t
  have hx1 := txs.1
  obtain ⟨tok0, va0, x10, -⟩ := hx1
  have hdr := dr
  obtain ⟨wi0, we0, br0, li0, fa0, tr0, -⟩ := hdr
  refine C_of_T rfl rfl (Nat.le_of_ble_eq_true rfl) rfl ?_
  refine T_aload_n (pc' := 1) d_Tx_readItem_0 rfl rfl rfl ?_
  refine T_aload_n (pc' := 2) d_Tx_readItem_1 rfl rfl rfl ?_
  refine T_V1i (pc' := 5) d_Tx_readItem_2 rfl l_Tx_47 v_Tx_itemBegun (by first | assumption | exact e_put_s | simp [e_put, *]) (Nat.le_of_ble_eq_true rfl) (c_Tx_itemBegun X _ h tx L t ps f ht4 hv hi txs dr) (fun v h1 hq => ?_)
  obtain ⟨rfl, rfl⟩ := hq
  rw [pOne]
  by_cases h4 : itN ps t = 4
  · rw [if_pos h4, if_pos h4]
    refine T_is_n2 (pc' := 6) d_Tx_readItem_5 rfl rfl (Nat.le_of_ble_eq_true rfl) rfl ?_
    refine T_iload_n (pc' := 7) d_Tx_readItem_6 rfl rfl rfl ?_
    refine T_bipush (v := (-9)) (pc' := 9) d_Tx_readItem_7 rfl (by decide) ?_
    refine T_icmp_ne (pc' := 12) (tgt := 14) d_Tx_readItem_9 rfl (by decide) (fun hzz => absurd rfl hzz) (fun _ => ?_)
    refine T_iconst (v := 0) (pc' := 13) d_Tx_readItem_12 rfl (by decide) ?_
    refine T_zret d_Tx_readItem_13 rfl (by first | assumption | exact Or.inl rfl | exact Or.inr rfl) ?_
    exact ⟨_, rfl, FrD.rf, Or.inl ⟨_, rfl, rfl, ⟨t, _, f, txs, rfl⟩, ps, dr⟩⟩
  · rw [if_neg h4, if_neg h4]
    refine T_is_n2 (pc' := 6) d_Tx_readItem_5 rfl rfl (Nat.le_of_ble_eq_true rfl) rfl ?_
    refine T_iload_n (pc' := 7) d_Tx_readItem_6 rfl rfl rfl ?_
    refine T_bipush (v := (-9)) (pc' := 9) d_Tx_readItem_7 rfl (by decide) ?_
    refine T_icmp_ne (pc' := 12) (tgt := 14) d_Tx_readItem_9 rfl (by decide) (fun _ => ?_) (fun hzz => absurd hzz (nI_ne9 (by omega)))
    refine T_iconst (v := 0) (pc' := 15) d_Tx_readItem_14 rfl (by decide) ?_
    refine T_is_n3 (pc' := 16) d_Tx_readItem_15 rfl rfl (Nat.le_of_ble_eq_true rfl) rfl ?_
    cases hp : pNums B L (itN ps t) (cntT (itN ps t)) 0 t.2.2.2 (fun _ => 0) with
    | inl q0 =>
      refine l_numbers X d h1 xt tx B L ps (itN ps t) (by omega) ok hB (.inl q0) _ (fun q e h2 t' fn txs2 hpl fr2 dr2 => ?_) (fun z e => by cases e) (cntT (itN ps t)) 0 t.2.2.2 (fun _ => 0) (by omega) ht hp h1 t f txs rfl (fun k hk => absurd hk (by omega)) FrD.rf dr
      cases e
      exact ⟨_, rfl, fr2, Or.inl ⟨q0, rfl, rfl, ⟨t', _, fn, txs2, hpl⟩, ps, dr2⟩⟩
    | inr y =>
      obtain ⟨p1, p2, p3, p4⟩ := pNums_ok B L _ _ _ _ _ y ht hp
      refine l_numbers X d h1 xt tx B L ps (itN ps t) (by omega) ok hB (.inr y) _ (fun q e => by cases e) (fun z e h2 t' fn txs2 hpl hfn fr2 dr2 => ?_) (cntT (itN ps t)) 0 t.2.2.2 (fun _ => 0) (by omega) ht hp h1 t f txs rfl (fun k hk => absurd hk (by omega)) FrD.rf dr
      cases e
      obtain ⟨tf1, tf2, tf3, tf4, tf5, tf6, tf7⟩ := tkn_facts B L y.2 p2
      have hx2 := txs2.1
      obtain ⟨tok2, va2, x12, -⟩ := hx2
      refine T_aload_n (pc' := 85) d_Tx_readItem_84 rfl rfl rfl ?_
      refine T_V0v (pc' := 88) d_Tx_readItem_85 rfl l_Tx_34 v_Tx_readToken (by first | assumption | exact e_put_s | simp [e_put, *]) (Nat.le_of_ble_eq_true rfl) (c_token X _ h2 tx B L t' (ps.1 2) fn ok (by rw [hpl]; exact p2) txs2) (fun h3 hq => ?_)
      obtain ⟨txs3, fr3⟩ := hq
      rw [hpl] at txs3
      have frD3 : FrD h1 h3 := FrD.tr fr2 ⟨fr3.1, fun k q1 q2 q3 => fr3.2 k (by omega)⟩
      have dr3 : DR h3 ps := by
        obtain ⟨wi, we, br, li, fa, tr, a1, a2, a3⟩ := dr2
        exact ⟨wi, we, br, li, fa, TR_fr fr3 (by decide) tr, a1, a2, a3⟩
      have txs3' := txs3
      obtain ⟨⟨tok3, va3, y1, ot⟩, y2, y3⟩ := txs3
      have hdr3 := dr3
      obtain ⟨wi3, we3, br3, li3, fa3, tr3, -⟩ := hdr3
      have tr30 := tr3.1
      show T _ _ _ _ _ _ _ (fun r h_1 => ∃ v : Int32, r = some (.int v) ∧ FrD h1 h_1 ∧ ((∃ q, (if (tkn B L y.2).1 = 3 then (.inr (pTell ps (itN ps t) y.1, (tkn B L y.2).2.2.2) : Nat ⊕ (PS × Nat)) else .inl (tkn B L y.2).2.2.1) = .inl q ∧ v = 0 ∧ (∃ t' s' fn, TXS h_1 tx L t' s' fn ∧ t'.2.2.1 = q) ∧ ∃ ps', DR h_1 ps') ∨ (∃ z, (if (tkn B L y.2).1 = 3 then (.inr (pTell ps (itN ps t) y.1, (tkn B L y.2).2.2.2) : Nat ⊕ (PS × Nat)) else .inl (tkn B L y.2).2.2.1) = .inr z ∧ v = 1 ∧ (∃ fn, TXS h_1 tx L (tkn B L z.2) (z.1.1 2) fn) ∧ DR h_1 z.1)))
      refine T_aload_n (pc' := 89) d_Tx_readItem_88 rfl rfl rfl ?_
      refine T_get (pc' := 92) d_Tx_readItem_89 rfl g_Tx_37 (by first | assumption | exact e_put_s | simp [e_put, *]) rfl ?_
      refine T_iconst (v := 3) (pc' := 93) d_Tx_readItem_92 rfl (by decide) ?_
      by_cases hs3 : (tkn B L y.2).1 = 3
      · have ot' : tok3 = nI (tkn B L y.2).1 := by
          rcases ot with ⟨o1, -⟩ | ⟨-, o2, -⟩
          · omega
          · exact o2
        refine T_icmp_eq (pc' := 96) (tgt := 98) d_Tx_readItem_93 rfl (by decide) (fun _ => ?_) (fun hzz => absurd (by rw [ot', hs3]; rfl) hzz)
        rw [if_pos hs3]
        refine T_aload_n (pc' := 99) d_Tx_readItem_98 rfl rfl rfl ?_
        refine T_aload_n (pc' := 100) d_Tx_readItem_99 rfl rfl rfl ?_
        refine T_iload_n (pc' := 101) d_Tx_readItem_100 rfl rfl rfl ?_
        refine T_V2v (pc' := 104) d_Tx_readItem_101 rfl l_Tx_67 v_Tx_tell (by first | assumption | exact e_put_s | simp [e_put, *]) (Nat.le_of_ble_eq_true rfl) (c_Tx_tell X _ h3 tx L (tkn B L y.2) ps fn (itN ps t) y.1 (by omega) itN_1 itN_2 (fun k hk => p4 k (by omega) (by omega)) hfn txs3' dr3) (fun h4 hq => ?_)
        obtain ⟨txs4, dr4, fr4⟩ := hq
        have hx4 := txs4.1
        obtain ⟨tok4, va4, x14, -⟩ := hx4
        refine T_aload_n (pc' := 105) d_Tx_readItem_104 rfl rfl rfl ?_
        refine T_V0v (pc' := 108) d_Tx_readItem_105 rfl l_Tx_34 v_Tx_readToken (by first | assumption | exact e_put_s | simp [e_put, *]) (Nat.le_of_ble_eq_true rfl) (c_token X _ h4 tx B L (tkn B L y.2) _ fn ok tf4 txs4) (fun h5 hq => ?_)
        obtain ⟨txs5, fr5⟩ := hq
        refine T_iconst (v := 1) (pc' := 109) d_Tx_readItem_108 rfl (by decide) ?_
        refine T_zret d_Tx_readItem_109 rfl (by first | assumption | exact Or.inl rfl | exact Or.inr rfl) ?_
        refine ⟨_, rfl, FrD.tr (FrD.tr frD3 fr4) ⟨fr5.1, fun k q1 q2 q3 => fr5.2 k (by omega)⟩, Or.inr ⟨_, rfl, rfl, ⟨fn, txs5⟩, ?_⟩⟩
        obtain ⟨wi, we, br, li, fa, tr, a1, a2, a3⟩ := dr4
        exact ⟨wi, we, br, li, fa, TR_fr fr5 (by decide) tr, a1, a2, a3⟩
      · have hne : ¬ tok3 = 3 := by
          rcases ot with ⟨-, ⟨o, -⟩ | ⟨o, -⟩⟩ | ⟨-, o, -⟩
          · rw [o]; decide
          · rw [o]; decide
          · intro q
            rw [o] at q
            exact hs3 ((nI_eq (b := 3) (by omega) (by decide)).mp q)
        refine T_icmp_eq (pc' := 96) (tgt := 98) d_Tx_readItem_93 rfl (by decide) (fun hzz => absurd hzz hne) (fun _ => ?_)
        rw [if_neg hs3]
        refine T_iconst (v := 0) (pc' := 97) d_Tx_readItem_96 rfl (by decide) ?_
        refine T_zret d_Tx_readItem_97 rfl (by first | assumption | exact Or.inl rfl | exact Or.inr rfl) ?_
        exact ⟨_, rfl, frD3, Or.inl ⟨_, rfl, rfl, ⟨_, _, fn, txs3', rfl⟩, ps, dr3⟩⟩
theorem l_readInto (xt : XT X) (tx : Nat → Int32) (B : Nat → Nat) (L : Nat) (ok : okB tx B L) (R : Nat ⊕ (Nat × PS)) (Q : Option Value → AH → Prop) (hbad : ∀ q, R = .inl q → ∀ h1 t' s' fn ps', TXS h1 tx L t' s' fn → DR h1 ps' → FrD h h1 → Q (some (.int (-10 - nI q))) h1) (hgood : ∀ z, R = .inr z → ∀ h1 t' fn, TXS h1 tx L t' (z.2.1 2) fn → DR h1 z.2 → PSI z.2 → z.1 ≤ 120 → FrD h h1 → Q (some (.int (nI z.1))) h1) : ∀ (k c : Nat) (t : Nat × Nat × Nat × Nat) (ps : PS), pAll B L k t ps c = R → L < t.2.2.1 + k → t.2.2.1 ≤ L → t.2.2.2 ≤ L → (t.1 = 0 ↔ ¬ t.2.2.1 < L) → t.2.2.1 ≤ t.2.2.2 → t.1 ≤ 4 → t.2.1 < 256 → c ≤ t.2.2.1 → PSI ps → ∀ h1 fn, TXS h1 tx L t (ps.1 2) fn → DR h1 ps → FrD h h1 → T X (d + 4) M_Tx_readInto 20 [.ref 1, .ref 10, .int (nI c)] [] h1 Q
  | 0, c, t, ps, hR, hk, h1, h2, h3, h4, h5, h6, h7, hi, hh, fn, txs, dr, fr => by omega
  | k + 1, c, t, ps, hR, hk, h1, h2, h3, h4, h5, h6, h7, hi, hh, fn, txs, dr, fr => by
    have hL := ok.1
    have hB : ∀ i, i < L → B i < 256 := fun i q => (ok.2 i q).2
    have txs0 := txs
    obtain ⟨⟨tok, va, x1, ot⟩, x2, x3⟩ := txs
    rw [pAll] at hR
    refine T_aload_n (pc' := 21) d_Tx_readInto_20 rfl rfl rfl ?_
    refine T_get (pc' := 24) d_Tx_readInto_21 rfl g_Tx_37 (by first | assumption | exact e_put_s | simp [e_put, *]) rfl ?_
    by_cases hz : t.1 = 0
    · have ot' : tok = 0 := by
        rcases ot with ⟨o1, -⟩ | ⟨-, o2, -⟩
        · omega
        · rw [o2, hz]; rfl
      refine T_if_eq (pc' := 27) (tgt := 55) d_Tx_readInto_24 rfl (by decide) (fun _ => ?_) (fun hzz => absurd ot' hzz)
      rw [if_pos hz] at hR
      refine T_iload_n (pc' := 56) d_Tx_readInto_55 rfl rfl rfl ?_
      refine T_iret d_Tx_readInto_56 rfl ?_
      exact hgood _ hR.symm hh t fn txs0 dr hi (show c ≤ 120 by omega) fr
    · have hne : ¬ tok = 0 := by
        rcases ot with ⟨-, ⟨o, -⟩ | ⟨o, -⟩⟩ | ⟨-, o, -⟩
        · rw [o]; decide
        · rw [o]; decide
        · intro q
          rw [o] at q
          exact hz ((nI_eq (b := 0) (by omega) (by decide)).mp q)
      have hlt : t.2.2.1 < L := Classical.byContradiction (fun q => hz (h3.mpr q))
      refine T_if_eq (pc' := 27) (tgt := 55) d_Tx_readInto_24 rfl (by decide) (fun hzz => absurd hzz hne) (fun _ => ?_)
      rw [if_neg hz] at hR
      refine T_iload_n (pc' := 28) d_Tx_readInto_27 rfl rfl rfl ?_
      refine T_bipush (v := 120) (pc' := 30) d_Tx_readInto_28 rfl (by decide) ?_
      refine T_icmp_ge (pc' := 33) (tgt := 55) d_Tx_readInto_30 rfl (by decide) (fun hzz => absurd hzz (nI_ge (a := c) (b := 120) (by omega) (by decide))) (fun _ => ?_)
      refine T_aload_n (pc' := 34) d_Tx_readInto_33 rfl rfl rfl ?_
      refine T_aload_n (pc' := 35) d_Tx_readInto_34 rfl rfl rfl ?_
      refine T_V1i (pc' := 38) d_Tx_readInto_35 rfl l_Tx_40 v_Tx_readItem (by first | assumption | exact e_put_s | simp [e_put, *]) (Nat.le_of_ble_eq_true rfl) (c_Tx_readItem X _ hh xt tx B L t ps fn ok h2 h5 h6 hi txs0 dr) (fun v hh2 hq => ?_)
      obtain ⟨fr2, hq⟩ := hq
      rcases hq with ⟨q, e, rfl, ⟨t', s', fn', txs', hpl⟩, ps', dr'⟩ | ⟨z, e, rfl, ⟨fn', txs'⟩, dr'⟩
      · rw [e] at hR
        have hR' : (.inl q : Nat ⊕ (Nat × PS)) = R := hR
        have txs1 := txs'
        obtain ⟨⟨tok', va', y1, -⟩, -⟩ := txs'
        rw [hpl] at y1
        refine T_if_ne (pc' := 41) (tgt := 49) d_Tx_readInto_38 rfl (by decide) (fun hzz => absurd (by decide) hzz) (fun _ => ?_)
        refine T_bipush (v := (-10)) (pc' := 43) d_Tx_readInto_41 rfl (by decide) ?_
        refine T_aload_n (pc' := 44) d_Tx_readInto_43 rfl rfl rfl ?_
        refine T_get (pc' := 47) d_Tx_readInto_44 rfl g_Tx_44 (by first | assumption | exact e_put_s | simp [e_put, *]) rfl ?_
        refine T_isub (pc' := 48) d_Tx_readInto_47 rfl ?_
        refine T_iret d_Tx_readInto_48 rfl ?_
        exact hbad q hR'.symm hh2 t' s' fn' ps' txs1 dr' (FrD.tr fr fr2)
      · rw [e] at hR
        have hR' : pAll B L k (tkn B L z.2) z.1 (c + 1) = R := hR
        obtain ⟨o1, o2, o3⟩ := pOne_ok hi h2 e
        obtain ⟨tf1, tf2, tf3, tf4, tf5, tf6, tf7⟩ := tkn_facts B L z.2 o3
        refine T_if_ne (pc' := 41) (tgt := 49) d_Tx_readInto_38 rfl (by decide) (fun _ => ?_) (fun hzz => absurd hzz (by decide))
        refine T_ii2 (c := 1) (pc' := 52) d_Tx_readInto_49 rfl (by decide) (Nat.le_of_ble_eq_true rfl) rfl ?_
        rw [nI_1]
        refine T_goto (pc' := 20) d_Tx_readInto_52 (by decide) ?_
        exact l_readInto xt tx B L ok R Q hbad hgood k (c + 1) (tkn B L z.2) z.1 hR' (by omega) tf2 tf4 tf5 tf3 tf7 (tk_val B L _ hB) (by omega) o1 hh2 fn' txs' dr' (FrD.tr fr fr2)
def sRd (B : Nat → Nat) (L : Nat) : Nat ⊕ (Nat × PS) := pAll B L 121 (tkn B L 0) ps0 0
theorem c_Tx_readInto (xt : XT X) (tx : Nat → Int32) (B : Nat → Nat) (L : Nat) (ok : okB tx B L) (xr : XR h L tx) (n m : Nat) (wi we br li fa : Nat → Int32) (sta ab : Int32) (tr : TR h 10 n m wi we br li fa sta ab) : Ci X (d + 4) M_Tx_readInto [.ref 1, .ref 10] h (fun v h1 => FrD h h1 ∧ XR h1 L tx ∧ ((∃ q, sRd B L = .inl q ∧ v = -10 - nI q ∧ ∃ ps', DR h1 ps') ∨ (∃ z, sRd B L = .inr z ∧ v = nI z.1 ∧ z.1 ≤ 120 ∧ PSI z.2 ∧ DR h1 z.2))) := by
  obtain ⟨⟨a1, a2, a3, a4, a5, x0⟩, x1, f, x2⟩ := xr
  have hL := ok.1
  have hB : ∀ i, i < L → B i < 256 := fun i q => (ok.2 i q).2
  have t0 := tr.1
  refine C_of_T rfl rfl (Nat.le_of_ble_eq_true rfl) rfl ?_
  refine T_aload_n (pc' := 1) d_Tx_readInto_0 rfl rfl rfl ?_
  refine T_V0v (pc' := 4) d_Tx_readInto_1 rfl l_Tx_22 v_To_tellNothing (by first | assumption | exact e_put_s | simp [e_put, *]) (Nat.le_of_ble_eq_true rfl) (c_To_tellNothing X _ h 10 _ _ _ _ _ _ _ _ _ tr) (fun h1 hq => ?_)
  obtain ⟨tr1, fr1⟩ := hq
  have y0 := (fr1.2 1 (by omega)).trans x0
  have y1 := (fr1.2 2 (by omega)).trans x1
  have y2 := (fr1.2 3 (by omega)).trans x2
  refine T_aload_n (pc' := 5) d_Tx_readInto_4 rfl rfl rfl ?_
  refine T_iconst (v := 0) (pc' := 6) d_Tx_readInto_5 rfl (by decide) ?_
  refine T_putz7 (pc' := 9) d_Tx_readInto_6 rfl f_Tx_27 (fun z => absurd z Bool.false_ne_true) (by first | assumption | exact e_put_s | simp [e_put, *]) (by first | assumption | exact Or.inl rfl | exact Or.inr rfl) ?_
  refine T_aload_n (pc' := 10) d_Tx_readInto_9 rfl rfl rfl ?_
  refine T_iconst (v := 0) (pc' := 11) d_Tx_readInto_10 rfl (by decide) ?_
  refine T_puti2 (pc' := 14) d_Tx_readInto_11 rfl f_Tx_31 (fun z => absurd z Bool.false_ne_true) e_put_s ?_
  rw [e_pp]
  refine T_aload_n (pc' := 15) d_Tx_readInto_14 rfl rfl rfl ?_
  refine T_V0v (pc' := 18) d_Tx_readInto_15 rfl l_Tx_34 v_Tx_readToken e_put_s (Nat.le_of_ble_eq_true rfl) (c_Tx_readToken X _ _ tx B L 0 a2 a3 a4 0 ok (by omega) e_put_s ((e_put_n (by decide)).trans y1)) (fun h2 hq => ?_)
  obtain ⟨tok', va', rfl, ot⟩ := hq
  rw [e_pp]
  obtain ⟨tf1, tf2, tf3, tf4, tf5, tf6, tf7⟩ := tkn_facts B L 0 (by omega)
  refine T_iconst (v := 0) (pc' := 19) d_Tx_readInto_18 rfl (by decide) ?_
  refine T_is_n2 (pc' := 20) d_Tx_readInto_19 rfl rfl (Nat.le_of_ble_eq_true rfl) rfl ?_
  have fr2 : Fr 1 2 h1 (e_put h1 1 (oTx (nI L) (nI (tkn B L 0).2.2.2) tok' (nI (tkn B L 0).2.2.1) va' 0)) := Fr.rf.put ⟨by omega, by omega⟩
  have XRof : ∀ (hx : AH) t' s' fn, TXS hx tx L t' s' fn → XR hx L tx := fun hx t' s' fn q => by
    obtain ⟨⟨tok, va, q1, -⟩, q2, q3⟩ := q
    exact ⟨⟨_, _, _, _, _, q1⟩, q2, fn, q3⟩
  refine l_readInto X d h xt tx B L ok (sRd B L) _ (fun q e hx t' s' fn ps' txs' dr' fr' => ⟨_, rfl, fr', XRof hx t' s' fn txs', Or.inl ⟨q, e, rfl, ps', dr'⟩⟩) (fun z e hx t' fn txs' dr' psi hz fr' => ⟨_, rfl, fr', XRof hx t' _ fn txs', Or.inr ⟨z, e, rfl, hz, psi, dr'⟩⟩) 121 0 (tkn B L 0) ps0 rfl (by omega) tf2 tf4 tf5 tf3 tf7 (tk_val B L _ hB) (by omega) PSI_0 _ f ⟨⟨tok', va', e_put_s, ot⟩, (e_put_n (by decide)).trans y1, (e_put_n (by decide)).trans y2⟩ ?_ ?_
  · exact ⟨_, _, _, _, _, TR_fr fr2 (by decide) tr1, fun i hi => if_pos hi, fun i hi => absurd hi (by show ¬ i < 0; omega), fun i hi => absurd hi (by show ¬ i < 0; omega)⟩
  · exact FrD.tr (FrD.fr fr1) (FrD.rf.put (Or.inl rfl))
end PARSE2
