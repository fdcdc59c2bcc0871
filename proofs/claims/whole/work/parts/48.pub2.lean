/-! calls: begins, minutes, enters, leaves, undo, now, after, down -/
def sKnow (σ : Sp) : Sp := sH σ (sPushN (σ.1 3)) (sPush (σ.1 3) (fun i => σ.2.1 (20 + i)) (σ.2.1 6))
abbrev pN (σ : Sp) (g : Nat → Int32) (k : Nat) : Nat → Int32 := sPassN (σ.1 1) (σ.2.1 1) (σ.2.1 2) (σ.2.1 3) (σ.2.1 4) (σ.2.1 5) g k
def a_begins (σ : Sp) (p t : Int32) : Int32 × Sp := if okP (σ.1 1) p ∧ okP (σ.1 2) t then (if sCan (σ.2.1 6) p.toNatClampNeg t.toNatClampNeg then (sHold (σ.2.1 3) (σ.2.1 4) (σ.2.1 5) p t 0, sF (sKnow σ) 6 (sBegin (σ.2.1 6) p.toNatClampNeg t.toNatClampNeg)) else (-2, σ)) else (-1, σ)
def a_minutes (σ : Sp) (k : Int32) : Int32 × Sp := if 1 ≤ k ∧ k ≤ 9 then (if σ.2.1 6 0 + k ≤ 99 then (pN σ (σ.2.1 6) k.toNatClampNeg 1, sF (sKnow σ) 6 (pN σ (σ.2.1 6) k.toNatClampNeg)) else (-2, σ)) else (-1, σ)
def a_enters (σ : Sp) (p : Int32) : Int32 × Sp := if okP (σ.1 1) p then (if ¬ sHas (σ.2.1 6 6) p ∧ (σ.2.1 6 2 = 0 ∧ σ.2.1 6 10 = 0) then (sBO (sIn (σ.2.1 6) p.toNatClampNeg 6), sF (sKnow σ) 6 (sIn (σ.2.1 6) p.toNatClampNeg)) else (-2, σ)) else (-1, σ)
def a_leaves (σ : Sp) (p : Int32) : Int32 × Sp := if okP (σ.1 1) p then (if sHas (σ.2.1 6 6) p ∧ (σ.2.1 6 2 = 0 ∧ σ.2.1 6 10 = 0) then (sBO (sOut (σ.2.1 6) p.toNatClampNeg 6), sF (sKnow σ) 6 (sOut (σ.2.1 6) p.toNatClampNeg)) else (-2, σ)) else (-1, σ)
def a_undo (σ : Sp) : Int32 × Sp := if σ.1 3 = 0 then (-2, σ) else (nI (σ.1 3 - 1), sF (sH σ (σ.1 3 - 1) (fun i => σ.2.1 (20 + i))) 6 (sCp (σ.2.1 (20 + (σ.1 3 - 1))) (σ.2.1 6) 11))
def q_now (σ : Sp) (w : Int32) : Int32 := if w = 0 then σ.2.1 6 0 else if w = 1 then σ.2.1 6 1 else if w = 2 then σ.2.1 6 2 else if w = 3 then σ.2.1 6 3 else if w = 4 then σ.2.1 6 4 else if w = 5 then sHold (σ.2.1 3) (σ.2.1 4) (σ.2.1 5) (σ.2.1 6 3) (σ.2.1 6 4) (σ.2.1 6 5) else if w = 6 then sW (σ.2.1 2) (σ.2.1 6 6) (σ.1 1) else if w = 7 then σ.2.1 6 10 else if w = 8 then sCv (σ.2.1 4) (σ.2.1 2) (σ.1 1) (σ.1 2) (2 ^ σ.1 2) else -1
def q_after (σ : Sp) (k w : Int32) : Int32 := if (0 ≤ k ∧ k ≤ 30) ∧ (0 ≤ w ∧ w ≤ 1) then (if w = 0 then pN σ (σ.2.1 6) k.toNatClampNeg 1 else pN σ (σ.2.1 6) k.toNatClampNeg 2) else -1
def sDn (σ : Sp) (g : Nat → Int32) : Nat → Nat → Int32
  | 0, _ => -9
  | k + 1, i => if pN σ g i 10 = 1 then -9 else if pN σ g i 2 = 0 then nI i else sDn σ g k (i + 1)
theorem sPushN_le (kn : Nat) (h : kn ≤ 10) : sPushN kn ≤ 10 := by
  unfold sPushN
  by_cases hk : kn < 10
  · rw [if_pos hk]; omega
  · rw [if_neg hk]; omega
theorem SI_flight {σ : Sp} {g : Nat → Int32} (si : SI σ) (hg : GI (σ.1 1) (σ.1 2) g) : SI (sF σ 6 g) := by
  obtain ⟨s1, s2, s3, s4, s5, s6, s7, s8, s9⟩ := si
  refine ⟨s1, s2, hg, fun i hi => ?_, fun z => ⟨(s5 z).1, fun i hi => ?_⟩, fun z => ⟨(s6 z).1, fun i hi => ?_⟩, s7, s8, s9⟩
  · have e : (sF σ 6 g).2.1 (20 + i) = σ.2.1 (20 + i) := if_neg (by omega)
    rw [e]; exact s4 i hi
  · have e : (sF σ 6 g).2.1 (30 + i) = σ.2.1 (30 + i) := if_neg (by omega)
    rw [e]; exact (s5 z).2 i hi
  · have e : (sF σ 6 g).2.1 (40 + i) = σ.2.1 (40 + i) := if_neg (by omega)
    rw [e]; exact (s6 z).2 i hi
theorem SI_hist {σ : Sp} {kn : Nat} {rows : Nat → Nat → Int32} (si : SI σ) (hkn : kn ≤ 10) (hr : ∀ i, i < kn → GI (σ.1 1) (σ.1 2) (rows i)) : SI (sH σ kn rows) := by
  obtain ⟨⟨a0, a1, a2, a3, a4⟩, s2, s3, s4, s5, s6, s7, s8, s9⟩ := si
  refine ⟨⟨a0, a1, a2, hkn, a4⟩, s2, s3, fun i (hi : i < kn) => ?_, fun z => ⟨(s5 z).1, fun i hi => ?_⟩, fun z => ⟨(s6 z).1, fun i hi => ?_⟩, s7, s8, s9⟩
  · have e : (sH σ kn rows).2.1 (20 + i) = rows i := (if_pos ⟨by omega, by omega⟩).trans (by rw [Nat.add_sub_cancel_left])
    rw [e]; exact hr i hi
  · have e : (sH σ kn rows).2.1 (30 + i) = σ.2.1 (30 + i) := if_neg (by omega)
    rw [e]; exact (s5 z).2 i hi
  · have e : (sH σ kn rows).2.1 (40 + i) = σ.2.1 (40 + i) := if_neg (by omega)
    rw [e]; exact (s6 z).2 i hi
theorem SI_know {σ : Sp} (si : SI σ) : SI (sKnow σ) := by
  have h3 := si.1.2.2.2.1
  refine SI_hist si (sPushN_le _ h3) (fun i hi => ?_)
  unfold sPush
  unfold sPushN at hi
  by_cases hk : σ.1 3 < 10
  · rw [if_pos hk] at hi
    dsimp only
    rw [if_pos hk]
    by_cases hik : i = σ.1 3
    · rw [if_pos hik]; exact si.2.2.1
    · rw [if_neg hik]; exact si.2.2.2.1 i (by omega)
  · rw [if_neg hk] at hi
    dsimp only
    rw [if_neg hk]
    by_cases hik : i = 9
    · rw [if_pos hik]; exact si.2.2.1
    · rw [if_neg hik]; exact si.2.2.2.1 (i + 1) (by omega)
section PUB2
variable (X : EX) (d : Nat) (h : AH) (σ : Sp)
/-- history.push(flight) -/
theorem c_push (ci : CI h σ) (si : SI σ) : Cv X (d + 1) M_Hi_push [.ref 18, .ref 16] h (fun h1 => CI h1 (sKnow σ) ∧ Fr 18 30 h h1) := by
  obtain ⟨c, r16, fc⟩ := ci.2.2.2.2.1
  refine C_mono (c_Hi_push X d h 18 16 _ _ _ c si.1.2.2.2.1 ci.2.2.2.2.2.2.1 r16 fc (fc.fl si.2.2.1) (by decide)) ?_
  rintro r h1 ⟨rfl, q1, q2⟩
  exact ⟨rfl, CI_hist (sPushN_le _ si.1.2.2.2.1) ci q2 q1, q2⟩
theorem p_Tb_begins (p t : Int32) (ci : CI h σ) (si : SI σ) : Ci X (d + 20) M_Tb_begins [.ref 0, .int p, .int t] h (fun v h1 => v = (a_begins σ p t).1 ∧ CI h1 (a_begins σ p t).2 ∧ Fr 0 86 h h1) := by
  have h0 := ci.1
  obtain ⟨ab, tr⟩ := ci.2.2.1
  have t0 := tr.1
  obtain ⟨c16, r16, fc⟩ := ci.2.2.2.2.1
  obtain ⟨ρ, hh0, -⟩ := ci.2.2.2.2.2.2.1
  have hn := si.1.2.1
  have hm := si.1.2.2.1
  have hg := si.2.2.1
  refine C_of_T rfl rfl (Nat.le_of_ble_eq_true rfl) rfl ?_
  refine T_aload_n (pc' := 1) d_Tb_begins_0 rfl rfl rfl ?_
  refine T_get (pc' := 4) d_Tb_begins_1 rfl g_Tb_19 (by first | assumption | exact e_put_s | simp [e_put, *]) rfl ?_
  refine T_iload_n (pc' := 5) d_Tb_begins_4 rfl rfl rfl ?_
  refine T_V1i (pc' := 8) d_Tb_begins_5 rfl l_Tb_109 v_To_hasPerson (by first | assumption | exact e_put_s | simp [e_put, *]) (Nat.le_of_ble_eq_true rfl) (c_To_hasPerson X _ h 4 _ _ _ _ _ _ _ _ _ p hn tr) (fun v h1 hq => ?_)
  obtain ⟨rfl, ⟨hp, rfl⟩ | ⟨hp, rfl⟩⟩ := hq
  · refine T_if_eq (pc' := 11) (tgt := 22) d_Tb_begins_8 rfl (by decide) (fun hzz => absurd hzz (by decide)) (fun _ => ?_)
    refine T_aload_n (pc' := 12) d_Tb_begins_11 rfl rfl rfl ?_
    refine T_get (pc' := 15) d_Tb_begins_12 rfl g_Tb_19 (by first | assumption | exact e_put_s | simp [e_put, *]) rfl ?_
    refine T_iload_n (pc' := 16) d_Tb_begins_15 rfl rfl rfl ?_
    refine T_V1i (pc' := 19) d_Tb_begins_16 rfl l_Tb_128 v_To_hasThought (by first | assumption | exact e_put_s | simp [e_put, *]) (Nat.le_of_ble_eq_true rfl) (c_To_hasThought X _ h1 4 _ _ _ _ _ _ _ _ _ t hm tr) (fun v h2 hq => ?_)
    obtain ⟨rfl, ⟨ht, rfl⟩ | ⟨ht, rfl⟩⟩ := hq
    · refine T_if_ne (pc' := 22) (tgt := 24) d_Tb_begins_19 rfl (by decide) (fun _ => ?_) (fun hzz => absurd hzz (by decide))
      have hok : okP (σ.1 1) p ∧ okP (σ.1 2) t := ⟨(isP_iff (by omega) p).mp hp, (isP_iff (by omega) t).mp ht⟩
      obtain ⟨i, hi, rfl⟩ := hp
      obtain ⟨j, hj, rfl⟩ := ht
      obtain ⟨si_, us, rfl, hel, hus⟩ := id fc
      have hus' := hus i (by omega)
      obtain ⟨u, hu, hue⟩ := hg.2.2.2.2.2 i (by omega)
      refine T_aload_n (pc' := 25) d_Tb_begins_24 rfl rfl rfl ?_
      refine T_get (pc' := 28) d_Tb_begins_25 rfl g_Tb_29 (by first | assumption | exact e_put_s | simp [e_put, *]) rfl ?_
      refine T_get (pc' := 31) d_Tb_begins_28 rfl g_Tb_137 (by first | assumption | exact e_put_s | simp [e_put, *]) rfl ?_
      rcases hg.2.2.2.1 with hlo | hlo
      · refine T_if_ne (pc' := 34) (tgt := 46) d_Tb_begins_31 rfl (by decide) (fun hzz => absurd hlo hzz) (fun _ => ?_)
        refine T_aload_n (pc' := 35) d_Tb_begins_34 rfl rfl rfl ?_
        refine T_get (pc' := 38) d_Tb_begins_35 rfl g_Tb_29 (by first | assumption | exact e_put_s | simp [e_put, *]) rfl ?_
        refine T_iload_n (pc' := 39) d_Tb_begins_38 rfl rfl rfl ?_
        refine T_iload_n (pc' := 40) d_Tb_begins_39 rfl rfl rfl ?_
        refine T_V2i (pc' := 43) d_Tb_begins_40 rfl l_Tb_141 v_Fl_mayBegin (by first | assumption | exact e_put_s | simp [e_put, *]) (Nat.le_of_ble_eq_true rfl) (c_Fl_mayBegin X _ h2 16 _ _ _ _ _ _ _ _ _ (nI i) (nI j) r16) (fun v h3 hq => ?_)
        have hmay : sMay (σ.2.1 6 6) us (nI i) (nI j) ↔ sCan (σ.2.1 6) i j := by
          unfold sMay
          rw [hus', hue, s_bit1 u hu j (by omega)]
          constructor
          · rintro ⟨a, b⟩; exact ⟨a, by rw [hue]; exact b, hlo⟩
          · rintro ⟨a, b, -⟩; exact ⟨a, by rw [hue] at b; exact b⟩
        rw [hmay] at hq
        obtain ⟨rfl, ⟨hb, rfl⟩ | ⟨hb, rfl⟩⟩ := hq
        · refine T_if_ne (pc' := 46) (tgt := 49) d_Tb_begins_43 rfl (by decide) (fun _ => ?_) (fun hzz => absurd hzz (by decide))
          refine T_aload_n (pc' := 50) d_Tb_begins_49 rfl rfl rfl ?_
          refine T_get (pc' := 53) d_Tb_begins_50 rfl g_Tb_39 (by first | assumption | exact e_put_s | simp [e_put, *]) rfl ?_
          refine T_aload_n (pc' := 54) d_Tb_begins_53 rfl rfl rfl ?_
          refine T_get (pc' := 57) d_Tb_begins_54 rfl g_Tb_29 (by first | assumption | exact e_put_s | simp [e_put, *]) rfl ?_
          refine T_V1v (pc' := 60) d_Tb_begins_57 rfl l_Tb_145 v_Hi_push (by first | assumption | exact e_put_s | simp [e_put, *]) (Nat.le_of_ble_eq_true rfl) (c_push X _ h3 σ ci si) (fun h4 hq => ?_)
          obtain ⟨ci4, fr4⟩ := hq
          have k0 := ci4.1
          have k16 : h4.2 16 = _ := (fr4.2 16 (by decide)).trans r16
          refine T_aload_n (pc' := 61) d_Tb_begins_60 rfl rfl rfl ?_
          refine T_get (pc' := 64) d_Tb_begins_61 rfl g_Tb_29 (by first | assumption | exact e_put_s | simp [e_put, *]) rfl ?_
          refine T_iload_n (pc' := 65) d_Tb_begins_64 rfl rfl rfl ?_
          refine T_iload_n (pc' := 66) d_Tb_begins_65 rfl rfl rfl ?_
          refine T_V2v (pc' := 69) d_Tb_begins_66 rfl l_Tb_149 v_Fl_begin (by first | assumption | exact e_put_s | simp [e_put, *]) (Nat.le_of_ble_eq_true rfl) (c_Fl_begin X _ h4 16 _ _ _ _ _ _ _ _ _ (nI i) (nI j) k16) (fun h5 hq => ?_)
          subst hq
          have fb := FC_begin (g := σ.2.1 6) (si := si_) (us := us) (p := i) (t := j) (by omega) (by omega) hus
          have fr5 : Fr 16 17 h4 (e_put h4 16 (oFl (σ.2.1 6 0) (σ.2.1 6 1) (σ.2.1 6 2) (nI i) (nI j) (σ.2.1 6 0) (σ.2.1 6 6) (us ||| (1 <<< ((4 * nI i + nI j) &&& 31))) (σ.2.1 6 10))) := Fr.rf.put ⟨by omega, by omega⟩
          have ci5 := CI_flight ci4 (SI_know si) fr5 e_put_s fb
          obtain ⟨ab5, tr5⟩ := ci5.2.2.1
          refine T_aload_n (pc' := 70) d_Tb_begins_69 rfl rfl rfl ?_
          refine T_get (pc' := 73) d_Tb_begins_70 rfl g_Tb_19 ((e_put_n (by decide)).trans k0) rfl ?_
          refine T_aload_n (pc' := 74) d_Tb_begins_73 rfl rfl rfl ?_
          refine T_get (pc' := 77) d_Tb_begins_74 rfl g_Tb_29 ((e_put_n (by decide)).trans k0) rfl ?_
          refine T_V1i (pc' := 80) d_Tb_begins_77 rfl l_Tb_153 v_To_hold tr5.1 (Nat.le_of_ble_eq_true rfl) (c_To_hold X _ _ 4 _ _ _ _ _ _ _ _ _ 16 _ _ _ _ _ _ _ _ _ hn hm tr5 e_put_s (Or.inr ⟨⟨i, hi, rfl⟩, ⟨j, hj, rfl⟩⟩)) (fun v h6 hq => ?_)
          obtain ⟨rfl, rfl⟩ := hq
          refine T_iret d_Tb_begins_80 rfl ?_
          refine ⟨_, rfl, ?_⟩
          rw [a_begins, if_pos hok, nI_clamp (by omega), nI_clamp (by omega), if_pos hb]
          refine ⟨?_, ci5, (fr4.wide (by omega) (by omega)).tr (fr5.wide (by omega) (by omega))⟩
          rw [show σ.2.1 6 0 - σ.2.1 6 0 = 0 by simp]
          rfl
        · refine T_if_ne (pc' := 46) (tgt := 49) d_Tb_begins_43 rfl (by decide) (fun hzz => absurd (by decide) hzz) (fun _ => ?_)
          refine T_bipush (v := (-2)) (pc' := 48) d_Tb_begins_46 rfl (by decide) ?_
          refine T_iret d_Tb_begins_48 rfl ?_
          refine ⟨_, rfl, ?_⟩
          rw [a_begins, if_pos hok, nI_clamp (by omega), nI_clamp (by omega), if_neg hb]
          exact ⟨rfl, ci, Fr.rf⟩
      · refine T_if_ne (pc' := 34) (tgt := 46) d_Tb_begins_31 rfl (by decide) (fun _ => ?_) (fun hzz => absurd hzz (by rw [hlo]; decide))
        refine T_bipush (v := (-2)) (pc' := 48) d_Tb_begins_46 rfl (by decide) ?_
        refine T_iret d_Tb_begins_48 rfl ?_
        refine ⟨_, rfl, ?_⟩
        rw [a_begins, if_pos hok, if_neg (fun q => absurd (q.2.2.symm.trans hlo) (by decide))]
        exact ⟨rfl, ci, Fr.rf⟩
    · refine T_if_ne (pc' := 22) (tgt := 24) d_Tb_begins_19 rfl (by decide) (fun hzz => absurd (by decide) hzz) (fun _ => ?_)
      refine T_iconst (v := (-1)) (pc' := 23) d_Tb_begins_22 rfl (by decide) ?_
      refine T_iret d_Tb_begins_23 rfl ?_
      refine ⟨_, rfl, ?_⟩
      rw [a_begins, if_neg (fun q => ht ((isP_iff (by omega) t).mpr q.2))]
      exact ⟨rfl, ci, Fr.rf⟩
  · refine T_if_eq (pc' := 11) (tgt := 22) d_Tb_begins_8 rfl (by decide) (fun _ => ?_) (fun hzz => absurd (by decide) hzz)
    refine T_iconst (v := (-1)) (pc' := 23) d_Tb_begins_22 rfl (by decide) ?_
    refine T_iret d_Tb_begins_23 rfl ?_
    refine ⟨_, rfl, ?_⟩
    rw [a_begins, if_neg (fun q => hp ((isP_iff (by omega) p).mpr q.1))]
    exact ⟨rfl, ci, Fr.rf⟩
theorem p_Tb_minutes (k : Int32) (ci : CI h σ) (si : SI σ) : Ci X (d + 20) M_Tb_minutes [.ref 0, .int k] h (fun v h1 => v = (a_minutes σ k).1 ∧ CI h1 (a_minutes σ k).2 ∧ Fr 0 86 h h1) := by
  have h0 := ci.1
  obtain ⟨c16, r16, fc⟩ := ci.2.2.2.2.1
  obtain ⟨ρ, hh0, -⟩ := ci.2.2.2.2.2.2.1
  have hn := si.1.2.1
  have hm := si.1.2.2.1
  have hg := si.2.2.1
  refine C_of_T rfl rfl (Nat.le_of_ble_eq_true rfl) rfl ?_
  refine T_iload_n (pc' := 1) d_Tb_minutes_0 rfl rfl rfl ?_
  refine T_iconst (v := 1) (pc' := 2) d_Tb_minutes_1 rfl (by decide) ?_
  refine T_bipush (v := 9) (pc' := 4) d_Tb_minutes_2 rfl (by decide) ?_
  refine T_S3i (pc' := 7) d_Tb_minutes_4 rfl l_Tb_85 v_Tb_within (Nat.le_of_ble_eq_true rfl) (c_Tb_within X _ h k 1 9) (fun v h1 hq => ?_)
  obtain ⟨rfl, ⟨hk, rfl⟩ | ⟨hk, rfl⟩⟩ := hq
  · refine T_if_ne (pc' := 10) (tgt := 12) d_Tb_minutes_7 rfl (by decide) (fun _ => ?_) (fun hzz => absurd hzz (by decide))
    have hk9 : 0 ≤ k ∧ k ≤ 9 := ⟨Int32.le_trans (by decide) hk.1, hk.2⟩
    obtain ⟨kk, hkk, rfl⟩ := s_09 hk9
    obtain ⟨si_, us, rfl, hel, hus⟩ := id fc
    refine T_aload_n (pc' := 13) d_Tb_minutes_12 rfl rfl rfl ?_
    refine T_get (pc' := 16) d_Tb_minutes_13 rfl g_Tb_29 (by first | assumption | exact e_put_s | simp [e_put, *]) rfl ?_
    refine T_get (pc' := 19) d_Tb_minutes_16 rfl g_Tb_157 (by first | assumption | exact e_put_s | simp [e_put, *]) rfl ?_
    refine T_iload_n (pc' := 20) d_Tb_minutes_19 rfl rfl rfl ?_
    refine T_iadd (pc' := 21) d_Tb_minutes_20 rfl ?_
    refine T_bipush (v := 99) (pc' := 23) d_Tb_minutes_21 rfl (by decide) ?_
    by_cases h99 : σ.2.1 6 0 + nI kk ≤ 99
    · refine T_icmp_le (pc' := 26) (tgt := 29) d_Tb_minutes_23 rfl (by decide) (fun _ => ?_) (fun hzz => absurd h99 hzz)
      refine T_aload_n (pc' := 30) d_Tb_minutes_29 rfl rfl rfl ?_
      refine T_get (pc' := 33) d_Tb_minutes_30 rfl g_Tb_39 (by first | assumption | exact e_put_s | simp [e_put, *]) rfl ?_
      refine T_aload_n (pc' := 34) d_Tb_minutes_33 rfl rfl rfl ?_
      refine T_get (pc' := 37) d_Tb_minutes_34 rfl g_Tb_29 (by first | assumption | exact e_put_s | simp [e_put, *]) rfl ?_
      refine T_V1v (pc' := 40) d_Tb_minutes_37 rfl l_Tb_145 v_Hi_push (by first | assumption | exact e_put_s | simp [e_put, *]) (Nat.le_of_ble_eq_true rfl) (c_push X _ h1 σ ci si) (fun h4 hq => ?_)
      obtain ⟨ci4, fr4⟩ := hq
      have k0 := ci4.1
      obtain ⟨ab4, tr4⟩ := ci4.2.2.1
      have k16 : h4.2 16 = _ := (fr4.2 16 (by decide)).trans r16
      refine T_aload_n (pc' := 41) d_Tb_minutes_40 rfl rfl rfl ?_
      refine T_get (pc' := 44) d_Tb_minutes_41 rfl g_Tb_19 (by first | assumption | exact e_put_s | simp [e_put, *]) rfl ?_
      refine T_aload_n (pc' := 45) d_Tb_minutes_44 rfl rfl rfl ?_
      refine T_get (pc' := 48) d_Tb_minutes_45 rfl g_Tb_29 (by first | assumption | exact e_put_s | simp [e_put, *]) rfl ?_
      refine T_iload_n (pc' := 49) d_Tb_minutes_48 rfl rfl rfl ?_
      refine T_V2v (pc' := 52) d_Tb_minutes_49 rfl l_Tb_161 v_To_passMinutes tr4.1 (Nat.le_of_ble_eq_true rfl) (c_To_passMinutes X _ h4 4 _ _ _ _ _ _ _ _ _ 16 kk _ _ hn hm (by omega) tr4 (by decide) k16 fc hg) (fun h5 hq => ?_)
      obtain ⟨c', rfl, fc'⟩ := hq
      have fr5 : Fr 16 17 h4 (e_put h4 16 c') := Fr.rf.put ⟨by omega, by omega⟩
      have ci5 := CI_flight ci4 (SI_know si) fr5 e_put_s fc'
      obtain ⟨si5, us5, rfl, -, -⟩ := id fc'
      refine T_aload_n (pc' := 53) d_Tb_minutes_52 rfl rfl rfl ?_
      refine T_get (pc' := 56) d_Tb_minutes_53 rfl g_Tb_29 ((e_put_n (by decide)).trans k0) rfl ?_
      refine T_get (pc' := 59) d_Tb_minutes_56 rfl g_Tb_165 e_put_s rfl ?_
      refine T_iret d_Tb_minutes_59 rfl ?_
      refine ⟨_, rfl, ?_⟩
      rw [a_minutes, if_pos hk, if_pos h99, nI_clamp (by omega)]
      exact ⟨rfl, ci5, (fr4.wide (by omega) (by omega)).tr (fr5.wide (by omega) (by omega))⟩
    · refine T_icmp_le (pc' := 26) (tgt := 29) d_Tb_minutes_23 rfl (by decide) (fun hzz => absurd hzz h99) (fun _ => ?_)
      refine T_bipush (v := (-2)) (pc' := 28) d_Tb_minutes_26 rfl (by decide) ?_
      refine T_iret d_Tb_minutes_28 rfl ?_
      refine ⟨_, rfl, ?_⟩
      rw [a_minutes, if_pos hk, if_neg h99]
      exact ⟨rfl, ci, Fr.rf⟩
  · refine T_if_ne (pc' := 10) (tgt := 12) d_Tb_minutes_7 rfl (by decide) (fun hzz => absurd (by decide) hzz) (fun _ => ?_)
    refine T_iconst (v := (-1)) (pc' := 11) d_Tb_minutes_10 rfl (by decide) ?_
    refine T_iret d_Tb_minutes_11 rfl ?_
    refine ⟨_, rfl, ?_⟩
    rw [a_minutes, if_neg hk]
    exact ⟨rfl, ci, Fr.rf⟩
end PUB2
