/-! calls: saw, hears, forget, mark, keep, back -/
def sSeen (σ : Sp) (sn : Nat) (f1 f2 f3 : Nat → Int32) : Sp := sF (sF (sF (sI σ 4 sn) 7 f1) 8 f2) 9 f3
def sHeard (σ : Sp) (sn : Nat) (f2 f3 : Nat → Int32) : Sp := sF (sF (sI σ 5 sn) 10 f2) 11 f3
def a_saw (σ : Sp) (p m k : Int32) : Int32 × Sp := if okP (σ.1 1) p ∧ (1 ≤ m ∧ m ≤ 9) ∧ (0 ≤ k ∧ k ≤ 9) then (if σ.1 4 < 6 then (nI (σ.1 4 + 1), sSeen σ (σ.1 4 + 1) (e_up (σ.2.1 7) (σ.1 4) p) (e_up (σ.2.1 8) (σ.1 4) m) (e_up (σ.2.1 9) (σ.1 4) k)) else (-3, σ)) else (-1, σ)
def a_hears (σ : Sp) (m k : Int32) : Int32 × Sp := if (0 ≤ m ∧ m ≤ 9) ∧ (0 ≤ k ∧ k ≤ 30) then (if σ.1 5 < 6 then (nI (σ.1 5 + 1), sHeard σ (σ.1 5 + 1) (e_up (σ.2.1 10) (σ.1 5) m) (e_up (σ.2.1 11) (σ.1 5) k)) else (-3, σ)) else (-1, σ)
def sSeen0 (σ : Sp) : Sp := sSeen σ 0 (σ.2.1 7) (σ.2.1 8) (σ.2.1 9)
def a_forget (σ : Sp) : Int32 × Sp := (nI (σ.1 4) + nI (σ.1 5), sHeard (sSeen0 σ) 0 (σ.2.1 10) (σ.2.1 11))
def sMark (σ : Sp) (w : Int32) (p : Nat) : Int32 × Int64 := if w = 1 then (σ.2.1 2 p + sBO (σ.2.1 6 (7 + p)), 11) else if w = 2 then (σ.2.1 2 p - sHold (σ.2.1 3) (σ.2.1 4) (σ.2.1 5) (σ.2.1 6 3) (σ.2.1 6 4) (σ.2.1 6 5), 101) else if w = 3 then ((σ.2.1 2 p + sBO (σ.2.1 6 (7 + p))) * 2, 1011) else if w = 4 then (σ.2.1 2 p - sHold (σ.2.1 3) (σ.2.1 4) (σ.2.1 5) (σ.2.1 6 3) (σ.2.1 6 4) (σ.2.1 6 5) + nI p, 10101) else if w = 5 then (σ.2.1 2 p + σ.2.1 6 2, 100001) else (σ.2.1 2 p, 1)
def a_mark (σ : Sp) (w p : Int32) : Int32 × Sp := if (0 ≤ w ∧ w ≤ 5) ∧ okP (σ.1 1) p then ((sMark σ w p.toNatClampNeg).1, sT σ (σ.2.2 + (sMark σ w p.toNatClampNeg).2)) else (-1000000, σ)
def a_keep (σ : Sp) (i : Int32) : Int32 × Sp := if 0 ≤ i ∧ i ≤ 1 then (σ.2.1 6 0, sG σ i.toNatClampNeg (σ.1 3) (σ.2.1 6) (fun j => σ.2.1 (20 + j))) else (-1, σ)
def sBack (σ : Sp) (i : Nat) : Sp := sH (sF σ 6 (sCp (σ.2.1 (13 + i)) (σ.2.1 6) 11)) (σ.1 (8 + i)) (fun j => σ.2.1 (30 + 10 * i + j))
def a_back (σ : Sp) (i : Int32) : Int32 × Sp := if 0 ≤ i ∧ i ≤ 1 then (if σ.1 (6 + i.toNatClampNeg) = 1 then (σ.2.1 (13 + i.toNatClampNeg) 0, sBack σ i.toNatClampNeg) else (-2, σ)) else (-1, σ)
theorem SI_seen {σ : Sp} {sn : Nat} {f1 f2 f3 : Nat → Int32} (si : SI σ) (h1 : sn ≤ 6) (h2 : ∀ i, i < sn → ∃ j, 1 ≤ j ∧ j ≤ 9 ∧ f2 i = nI j) : SI (sSeen σ sn f1 f2 f3) := by
  obtain ⟨⟨a0, a1, a2, a3, a4, a5⟩, s2, s3, s4, s5, s6, s7, s8, s9⟩ := si
  have e : ∀ k, 12 ≤ k → (sSeen σ sn f1 f2 f3).2.1 k = σ.2.1 k := fun k hk => (if_neg (by omega)).trans ((if_neg (by omega)).trans (if_neg (by omega)))
  refine ⟨⟨a0, a1, a2, a3, h1, a5⟩, s2, s3, fun i hi => ?_, fun z => ⟨(s5 z).1, fun i hi => ?_⟩, fun z => ⟨(s6 z).1, fun i hi => ?_⟩, h2, s8, s9⟩
  · rw [e _ (by omega)]; exact s4 i hi
  · rw [e _ (by omega)]; exact (s5 z).2 i hi
  · rw [e _ (by omega)]; exact (s6 z).2 i hi
theorem SI_heard {σ : Sp} {sn : Nat} {f2 f3 : Nat → Int32} (si : SI σ) (h1 : sn ≤ 6) : SI (sHeard σ sn f2 f3) := by
  obtain ⟨⟨a0, a1, a2, a3, a4, a5, a6⟩, s2, s3, s4, s5, s6, s7, s8, s9⟩ := si
  have e : ∀ k, 12 ≤ k → (sHeard σ sn f2 f3).2.1 k = σ.2.1 k := fun k hk => (if_neg (by omega)).trans (if_neg (by omega))
  refine ⟨⟨a0, a1, a2, a3, a4, h1, a6⟩, s2, s3, fun i hi => ?_, fun z => ⟨(s5 z).1, fun i hi => ?_⟩, fun z => ⟨(s6 z).1, fun i hi => ?_⟩, s7, s8, s9⟩
  · rw [e _ (by omega)]; exact s4 i hi
  · rw [e _ (by omega)]; exact (s5 z).2 i hi
  · rw [e _ (by omega)]; exact (s6 z).2 i hi
theorem SI_trace {σ : Sp} {t : Int64} (si : SI σ) : SI (sT σ t) := si
theorem i64_3 (t a b c : Int64) : t + a + b + c = t + (a + b + c) := by rw [Int64.add_assoc, Int64.add_assoc, Int64.add_assoc]
theorem i64_2 (t a b : Int64) : t + a + b = t + (a + b) := Int64.add_assoc _ _ _
section PUB4
variable (X : EX) (d : Nat) (h : AH) (σ : Sp)
theorem p_Tb_saw (p m k : Int32) (ci : CI h σ) (si : SI σ) : Ci X (d + 20) M_Tb_saw [.ref 0, .int p, .int m, .int k] h (fun v h1 => v = (a_saw σ p m k).1 ∧ CI h1 (a_saw σ p m k).2 ∧ Fr 0 86 h h1) := by
  have h0 := ci.1
  obtain ⟨ab, tr⟩ := ci.2.2.1
  have t0 := tr.1
  have rr := ci.2.2.2.2.2.2.2.2.2.2.1
  have rr0 := rr.1
  have hn := si.1.2.1
  refine C_of_T rfl rfl (Nat.le_of_ble_eq_true rfl) rfl ?_
  refine T_aload_n (pc' := 1) d_Tb_saw_0 rfl rfl rfl ?_
  refine T_get (pc' := 4) d_Tb_saw_1 rfl g_Tb_19 (by first | assumption | exact e_put_s | simp [e_put, *]) rfl ?_
  refine T_iload_n (pc' := 5) d_Tb_saw_4 rfl rfl rfl ?_
  refine T_V1i (pc' := 8) d_Tb_saw_5 rfl l_Tb_109 v_To_hasPerson (by first | assumption | exact e_put_s | simp [e_put, *]) (Nat.le_of_ble_eq_true rfl) (c_To_hasPerson X _ h 4 _ _ _ _ _ _ _ _ _ p hn tr) (fun v h1 hq => ?_)
  obtain ⟨rfl, ⟨hp, rfl⟩ | ⟨hp, rfl⟩⟩ := hq
  · refine T_if_eq (pc' := 11) (tgt := 31) d_Tb_saw_8 rfl (by decide) (fun hzz => absurd hzz (by decide)) (fun _ => ?_)
    have hok : okP (σ.1 1) p := (isP_iff (by omega) p).mp hp
    refine T_iload_n (pc' := 12) d_Tb_saw_11 rfl rfl rfl ?_
    refine T_iconst (v := 1) (pc' := 13) d_Tb_saw_12 rfl (by decide) ?_
    refine T_bipush (v := 9) (pc' := 15) d_Tb_saw_13 rfl (by decide) ?_
    refine T_S3i (pc' := 18) d_Tb_saw_15 rfl l_Tb_85 v_Tb_within (Nat.le_of_ble_eq_true rfl) (c_Tb_within X _ h1 m 1 9) (fun v h2 hq => ?_)
    obtain ⟨rfl, ⟨hm, rfl⟩ | ⟨hm, rfl⟩⟩ := hq
    · refine T_if_eq (pc' := 21) (tgt := 31) d_Tb_saw_18 rfl (by decide) (fun hzz => absurd hzz (by decide)) (fun _ => ?_)
      refine T_iload_n (pc' := 22) d_Tb_saw_21 rfl rfl rfl ?_
      refine T_iconst (v := 0) (pc' := 23) d_Tb_saw_22 rfl (by decide) ?_
      refine T_bipush (v := 9) (pc' := 25) d_Tb_saw_23 rfl (by decide) ?_
      refine T_S3i (pc' := 28) d_Tb_saw_25 rfl l_Tb_85 v_Tb_within (Nat.le_of_ble_eq_true rfl) (c_Tb_within X _ h2 k 0 9) (fun v h3 hq => ?_)
      obtain ⟨rfl, ⟨hk, rfl⟩ | ⟨hk, rfl⟩⟩ := hq
      · refine T_if_ne (pc' := 31) (tgt := 33) d_Tb_saw_28 rfl (by decide) (fun _ => ?_) (fun hzz => absurd hzz (by decide))
        refine T_aload_n (pc' := 34) d_Tb_saw_33 rfl rfl rfl ?_
        refine T_get (pc' := 37) d_Tb_saw_34 rfl g_Tb_66 (by first | assumption | exact e_put_s | simp [e_put, *]) rfl ?_
        refine T_iload_n (pc' := 38) d_Tb_saw_37 rfl rfl rfl ?_
        refine T_iload_n (pc' := 39) d_Tb_saw_38 rfl rfl rfl ?_
        refine T_iload_n (pc' := 40) d_Tb_saw_39 rfl rfl rfl ?_
        refine T_V3i (pc' := 43) d_Tb_saw_40 rfl l_Tb_245 v_Re_add (by first | assumption | exact e_put_s | simp [e_put, *]) (Nat.le_of_ble_eq_true rfl) (c_Re_add X _ h3 49 _ si.1.2.2.2.2.1 _ _ _ p m k rr) (fun v h4 hq => ?_)
        refine T_iret d_Tb_saw_43 rfl ?_
        refine ⟨_, rfl, ?_⟩
        rw [a_saw, if_pos ⟨hok, hm, hk⟩]
        rcases hq with ⟨q1, rfl, rfl⟩ | ⟨q1, rfl, q2, q3⟩
        · rw [if_neg (by omega)]
          exact ⟨rfl, ci, Fr.rf⟩
        · rw [if_pos q1]
          exact ⟨rfl, CI_seen ci si q3 q2, q3.wide (by omega) (by omega)⟩
      · refine T_if_ne (pc' := 31) (tgt := 33) d_Tb_saw_28 rfl (by decide) (fun hzz => absurd (by decide) hzz) (fun _ => ?_)
        refine T_iconst (v := (-1)) (pc' := 32) d_Tb_saw_31 rfl (by decide) ?_
        refine T_iret d_Tb_saw_32 rfl ?_
        refine ⟨_, rfl, ?_⟩
        rw [a_saw, if_neg (fun q => hk q.2.2)]
        exact ⟨rfl, ci, Fr.rf⟩
    · refine T_if_eq (pc' := 21) (tgt := 31) d_Tb_saw_18 rfl (by decide) (fun _ => ?_) (fun hzz => absurd (by decide) hzz)
      refine T_iconst (v := (-1)) (pc' := 32) d_Tb_saw_31 rfl (by decide) ?_
      refine T_iret d_Tb_saw_32 rfl ?_
      refine ⟨_, rfl, ?_⟩
      rw [a_saw, if_neg (fun q => hm q.2.1)]
      exact ⟨rfl, ci, Fr.rf⟩
  · refine T_if_eq (pc' := 11) (tgt := 31) d_Tb_saw_8 rfl (by decide) (fun _ => ?_) (fun hzz => absurd (by decide) hzz)
    refine T_iconst (v := (-1)) (pc' := 32) d_Tb_saw_31 rfl (by decide) ?_
    refine T_iret d_Tb_saw_32 rfl ?_
    refine ⟨_, rfl, ?_⟩
    rw [a_saw, if_neg (fun q => hp ((isP_iff (by omega) p).mpr q.1))]
    exact ⟨rfl, ci, Fr.rf⟩
theorem p_Tb_hears (m k : Int32) (ci : CI h σ) (si : SI σ) : Ci X (d + 20) M_Tb_hears [.ref 0, .int m, .int k] h (fun v h1 => v = (a_hears σ m k).1 ∧ CI h1 (a_hears σ m k).2 ∧ Fr 0 86 h h1) := by
  have h0 := ci.1
  obtain ⟨f, rr⟩ := ci.2.2.2.2.2.2.2.2.2.2.2.1
  have rr0 := rr.1
  refine C_of_T rfl rfl (Nat.le_of_ble_eq_true rfl) rfl ?_
  refine T_iload_n (pc' := 1) d_Tb_hears_0 rfl rfl rfl ?_
  refine T_iconst (v := 0) (pc' := 2) d_Tb_hears_1 rfl (by decide) ?_
  refine T_bipush (v := 9) (pc' := 4) d_Tb_hears_2 rfl (by decide) ?_
  refine T_S3i (pc' := 7) d_Tb_hears_4 rfl l_Tb_85 v_Tb_within (Nat.le_of_ble_eq_true rfl) (c_Tb_within X _ h m 0 9) (fun v h1 hq => ?_)
  obtain ⟨rfl, ⟨hm, rfl⟩ | ⟨hm, rfl⟩⟩ := hq
  · refine T_if_eq (pc' := 10) (tgt := 20) d_Tb_hears_7 rfl (by decide) (fun hzz => absurd hzz (by decide)) (fun _ => ?_)
    refine T_iload_n (pc' := 11) d_Tb_hears_10 rfl rfl rfl ?_
    refine T_iconst (v := 0) (pc' := 12) d_Tb_hears_11 rfl (by decide) ?_
    refine T_bipush (v := 30) (pc' := 14) d_Tb_hears_12 rfl (by decide) ?_
    refine T_S3i (pc' := 17) d_Tb_hears_14 rfl l_Tb_85 v_Tb_within (Nat.le_of_ble_eq_true rfl) (c_Tb_within X _ h1 k 0 30) (fun v h3 hq => ?_)
    obtain ⟨rfl, ⟨hk, rfl⟩ | ⟨hk, rfl⟩⟩ := hq
    · refine T_if_ne (pc' := 20) (tgt := 22) d_Tb_hears_17 rfl (by decide) (fun _ => ?_) (fun hzz => absurd hzz (by decide))
      refine T_aload_n (pc' := 23) d_Tb_hears_22 rfl rfl rfl ?_
      refine T_get (pc' := 26) d_Tb_hears_23 rfl g_Tb_70 (by first | assumption | exact e_put_s | simp [e_put, *]) rfl ?_
      refine T_bipush (v := (-9)) (pc' := 28) d_Tb_hears_26 rfl (by decide) ?_
      refine T_iload_n (pc' := 29) d_Tb_hears_28 rfl rfl rfl ?_
      refine T_iload_n (pc' := 30) d_Tb_hears_29 rfl rfl rfl ?_
      refine T_V3i (pc' := 33) d_Tb_hears_30 rfl l_Tb_245 v_Re_add (by first | assumption | exact e_put_s | simp [e_put, *]) (Nat.le_of_ble_eq_true rfl) (c_Re_add X _ h3 53 _ si.1.2.2.2.2.2.1 _ _ _ (-9) m k rr) (fun v h4 hq => ?_)
      refine T_iret d_Tb_hears_33 rfl ?_
      refine ⟨_, rfl, ?_⟩
      rw [a_hears, if_pos ⟨hm, hk⟩]
      rcases hq with ⟨q1, rfl, rfl⟩ | ⟨q1, rfl, q2, q3⟩
      · rw [if_neg (by omega)]
        exact ⟨rfl, ci, Fr.rf⟩
      · rw [if_pos q1]
        exact ⟨rfl, CI_heard ci si q3 q2, q3.wide (by omega) (by omega)⟩
    · refine T_if_ne (pc' := 20) (tgt := 22) d_Tb_hears_17 rfl (by decide) (fun hzz => absurd (by decide) hzz) (fun _ => ?_)
      refine T_iconst (v := (-1)) (pc' := 21) d_Tb_hears_20 rfl (by decide) ?_
      refine T_iret d_Tb_hears_21 rfl ?_
      refine ⟨_, rfl, ?_⟩
      rw [a_hears, if_neg (fun q => hk q.2)]
      exact ⟨rfl, ci, Fr.rf⟩
  · refine T_if_eq (pc' := 10) (tgt := 20) d_Tb_hears_7 rfl (by decide) (fun _ => ?_) (fun hzz => absurd (by decide) hzz)
    refine T_iconst (v := (-1)) (pc' := 21) d_Tb_hears_20 rfl (by decide) ?_
    refine T_iret d_Tb_hears_21 rfl ?_
    refine ⟨_, rfl, ?_⟩
    rw [a_hears, if_neg (fun q => hm q.1)]
    exact ⟨rfl, ci, Fr.rf⟩
theorem p_Tb_forget (ci : CI h σ) (si : SI σ) : Ci X (d + 20) M_Tb_forget [.ref 0] h (fun v h1 => v = (a_forget σ).1 ∧ CI h1 (a_forget σ).2 ∧ Fr 0 86 h h1) := by
  have h0 := ci.1
  have rr := ci.2.2.2.2.2.2.2.2.2.2.1
  have rr0 := rr.1
  obtain ⟨f, ss⟩ := ci.2.2.2.2.2.2.2.2.2.2.2.1
  have ss0 := ss.1
  refine C_of_T rfl rfl (Nat.le_of_ble_eq_true rfl) rfl ?_
  refine T_aload_n (pc' := 1) d_Tb_forget_0 rfl rfl rfl ?_
  refine T_get (pc' := 4) d_Tb_forget_1 rfl g_Tb_66 (by first | assumption | exact e_put_s | simp [e_put, *]) rfl ?_
  refine T_V0i (pc' := 7) d_Tb_forget_4 rfl l_Tb_257 v_Re_drop (by first | assumption | exact e_put_s | simp [e_put, *]) (Nat.le_of_ble_eq_true rfl) (c_Re_drop X _ h 49 _ _ _ _ rr) (fun v h1 hq => ?_)
  obtain ⟨rfl, q2, q3⟩ := hq
  have ci1 := CI_seen ci si q3 q2
  have si1 : SI (sSeen0 σ) := SI_seen si (by omega) (fun i hi => absurd hi (by omega))
  have k0 := ci1.1
  have ss1 := RR_fr q3 (by omega) ss
  have ss10 := ss1.1
  refine T_aload_n (pc' := 8) d_Tb_forget_7 rfl rfl rfl ?_
  refine T_get (pc' := 11) d_Tb_forget_8 rfl g_Tb_70 (by first | assumption | exact e_put_s | simp [e_put, *]) rfl ?_
  refine T_V0i (pc' := 14) d_Tb_forget_11 rfl l_Tb_257 v_Re_drop (by first | assumption | exact e_put_s | simp [e_put, *]) (Nat.le_of_ble_eq_true rfl) (c_Re_drop X _ h1 53 _ _ _ _ ss1) (fun v h2 hq => ?_)
  obtain ⟨rfl, q4, q5⟩ := hq
  refine T_iadd (pc' := 15) d_Tb_forget_14 rfl ?_
  refine T_iret d_Tb_forget_15 rfl ?_
  exact ⟨_, rfl, rfl, CI_heard (σ := sSeen0 σ) ci1 si1 q5 q4, (q3.wide (by omega) (by omega)).tr (q5.wide (by omega) (by omega))⟩
theorem c_markOne (i : Nat) (hi : i < σ.1 1) (ci : CI h σ) (si : SI σ) : Ci X d M_Tb_markOne [.ref 0, .int (nI i)] h (fun v h1 => v = σ.2.1 2 i ∧ CI h1 (sT σ (σ.2.2 + 1)) ∧ Fr 0 1 h h1) := by
  have h0 := ci.1
  obtain ⟨ab, t0, t1, t2, -⟩ := ci.2.2.1
  have hn := si.1.2.1
  refine C_of_T rfl rfl (Nat.le_of_ble_eq_true rfl) rfl ?_
  refine T_aload_n (pc' := 1) d_Tb_markOne_0 rfl rfl rfl ?_
  refine T_dup (pc' := 2) d_Tb_markOne_1 rfl rfl ?_
  refine T_get (pc' := 5) d_Tb_markOne_2 rfl g_Tb_77 (by first | assumption | exact e_put_s | simp [e_put, *]) rfl ?_
  refine T_lconst (v := 1) (pc' := 6) d_Tb_markOne_5 rfl (by decide) ?_
  refine T_ladd (pc' := 7) d_Tb_markOne_6 rfl ?_
  refine T_putl12 (pc' := 10) d_Tb_markOne_7 rfl f_Tb_77 (fun z => absurd z Bool.false_ne_true) (by first | assumption | exact e_put_s | simp [e_put, *]) ?_
  refine T_aload_n (pc' := 11) d_Tb_markOne_10 rfl rfl rfl ?_
  refine T_get (pc' := 14) d_Tb_markOne_11 rfl g_Tb_19 (by first | exact e_put_s | exact (e_put_n (by decide)).trans t0) rfl ?_
  refine T_get (pc' := 17) d_Tb_markOne_14 rfl g_Tb_113 (by first | exact e_put_s | exact (e_put_n (by decide)).trans t0) rfl ?_
  refine T_iload_n (pc' := 18) d_Tb_markOne_17 rfl rfl rfl ?_
  refine T_ialoadN i (pc' := 19) d_Tb_markOne_18 rfl ((e_put_n (by decide)).trans t2) ⟨by omega, by decide⟩ ?_
  refine T_iret d_Tb_markOne_19 rfl ?_
  have fr : Fr 0 1 h (e_put h 0 (oTb (σ.2.2 + 1))) := Fr.rf.put ⟨by omega, by omega⟩
  exact ⟨_, rfl, rfl, CI_trace ci si fr e_put_s, fr⟩
theorem c_markLover (i : Nat) (hi : i < σ.1 1) (ci : CI h σ) (si : SI σ) : Ci X (d + 1) M_Tb_markLover [.ref 0, .int (nI i)] h (fun v h1 => v = σ.2.1 2 i + sBO (σ.2.1 6 (7 + i)) ∧ CI h1 (sT σ (σ.2.2 + 10 + 1)) ∧ Fr 0 1 h h1) := by
  have h0 := ci.1
  have hn := si.1.2.1
  refine C_of_T rfl rfl (Nat.le_of_ble_eq_true rfl) rfl ?_
  refine T_aload_n (pc' := 1) d_Tb_markLover_0 rfl rfl rfl ?_
  refine T_dup (pc' := 2) d_Tb_markLover_1 rfl rfl ?_
  refine T_get (pc' := 5) d_Tb_markLover_2 rfl g_Tb_77 (by first | assumption | exact e_put_s | simp [e_put, *]) rfl ?_
  refine T_ldc2 (pc' := 8) d_Tb_markLover_5 rfl ck_Tb_335 ?_
  refine T_ladd (pc' := 9) d_Tb_markLover_8 rfl ?_
  refine T_putl12 (pc' := 12) d_Tb_markLover_9 rfl f_Tb_77 (fun z => absurd z Bool.false_ne_true) (by first | assumption | exact e_put_s | simp [e_put, *]) ?_
  refine T_aload_n (pc' := 13) d_Tb_markLover_12 rfl rfl rfl ?_
  refine T_iload_n (pc' := 14) d_Tb_markLover_13 rfl rfl rfl ?_
  generalize hT : σ.2.2 + 10 = tt
  have fr : Fr 0 1 h (e_put h 0 (oTb tt)) := Fr.rf.put ⟨by omega, by omega⟩
  have ci1 := CI_trace ci si fr e_put_s
  refine T_V1i (pc' := 17) d_Tb_markLover_14 rfl l_Tb_273 v_Tb_markOne (by first | assumption | exact e_put_s | simp [e_put, *]) (Nat.le_of_ble_eq_true rfl) (c_markOne X _ _ (sT σ tt) i hi ci1 (SI_trace si)) (fun v h1 hq => ?_)
  obtain ⟨rfl, ci2, fr2⟩ := hq
  have k0 := ci2.1
  obtain ⟨c16, r16, fc⟩ := ci2.2.2.2.2.1
  obtain ⟨si_, us, rfl, hel, hus⟩ := fc
  refine T_aload_n (pc' := 18) d_Tb_markLover_17 rfl rfl rfl ?_
  refine T_get (pc' := 21) d_Tb_markLover_18 rfl g_Tb_29 (by first | assumption | exact e_put_s | simp [e_put, *]) rfl ?_
  refine T_iload_n (pc' := 22) d_Tb_markLover_21 rfl rfl rfl ?_
  refine T_V1i (pc' := 25) d_Tb_markLover_22 rfl l_Tb_122 v_Fl_usedBy (by first | assumption | exact e_put_s | simp [e_put, *]) (Nat.le_of_ble_eq_true rfl) (c_Fl_usedBy X _ h1 16 _ _ _ _ _ _ _ _ _ (nI i) r16) (fun v h2 hq => ?_)
  obtain ⟨rfl, rfl⟩ := hq
  refine T_S1i (pc' := 28) d_Tb_markLover_25 rfl l_Tb_179 v_In_bitCount (Nat.le_of_ble_eq_true rfl) (c_In_bitCount X _ _ _) (fun v h3 hq => ?_)
  obtain ⟨rfl, rfl⟩ := hq
  refine T_iadd (pc' := 29) d_Tb_markLover_28 rfl ?_
  refine T_iret d_Tb_markLover_29 rfl ?_
  refine ⟨_, rfl, ?_, ci2, fr.tr fr2⟩
  obtain ⟨u, hu, hue⟩ := si.2.2.1.2.2.2.2.2 i (by omega)
  have e1 := hus i (by omega)
  have e2 : (sT (sT σ tt) ((sT σ tt).2.2 + 1)).2.1 6 (7 + i) = σ.2.1 6 (7 + i) := rfl
  rw [e2, hue] at e1
  rw [e1, hue, sBC_BO u (by omega)]
  rfl
theorem c_markGrudge (i : Nat) (hi : i < σ.1 1) (ci : CI h σ) (si : SI σ) : Ci X (d + 3) M_Tb_markGrudge [.ref 0, .int (nI i)] h (fun v h1 => v = σ.2.1 2 i - sHold (σ.2.1 3) (σ.2.1 4) (σ.2.1 5) (σ.2.1 6 3) (σ.2.1 6 4) (σ.2.1 6 5) ∧ CI h1 (sT σ (σ.2.2 + 100 + 1)) ∧ Fr 0 1 h h1) := by
  have h0 := ci.1
  have hn := si.1.2.1
  refine C_of_T rfl rfl (Nat.le_of_ble_eq_true rfl) rfl ?_
  refine T_aload_n (pc' := 1) d_Tb_markGrudge_0 rfl rfl rfl ?_
  refine T_dup (pc' := 2) d_Tb_markGrudge_1 rfl rfl ?_
  refine T_get (pc' := 5) d_Tb_markGrudge_2 rfl g_Tb_77 (by first | assumption | exact e_put_s | simp [e_put, *]) rfl ?_
  refine T_ldc2 (pc' := 8) d_Tb_markGrudge_5 rfl ck_Tb_337 ?_
  refine T_ladd (pc' := 9) d_Tb_markGrudge_8 rfl ?_
  refine T_putl12 (pc' := 12) d_Tb_markGrudge_9 rfl f_Tb_77 (fun z => absurd z Bool.false_ne_true) (by first | assumption | exact e_put_s | simp [e_put, *]) ?_
  refine T_aload_n (pc' := 13) d_Tb_markGrudge_12 rfl rfl rfl ?_
  refine T_iload_n (pc' := 14) d_Tb_markGrudge_13 rfl rfl rfl ?_
  generalize hT : σ.2.2 + 100 = tt
  have fr : Fr 0 1 h (e_put h 0 (oTb tt)) := Fr.rf.put ⟨by omega, by omega⟩
  have ci1 := CI_trace ci si fr e_put_s
  refine T_V1i (pc' := 17) d_Tb_markGrudge_14 rfl l_Tb_273 v_Tb_markOne (by first | assumption | exact e_put_s | simp [e_put, *]) (Nat.le_of_ble_eq_true rfl) (c_markOne X _ _ (sT σ tt) i hi ci1 (SI_trace si)) (fun v h1 hq => ?_)
  obtain ⟨rfl, ci2, fr2⟩ := hq
  have k0 := ci2.1
  obtain ⟨ab, tr⟩ := ci2.2.2.1
  have t0 := tr.1
  obtain ⟨c16, r16, fc⟩ := ci2.2.2.2.2.1
  obtain ⟨si_, us, rfl, hel, hus⟩ := fc
  refine T_aload_n (pc' := 18) d_Tb_markGrudge_17 rfl rfl rfl ?_
  refine T_get (pc' := 21) d_Tb_markGrudge_18 rfl g_Tb_19 (by first | assumption | exact e_put_s | simp [e_put, *]) rfl ?_
  refine T_aload_n (pc' := 22) d_Tb_markGrudge_21 rfl rfl rfl ?_
  refine T_get (pc' := 25) d_Tb_markGrudge_22 rfl g_Tb_29 (by first | assumption | exact e_put_s | simp [e_put, *]) rfl ?_
  refine T_V1i (pc' := 28) d_Tb_markGrudge_25 rfl l_Tb_153 v_To_hold (by first | assumption | exact e_put_s | simp [e_put, *]) (Nat.le_of_ble_eq_true rfl) (c_To_hold X _ h1 4 _ _ _ _ _ _ _ _ _ 16 _ _ _ _ _ _ _ _ _ hn si.1.2.2.1 tr r16 si.2.2.1.2.2.1) (fun v h2 hq => ?_)
  obtain ⟨rfl, rfl⟩ := hq
  refine T_isub (pc' := 29) d_Tb_markGrudge_28 rfl ?_
  refine T_iret d_Tb_markGrudge_29 rfl ?_
  refine ⟨_, rfl, ?_, ci2, fr.tr fr2⟩
  have key : ∀ x y : Int32, (σ.2.1 6 3 ≠ -9 → x = y) → sHold (σ.2.1 3) (σ.2.1 4) (σ.2.1 5) (σ.2.1 6 3) (σ.2.1 6 4) x = sHold (σ.2.1 3) (σ.2.1 4) (σ.2.1 5) (σ.2.1 6 3) (σ.2.1 6 4) y := fun x y hxy => by
    by_cases h9 : σ.2.1 6 3 = -9
    · rw [sHold, sHold, if_pos (Or.inl h9), if_pos (Or.inl h9)]
    · rw [hxy h9]
  exact congrArg (σ.2.1 2 i - ·) (key _ _ hel)
theorem c_markPoet (i : Nat) (hi : i < σ.1 1) (ci : CI h σ) (si : SI σ) : Ci X (d + 2) M_Tb_markPoet [.ref 0, .int (nI i)] h (fun v h1 => v = (σ.2.1 2 i + sBO (σ.2.1 6 (7 + i))) * 2 ∧ CI h1 (sT σ (σ.2.2 + 1000 + 10 + 1)) ∧ Fr 0 1 h h1) := by
  have h0 := ci.1
  refine C_of_T rfl rfl (Nat.le_of_ble_eq_true rfl) rfl ?_
  refine T_aload_n (pc' := 1) d_Tb_markPoet_0 rfl rfl rfl ?_
  refine T_dup (pc' := 2) d_Tb_markPoet_1 rfl rfl ?_
  refine T_get (pc' := 5) d_Tb_markPoet_2 rfl g_Tb_77 (by first | assumption | exact e_put_s | simp [e_put, *]) rfl ?_
  refine T_ldc2 (pc' := 8) d_Tb_markPoet_5 rfl ck_Tb_339 ?_
  refine T_ladd (pc' := 9) d_Tb_markPoet_8 rfl ?_
  refine T_putl12 (pc' := 12) d_Tb_markPoet_9 rfl f_Tb_77 (fun z => absurd z Bool.false_ne_true) (by first | assumption | exact e_put_s | simp [e_put, *]) ?_
  refine T_aload_n (pc' := 13) d_Tb_markPoet_12 rfl rfl rfl ?_
  refine T_iload_n (pc' := 14) d_Tb_markPoet_13 rfl rfl rfl ?_
  generalize hT : σ.2.2 + 1000 = tt
  have fr : Fr 0 1 h (e_put h 0 (oTb tt)) := Fr.rf.put ⟨by omega, by omega⟩
  have ci1 := CI_trace ci si fr e_put_s
  refine T_V1i (pc' := 17) d_Tb_markPoet_14 rfl l_Tb_258 v_Tb_markLover (by first | assumption | exact e_put_s | simp [e_put, *]) (Nat.le_of_ble_eq_true rfl) (c_markLover X _ _ (sT σ tt) i hi ci1 (SI_trace si)) (fun v h1 hq => ?_)
  obtain ⟨rfl, ci2, fr2⟩ := hq
  refine T_iconst (v := 2) (pc' := 18) d_Tb_markPoet_17 rfl (by decide) ?_
  refine T_imul (pc' := 19) d_Tb_markPoet_18 rfl ?_
  refine T_iret d_Tb_markPoet_19 rfl ?_
  exact ⟨_, rfl, rfl, ci2, fr.tr fr2⟩
theorem c_markMiser (i : Nat) (hi : i < σ.1 1) (ci : CI h σ) (si : SI σ) : Ci X (d + 4) M_Tb_markMiser [.ref 0, .int (nI i)] h (fun v h1 => v = σ.2.1 2 i - sHold (σ.2.1 3) (σ.2.1 4) (σ.2.1 5) (σ.2.1 6 3) (σ.2.1 6 4) (σ.2.1 6 5) + nI i ∧ CI h1 (sT σ (σ.2.2 + 10000 + 100 + 1)) ∧ Fr 0 1 h h1) := by
  have h0 := ci.1
  refine C_of_T rfl rfl (Nat.le_of_ble_eq_true rfl) rfl ?_
  refine T_aload_n (pc' := 1) d_Tb_markMiser_0 rfl rfl rfl ?_
  refine T_dup (pc' := 2) d_Tb_markMiser_1 rfl rfl ?_
  refine T_get (pc' := 5) d_Tb_markMiser_2 rfl g_Tb_77 (by first | assumption | exact e_put_s | simp [e_put, *]) rfl ?_
  refine T_ldc2 (pc' := 8) d_Tb_markMiser_5 rfl ck_Tb_341 ?_
  refine T_ladd (pc' := 9) d_Tb_markMiser_8 rfl ?_
  refine T_putl12 (pc' := 12) d_Tb_markMiser_9 rfl f_Tb_77 (fun z => absurd z Bool.false_ne_true) (by first | assumption | exact e_put_s | simp [e_put, *]) ?_
  refine T_aload_n (pc' := 13) d_Tb_markMiser_12 rfl rfl rfl ?_
  refine T_iload_n (pc' := 14) d_Tb_markMiser_13 rfl rfl rfl ?_
  generalize hT : σ.2.2 + 10000 = tt
  have fr : Fr 0 1 h (e_put h 0 (oTb tt)) := Fr.rf.put ⟨by omega, by omega⟩
  have ci1 := CI_trace ci si fr e_put_s
  refine T_V1i (pc' := 17) d_Tb_markMiser_14 rfl l_Tb_261 v_Tb_markGrudge (by first | assumption | exact e_put_s | simp [e_put, *]) (Nat.le_of_ble_eq_true rfl) (c_markGrudge X _ _ (sT σ tt) i hi ci1 (SI_trace si)) (fun v h1 hq => ?_)
  obtain ⟨rfl, ci2, fr2⟩ := hq
  refine T_iload_n (pc' := 18) d_Tb_markMiser_17 rfl rfl rfl ?_
  refine T_iadd (pc' := 19) d_Tb_markMiser_18 rfl ?_
  refine T_iret d_Tb_markMiser_19 rfl ?_
  exact ⟨_, rfl, rfl, ci2, fr.tr fr2⟩
theorem c_markWife (i : Nat) (hi : i < σ.1 1) (ci : CI h σ) (si : SI σ) : Ci X (d + 1) M_Tb_markWife [.ref 0, .int (nI i)] h (fun v h1 => v = σ.2.1 2 i + σ.2.1 6 2 ∧ CI h1 (sT σ (σ.2.2 + 100000 + 1)) ∧ Fr 0 1 h h1) := by
  have h0 := ci.1
  refine C_of_T rfl rfl (Nat.le_of_ble_eq_true rfl) rfl ?_
  refine T_aload_n (pc' := 1) d_Tb_markWife_0 rfl rfl rfl ?_
  refine T_dup (pc' := 2) d_Tb_markWife_1 rfl rfl ?_
  refine T_get (pc' := 5) d_Tb_markWife_2 rfl g_Tb_77 (by first | assumption | exact e_put_s | simp [e_put, *]) rfl ?_
  refine T_ldc2 (pc' := 8) d_Tb_markWife_5 rfl ck_Tb_343 ?_
  refine T_ladd (pc' := 9) d_Tb_markWife_8 rfl ?_
  refine T_putl12 (pc' := 12) d_Tb_markWife_9 rfl f_Tb_77 (fun z => absurd z Bool.false_ne_true) (by first | assumption | exact e_put_s | simp [e_put, *]) ?_
  refine T_aload_n (pc' := 13) d_Tb_markWife_12 rfl rfl rfl ?_
  refine T_iload_n (pc' := 14) d_Tb_markWife_13 rfl rfl rfl ?_
  generalize hT : σ.2.2 + 100000 = tt
  have fr : Fr 0 1 h (e_put h 0 (oTb tt)) := Fr.rf.put ⟨by omega, by omega⟩
  have ci1 := CI_trace ci si fr e_put_s
  refine T_V1i (pc' := 17) d_Tb_markWife_14 rfl l_Tb_273 v_Tb_markOne (by first | assumption | exact e_put_s | simp [e_put, *]) (Nat.le_of_ble_eq_true rfl) (c_markOne X _ _ (sT σ tt) i hi ci1 (SI_trace si)) (fun v h1 hq => ?_)
  obtain ⟨rfl, ci2, fr2⟩ := hq
  have k0 := ci2.1
  obtain ⟨c16, r16, fc⟩ := ci2.2.2.2.2.1
  obtain ⟨si_, us, rfl, hel, hus⟩ := fc
  refine T_aload_n (pc' := 18) d_Tb_markWife_17 rfl rfl rfl ?_
  refine T_get (pc' := 21) d_Tb_markWife_18 rfl g_Tb_29 (by first | assumption | exact e_put_s | simp [e_put, *]) rfl ?_
  refine T_get (pc' := 24) d_Tb_markWife_21 rfl g_Tb_193 (by first | assumption | exact e_put_s | simp [e_put, *]) rfl ?_
  refine T_iadd (pc' := 25) d_Tb_markWife_24 rfl ?_
  refine T_iret d_Tb_markWife_25 rfl ?_
  exact ⟨_, rfl, rfl, ci2, fr.tr fr2⟩
theorem p_Tb_mark (w p : Int32) (ci : CI h σ) (si : SI σ) : Ci X (d + 20) M_Tb_mark [.ref 0, .int w, .int p] h (fun v h1 => v = (a_mark σ w p).1 ∧ CI h1 (a_mark σ w p).2 ∧ Fr 0 86 h h1) := by
  have h0 := ci.1
  obtain ⟨ab, tr⟩ := ci.2.2.1
  have t0 := tr.1
  have hn := si.1.2.1
  refine C_of_T rfl rfl (Nat.le_of_ble_eq_true rfl) rfl ?_
  refine T_iload_n (pc' := 1) d_Tb_mark_0 rfl rfl rfl ?_
  refine T_iconst (v := 0) (pc' := 2) d_Tb_mark_1 rfl (by decide) ?_
  refine T_iconst (v := 5) (pc' := 3) d_Tb_mark_2 rfl (by decide) ?_
  refine T_S3i (pc' := 6) d_Tb_mark_3 rfl l_Tb_85 v_Tb_within (Nat.le_of_ble_eq_true rfl) (c_Tb_within X _ h w 0 5) (fun v h1 hq => ?_)
  obtain ⟨rfl, ⟨hw, rfl⟩ | ⟨hw, rfl⟩⟩ := hq
  · refine T_if_eq (pc' := 9) (tgt := 20) d_Tb_mark_6 rfl (by decide) (fun hzz => absurd hzz (by decide)) (fun _ => ?_)
    refine T_aload_n (pc' := 10) d_Tb_mark_9 rfl rfl rfl ?_
    refine T_get (pc' := 13) d_Tb_mark_10 rfl g_Tb_19 (by first | assumption | exact e_put_s | simp [e_put, *]) rfl ?_
    refine T_iload_n (pc' := 14) d_Tb_mark_13 rfl rfl rfl ?_
    refine T_V1i (pc' := 17) d_Tb_mark_14 rfl l_Tb_109 v_To_hasPerson (by first | assumption | exact e_put_s | simp [e_put, *]) (Nat.le_of_ble_eq_true rfl) (c_To_hasPerson X _ h1 4 _ _ _ _ _ _ _ _ _ p hn tr) (fun v h2 hq => ?_)
    obtain ⟨rfl, ⟨hp, rfl⟩ | ⟨hp, rfl⟩⟩ := hq
    · refine T_if_ne (pc' := 20) (tgt := 23) d_Tb_mark_17 rfl (by decide) (fun _ => ?_) (fun hzz => absurd hzz (by decide))
      have hok : okP (σ.1 1) p := (isP_iff (by omega) p).mp hp
      obtain ⟨i, hi, rfl⟩ := hp
      have ea : a_mark σ w (nI i) = ((sMark σ w i).1, sT σ (σ.2.2 + (sMark σ w i).2)) := by
        rw [a_mark, if_pos ⟨hw, hok⟩, nI_clamp (by omega)]
      rw [ea]
      refine T_iload_n (pc' := 24) d_Tb_mark_23 rfl rfl rfl ?_
      refine sw_Tb_mark_24 (fun hx => ?_) (fun hx => ?_) (fun hx => ?_) (fun hx => ?_) (fun hx => ?_) (fun x1 x2 x3 x4 x5 => ?_)
      · subst hx
        refine T_aload_n (pc' := 61) d_Tb_mark_60 rfl rfl rfl ?_
        refine T_iload_n (pc' := 62) d_Tb_mark_61 rfl rfl rfl ?_
        refine T_V1i (pc' := 65) d_Tb_mark_62 rfl l_Tb_258 v_Tb_markLover (by first | assumption | exact e_put_s | simp [e_put, *]) (Nat.le_of_ble_eq_true rfl) (c_markLover X _ _ _ i hi ci si) (fun v h3 hq => ?_)
        obtain ⟨rfl, ci2, fr2⟩ := hq
        refine T_iret d_Tb_mark_65 rfl ?_
        rw [i64_2] at ci2
        exact ⟨_, rfl, rfl, ci2, fr2.wide (by omega) (by omega)⟩
      · subst hx
        refine T_aload_n (pc' := 67) d_Tb_mark_66 rfl rfl rfl ?_
        refine T_iload_n (pc' := 68) d_Tb_mark_67 rfl rfl rfl ?_
        refine T_V1i (pc' := 71) d_Tb_mark_68 rfl l_Tb_261 v_Tb_markGrudge (by first | assumption | exact e_put_s | simp [e_put, *]) (Nat.le_of_ble_eq_true rfl) (c_markGrudge X _ _ _ i hi ci si) (fun v h3 hq => ?_)
        obtain ⟨rfl, ci2, fr2⟩ := hq
        refine T_iret d_Tb_mark_71 rfl ?_
        rw [i64_2] at ci2
        exact ⟨_, rfl, rfl, ci2, fr2.wide (by omega) (by omega)⟩
      · subst hx
        refine T_aload_n (pc' := 73) d_Tb_mark_72 rfl rfl rfl ?_
        refine T_iload_n (pc' := 74) d_Tb_mark_73 rfl rfl rfl ?_
        refine T_V1i (pc' := 77) d_Tb_mark_74 rfl l_Tb_264 v_Tb_markPoet (by first | assumption | exact e_put_s | simp [e_put, *]) (Nat.le_of_ble_eq_true rfl) (c_markPoet X _ _ _ i hi ci si) (fun v h3 hq => ?_)
        obtain ⟨rfl, ci2, fr2⟩ := hq
        refine T_iret d_Tb_mark_77 rfl ?_
        rw [i64_3] at ci2
        exact ⟨_, rfl, rfl, ci2, fr2.wide (by omega) (by omega)⟩
      · subst hx
        refine T_aload_n (pc' := 79) d_Tb_mark_78 rfl rfl rfl ?_
        refine T_iload_n (pc' := 80) d_Tb_mark_79 rfl rfl rfl ?_
        refine T_V1i (pc' := 83) d_Tb_mark_80 rfl l_Tb_267 v_Tb_markMiser (by first | assumption | exact e_put_s | simp [e_put, *]) (Nat.le_of_ble_eq_true rfl) (c_markMiser X _ _ _ i hi ci si) (fun v h3 hq => ?_)
        obtain ⟨rfl, ci2, fr2⟩ := hq
        refine T_iret d_Tb_mark_83 rfl ?_
        rw [i64_3] at ci2
        exact ⟨_, rfl, rfl, ci2, fr2.wide (by omega) (by omega)⟩
      · subst hx
        refine T_aload_n (pc' := 85) d_Tb_mark_84 rfl rfl rfl ?_
        refine T_iload_n (pc' := 86) d_Tb_mark_85 rfl rfl rfl ?_
        refine T_V1i (pc' := 89) d_Tb_mark_86 rfl l_Tb_270 v_Tb_markWife (by first | assumption | exact e_put_s | simp [e_put, *]) (Nat.le_of_ble_eq_true rfl) (c_markWife X _ _ _ i hi ci si) (fun v h3 hq => ?_)
        obtain ⟨rfl, ci2, fr2⟩ := hq
        refine T_iret d_Tb_mark_89 rfl ?_
        rw [i64_2] at ci2
        exact ⟨_, rfl, rfl, ci2, fr2.wide (by omega) (by omega)⟩
      · refine T_aload_n (pc' := 91) d_Tb_mark_90 rfl rfl rfl ?_
        refine T_iload_n (pc' := 92) d_Tb_mark_91 rfl rfl rfl ?_
        refine T_V1i (pc' := 95) d_Tb_mark_92 rfl l_Tb_273 v_Tb_markOne (by first | assumption | exact e_put_s | simp [e_put, *]) (Nat.le_of_ble_eq_true rfl) (c_markOne X _ _ _ i hi ci si) (fun v h3 hq => ?_)
        obtain ⟨rfl, ci2, fr2⟩ := hq
        refine T_iret d_Tb_mark_95 rfl ?_
        rw [sMark, if_neg x1, if_neg x2, if_neg x3, if_neg x4, if_neg x5]
        exact ⟨_, rfl, rfl, ci2, fr2.wide (by omega) (by omega)⟩
    · refine T_if_ne (pc' := 20) (tgt := 23) d_Tb_mark_17 rfl (by decide) (fun hzz => absurd (by decide) hzz) (fun _ => ?_)
      refine T_ldc (pc' := 22) d_Tb_mark_20 rfl ck_Tb_108 ?_
      refine T_iret d_Tb_mark_22 rfl ?_
      refine ⟨_, rfl, ?_⟩
      rw [a_mark, if_neg (fun q => hp ((isP_iff (by omega) p).mpr q.2))]
      exact ⟨rfl, ci, Fr.rf⟩
  · refine T_if_eq (pc' := 9) (tgt := 20) d_Tb_mark_6 rfl (by decide) (fun _ => ?_) (fun hzz => absurd (by decide) hzz)
    refine T_ldc (pc' := 22) d_Tb_mark_20 rfl ck_Tb_108 ?_
    refine T_iret d_Tb_mark_22 rfl ?_
    refine ⟨_, rfl, ?_⟩
    rw [a_mark, if_neg (fun q => hw q.1)]
    exact ⟨rfl, ci, Fr.rf⟩
theorem p_Tb_keep (i : Int32) (ci : CI h σ) (si : SI σ) : Ci X (d + 20) M_Tb_keep [.ref 0, .int i] h (fun v h1 => v = (a_keep σ i).1 ∧ CI h1 (a_keep σ i).2 ∧ Fr 0 86 h h1) := by
  have h0 := ci.1
  obtain ⟨c16, r16, fc⟩ := ci.2.2.2.2.1
  have hr := ci.2.2.2.2.2.2.1
  obtain ⟨rr, r30, r30a, r30b⟩ := ci.2.2.2.2.2.2.2.1
  have ir0 := ci.2.2.2.2.2.2.2.2.2.2.2.2.2.1
  have ir1 := ci.2.2.2.2.2.2.2.2.2.2.2.2.2.2
  have i00 := ir0.1
  have i10 := ir1.1
  have fl := fc.fl si.2.2.1
  have hkn := si.1.2.2.2.1
  refine C_of_T rfl rfl (Nat.le_of_ble_eq_true rfl) rfl ?_
  refine T_iload_n (pc' := 1) d_Tb_keep_0 rfl rfl rfl ?_
  refine T_iconst (v := 0) (pc' := 2) d_Tb_keep_1 rfl (by decide) ?_
  refine T_iconst (v := 1) (pc' := 3) d_Tb_keep_2 rfl (by decide) ?_
  refine T_S3i (pc' := 6) d_Tb_keep_3 rfl l_Tb_85 v_Tb_within (Nat.le_of_ble_eq_true rfl) (c_Tb_within X _ h i 0 1) (fun v h1 hq => ?_)
  obtain ⟨rfl, ⟨hi, rfl⟩ | ⟨hi, rfl⟩⟩ := hq
  · refine T_if_ne (pc' := 9) (tgt := 11) d_Tb_keep_6 rfl (by decide) (fun _ => ?_) (fun hzz => absurd hzz (by decide))
    rw [a_keep]
    simp only [hi, and_self, if_true]
    rcases s_01 hi with rfl | rfl
    · refine T_aload_n (pc' := 12) d_Tb_keep_11 rfl rfl rfl ?_
      refine T_get (pc' := 15) d_Tb_keep_12 rfl g_Tb_45 (by first | assumption | exact e_put_s | simp [e_put, *]) rfl ?_
      refine T_iload_n (pc' := 16) d_Tb_keep_15 rfl rfl rfl ?_
      refine T_aaloadL 0 (pc' := 17) d_Tb_keep_16 rfl r30 (by decide) (by decide) r30a ?_
      refine T_aload_n (pc' := 18) d_Tb_keep_17 rfl rfl rfl ?_
      refine T_get (pc' := 21) d_Tb_keep_18 rfl g_Tb_29 (by first | assumption | exact e_put_s | simp [e_put, *]) rfl ?_
      refine T_aload_n (pc' := 22) d_Tb_keep_21 rfl rfl rfl ?_
      refine T_get (pc' := 25) d_Tb_keep_22 rfl g_Tb_39 (by first | assumption | exact e_put_s | simp [e_put, *]) rfl ?_
      refine T_V2v (pc' := 28) d_Tb_keep_25 rfl l_Tb_276 v_Im_take (by first | assumption | exact e_put_s | simp [e_put, *]) (Nat.le_of_ble_eq_true rfl) (c_Im_take X _ 58 h1 16 18 _ _ _ c16 _ _ _ _ hkn ir0 r16 fc fl hr (by decide) (by decide)) (fun h2 hq => ?_)
      obtain ⟨q1, q2⟩ := hq
      obtain ⟨si_, us, rfl, -, -⟩ := id fc
      refine T_aload_n (pc' := 29) d_Tb_keep_28 rfl rfl rfl ?_
      refine T_get (pc' := 32) d_Tb_keep_29 rfl g_Tb_29 (by first | exact (q2.2 0 (by decide)).trans h0 | exact (q2.2 16 (by decide)).trans r16) rfl ?_
      refine T_get (pc' := 35) d_Tb_keep_32 rfl g_Tb_157 (by first | exact (q2.2 0 (by decide)).trans h0 | exact (q2.2 16 (by decide)).trans r16) rfl ?_
      refine T_iret d_Tb_keep_35 rfl ?_
      exact ⟨_, rfl, rfl, CI_img (i := 0) (by decide) hkn ci si q2 q1, q2.wide (by omega) (by omega)⟩
    · refine T_aload_n (pc' := 12) d_Tb_keep_11 rfl rfl rfl ?_
      refine T_get (pc' := 15) d_Tb_keep_12 rfl g_Tb_45 (by first | assumption | exact e_put_s | simp [e_put, *]) rfl ?_
      refine T_iload_n (pc' := 16) d_Tb_keep_15 rfl rfl rfl ?_
      refine T_aaloadL 1 (pc' := 17) d_Tb_keep_16 rfl r30 (by decide) (by decide) r30b ?_
      refine T_aload_n (pc' := 18) d_Tb_keep_17 rfl rfl rfl ?_
      refine T_get (pc' := 21) d_Tb_keep_18 rfl g_Tb_29 (by first | assumption | exact e_put_s | simp [e_put, *]) rfl ?_
      refine T_aload_n (pc' := 22) d_Tb_keep_21 rfl rfl rfl ?_
      refine T_get (pc' := 25) d_Tb_keep_22 rfl g_Tb_39 (by first | assumption | exact e_put_s | simp [e_put, *]) rfl ?_
      refine T_V2v (pc' := 28) d_Tb_keep_25 rfl l_Tb_276 v_Im_take (by first | assumption | exact e_put_s | simp [e_put, *]) (Nat.le_of_ble_eq_true rfl) (c_Im_take X _ 72 h1 16 18 _ _ _ c16 _ _ _ _ hkn ir1 r16 fc fl hr (by decide) (by decide)) (fun h2 hq => ?_)
      obtain ⟨q1, q2⟩ := hq
      obtain ⟨si_, us, rfl, -, -⟩ := id fc
      refine T_aload_n (pc' := 29) d_Tb_keep_28 rfl rfl rfl ?_
      refine T_get (pc' := 32) d_Tb_keep_29 rfl g_Tb_29 (by first | exact (q2.2 0 (by decide)).trans h0 | exact (q2.2 16 (by decide)).trans r16) rfl ?_
      refine T_get (pc' := 35) d_Tb_keep_32 rfl g_Tb_157 (by first | exact (q2.2 0 (by decide)).trans h0 | exact (q2.2 16 (by decide)).trans r16) rfl ?_
      refine T_iret d_Tb_keep_35 rfl ?_
      exact ⟨_, rfl, rfl, CI_img (i := 1) (by decide) hkn ci si q2 q1, q2.wide (by omega) (by omega)⟩
  · refine T_if_ne (pc' := 9) (tgt := 11) d_Tb_keep_6 rfl (by decide) (fun hzz => absurd (by decide) hzz) (fun _ => ?_)
    refine T_iconst (v := (-1)) (pc' := 10) d_Tb_keep_9 rfl (by decide) ?_
    refine T_iret d_Tb_keep_10 rfl ?_
    refine ⟨_, rfl, ?_⟩
    rw [a_keep, if_neg hi]
    exact ⟨rfl, ci, Fr.rf⟩
theorem t_Tb_back (i a : Nat) (hi2 : i < 2) (ha : a = 58 + 14 * i) (ci : CI h σ) (si : SI σ) (hke : σ.1 (6 + i) = 1) (ir : IR h a 1 (σ.1 (8 + i)) (σ.2.1 (13 + i)) (fun j => σ.2.1 (30 + 10 * i + j))) (hkn2 : σ.1 (8 + i) ≤ 10) (gi : GI (σ.1 1) (σ.1 2) (σ.2.1 (13 + i))) (ls : List Value) (hls : ls[0]? = some (.ref 0)) (Q : Option Value → AH → Prop) (hQ : ∀ h1, CI h1 (sBack σ i) → Fr 0 86 h h1 → Q (some (.int (σ.2.1 (13 + i) 0))) h1) : T X (d + 20) M_Tb_back 40 ls [.ref 18, .ref 16, .ref a] h Q := by
  have h0 := ci.1
  obtain ⟨c16, r16, fc⟩ := ci.2.2.2.2.1
  have hr := ci.2.2.2.2.2.2.1
  have fl := fc.fl si.2.2.1
  have hkn := si.1.2.2.2.1
  have i00 := ir.1
  refine T_V2v (pc' := 43) d_Tb_back_40 rfl l_Tb_283 v_Im_give (by first | assumption | exact e_put_s | simp [e_put, *]) (Nat.le_of_ble_eq_true rfl) (c_Im_give X _ a h 16 18 _ _ c16 _ _ _ ir r16 fl hr (by omega) (by omega) (by decide) hkn) (fun h2 hq => ?_)
  obtain ⟨c, h3, rfl, fc3, fl3, q1, q2⟩ := hq
  have fr1 : Fr 16 17 h (e_put h 16 c) := Fr.rf.put ⟨by omega, by omega⟩
  have ci1 := CI_flight ci si fr1 e_put_s (FC_cp (g' := σ.2.1 6) fc3)
  have ci2 := CI_hist hkn2 ci1 q2 q1
  have k0 := ci2.1
  have k16 : h2.2 16 = some c := (q2.2 16 (by decide)).trans e_put_s
  obtain ⟨si_, us, rfl, -, -⟩ := id fc3
  refine T_aload_n (pc' := 44) d_Tb_back_43 rfl rfl hls ?_
  refine T_get (pc' := 47) d_Tb_back_44 rfl g_Tb_29 (by first | assumption | exact e_put_s | simp [e_put, *]) rfl ?_
  refine T_get (pc' := 50) d_Tb_back_47 rfl g_Tb_157 (by first | assumption | exact e_put_s | simp [e_put, *]) rfl ?_
  refine T_iret d_Tb_back_50 rfl ?_
  exact hQ _ ci2 ((fr1.wide (by omega) (by omega)).tr (q2.wide (by omega) (by omega)))
theorem p_Tb_back (i : Int32) (ci : CI h σ) (si : SI σ) : Ci X (d + 20) M_Tb_back [.ref 0, .int i] h (fun v h1 => v = (a_back σ i).1 ∧ CI h1 (a_back σ i).2 ∧ Fr 0 86 h h1) := by
  have h0 := ci.1
  obtain ⟨rr, r30, r30a, r30b⟩ := ci.2.2.2.2.2.2.2.1
  have ir0 := ci.2.2.2.2.2.2.2.2.2.2.2.2.2.1
  have ir1 := ci.2.2.2.2.2.2.2.2.2.2.2.2.2.2
  have i00 := ir0.1
  have i10 := ir1.1
  have s6 := si.1.2.2.2.2.2.2.1
  have s7 := si.1.2.2.2.2.2.2.2.1
  refine C_of_T rfl rfl (Nat.le_of_ble_eq_true rfl) rfl ?_
  refine T_iload_n (pc' := 1) d_Tb_back_0 rfl rfl rfl ?_
  refine T_iconst (v := 0) (pc' := 2) d_Tb_back_1 rfl (by decide) ?_
  refine T_iconst (v := 1) (pc' := 3) d_Tb_back_2 rfl (by decide) ?_
  refine T_S3i (pc' := 6) d_Tb_back_3 rfl l_Tb_85 v_Tb_within (Nat.le_of_ble_eq_true rfl) (c_Tb_within X _ h i 0 1) (fun v h1 hq => ?_)
  obtain ⟨rfl, ⟨hi, rfl⟩ | ⟨hi, rfl⟩⟩ := hq
  · refine T_if_ne (pc' := 9) (tgt := 11) d_Tb_back_6 rfl (by decide) (fun _ => ?_) (fun hzz => absurd hzz (by decide))
    rw [a_back]
    simp only [hi, and_self, if_true]
    rcases s_01 hi with rfl | rfl
    · refine T_aload_n (pc' := 12) d_Tb_back_11 rfl rfl rfl ?_
      refine T_get (pc' := 15) d_Tb_back_12 rfl g_Tb_45 (by first | assumption | exact e_put_s | simp [e_put, *]) rfl ?_
      refine T_iload_n (pc' := 16) d_Tb_back_15 rfl rfl rfl ?_
      refine T_aaloadL 0 (pc' := 17) d_Tb_back_16 rfl r30 (by decide) (by decide) r30a ?_
      refine T_get (pc' := 20) d_Tb_back_17 rfl g_Tb_280 (by first | assumption | exact e_put_s | simp [e_put, *]) rfl ?_
      show T _ _ _ _ _ _ _ (fun r h_1 => ∃ v, r = some (.int v) ∧ v = (if σ.1 6 = 1 then (σ.2.1 13 0, sBack σ 0) else (-2, σ)).1 ∧ CI h_1 (if σ.1 6 = 1 then (σ.2.1 13 0, sBack σ 0) else (-2, σ)).2 ∧ Fr 0 86 h1 h_1)
      by_cases hke : σ.1 6 = 1
      · refine T_if_ne (pc' := 23) (tgt := 26) d_Tb_back_20 rfl (by decide) (fun _ => ?_) (fun hzz => absurd hzz (by rw [hke]; decide))
        refine T_aload_n (pc' := 27) d_Tb_back_26 rfl rfl rfl ?_
        refine T_get (pc' := 30) d_Tb_back_27 rfl g_Tb_45 (by first | assumption | exact e_put_s | simp [e_put, *]) rfl ?_
        refine T_iload_n (pc' := 31) d_Tb_back_30 rfl rfl rfl ?_
        refine T_aaloadL 0 (pc' := 32) d_Tb_back_31 rfl r30 (by decide) (by decide) r30a ?_
        refine T_aload_n (pc' := 33) d_Tb_back_32 rfl rfl rfl ?_
        refine T_get (pc' := 36) d_Tb_back_33 rfl g_Tb_29 (by first | assumption | exact e_put_s | simp [e_put, *]) rfl ?_
        refine T_aload_n (pc' := 37) d_Tb_back_36 rfl rfl rfl ?_
        refine T_get (pc' := 40) d_Tb_back_37 rfl g_Tb_39 (by first | assumption | exact e_put_s | simp [e_put, *]) rfl ?_
        rw [if_pos hke]
        refine t_Tb_back X d h1 σ 0 58 (by decide) rfl ci si hke ?_ (si.1.2.2.2.2.2.2.2.2.1 hke) (si.2.2.2.2.1 hke).1 _ rfl _ (fun h2 q1 q2 => ⟨_, rfl, rfl, q1, q2⟩)
        rw [hke] at ir0
        exact ir0
      · refine T_if_ne (pc' := 23) (tgt := 26) d_Tb_back_20 rfl (by decide) (fun hzz => absurd (by rw [show σ.1 6 = 0 by omega]; rfl) hzz) (fun _ => ?_)
        refine T_bipush (v := (-2)) (pc' := 25) d_Tb_back_23 rfl (by decide) ?_
        refine T_iret d_Tb_back_25 rfl ?_
        rw [if_neg hke]
        exact ⟨_, rfl, rfl, ci, Fr.rf⟩
    · refine T_aload_n (pc' := 12) d_Tb_back_11 rfl rfl rfl ?_
      refine T_get (pc' := 15) d_Tb_back_12 rfl g_Tb_45 (by first | assumption | exact e_put_s | simp [e_put, *]) rfl ?_
      refine T_iload_n (pc' := 16) d_Tb_back_15 rfl rfl rfl ?_
      refine T_aaloadL 1 (pc' := 17) d_Tb_back_16 rfl r30 (by decide) (by decide) r30b ?_
      refine T_get (pc' := 20) d_Tb_back_17 rfl g_Tb_280 (by first | assumption | exact e_put_s | simp [e_put, *]) rfl ?_
      show T _ _ _ _ _ _ _ (fun r h_1 => ∃ v, r = some (.int v) ∧ v = (if σ.1 7 = 1 then (σ.2.1 14 0, sBack σ 1) else (-2, σ)).1 ∧ CI h_1 (if σ.1 7 = 1 then (σ.2.1 14 0, sBack σ 1) else (-2, σ)).2 ∧ Fr 0 86 h1 h_1)
      by_cases hke : σ.1 7 = 1
      · refine T_if_ne (pc' := 23) (tgt := 26) d_Tb_back_20 rfl (by decide) (fun _ => ?_) (fun hzz => absurd hzz (by rw [hke]; decide))
        refine T_aload_n (pc' := 27) d_Tb_back_26 rfl rfl rfl ?_
        refine T_get (pc' := 30) d_Tb_back_27 rfl g_Tb_45 (by first | assumption | exact e_put_s | simp [e_put, *]) rfl ?_
        refine T_iload_n (pc' := 31) d_Tb_back_30 rfl rfl rfl ?_
        refine T_aaloadL 1 (pc' := 32) d_Tb_back_31 rfl r30 (by decide) (by decide) r30b ?_
        refine T_aload_n (pc' := 33) d_Tb_back_32 rfl rfl rfl ?_
        refine T_get (pc' := 36) d_Tb_back_33 rfl g_Tb_29 (by first | assumption | exact e_put_s | simp [e_put, *]) rfl ?_
        refine T_aload_n (pc' := 37) d_Tb_back_36 rfl rfl rfl ?_
        refine T_get (pc' := 40) d_Tb_back_37 rfl g_Tb_39 (by first | assumption | exact e_put_s | simp [e_put, *]) rfl ?_
        rw [if_pos hke]
        refine t_Tb_back X d h1 σ 1 72 (by decide) rfl ci si hke ?_ (si.1.2.2.2.2.2.2.2.2.2 hke) (si.2.2.2.2.2.1 hke).1 _ rfl _ (fun h2 q1 q2 => ⟨_, rfl, rfl, q1, q2⟩)
        rw [hke] at ir1
        exact ir1
      · refine T_if_ne (pc' := 23) (tgt := 26) d_Tb_back_20 rfl (by decide) (fun hzz => absurd (by rw [show σ.1 7 = 0 by omega]; rfl) hzz) (fun _ => ?_)
        refine T_bipush (v := (-2)) (pc' := 25) d_Tb_back_23 rfl (by decide) ?_
        refine T_iret d_Tb_back_25 rfl ?_
        rw [if_neg hke]
        exact ⟨_, rfl, rfl, ci, Fr.rf⟩
  · refine T_if_ne (pc' := 9) (tgt := 11) d_Tb_back_6 rfl (by decide) (fun hzz => absurd (by decide) hzz) (fun _ => ?_)
    refine T_iconst (v := (-1)) (pc' := 10) d_Tb_back_9 rfl (by decide) ?_
    refine T_iret d_Tb_back_10 rfl ?_
    refine ⟨_, rfl, ?_⟩
    rw [a_back, if_neg hi]
    exact ⟨rfl, ci, Fr.rf⟩
end PUB4
