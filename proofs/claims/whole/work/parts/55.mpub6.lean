/-! the model: saw, hears, forget, mark, keep, back -/
def sUnit : Nat → Int64
  | 0 => 1
  | k + 1 => sUnit k * 10
def sTr (b : Int32) (t : Int64) : Nat → Int64
  | 0 => t
  | k + 1 => sTr b t k + (if sHas b (nI k) then sUnit k else 0)
theorem sTr_add (b : Int32) (t : Int64) : ∀ k, sTr b t k = t + sTr b 0 k
  | 0 => by rw [sTr, sTr]; simp
  | k + 1 => by rw [sTr, sTr, sTr_add b t k, Int64.add_assoc]
def sBod (w : Int32) : Int32 := if w = 0 then 1 else if w = 1 then 3 else if w = 2 then 5 else if w = 3 then 11 else if w = 4 then 21 else 33
def sMv (b x bits hold p he : Int32) : Int32 := (if sHas b 3 then 2 * (x + (if sHas b 1 then bits else 0) - (if sHas b 2 then hold else 0)) else (x + (if sHas b 1 then bits else 0) - (if sHas b 2 then hold else 0))) + (if sHas b 4 then p else 0) + (if sHas b 5 then he else 0)
theorem s_05 : ∀ k, k ≤ 5 → nI k = 0 ∨ nI k = 1 ∨ nI k = 2 ∨ nI k = 3 ∨ nI k = 4 ∨ nI k = 5 := by decide +kernel
theorem sMv_ok (σ : Sp) (w : Int32) (p : Nat) (hw : 0 ≤ w ∧ w ≤ 5) : sMv (sBod w) (σ.2.1 2 p) (sBO (σ.2.1 6 (7 + p))) (sHold (σ.2.1 3) (σ.2.1 4) (σ.2.1 5) (σ.2.1 6 3) (σ.2.1 6 4) (σ.2.1 6 5)) (nI p) (σ.2.1 6 2) = (sMark σ w p).1 ∧ sTr (sBod w) 0 6 = (sMark σ w p).2 := by
  obtain ⟨k, hk, rfl⟩ := nI_of2 (M := 5) (n := 5) (by decide) (Int32.not_lt.mpr hw.1) hw.2
  generalize hB : sBO (σ.2.1 6 (7 + p)) = B
  rcases s_05 k hk with e | e | e | e | e | e <;> rw [e]
  · refine ⟨?_, (by decide +kernel : sTr 1 0 6 = 1)⟩
    have e2 : sMv (sBod 0) (σ.2.1 2 p) B (sHold (σ.2.1 3) (σ.2.1 4) (σ.2.1 5) (σ.2.1 6 3) (σ.2.1 6 4) (σ.2.1 6 5)) (nI p) (σ.2.1 6 2) = sMv 1 (σ.2.1 2 p) B (sHold (σ.2.1 3) (σ.2.1 4) (σ.2.1 5) (σ.2.1 6 3) (σ.2.1 6 4) (σ.2.1 6 5)) (nI p) (σ.2.1 6 2) := rfl
    rw [e2]
    simp only [sMv, eq_false (show ¬ sHas 1 1 by decide), eq_false (show ¬ sHas 1 2 by decide), eq_false (show ¬ sHas 1 3 by decide), eq_false (show ¬ sHas 1 4 by decide), eq_false (show ¬ sHas 1 5 by decide), if_true, if_false]
    show _ = σ.2.1 2 p
    simp [Int32.mul_comm]
  · refine ⟨?_, (by decide +kernel : sTr 3 0 6 = 11)⟩
    have e2 : sMv (sBod 1) (σ.2.1 2 p) B (sHold (σ.2.1 3) (σ.2.1 4) (σ.2.1 5) (σ.2.1 6 3) (σ.2.1 6 4) (σ.2.1 6 5)) (nI p) (σ.2.1 6 2) = sMv 3 (σ.2.1 2 p) B (sHold (σ.2.1 3) (σ.2.1 4) (σ.2.1 5) (σ.2.1 6 3) (σ.2.1 6 4) (σ.2.1 6 5)) (nI p) (σ.2.1 6 2) := rfl
    rw [e2]
    simp only [sMv, eq_true (show sHas 3 1 by decide), eq_false (show ¬ sHas 3 2 by decide), eq_false (show ¬ sHas 3 3 by decide), eq_false (show ¬ sHas 3 4 by decide), eq_false (show ¬ sHas 3 5 by decide), if_true, if_false]
    show _ = σ.2.1 2 p + sBO (σ.2.1 6 (7 + p))
    rw [hB]
    simp [Int32.mul_comm]
  · refine ⟨?_, (by decide +kernel : sTr 5 0 6 = 101)⟩
    have e2 : sMv (sBod 2) (σ.2.1 2 p) B (sHold (σ.2.1 3) (σ.2.1 4) (σ.2.1 5) (σ.2.1 6 3) (σ.2.1 6 4) (σ.2.1 6 5)) (nI p) (σ.2.1 6 2) = sMv 5 (σ.2.1 2 p) B (sHold (σ.2.1 3) (σ.2.1 4) (σ.2.1 5) (σ.2.1 6 3) (σ.2.1 6 4) (σ.2.1 6 5)) (nI p) (σ.2.1 6 2) := rfl
    rw [e2]
    simp only [sMv, eq_false (show ¬ sHas 5 1 by decide), eq_true (show sHas 5 2 by decide), eq_false (show ¬ sHas 5 3 by decide), eq_false (show ¬ sHas 5 4 by decide), eq_false (show ¬ sHas 5 5 by decide), if_true, if_false]
    show _ = σ.2.1 2 p - sHold (σ.2.1 3) (σ.2.1 4) (σ.2.1 5) (σ.2.1 6 3) (σ.2.1 6 4) (σ.2.1 6 5)
    simp [Int32.mul_comm]
  · refine ⟨?_, (by decide +kernel : sTr 11 0 6 = 1011)⟩
    have e2 : sMv (sBod 3) (σ.2.1 2 p) B (sHold (σ.2.1 3) (σ.2.1 4) (σ.2.1 5) (σ.2.1 6 3) (σ.2.1 6 4) (σ.2.1 6 5)) (nI p) (σ.2.1 6 2) = sMv 11 (σ.2.1 2 p) B (sHold (σ.2.1 3) (σ.2.1 4) (σ.2.1 5) (σ.2.1 6 3) (σ.2.1 6 4) (σ.2.1 6 5)) (nI p) (σ.2.1 6 2) := rfl
    rw [e2]
    simp only [sMv, eq_true (show sHas 11 1 by decide), eq_false (show ¬ sHas 11 2 by decide), eq_true (show sHas 11 3 by decide), eq_false (show ¬ sHas 11 4 by decide), eq_false (show ¬ sHas 11 5 by decide), if_true, if_false]
    show _ = (σ.2.1 2 p + sBO (σ.2.1 6 (7 + p))) * 2
    rw [hB]
    simp [Int32.mul_comm]
  · refine ⟨?_, (by decide +kernel : sTr 21 0 6 = 10101)⟩
    have e2 : sMv (sBod 4) (σ.2.1 2 p) B (sHold (σ.2.1 3) (σ.2.1 4) (σ.2.1 5) (σ.2.1 6 3) (σ.2.1 6 4) (σ.2.1 6 5)) (nI p) (σ.2.1 6 2) = sMv 21 (σ.2.1 2 p) B (sHold (σ.2.1 3) (σ.2.1 4) (σ.2.1 5) (σ.2.1 6 3) (σ.2.1 6 4) (σ.2.1 6 5)) (nI p) (σ.2.1 6 2) := rfl
    rw [e2]
    simp only [sMv, eq_false (show ¬ sHas 21 1 by decide), eq_true (show sHas 21 2 by decide), eq_false (show ¬ sHas 21 3 by decide), eq_true (show sHas 21 4 by decide), eq_false (show ¬ sHas 21 5 by decide), if_true, if_false]
    show _ = σ.2.1 2 p - sHold (σ.2.1 3) (σ.2.1 4) (σ.2.1 5) (σ.2.1 6 3) (σ.2.1 6 4) (σ.2.1 6 5) + nI p
    simp [Int32.mul_comm]
  · refine ⟨?_, (by decide +kernel : sTr 33 0 6 = 100001)⟩
    have e2 : sMv (sBod 5) (σ.2.1 2 p) B (sHold (σ.2.1 3) (σ.2.1 4) (σ.2.1 5) (σ.2.1 6 3) (σ.2.1 6 4) (σ.2.1 6 5)) (nI p) (σ.2.1 6 2) = sMv 33 (σ.2.1 2 p) B (sHold (σ.2.1 3) (σ.2.1 4) (σ.2.1 5) (σ.2.1 6 3) (σ.2.1 6 4) (σ.2.1 6 5)) (nI p) (σ.2.1 6 2) := rfl
    rw [e2]
    simp only [sMv, eq_false (show ¬ sHas 33 1 by decide), eq_false (show ¬ sHas 33 2 by decide), eq_false (show ¬ sHas 33 3 by decide), eq_false (show ¬ sHas 33 4 by decide), eq_true (show sHas 33 5 by decide), if_true, if_false]
    show _ = σ.2.1 2 p + σ.2.1 6 2
    simp [Int32.mul_comm]
theorem s_110 : ∀ i, i < 2 → (110 : Int32) * (1 + nI i) = nI (110 * (1 + i)) := by decide +kernel
theorem s_1i : ∀ i, i < 2 → (1 : Int32) + nI i = nI (1 + i) := by decide +kernel
theorem s_7p : ∀ i, i < 3 → (7 : Int32) + nI i = nI (7 + i) := by decide +kernel
section MPUB6
variable (X : EX) (d : Nat) (h : AH) (σ : Sp)
theorem p_Mo_saw (p m k : Int32) (mi : MI h σ) (si : SI σ) : Ci X (d + 20) M_Mo_saw [.ref 86, .int p, .int m, .int k] h (fun v h1 => v = (a_saw σ p m k).1 ∧ MI h1 (a_saw σ p m k).2 ∧ Fr 86 109 h h1) := by
  have mi' := mi
  have hn := si.1.2.1
  have hs6 := si.1.2.2.2.2.1
  obtain ⟨⟨sc, r0, q0, q8, q9⟩, -, r2, -, -, -, -, -, -, -, -, -, ⟨f12, r12, q12⟩, ⟨f13, r13, q13⟩, ⟨f14, r14, q14⟩, -, -⟩ := mi
  refine C_of_T rfl rfl (Nat.le_of_ble_eq_true rfl) rfl ?_
  refine T_aload_n (pc' := 1) d_Mo_saw_0 rfl rfl rfl ?_
  refine T_iload_n (pc' := 2) d_Mo_saw_1 rfl rfl rfl ?_
  refine T_V1i (pc' := 5) d_Mo_saw_2 rfl l_Mo_152 v_Mo_isOne (by first | assumption | exact e_put_s | simp [e_put, *]) (Nat.le_of_ble_eq_true rfl) (c_Mo_isOne X _ h _ _ _ _ _ _ _ p hn r2) (fun v h1 hq => ?_)
  obtain ⟨rfl, ⟨hp, rfl⟩ | ⟨hp, rfl⟩⟩ := hq
  · refine T_if_eq (pc' := 8) (tgt := 28) d_Mo_saw_5 rfl (by decide) (fun hzz => absurd hzz (by decide)) (fun _ => ?_)
    have hok : okP (σ.1 1) p := (isP_iff (by omega) p).mp hp
    refine T_iload_n (pc' := 9) d_Mo_saw_8 rfl rfl rfl ?_
    refine T_iconst (v := 1) (pc' := 10) d_Mo_saw_9 rfl (by decide) ?_
    refine T_bipush (v := 9) (pc' := 12) d_Mo_saw_10 rfl (by decide) ?_
    refine T_S3i (pc' := 15) d_Mo_saw_12 rfl l_Mo_78 v_Mo_in (Nat.le_of_ble_eq_true rfl) (c_Mo_in X _ h1 m 1 9) (fun v h2 hq => ?_)
    obtain ⟨rfl, ⟨hm, rfl⟩ | ⟨hm, rfl⟩⟩ := hq
    · refine T_if_eq (pc' := 18) (tgt := 28) d_Mo_saw_15 rfl (by decide) (fun hzz => absurd hzz (by decide)) (fun _ => ?_)
      refine T_iload_n (pc' := 19) d_Mo_saw_18 rfl rfl rfl ?_
      refine T_iconst (v := 0) (pc' := 20) d_Mo_saw_19 rfl (by decide) ?_
      refine T_bipush (v := 9) (pc' := 22) d_Mo_saw_20 rfl (by decide) ?_
      refine T_S3i (pc' := 25) d_Mo_saw_22 rfl l_Mo_78 v_Mo_in (Nat.le_of_ble_eq_true rfl) (c_Mo_in X _ h2 k 0 9) (fun v h3 hq => ?_)
      obtain ⟨rfl, ⟨hk, rfl⟩ | ⟨hk, rfl⟩⟩ := hq
      · refine T_if_ne (pc' := 28) (tgt := 30) d_Mo_saw_25 rfl (by decide) (fun _ => ?_) (fun hzz => absurd hzz (by decide))
        refine T_aload_n (pc' := 31) d_Mo_saw_30 rfl rfl rfl ?_
        refine T_get (pc' := 34) d_Mo_saw_31 rfl g_Mo_134 (by first | assumption | exact e_put_s | simp [e_put, *]) rfl ?_
        refine T_bipush (v := 6) (pc' := 36) d_Mo_saw_34 rfl (by decide) ?_
        rw [q8]
        by_cases hs : σ.1 4 < 6
        · refine T_icmp_ne (pc' := 39) (tgt := 42) d_Mo_saw_36 rfl (by decide) (fun _ => ?_) (fun hzz => absurd hzz (fun q => by have := (nI_eq (b := 6) (by omega) (by decide)).mp q; omega))
          refine T_aload_n (pc' := 43) d_Mo_saw_42 rfl rfl rfl ?_
          refine T_get (pc' := 46) d_Mo_saw_43 rfl g_Mo_63 (by first | assumption | exact e_put_s | simp [e_put, *]) rfl ?_
          refine T_aload_n (pc' := 47) d_Mo_saw_46 rfl rfl rfl ?_
          refine T_get (pc' := 50) d_Mo_saw_47 rfl g_Mo_134 (by first | assumption | exact e_put_s | simp [e_put, *]) rfl ?_
          refine T_iload_n (pc' := 51) d_Mo_saw_50 rfl rfl rfl ?_
          rw [q8]
          refine T_iastoreN (σ.1 4) (pc' := 52) d_Mo_saw_51 rfl r12 ⟨hs, by decide⟩ ?_
          refine T_aload_n (pc' := 53) d_Mo_saw_52 rfl rfl rfl ?_
          refine T_get (pc' := 56) d_Mo_saw_53 rfl g_Mo_66 ((e_put_n (by decide)).trans r0) rfl ?_
          refine T_aload_n (pc' := 57) d_Mo_saw_56 rfl rfl rfl ?_
          refine T_get (pc' := 60) d_Mo_saw_57 rfl g_Mo_134 ((e_put_n (by decide)).trans r0) rfl ?_
          refine T_iload_n (pc' := 61) d_Mo_saw_60 rfl rfl rfl ?_
          rw [q8]
          refine T_iastoreN (σ.1 4) (pc' := 62) d_Mo_saw_61 rfl ((e_put_n (by decide)).trans r13) ⟨hs, by decide⟩ ?_
          refine T_aload_n (pc' := 63) d_Mo_saw_62 rfl rfl rfl ?_
          refine T_get (pc' := 66) d_Mo_saw_63 rfl g_Mo_69 ((e_put_n (by decide)).trans ((e_put_n (by decide)).trans r0)) rfl ?_
          refine T_aload_n (pc' := 67) d_Mo_saw_66 rfl rfl rfl ?_
          refine T_get (pc' := 70) d_Mo_saw_67 rfl g_Mo_134 ((e_put_n (by decide)).trans ((e_put_n (by decide)).trans r0)) rfl ?_
          refine T_iload_n (pc' := 71) d_Mo_saw_70 rfl rfl rfl ?_
          rw [q8]
          refine T_iastoreN (σ.1 4) (pc' := 72) d_Mo_saw_71 rfl ((e_put_n (by decide)).trans ((e_put_n (by decide)).trans r14)) ⟨hs, by decide⟩ ?_
          refine T_aload_n (pc' := 73) d_Mo_saw_72 rfl rfl rfl ?_
          refine T_dup (pc' := 74) d_Mo_saw_73 rfl rfl ?_
          refine T_get (pc' := 77) d_Mo_saw_74 rfl g_Mo_134 ((e_put_n (by decide)).trans ((e_put_n (by decide)).trans ((e_put_n (by decide)).trans r0))) rfl ?_
          refine T_iconst (v := 1) (pc' := 78) d_Mo_saw_77 rfl (by decide) ?_
          refine T_iadd (pc' := 79) d_Mo_saw_78 rfl ?_
          refine T_puti28 (pc' := 82) d_Mo_saw_79 rfl f_Mo_134 (fun z => absurd z Bool.false_ne_true) ((e_put_n (by decide)).trans ((e_put_n (by decide)).trans ((e_put_n (by decide)).trans r0))) ?_
          rw [q8, nI_1]
          refine T_aload_n (pc' := 83) d_Mo_saw_82 rfl rfl rfl ?_
          refine T_get (pc' := 86) d_Mo_saw_83 rfl g_Mo_134 e_put_s rfl ?_
          refine T_iret d_Mo_saw_86 rfl ?_
          refine ⟨_, rfl, ?_⟩
          rw [a_saw, if_pos ⟨hok, hm, hk⟩, if_pos hs]
          have ex : Ex [86, 104, 105, 106] h3 (e_put (e_put (e_put (e_put h3 104 (.inl (0, 6, e_up f12 (σ.1 4) p))) 105 (.inl (0, 6, e_up f13 (σ.1 4) m))) 106 (.inl (0, 6, e_up f14 (σ.1 4) k))) 86 (oMo (fun j => if j = 8 then nI (σ.1 4 + 1) else sc j) σ.2.2)) := (((Ex.rf.put (by decide)).put (by decide)).put (by decide)).put (by decide)
          have key : ∀ (f g : Nat → Int32) (x : Int32), (∀ i, i < σ.1 4 → f i = g i) → ∀ i, i < σ.1 4 + 1 → e_up f (σ.1 4) x i = e_up g (σ.1 4) x i := fun f g x hfg i hi => by
            by_cases hi0 : i = σ.1 4
            · rw [e_upL, if_pos hi0, e_upL, if_pos hi0]
            · rw [e_upL, if_neg hi0, e_upL, if_neg hi0]; exact hfg i (by omega)
          exact ⟨rfl, MI_seen (sc := fun j => if j = 8 then nI (σ.1 4 + 1) else sc j) mi' ex e_put_s q0 rfl q9 ((e_put_n (by decide)).trans ((e_put_n (by decide)).trans ((e_put_n (by decide)).trans e_put_s))) ((e_put_n (by decide)).trans ((e_put_n (by decide)).trans e_put_s)) ((e_put_n (by decide)).trans e_put_s) (key _ _ p q12) (key _ _ m q13) (key _ _ k q14), ex.fr (by decide)⟩
        · refine T_icmp_ne (pc' := 39) (tgt := 42) d_Mo_saw_36 rfl (by decide) (fun hzz => absurd (by rw [show σ.1 4 = 6 by omega]; rfl) hzz) (fun _ => ?_)
          refine T_bipush (v := (-3)) (pc' := 41) d_Mo_saw_39 rfl (by decide) ?_
          refine T_iret d_Mo_saw_41 rfl ?_
          refine ⟨_, rfl, ?_⟩
          rw [a_saw, if_pos ⟨hok, hm, hk⟩, if_neg hs]
          exact ⟨rfl, mi', Fr.rf⟩
      · refine T_if_ne (pc' := 28) (tgt := 30) d_Mo_saw_25 rfl (by decide) (fun hzz => absurd (by decide) hzz) (fun _ => ?_)
        refine T_iconst (v := (-1)) (pc' := 29) d_Mo_saw_28 rfl (by decide) ?_
        refine T_iret d_Mo_saw_29 rfl ?_
        refine ⟨_, rfl, ?_⟩
        rw [a_saw, if_neg (fun q => hk q.2.2)]
        exact ⟨rfl, mi', Fr.rf⟩
    · refine T_if_eq (pc' := 18) (tgt := 28) d_Mo_saw_15 rfl (by decide) (fun _ => ?_) (fun hzz => absurd (by decide) hzz)
      refine T_iconst (v := (-1)) (pc' := 29) d_Mo_saw_28 rfl (by decide) ?_
      refine T_iret d_Mo_saw_29 rfl ?_
      refine ⟨_, rfl, ?_⟩
      rw [a_saw, if_neg (fun q => hm q.2.1)]
      exact ⟨rfl, mi', Fr.rf⟩
  · refine T_if_eq (pc' := 8) (tgt := 28) d_Mo_saw_5 rfl (by decide) (fun _ => ?_) (fun hzz => absurd (by decide) hzz)
    refine T_iconst (v := (-1)) (pc' := 29) d_Mo_saw_28 rfl (by decide) ?_
    refine T_iret d_Mo_saw_29 rfl ?_
    refine ⟨_, rfl, ?_⟩
    rw [a_saw, if_neg (fun q => hp ((isP_iff (by omega) p).mpr q.1))]
    exact ⟨rfl, mi', Fr.rf⟩
theorem p_Mo_hears (m k : Int32) (mi : MI h σ) (si : SI σ) : Ci X (d + 20) M_Mo_hears [.ref 86, .int m, .int k] h (fun v h1 => v = (a_hears σ m k).1 ∧ MI h1 (a_hears σ m k).2 ∧ Fr 86 109 h h1) := by
  have mi' := mi
  have hs6 := si.1.2.2.2.2.2.1
  obtain ⟨⟨sc, r0, q0, q8, q9⟩, -, r2, -, -, -, -, -, -, -, -, -, -, -, -, ⟨f15, r15, q15⟩, ⟨f16, r16, q16⟩⟩ := mi
  refine C_of_T rfl rfl (Nat.le_of_ble_eq_true rfl) rfl ?_
  refine T_iload_n (pc' := 1) d_Mo_hears_0 rfl rfl rfl ?_
  refine T_iconst (v := 0) (pc' := 2) d_Mo_hears_1 rfl (by decide) ?_
  refine T_bipush (v := 9) (pc' := 4) d_Mo_hears_2 rfl (by decide) ?_
  refine T_S3i (pc' := 7) d_Mo_hears_4 rfl l_Mo_78 v_Mo_in (Nat.le_of_ble_eq_true rfl) (c_Mo_in X _ h m 0 9) (fun v h1 hq => ?_)
  obtain ⟨rfl, ⟨hm, rfl⟩ | ⟨hm, rfl⟩⟩ := hq
  · refine T_if_eq (pc' := 10) (tgt := 20) d_Mo_hears_7 rfl (by decide) (fun hzz => absurd hzz (by decide)) (fun _ => ?_)
    refine T_iload_n (pc' := 11) d_Mo_hears_10 rfl rfl rfl ?_
    refine T_iconst (v := 0) (pc' := 12) d_Mo_hears_11 rfl (by decide) ?_
    refine T_bipush (v := 30) (pc' := 14) d_Mo_hears_12 rfl (by decide) ?_
    refine T_S3i (pc' := 17) d_Mo_hears_14 rfl l_Mo_78 v_Mo_in (Nat.le_of_ble_eq_true rfl) (c_Mo_in X _ h1 k 0 30) (fun v h3 hq => ?_)
    obtain ⟨rfl, ⟨hk, rfl⟩ | ⟨hk, rfl⟩⟩ := hq
    · refine T_if_ne (pc' := 20) (tgt := 22) d_Mo_hears_17 rfl (by decide) (fun _ => ?_) (fun hzz => absurd hzz (by decide))
      refine T_aload_n (pc' := 23) d_Mo_hears_22 rfl rfl rfl ?_
      refine T_get (pc' := 26) d_Mo_hears_23 rfl g_Mo_137 (by first | assumption | exact e_put_s | simp [e_put, *]) rfl ?_
      refine T_bipush (v := 6) (pc' := 28) d_Mo_hears_26 rfl (by decide) ?_
      rw [q9]
      by_cases hs : σ.1 5 < 6
      · refine T_icmp_ne (pc' := 31) (tgt := 34) d_Mo_hears_28 rfl (by decide) (fun _ => ?_) (fun hzz => absurd hzz (fun q => by have := (nI_eq (b := 6) (by omega) (by decide)).mp q; omega))
        refine T_aload_n (pc' := 35) d_Mo_hears_34 rfl rfl rfl ?_
        refine T_get (pc' := 38) d_Mo_hears_35 rfl g_Mo_72 (by first | assumption | exact e_put_s | simp [e_put, *]) rfl ?_
        refine T_aload_n (pc' := 39) d_Mo_hears_38 rfl rfl rfl ?_
        refine T_get (pc' := 42) d_Mo_hears_39 rfl g_Mo_137 (by first | assumption | exact e_put_s | simp [e_put, *]) rfl ?_
        refine T_iload_n (pc' := 43) d_Mo_hears_42 rfl rfl rfl ?_
        rw [q9]
        refine T_iastoreN (σ.1 5) (pc' := 44) d_Mo_hears_43 rfl r15 ⟨hs, by decide⟩ ?_
        refine T_aload_n (pc' := 45) d_Mo_hears_44 rfl rfl rfl ?_
        refine T_get (pc' := 48) d_Mo_hears_45 rfl g_Mo_75 ((e_put_n (by decide)).trans r0) rfl ?_
        refine T_aload_n (pc' := 49) d_Mo_hears_48 rfl rfl rfl ?_
        refine T_get (pc' := 52) d_Mo_hears_49 rfl g_Mo_137 ((e_put_n (by decide)).trans r0) rfl ?_
        refine T_iload_n (pc' := 53) d_Mo_hears_52 rfl rfl rfl ?_
        rw [q9]
        refine T_iastoreN (σ.1 5) (pc' := 54) d_Mo_hears_53 rfl ((e_put_n (by decide)).trans r16) ⟨hs, by decide⟩ ?_
        refine T_aload_n (pc' := 55) d_Mo_hears_54 rfl rfl rfl ?_
        refine T_dup (pc' := 56) d_Mo_hears_55 rfl rfl ?_
        refine T_get (pc' := 59) d_Mo_hears_56 rfl g_Mo_137 ((e_put_n (by decide)).trans ((e_put_n (by decide)).trans r0)) rfl ?_
        refine T_iconst (v := 1) (pc' := 60) d_Mo_hears_59 rfl (by decide) ?_
        refine T_iadd (pc' := 61) d_Mo_hears_60 rfl ?_
        refine T_puti31 (pc' := 64) d_Mo_hears_61 rfl f_Mo_137 (fun z => absurd z Bool.false_ne_true) ((e_put_n (by decide)).trans ((e_put_n (by decide)).trans r0)) ?_
        rw [q9, nI_1]
        refine T_aload_n (pc' := 65) d_Mo_hears_64 rfl rfl rfl ?_
        refine T_get (pc' := 68) d_Mo_hears_65 rfl g_Mo_137 e_put_s rfl ?_
        refine T_iret d_Mo_hears_68 rfl ?_
        refine ⟨_, rfl, ?_⟩
        rw [a_hears, if_pos ⟨hm, hk⟩, if_pos hs]
        have ex : Ex [86, 107, 108] h3 (e_put (e_put (e_put h3 107 (.inl (0, 6, e_up f15 (σ.1 5) m))) 108 (.inl (0, 6, e_up f16 (σ.1 5) k))) 86 (oMo (fun j => if j = 9 then nI (σ.1 5 + 1) else sc j) σ.2.2)) := ((Ex.rf.put (by decide)).put (by decide)).put (by decide)
        have key : ∀ (f g : Nat → Int32) (x : Int32), (∀ i, i < σ.1 5 → f i = g i) → ∀ i, i < σ.1 5 + 1 → e_up f (σ.1 5) x i = e_up g (σ.1 5) x i := fun f g x hfg i hi => by
          by_cases hi0 : i = σ.1 5
          · rw [e_upL, if_pos hi0, e_upL, if_pos hi0]
          · rw [e_upL, if_neg hi0, e_upL, if_neg hi0]; exact hfg i (by omega)
        exact ⟨rfl, MI_heard (sc := fun j => if j = 9 then nI (σ.1 5 + 1) else sc j) mi' ex e_put_s q0 q8 rfl ((e_put_n (by decide)).trans ((e_put_n (by decide)).trans e_put_s)) ((e_put_n (by decide)).trans e_put_s) (key _ _ m q15) (key _ _ k q16), ex.fr (by decide)⟩
      · refine T_icmp_ne (pc' := 31) (tgt := 34) d_Mo_hears_28 rfl (by decide) (fun hzz => absurd (by rw [show σ.1 5 = 6 by omega]; rfl) hzz) (fun _ => ?_)
        refine T_bipush (v := (-3)) (pc' := 33) d_Mo_hears_31 rfl (by decide) ?_
        refine T_iret d_Mo_hears_33 rfl ?_
        refine ⟨_, rfl, ?_⟩
        rw [a_hears, if_pos ⟨hm, hk⟩, if_neg hs]
        exact ⟨rfl, mi', Fr.rf⟩
    · refine T_if_ne (pc' := 20) (tgt := 22) d_Mo_hears_17 rfl (by decide) (fun hzz => absurd (by decide) hzz) (fun _ => ?_)
      refine T_iconst (v := (-1)) (pc' := 21) d_Mo_hears_20 rfl (by decide) ?_
      refine T_iret d_Mo_hears_21 rfl ?_
      refine ⟨_, rfl, ?_⟩
      rw [a_hears, if_neg (fun q => hk q.2)]
      exact ⟨rfl, mi', Fr.rf⟩
  · refine T_if_eq (pc' := 10) (tgt := 20) d_Mo_hears_7 rfl (by decide) (fun _ => ?_) (fun hzz => absurd (by decide) hzz)
    refine T_iconst (v := (-1)) (pc' := 21) d_Mo_hears_20 rfl (by decide) ?_
    refine T_iret d_Mo_hears_21 rfl ?_
    refine ⟨_, rfl, ?_⟩
    rw [a_hears, if_neg (fun q => hm q.1)]
    exact ⟨rfl, mi', Fr.rf⟩
theorem p_Mo_forget (mi : MI h σ) (si : SI σ) : Ci X (d + 20) M_Mo_forget [.ref 86] h (fun v h1 => v = (a_forget σ).1 ∧ MI h1 (a_forget σ).2 ∧ Fr 86 109 h h1) := by
  have mi' := mi
  obtain ⟨⟨sc, r0, q0, q8, q9⟩, -, r2, -, -, -, -, -, -, -, -, -, ⟨f12, r12, q12⟩, ⟨f13, r13, q13⟩, ⟨f14, r14, q14⟩, ⟨f15, r15, q15⟩, ⟨f16, r16, q16⟩⟩ := mi
  refine C_of_T rfl rfl (Nat.le_of_ble_eq_true rfl) rfl ?_
  refine T_aload_n (pc' := 1) d_Mo_forget_0 rfl rfl rfl ?_
  refine T_get (pc' := 4) d_Mo_forget_1 rfl g_Mo_134 (by first | assumption | exact e_put_s | simp [e_put, *]) rfl ?_
  refine T_aload_n (pc' := 5) d_Mo_forget_4 rfl rfl rfl ?_
  refine T_get (pc' := 8) d_Mo_forget_5 rfl g_Mo_137 (by first | assumption | exact e_put_s | simp [e_put, *]) rfl ?_
  refine T_iadd (pc' := 9) d_Mo_forget_8 rfl ?_
  rw [q8, q9]
  refine T_is_n1 (pc' := 10) d_Mo_forget_9 rfl rfl (Nat.le_of_ble_eq_true rfl) rfl ?_
  refine T_aload_n (pc' := 11) d_Mo_forget_10 rfl rfl rfl ?_
  refine T_iconst (v := 0) (pc' := 12) d_Mo_forget_11 rfl (by decide) ?_
  refine T_puti28 (pc' := 15) d_Mo_forget_12 rfl f_Mo_134 (fun z => absurd z Bool.false_ne_true) (by first | assumption | exact e_put_s | simp [e_put, *]) ?_
  have ex1 : Ex [86, 104, 105, 106] h (e_put h 86 (oMo (fun j => if j = 8 then 0 else sc j) σ.2.2)) := Ex.rf.put (by decide)
  have mi1 := MI_seen (sn := 0) (f1 := σ.2.1 7) (f2 := σ.2.1 8) (f3 := σ.2.1 9) (sc := fun j => if j = 8 then 0 else sc j) mi' ex1 e_put_s q0 rfl q9 ((e_put_n (by decide)).trans r12) ((e_put_n (by decide)).trans r13) ((e_put_n (by decide)).trans r14) (fun i hi => absurd hi (by omega)) (fun i hi => absurd hi (by omega)) (fun i hi => absurd hi (by omega))
  refine T_aload_n (pc' := 16) d_Mo_forget_15 rfl rfl rfl ?_
  refine T_iconst (v := 0) (pc' := 17) d_Mo_forget_16 rfl (by decide) ?_
  refine T_puti31 (pc' := 20) d_Mo_forget_17 rfl f_Mo_137 (fun z => absurd z Bool.false_ne_true) e_put_s ?_
  refine T_iload_n (pc' := 21) d_Mo_forget_20 rfl rfl rfl ?_
  refine T_iret d_Mo_forget_21 rfl ?_
  have ex2 : Ex [86, 107, 108] (e_put h 86 (oMo (fun j => if j = 8 then 0 else sc j) σ.2.2)) (e_put (e_put h 86 (oMo (fun j => if j = 8 then 0 else sc j) σ.2.2)) 86 (oMo (fun j => if j = 9 then 0 else if j = 8 then 0 else sc j) σ.2.2)) := Ex.rf.put (by decide)
  refine ⟨_, rfl, rfl, MI_heard (σ := sSeen0 σ) (sn := 0) (f2 := σ.2.1 10) (f3 := σ.2.1 11) (sc := fun j => if j = 9 then 0 else if j = 8 then 0 else sc j) mi1 ex2 e_put_s q0 rfl rfl ((e_put_n (by decide)).trans ((e_put_n (by decide)).trans r15)) ((e_put_n (by decide)).trans ((e_put_n (by decide)).trans r16)) (fun i hi => absurd hi (by omega)) (fun i hi => absurd hi (by omega)), ?_⟩
  exact ((ex1.mono (S' := [86, 104, 105, 106, 107, 108]) (by decide)).tr (ex2.mono (by decide))).fr (by decide)
theorem c_Mo_bodiesOf (w : Int32) : Ci X d M_Mo_bodiesOf [.int w] h (fun v h1 => h1 = h ∧ v = sBod w) := by
  refine C_of_T rfl rfl (Nat.le_of_ble_eq_true rfl) rfl ?_
  refine T_iload_n (pc' := 1) d_Mo_bodiesOf_0 rfl rfl rfl ?_
  refine sw_Mo_bodiesOf_1 (fun hx => ?_) (fun hx => ?_) (fun hx => ?_) (fun hx => ?_) (fun hx => ?_) (fun x0 x1 x2 x3 x4 => ?_)
  · subst hx
    refine T_iconst (v := 1) (pc' := 37) d_Mo_bodiesOf_36 rfl (by decide) ?_
    refine T_iret d_Mo_bodiesOf_37 rfl ?_
    exact ⟨_, rfl, rfl, rfl⟩
  · subst hx
    refine T_iconst (v := 3) (pc' := 39) d_Mo_bodiesOf_38 rfl (by decide) ?_
    refine T_iret d_Mo_bodiesOf_39 rfl ?_
    exact ⟨_, rfl, rfl, rfl⟩
  · subst hx
    refine T_iconst (v := 5) (pc' := 41) d_Mo_bodiesOf_40 rfl (by decide) ?_
    refine T_iret d_Mo_bodiesOf_41 rfl ?_
    exact ⟨_, rfl, rfl, rfl⟩
  · subst hx
    refine T_bipush (v := 11) (pc' := 44) d_Mo_bodiesOf_42 rfl (by decide) ?_
    refine T_iret d_Mo_bodiesOf_44 rfl ?_
    exact ⟨_, rfl, rfl, rfl⟩
  · subst hx
    refine T_bipush (v := 21) (pc' := 47) d_Mo_bodiesOf_45 rfl (by decide) ?_
    refine T_iret d_Mo_bodiesOf_47 rfl ?_
    exact ⟨_, rfl, rfl, rfl⟩
  · refine T_bipush (v := 33) (pc' := 50) d_Mo_bodiesOf_48 rfl (by decide) ?_
    refine T_iret d_Mo_bodiesOf_50 rfl ?_
    exact ⟨_, rfl, rfl, by rw [sBod, if_neg x0, if_neg x1, if_neg x2, if_neg x3, if_neg x4]⟩
theorem l_Mo_mark (w b : Int32) (p : Nat) (sc : Nat → Int32) (t : Int64) (Q : Option Value → AH → Prop) (hk : T X (d + 1) M_Mo_mark 76 [.ref 86, .int w, .int (nI p), .int b, .null, .null, .null] [] (e_put h 86 (oMo sc (sTr b t 6))) Q) : ∀ (k i : Nat), i + k = 6 → T X (d + 1) M_Mo_mark 31 [.ref 86, .int w, .int (nI p), .int b, .long (sUnit i), .null, .int (nI i)] [] (e_put h 86 (oMo sc (sTr b t i))) Q
  | 0, i, hi => by
    have : i = 6 := by omega
    subst this
    refine T_iload (pc' := 33) d_Mo_mark_31 rfl rfl ?_
    refine T_bipush (v := 6) (pc' := 35) d_Mo_mark_33 rfl (by decide) ?_
    refine T_icmp_ge (pc' := 38) (tgt := 76) d_Mo_mark_35 rfl (by decide) (fun _ => ?_) (fun hzz => absurd (by decide) hzz)
    exact T_fg (by simp [e_le]) hk
  | k + 1, i, hi => by
    have ih := l_Mo_mark w b p sc t Q hk k (i + 1) (by omega)
    refine T_iload (pc' := 33) d_Mo_mark_31 rfl rfl ?_
    refine T_bipush (v := 6) (pc' := 35) d_Mo_mark_33 rfl (by decide) ?_
    refine T_icmp_ge (pc' := 38) (tgt := 76) d_Mo_mark_35 rfl (by decide) (fun hzz => absurd hzz (nI_ge (a := i) (b := 6) (by omega) (by decide))) (fun _ => ?_)
    refine T_aload_n (pc' := 39) d_Mo_mark_38 rfl rfl rfl ?_
    refine T_dup (pc' := 40) d_Mo_mark_39 rfl rfl ?_
    refine T_get (pc' := 43) d_Mo_mark_40 rfl g_Mo_204 e_put_s rfl ?_
    refine T_iload_n (pc' := 44) d_Mo_mark_43 rfl rfl rfl ?_
    refine T_iload (pc' := 46) d_Mo_mark_44 rfl rfl ?_
    refine T_S2i (pc' := 49) d_Mo_mark_46 rfl l_Mo_140 v_Mo_has (Nat.le_of_ble_eq_true rfl) (c_Mo_has X _ _ b (nI i)) (fun v h1 hq => ?_)
    obtain ⟨rfl, ⟨hb, rfl⟩ | ⟨hb, rfl⟩⟩ := hq
    · refine T_if_eq (pc' := 52) (tgt := 57) d_Mo_mark_49 rfl (by decide) (fun hzz => absurd hzz (by decide)) (fun _ => ?_)
      refine T_lload (pc' := 54) d_Mo_mark_52 rfl rfl ?_
      refine T_goto (pc' := 58) d_Mo_mark_54 (by decide) ?_
      refine T_ladd (pc' := 59) d_Mo_mark_58 rfl ?_
      refine T_putl32 (pc' := 62) d_Mo_mark_59 rfl f_Mo_204 (fun z => absurd z Bool.false_ne_true) e_put_s ?_
      rw [e_pp]
      refine T_lload (pc' := 64) d_Mo_mark_62 rfl rfl ?_
      refine T_ldc2 (pc' := 67) d_Mo_mark_64 rfl ck_Mo_208 ?_
      refine T_lmul (pc' := 68) d_Mo_mark_67 rfl ?_
      refine T_lstore (pc' := 70) d_Mo_mark_68 rfl (Nat.le_of_ble_eq_true rfl) rfl rfl ?_
      refine T_ii6 (c := 1) (pc' := 73) d_Mo_mark_70 rfl (by decide) (Nat.le_of_ble_eq_true rfl) rfl ?_
      rw [nI_1]
      refine T_goto (pc' := 31) d_Mo_mark_73 (by decide) ?_
      rw [sTr, if_pos hb] at ih
      exact ih
    · refine T_if_eq (pc' := 52) (tgt := 57) d_Mo_mark_49 rfl (by decide) (fun _ => ?_) (fun hzz => absurd (by decide) hzz)
      refine T_lconst (v := 0) (pc' := 58) d_Mo_mark_57 rfl (by decide) ?_
      refine T_ladd (pc' := 59) d_Mo_mark_58 rfl ?_
      refine T_putl32 (pc' := 62) d_Mo_mark_59 rfl f_Mo_204 (fun z => absurd z Bool.false_ne_true) e_put_s ?_
      rw [e_pp]
      refine T_lload (pc' := 64) d_Mo_mark_62 rfl rfl ?_
      refine T_ldc2 (pc' := 67) d_Mo_mark_64 rfl ck_Mo_208 ?_
      refine T_lmul (pc' := 68) d_Mo_mark_67 rfl ?_
      refine T_lstore (pc' := 70) d_Mo_mark_68 rfl (Nat.le_of_ble_eq_true rfl) rfl rfl ?_
      refine T_ii6 (c := 1) (pc' := 73) d_Mo_mark_70 rfl (by decide) (Nat.le_of_ble_eq_true rfl) rfl ?_
      rw [nI_1]
      refine T_goto (pc' := 31) d_Mo_mark_73 (by decide) ?_
      rw [sTr, if_neg hb] at ih
      exact ih
theorem t_Mo_mark (w b : Int32) (p : Nat) (hp : p < σ.1 1) (mi : MI h σ) (si : SI σ) (Q : Option Value → AH → Prop) (hQ : Q (some (.int (sMv b (σ.2.1 2 p) (sBO (σ.2.1 6 (7 + p))) (sHold (σ.2.1 3) (σ.2.1 4) (σ.2.1 5) (σ.2.1 6 3) (σ.2.1 6 4) (σ.2.1 6 5)) (nI p) (σ.2.1 6 2)))) h) : T X (d + 9) M_Mo_mark 76 [.ref 86, .int w, .int (nI p), .int b, .null, .null, .null] [] h Q := by
  have mi' := mi
  have hn := si.1.2.1
  have hm := si.1.2.2.1
  obtain ⟨⟨sc, r0, -⟩, -, r2, -, -, r5, -⟩ := mi
  have mt := r2
  obtain ⟨-, -, -, ⟨f3, h3, e3⟩, -⟩ := r2
  have c5 : ∀ v, Q (some (.int (v + (if sHas b 5 then σ.2.1 6 2 else 0)))) h → T X (d + 9) M_Mo_mark 175 [.ref 86, .int w, .int (nI p), .int b, .null, .null, .int v] [] h Q := fun v hv => by
    refine T_iload (pc' := 177) d_Mo_mark_175 rfl rfl ?_
    refine T_iload_n (pc' := 178) d_Mo_mark_177 rfl rfl rfl ?_
    refine T_iconst (v := 5) (pc' := 179) d_Mo_mark_178 rfl (by decide) ?_
    refine T_S2i (pc' := 182) d_Mo_mark_179 rfl l_Mo_140 v_Mo_has (Nat.le_of_ble_eq_true rfl) (c_Mo_has X _ _ b 5) (fun v h1 hq => ?_)
    obtain ⟨rfl, ⟨hb, rfl⟩ | ⟨hb, rfl⟩⟩ := hq
    · refine T_if_eq (pc' := 185) (tgt := 194) d_Mo_mark_182 rfl (by decide) (fun hzz => absurd hzz (by decide)) (fun _ => ?_)
      rw [if_pos hb] at hv
      refine T_aload_n (pc' := 186) d_Mo_mark_185 rfl rfl rfl ?_
      refine T_get (pc' := 189) d_Mo_mark_186 rfl g_Mo_41 (by first | assumption | exact e_put_s | simp [e_put, *]) rfl ?_
      refine T_iconst (v := 2) (pc' := 190) d_Mo_mark_189 rfl (by decide) ?_
      refine T_ialoadL 2 (pc' := 191) d_Mo_mark_190 rfl (by first | assumption | exact e_put_s | simp [e_put, *]) (by decide) ?_
      refine T_goto (pc' := 195) d_Mo_mark_191 (by decide) ?_
      refine T_iadd (pc' := 196) d_Mo_mark_195 rfl ?_
      refine T_is6 (pc' := 198) d_Mo_mark_196 rfl (Nat.le_of_ble_eq_true rfl) rfl ?_
      refine T_iload (pc' := 200) d_Mo_mark_198 rfl rfl ?_
      refine T_iret d_Mo_mark_200 rfl ?_
      exact hv
    · refine T_if_eq (pc' := 185) (tgt := 194) d_Mo_mark_182 rfl (by decide) (fun _ => ?_) (fun hzz => absurd (by decide) hzz)
      rw [if_neg hb] at hv
      refine T_iconst (v := 0) (pc' := 195) d_Mo_mark_194 rfl (by decide) ?_
      refine T_iadd (pc' := 196) d_Mo_mark_195 rfl ?_
      refine T_is6 (pc' := 198) d_Mo_mark_196 rfl (Nat.le_of_ble_eq_true rfl) rfl ?_
      refine T_iload (pc' := 200) d_Mo_mark_198 rfl rfl ?_
      refine T_iret d_Mo_mark_200 rfl ?_
      exact hv
  have c4 : ∀ v, Q (some (.int (v + (if sHas b 4 then nI p else 0) + (if sHas b 5 then σ.2.1 6 2 else 0)))) h → T X (d + 9) M_Mo_mark 157 [.ref 86, .int w, .int (nI p), .int b, .null, .null, .int v] [] h Q := fun v hv => by
    refine T_iload (pc' := 159) d_Mo_mark_157 rfl rfl ?_
    refine T_iload_n (pc' := 160) d_Mo_mark_159 rfl rfl rfl ?_
    refine T_iconst (v := 4) (pc' := 161) d_Mo_mark_160 rfl (by decide) ?_
    refine T_S2i (pc' := 164) d_Mo_mark_161 rfl l_Mo_140 v_Mo_has (Nat.le_of_ble_eq_true rfl) (c_Mo_has X _ _ b 4) (fun v h1 hq => ?_)
    obtain ⟨rfl, ⟨hb, rfl⟩ | ⟨hb, rfl⟩⟩ := hq
    · refine T_if_eq (pc' := 167) (tgt := 171) d_Mo_mark_164 rfl (by decide) (fun hzz => absurd hzz (by decide)) (fun _ => ?_)
      rw [if_pos hb] at hv
      refine T_iload_n (pc' := 168) d_Mo_mark_167 rfl rfl rfl ?_
      refine T_goto (pc' := 172) d_Mo_mark_168 (by decide) ?_
      refine T_iadd (pc' := 173) d_Mo_mark_172 rfl ?_
      refine T_is6 (pc' := 175) d_Mo_mark_173 rfl (Nat.le_of_ble_eq_true rfl) rfl ?_
      exact c5 _ hv
    · refine T_if_eq (pc' := 167) (tgt := 171) d_Mo_mark_164 rfl (by decide) (fun _ => ?_) (fun hzz => absurd (by decide) hzz)
      rw [if_neg hb] at hv
      refine T_iconst (v := 0) (pc' := 172) d_Mo_mark_171 rfl (by decide) ?_
      refine T_iadd (pc' := 173) d_Mo_mark_172 rfl ?_
      refine T_is6 (pc' := 175) d_Mo_mark_173 rfl (Nat.le_of_ble_eq_true rfl) rfl ?_
      exact c5 _ hv
  have c3 : ∀ v, Q (some (.int ((if sHas b 3 then 2 * v else v) + (if sHas b 4 then nI p else 0) + (if sHas b 5 then σ.2.1 6 2 else 0)))) h → T X (d + 9) M_Mo_mark 138 [.ref 86, .int w, .int (nI p), .int b, .null, .null, .int v] [] h Q := fun v hv => by
    refine T_iload_n (pc' := 139) d_Mo_mark_138 rfl rfl rfl ?_
    refine T_iconst (v := 3) (pc' := 140) d_Mo_mark_139 rfl (by decide) ?_
    refine T_S2i (pc' := 143) d_Mo_mark_140 rfl l_Mo_140 v_Mo_has (Nat.le_of_ble_eq_true rfl) (c_Mo_has X _ _ b 3) (fun v h1 hq => ?_)
    obtain ⟨rfl, ⟨hb, rfl⟩ | ⟨hb, rfl⟩⟩ := hq
    · refine T_if_eq (pc' := 146) (tgt := 153) d_Mo_mark_143 rfl (by decide) (fun hzz => absurd hzz (by decide)) (fun _ => ?_)
      rw [if_pos hb] at hv
      refine T_iconst (v := 2) (pc' := 147) d_Mo_mark_146 rfl (by decide) ?_
      refine T_iload (pc' := 149) d_Mo_mark_147 rfl rfl ?_
      refine T_imul (pc' := 150) d_Mo_mark_149 rfl ?_
      refine T_goto (pc' := 155) d_Mo_mark_150 (by decide) ?_
      refine T_is6 (pc' := 157) d_Mo_mark_155 rfl (Nat.le_of_ble_eq_true rfl) rfl ?_
      exact c4 _ hv
    · refine T_if_eq (pc' := 146) (tgt := 153) d_Mo_mark_143 rfl (by decide) (fun _ => ?_) (fun hzz => absurd (by decide) hzz)
      rw [if_neg hb] at hv
      refine T_iload (pc' := 155) d_Mo_mark_153 rfl rfl ?_
      refine T_is6 (pc' := 157) d_Mo_mark_155 rfl (Nat.le_of_ble_eq_true rfl) rfl ?_
      exact c4 _ hv
  have c2 : ∀ v, Q (some (.int ((if sHas b 3 then 2 * (v - (if sHas b 2 then sHold (σ.2.1 3) (σ.2.1 4) (σ.2.1 5) (σ.2.1 6 3) (σ.2.1 6 4) (σ.2.1 6 5) else 0)) else (v - (if sHas b 2 then sHold (σ.2.1 3) (σ.2.1 4) (σ.2.1 5) (σ.2.1 6 3) (σ.2.1 6 4) (σ.2.1 6 5) else 0))) + (if sHas b 4 then nI p else 0) + (if sHas b 5 then σ.2.1 6 2 else 0)))) h → T X (d + 9) M_Mo_mark 113 [.ref 86, .int w, .int (nI p), .int b, .null, .null, .int v] [] h Q := fun v hv => by
    refine T_iload (pc' := 115) d_Mo_mark_113 rfl rfl ?_
    refine T_iload_n (pc' := 116) d_Mo_mark_115 rfl rfl rfl ?_
    refine T_iconst (v := 2) (pc' := 117) d_Mo_mark_116 rfl (by decide) ?_
    refine T_S2i (pc' := 120) d_Mo_mark_117 rfl l_Mo_140 v_Mo_has (Nat.le_of_ble_eq_true rfl) (c_Mo_has X _ _ b 2) (fun v h1 hq => ?_)
    obtain ⟨rfl, ⟨hb, rfl⟩ | ⟨hb, rfl⟩⟩ := hq
    · refine T_if_eq (pc' := 123) (tgt := 134) d_Mo_mark_120 rfl (by decide) (fun hzz => absurd hzz (by decide)) (fun _ => ?_)
      rw [if_pos hb] at hv
      refine T_aload_n (pc' := 124) d_Mo_mark_123 rfl rfl rfl ?_
      refine T_aload_n (pc' := 125) d_Mo_mark_124 rfl rfl rfl ?_
      refine T_get (pc' := 128) d_Mo_mark_125 rfl g_Mo_41 (by first | assumption | exact e_put_s | simp [e_put, *]) rfl ?_
      refine T_V1i (pc' := 131) d_Mo_mark_128 rfl l_Mo_144 v_Mo_hold (by first | assumption | exact e_put_s | simp [e_put, *]) (Nat.le_of_ble_eq_true rfl) (c_Mo_hold X _ h1 _ _ _ _ _ _ _ 97 _ hn hm mt r5 si.2.2.1.2.2.1) (fun v h4 hq => ?_)
      obtain ⟨rfl, rfl⟩ := hq
      refine T_goto (pc' := 135) d_Mo_mark_131 (by decide) ?_
      refine T_isub (pc' := 136) d_Mo_mark_135 rfl ?_
      refine T_is6 (pc' := 138) d_Mo_mark_136 rfl (Nat.le_of_ble_eq_true rfl) rfl ?_
      exact c3 _ hv
    · refine T_if_eq (pc' := 123) (tgt := 134) d_Mo_mark_120 rfl (by decide) (fun _ => ?_) (fun hzz => absurd (by decide) hzz)
      rw [if_neg hb] at hv
      refine T_iconst (v := 0) (pc' := 135) d_Mo_mark_134 rfl (by decide) ?_
      refine T_isub (pc' := 136) d_Mo_mark_135 rfl ?_
      refine T_is6 (pc' := 138) d_Mo_mark_136 rfl (Nat.le_of_ble_eq_true rfl) rfl ?_
      exact c3 _ hv
  refine T_aload_n (pc' := 77) d_Mo_mark_76 rfl rfl rfl ?_
  refine T_get (pc' := 80) d_Mo_mark_77 rfl g_Mo_20 (by first | assumption | exact e_put_s | simp [e_put, *]) rfl ?_
  refine T_iload_n (pc' := 81) d_Mo_mark_80 rfl rfl rfl ?_
  refine T_ialoadN p (pc' := 82) d_Mo_mark_81 rfl h3 ⟨by omega, by decide⟩ ?_
  rw [e3 p hp]
  refine T_is6 (pc' := 84) d_Mo_mark_82 rfl (Nat.le_of_ble_eq_true rfl) rfl ?_
  refine T_iload (pc' := 86) d_Mo_mark_84 rfl rfl ?_
  refine T_iload_n (pc' := 87) d_Mo_mark_86 rfl rfl rfl ?_
  refine T_iconst (v := 1) (pc' := 88) d_Mo_mark_87 rfl (by decide) ?_
  refine T_S2i (pc' := 91) d_Mo_mark_88 rfl l_Mo_140 v_Mo_has (Nat.le_of_ble_eq_true rfl) (c_Mo_has X _ _ b 1) (fun v h1 hq => ?_)
  obtain ⟨rfl, ⟨hb, rfl⟩ | ⟨hb, rfl⟩⟩ := hq
  · refine T_if_eq (pc' := 94) (tgt := 109) d_Mo_mark_91 rfl (by decide) (fun hzz => absurd hzz (by decide)) (fun _ => ?_)
    rw [sMv, if_pos (c := sHas b 1) hb] at hQ
    refine T_aload_n (pc' := 95) d_Mo_mark_94 rfl rfl rfl ?_
    refine T_get (pc' := 98) d_Mo_mark_95 rfl g_Mo_41 (by first | assumption | exact e_put_s | simp [e_put, *]) rfl ?_
    refine T_bipush (v := 7) (pc' := 100) d_Mo_mark_98 rfl (by decide) ?_
    refine T_iload_n (pc' := 101) d_Mo_mark_100 rfl rfl rfl ?_
    refine T_iadd (pc' := 102) d_Mo_mark_101 rfl ?_
    rw [s_7p p (by omega)]
    refine T_ialoadN (7 + p) (pc' := 103) d_Mo_mark_102 rfl r5 ⟨by omega, by decide⟩ ?_
    refine T_S1i (pc' := 106) d_Mo_mark_103 rfl l_Mo_181 v_Mo_bitsOf (Nat.le_of_ble_eq_true rfl) (c_Mo_bitsOf X _ _ _) (fun v h4 hq => ?_)
    obtain ⟨rfl, rfl⟩ := hq
    refine T_goto (pc' := 110) d_Mo_mark_106 (by decide) ?_
    refine T_iadd (pc' := 111) d_Mo_mark_110 rfl ?_
    refine T_is6 (pc' := 113) d_Mo_mark_111 rfl (Nat.le_of_ble_eq_true rfl) rfl ?_
    exact c2 _ hQ
  · refine T_if_eq (pc' := 94) (tgt := 109) d_Mo_mark_91 rfl (by decide) (fun _ => ?_) (fun hzz => absurd (by decide) hzz)
    rw [sMv, if_neg (c := sHas b 1) hb] at hQ
    refine T_iconst (v := 0) (pc' := 110) d_Mo_mark_109 rfl (by decide) ?_
    refine T_iadd (pc' := 111) d_Mo_mark_110 rfl ?_
    refine T_is6 (pc' := 113) d_Mo_mark_111 rfl (Nat.le_of_ble_eq_true rfl) rfl ?_
    exact c2 _ hQ
theorem p_Mo_mark (w p : Int32) (mi : MI h σ) (si : SI σ) : Ci X (d + 20) M_Mo_mark [.ref 86, .int w, .int p] h (fun v h1 => v = (a_mark σ w p).1 ∧ MI h1 (a_mark σ w p).2 ∧ Fr 86 109 h h1) := by
  have mi' := mi
  have hn := si.1.2.1
  obtain ⟨⟨sc, r0, q0, q8, q9⟩, -, r2, -⟩ := mi
  refine C_of_T rfl rfl (Nat.le_of_ble_eq_true rfl) rfl ?_
  refine T_iload_n (pc' := 1) d_Mo_mark_0 rfl rfl rfl ?_
  refine T_iconst (v := 0) (pc' := 2) d_Mo_mark_1 rfl (by decide) ?_
  refine T_iconst (v := 5) (pc' := 3) d_Mo_mark_2 rfl (by decide) ?_
  refine T_S3i (pc' := 6) d_Mo_mark_3 rfl l_Mo_78 v_Mo_in (Nat.le_of_ble_eq_true rfl) (c_Mo_in X _ h w 0 5) (fun v h1 hq => ?_)
  obtain ⟨rfl, ⟨hw, rfl⟩ | ⟨hw, rfl⟩⟩ := hq
  · refine T_if_eq (pc' := 9) (tgt := 17) d_Mo_mark_6 rfl (by decide) (fun hzz => absurd hzz (by decide)) (fun _ => ?_)
    refine T_aload_n (pc' := 10) d_Mo_mark_9 rfl rfl rfl ?_
    refine T_iload_n (pc' := 11) d_Mo_mark_10 rfl rfl rfl ?_
    refine T_V1i (pc' := 14) d_Mo_mark_11 rfl l_Mo_152 v_Mo_isOne (by first | assumption | exact e_put_s | simp [e_put, *]) (Nat.le_of_ble_eq_true rfl) (c_Mo_isOne X _ h1 _ _ _ _ _ _ _ p hn r2) (fun v h2 hq => ?_)
    obtain ⟨rfl, ⟨hp, rfl⟩ | ⟨hp, rfl⟩⟩ := hq
    · refine T_if_ne (pc' := 17) (tgt := 20) d_Mo_mark_14 rfl (by decide) (fun _ => ?_) (fun hzz => absurd hzz (by decide))
      have hok : okP (σ.1 1) p := (isP_iff (by omega) p).mp hp
      obtain ⟨i, hi, rfl⟩ := hp
      have ea : a_mark σ w (nI i) = ((sMark σ w i).1, sT σ (σ.2.2 + (sMark σ w i).2)) := by
        rw [a_mark, if_pos ⟨hw, hok⟩, nI_clamp (by omega)]
      rw [ea]
      obtain ⟨m1, m2⟩ := sMv_ok σ w i hw
      refine T_iload_n (pc' := 21) d_Mo_mark_20 rfl rfl rfl ?_
      refine T_S1i (pc' := 24) d_Mo_mark_21 rfl l_Mo_201 v_Mo_bodiesOf (Nat.le_of_ble_eq_true rfl) (c_Mo_bodiesOf X _ h2 w) (fun v h3 hq => ?_)
      obtain ⟨rfl, rfl⟩ := hq
      refine T_is_n3 (pc' := 25) d_Mo_mark_24 rfl rfl (Nat.le_of_ble_eq_true rfl) rfl ?_
      refine T_lconst (v := 1) (pc' := 26) d_Mo_mark_25 rfl (by decide) ?_
      refine T_lstore (pc' := 28) d_Mo_mark_26 rfl (Nat.le_of_ble_eq_true rfl) rfl rfl ?_
      refine T_iconst (v := 0) (pc' := 29) d_Mo_mark_28 rfl (by decide) ?_
      refine T_is6 (pc' := 31) d_Mo_mark_29 rfl (Nat.le_of_ble_eq_true rfl) rfl ?_
      have hs : h3 = e_put h3 86 (oMo sc (sTr (sBod w) σ.2.2 0)) := (e_put_self r0).symm
      rw [hs]
      refine l_Mo_mark X _ h3 w (sBod w) i sc σ.2.2 _ ?_ 6 0 rfl
      rw [← hs, sTr_add, m2]
      have ex : Ex [86] h3 (e_put h3 86 (oMo sc (σ.2.2 + (sMark σ w i).2))) := Ex.rf.put (by decide)
      have mi2 := MI_trace mi' ex e_put_s q0 q8 q9
      refine t_Mo_mark X _ _ (sT σ (σ.2.2 + (sMark σ w i).2)) w (sBod w) i hi mi2 (SI_trace si) _ ⟨_, rfl, m1, mi2, ex.fr (by decide)⟩
    · refine T_if_ne (pc' := 17) (tgt := 20) d_Mo_mark_14 rfl (by decide) (fun hzz => absurd (by decide) hzz) (fun _ => ?_)
      refine T_ldc (pc' := 19) d_Mo_mark_17 rfl ck_Mo_151 ?_
      refine T_iret d_Mo_mark_19 rfl ?_
      refine ⟨_, rfl, ?_⟩
      rw [a_mark, if_neg (fun q => hp ((isP_iff (by omega) p).mpr q.2))]
      exact ⟨rfl, mi', Fr.rf⟩
  · refine T_if_eq (pc' := 9) (tgt := 17) d_Mo_mark_6 rfl (by decide) (fun _ => ?_) (fun hzz => absurd (by decide) hzz)
    refine T_ldc (pc' := 19) d_Mo_mark_17 rfl ck_Mo_151 ?_
    refine T_iret d_Mo_mark_19 rfl ?_
    refine ⟨_, rfl, ?_⟩
    rw [a_mark, if_neg (fun q => hw q.1)]
    exact ⟨rfl, mi', Fr.rf⟩
end MPUB6
