/-! best: the object; the search -/
theorem nI_sub {a b : Nat} (h : b ≤ a) : nI a - nI b = nI (a - b) := by
  have e : nI (a - b) + nI b = nI a := by rw [nI_add, Nat.sub_add_cancel h]
  rw [← e]; simp
theorem bI_bSt {σ : Sp} (si : SI σ) {R : Nat → Nat → Int} (rp : RP σ R) (w : Int32) {r : Nat} (hr : r < 4) {g : Nat → Int32} (hg : GI (σ.1 1) (σ.1 2) g) {c : Nat} (hok : bOk σ g c) : bI R w r (bSt σ g c) ≤ bI R w (r + 1) g := by
  rw [bSt]
  by_cases h0 : c = 0
  · rw [if_pos h0]; exact bI_step si rp w (by omega) hg
  · rw [if_neg h0]
    rcases hok with z | ⟨z1, z2, -⟩
    · exact absurd z h0
    · have hb := bI_step si rp w (show r < 4 by omega) (GI_begin hg z1 z2 si.1.2.1 si.1.2.2.1)
      have q1 : sBegin g ((c - 1) / 4) ((c - 1) % 4) 1 = g 1 := by rw [sBegin, if_neg (by omega), if_neg (by omega), if_neg (by omega), if_neg (by omega)]
      have q2 : sBegin g ((c - 1) / 4) ((c - 1) % 4) 2 = g 2 := by rw [sBegin, if_neg (by omega), if_neg (by omega), if_neg (by omega), if_neg (by omega)]
      have hn := si.1.2.1
      have q10 : sBegin g ((c - 1) / 4) ((c - 1) % 4) 10 = g 10 := by rw [sBegin, if_neg (by omega), if_neg (by omega), if_neg (by omega), if_neg (by omega)]
      have eb : bI R w (r + 1) (sBegin g ((c - 1) / 4) ((c - 1) % 4)) = bI R w (r + 1) g := by rw [bI, bI, q1, q2, q10]
      rw [eb] at hb
      exact hb
theorem bF_skip (σ : Sp) (w : Int32) (r : Nat) (g : Nat → Int32) (pre : Nat) (acc : Nat × Nat) (a : Nat) : ∀ k, (∀ j, j < k → ¬ bOk σ g (a + j)) → bF σ w r g pre acc (a + k) = bF σ w r g pre acc a
  | 0, _ => rfl
  | k + 1, h => by
    rw [← Nat.add_assoc, bF, if_neg (h k (by omega))]
    exact bF_skip σ w r g pre acc a k (fun j hj => h j (by omega))
theorem bF_bd {σ : Sp} (si : SI σ) (w : Int32) (r : Nat) {g : Nat → Int32} (hg : GI (σ.1 1) (σ.1 2) g) (pre : Nat) {acc : Nat × Nat} (ha : acc.2 ≤ 41) : ∀ c, (bF σ w r g pre acc c).2 ≤ 41
  | 0 => ha
  | c + 1 => by
    have ih := bF_bd si w r hg pre ha c
    rw [bF]
    by_cases hok : bOk σ g c
    · rw [if_pos hok, bB]
      have key : ∀ (f : Nat → Nat) (a : Nat × Nat) (lo k : Nat), a.2 ≤ 41 → (∀ j, f j ≤ 41) → (am2 f a lo k).2 ≤ 41 := by
        intro f a lo k ha hf
        induction k with
        | zero => exact ha
        | succ k ik =>
          rw [am2]
          split
          · exact hf _
          · exact ik
      exact key _ _ _ _ ih (fun j => gW_le si w r _ j (GI_bSt si hg hok))
    · rw [if_neg hok]; exact ih
def rowOK (row : Nat → Int32) (k pre : Nat) : Prop := ∀ j, j < k → row j = dC (pre / 13 ^ (k - 1 - j) % 13)
theorem rowOK_s {row : Nat → Int32} {k pre c : Nat} (hc : c < 13) (h : rowOK row k pre) : rowOK (e_up row k (dC c)) (k + 1) (pre * 13 + c) := by
  intro j hj
  by_cases e : j = k
  · subst e
    rw [e_upL, if_pos rfl, show j + 1 - 1 - j = 0 by omega, Nat.pow_zero, Nat.div_one, Nat.mul_comm, Nat.mul_add_mod, Nat.mod_eq_of_lt hc]
  · rw [e_upL, if_neg e, h j (by omega)]
    have e1 : 13 ^ (k + 1 - 1 - j) = 13 * 13 ^ (k - 1 - j) := by rw [show k + 1 - 1 - j = (k - 1 - j) + 1 by omega, Nat.pow_succ, Nat.mul_comm]
    rw [e1, ← Nat.div_div_eq_div_mul, show (pre * 13 + c) / 13 = pre by omega]
/-- the search, with the best so far -/
def SQ (h : AH) (F : Nat → Nat → Int32) (N : Nat) (w : Int32) (acc : Nat × Nat) (row : Nat → Int32) : Prop := h.2 31 = some (oSe (nI N) w (nI acc.2 - 1)) ∧ (∃ r, h.2 32 = some (.inr (.inl (3, 5, r))) ∧ ∀ i, i < 5 → r i = some (41 + i)) ∧ h.2 33 = some (.inl (0, 4, row)) ∧ (∃ f, h.2 34 = some (.inl (0, 4, f)) ∧ (0 < acc.2 → rowOK f N acc.1)) ∧ (∃ r, h.2 35 = some (.inr (.inl (5, 5, r))) ∧ ∀ i, i < 5 → r i = some (36 + i)) ∧ HF h F ∧ ∀ i, 41 ≤ i → i < 46 → ∃ c, h.2 i = some c ∧ isFl c
theorem SQ_fl {h : AH} {F : Nat → Nat → Int32} {N : Nat} {w : Int32} {acc : Nat × Nat} {row : Nat → Int32} {i : Nat} {c : AC} (sq : SQ h F N w acc row) (h1 : 41 ≤ i) (h2 : i < 46) (fl : isFl c) : SQ (e_put h i c) F N w acc row := by
  obtain ⟨a1, ⟨r, a2, a2'⟩, a3, ⟨f, a4, a4'⟩, ⟨r', a5, a5'⟩, a6, a7⟩ := sq
  refine ⟨(e_put_n (by omega)).trans a1, ⟨r, (e_put_n (by omega)).trans a2, a2'⟩, (e_put_n (by omega)).trans a3, ⟨f, (e_put_n (by omega)).trans a4, a4'⟩, ⟨r', (e_put_n (by omega)).trans a5, a5'⟩, fun l hl => (e_put_n (by omega)).trans (a6 l hl), fun j g1 g2 => ?_⟩
  by_cases e : j = i
  · subst e; exact ⟨c, e_put_s, fl⟩
  · obtain ⟨c', q1, q2⟩ := a7 j g1 g2
    exact ⟨c', (e_put_n e).trans q1, q2⟩
theorem SQ_row {h : AH} {F : Nat → Nat → Int32} {N : Nat} {w : Int32} {acc : Nat × Nat} {row row' : Nat → Int32} (sq : SQ h F N w acc row) : SQ (e_put h 33 (.inl (0, 4, row'))) F N w acc row' := by
  obtain ⟨a1, ⟨r, a2, a2'⟩, a3, ⟨f, a4, a4'⟩, ⟨r', a5, a5'⟩, a6, a7⟩ := sq
  refine ⟨(e_put_n (by omega)).trans a1, ⟨r, (e_put_n (by omega)).trans a2, a2'⟩, e_put_s, ⟨f, (e_put_n (by omega)).trans a4, a4'⟩, ⟨r', (e_put_n (by omega)).trans a5, a5'⟩, fun l hl => (e_put_n (by omega)).trans (a6 l hl), fun j g1 g2 => ?_⟩
  obtain ⟨c', q1, q2⟩ := a7 j g1 g2
  exact ⟨c', (e_put_n (by omega)).trans q1, q2⟩
theorem s_m1I : ∀ a, a < 42 → (nI a - 1).toInt = (a : Int) - 1 := by decide +kernel
abbrev rF (F : Nat → Nat → Int32) : Nat → Nat → Int := fun l x => (F l x).toInt
section BEST4
variable (X : EX) (d : Nat) (h : AH) (σ : Sp)
theorem c_Se_bound (F : Nat → Nat → Int32) (N k : Nat) (w : Int32) (acc : Nat × Nat) (row : Nat → Int32) (hw : w = 0 ∨ w = 1) (hN : N ≤ 4) (hk : k ≤ N) (sq : SQ h F N w acc row) (gf : GF σ F 5) (c : AC) (g : Nat → Int32) (hc : h.2 (41 + k) = some c) (fc : FC c g) (hg : GI (σ.1 1) (σ.1 2) g) : Ci X (d + 1) M_Se_bound [.ref 31, .int (nI k)] h (fun v h1 => h1 = h ∧ v.toInt = bI (rF F) w (N - k) g) := by
  obtain ⟨a1, ⟨r, a2, a2'⟩, -, -, ⟨r', a5, a5'⟩, a6, -⟩ := sq
  obtain ⟨si_, us, rfl, -, -⟩ := id fc
  obtain ⟨⟨ce, hce, e1⟩, ⟨he, hhe, e2⟩, -, h10, -⟩ := hg
  refine C_of_T rfl rfl (Nat.le_of_ble_eq_true rfl) rfl ?_
  have fin : ∀ L : Nat, L ≤ 4 → (L = if g 10 = 1 then 0 else N - k) → T X (d + 1) M_Se_bound 24 [.ref 31, .int (nI k), .ref (41 + k), .null] [.int (nI L)] h (fun r h1 => ∃ v : Int32, r = some (.int v) ∧ h1 = h ∧ v.toInt = bI (rF F) w (N - k) g) := by
    intro L hL eL
    have eb : bI (rF F) w (N - k) g = if w = 0 then max 0 (min 40 ((ce : Int) + (F L he).toInt)) else min 9 ((he : Int) + (L : Int)) := by
      rw [bI, ← eL, e1, e2, nI_clamp (by omega), nI_clamp (by omega)]
    rw [eb]
    refine T_is_n3 (pc' := 25) d_Se_bound_24 rfl rfl (Nat.le_of_ble_eq_true rfl) rfl ?_
    refine T_aload_n (pc' := 26) d_Se_bound_25 rfl rfl rfl ?_
    refine T_get (pc' := 29) d_Se_bound_26 rfl g_Se_40 (by first | assumption | exact e_put_s | simp [e_put, *]) rfl ?_
    refine T_iconst (v := 1) (pc' := 30) d_Se_bound_29 rfl (by decide) ?_
    rcases hw with rfl | rfl
    · refine T_icmp_ne (pc' := 33) (tgt := 45) d_Se_bound_30 rfl (by decide) (fun _ => ?_) (fun hzz => absurd hzz (by decide))
      refine T_iconst (v := 0) (pc' := 46) d_Se_bound_45 rfl (by decide) ?_
      refine T_bipush (v := 40) (pc' := 48) d_Se_bound_46 rfl (by decide) ?_
      refine T_aload_n (pc' := 49) d_Se_bound_48 rfl rfl rfl ?_
      refine T_get (pc' := 52) d_Se_bound_49 rfl g_Se_110 (by first | assumption | exact e_put_s | simp [e_put, *]) rfl ?_
      refine T_aload_n (pc' := 53) d_Se_bound_52 rfl rfl rfl ?_
      refine T_get (pc' := 56) d_Se_bound_53 rfl g_Se_26 (by first | assumption | exact e_put_s | simp [e_put, *]) rfl ?_
      refine T_iload_n (pc' := 57) d_Se_bound_56 rfl rfl rfl ?_
      refine T_aaloadN L (pc' := 58) d_Se_bound_57 rfl a5 (by decide) ⟨by omega, by decide⟩ (a5' L (by omega)) ?_
      refine T_aload_n (pc' := 59) d_Se_bound_58 rfl rfl rfl ?_
      refine T_get (pc' := 62) d_Se_bound_59 rfl g_Se_107 (by first | assumption | exact e_put_s | simp [e_put, *]) rfl ?_
      rw [e2, e1]
      refine T_ialoadN he (pc' := 63) d_Se_bound_62 rfl (a6 L (by omega)) ⟨by omega, by decide⟩ ?_
      obtain ⟨b1, b2⟩ := GF_bd gf (show L < 5 by omega) (show he < 10 by omega)
      have es : (nI ce + F L he).toInt = ce + (F L he).toInt := by
        rw [i_addI (by rw [nI_toInt (by omega)]; omega) (by rw [nI_toInt (by omega)]; omega), nI_toInt (by omega)]
      refine T_iadd (pc' := 64) d_Se_bound_63 rfl ?_
      refine T_mmin (pc' := 67) d_Se_bound_64 rfl l_Se_30 (Nat.le_of_ble_eq_true rfl) ?_
      have em := i_minI 40 (nI ce + F L he)
      rw [es, show (40 : Int32).toInt = 40 by decide] at em
      generalize (if nI ce + F L he < 40 then nI ce + F L he else 40) = y at em
      refine T_mmax (pc' := 70) d_Se_bound_67 rfl l_Se_70 (Nat.le_of_ble_eq_true rfl) ?_
      have ex := i_maxI 0 y
      rw [em, show (0 : Int32).toInt = 0 by decide] at ex
      refine T_iret d_Se_bound_70 rfl ?_
      exact ⟨_, rfl, rfl, by rw [ex, if_pos rfl]⟩
    · refine T_icmp_ne (pc' := 33) (tgt := 45) d_Se_bound_30 rfl (by decide) (fun hzz => absurd (by decide) hzz) (fun _ => ?_)
      refine T_bipush (v := 9) (pc' := 35) d_Se_bound_33 rfl (by decide) ?_
      refine T_aload_n (pc' := 36) d_Se_bound_35 rfl rfl rfl ?_
      refine T_get (pc' := 39) d_Se_bound_36 rfl g_Se_107 (by first | assumption | exact e_put_s | simp [e_put, *]) rfl ?_
      refine T_iload_n (pc' := 40) d_Se_bound_39 rfl rfl rfl ?_
      rw [e2]
      refine T_iadd (pc' := 41) d_Se_bound_40 rfl ?_
      rw [nI_add]
      refine T_mmin (pc' := 44) d_Se_bound_41 rfl l_Se_30 (Nat.le_of_ble_eq_true rfl) ?_
      refine T_iret d_Se_bound_44 rfl ?_
      refine ⟨_, rfl, rfl, ?_⟩
      have em := i_minI 9 (nI (he + L))
      rw [nI_toInt (by omega), show (9 : Int32).toInt = 9 by decide] at em
      rw [em, if_neg (by decide)]
      omega
  refine T_aload_n (pc' := 1) d_Se_bound_0 rfl rfl rfl ?_
  refine T_get (pc' := 4) d_Se_bound_1 rfl g_Se_11 (by first | assumption | exact e_put_s | simp [e_put, *]) rfl ?_
  refine T_iload_n (pc' := 5) d_Se_bound_4 rfl rfl rfl ?_
  refine T_aaloadN k (pc' := 6) d_Se_bound_5 rfl a2 (by decide) ⟨by omega, by decide⟩ (a2' k (by omega)) ?_
  refine T_as_n2 (pc' := 7) d_Se_bound_6 rfl rfl (Nat.le_of_ble_eq_true rfl) rfl ?_
  refine T_aload_n (pc' := 8) d_Se_bound_7 rfl rfl rfl ?_
  refine T_get (pc' := 11) d_Se_bound_8 rfl g_Se_86 (by first | assumption | exact e_put_s | simp [e_put, *]) rfl ?_
  rcases h10 with hlo | hlo
  · refine T_if_eq (pc' := 14) (tgt := 18) d_Se_bound_11 rfl (by decide) (fun _ => ?_) (fun hzz => absurd hlo hzz)
    refine T_aload_n (pc' := 19) d_Se_bound_18 rfl rfl rfl ?_
    refine T_get (pc' := 22) d_Se_bound_19 rfl g_Se_36 (by first | assumption | exact e_put_s | simp [e_put, *]) rfl ?_
    refine T_iload_n (pc' := 23) d_Se_bound_22 rfl rfl rfl ?_
    refine T_isub (pc' := 24) d_Se_bound_23 rfl ?_
    rw [nI_sub hk]
    exact fin (N - k) (by omega) (by rw [if_neg (by rw [hlo]; decide)])
  · refine T_if_eq (pc' := 14) (tgt := 18) d_Se_bound_11 rfl (by decide) (fun hzz => absurd hzz (by rw [hlo]; decide)) (fun _ => ?_)
    refine T_iconst (v := 0) (pc' := 15) d_Se_bound_14 rfl (by decide) ?_
    refine T_goto (pc' := 24) d_Se_bound_15 (by decide) ?_
    exact fin 0 (by omega) (by rw [if_pos hlo])
/-- what is asked of a look at all turns from k on -/
def TRY (X : EX) (D : Nat) (σ : Sp) (F : Nat → Nat → Int32) (N : Nat) (w : Int32) (ab : Int32) (k r : Nat) : Prop := ∀ (h : AH) (g : Nat → Int32) (acc : Nat × Nat) (pre : Nat) (row : Nat → Int32) (c : AC), SQ h F N w acc row → rowOK row k pre → TR h 4 (σ.1 1) (σ.1 2) (σ.2.1 1) (σ.2.1 2) (σ.2.1 3) (σ.2.1 4) (σ.2.1 5) (σ.2.1 12 0) ab → h.2 (41 + k) = some c → FC c g → GI (σ.1 1) (σ.1 2) g → acc.2 ≤ 41 → Cv X D M_Se_tryTurns [.ref 31, .ref 4, .int (nI k)] h (fun h1 => ∃ row', SQ h1 F N w (bB σ w r g acc pre) row' ∧ (∀ j, j < k → row' j = row j) ∧ (∀ j, j ≤ k → h1.2 (41 + j) = h.2 (41 + j)) ∧ Fr 31 46 h h1)
theorem c_Se_tryTurn (F : Nat → Nat → Int32) (N : Nat) (w ab : Int32) (k r e : Nat) (hN : N ≤ 4) (hk : k + (r + 1) = N) (si : SI σ) (ih : TRY X (e + 5) σ F N w ab (k + 1) r) (g : Nat → Int32) (acc : Nat × Nat) (pre : Nat) (row : Nat → Int32) (cf : AC) (sq : SQ h F N w acc row) (hrow : rowOK row k pre) (tr : TR h 4 (σ.1 1) (σ.1 2) (σ.2.1 1) (σ.2.1 2) (σ.2.1 3) (σ.2.1 4) (σ.2.1 5) (σ.2.1 12 0) ab) (hcf : h.2 (41 + k) = some cf) (fc : FC cf g) (hg : GI (σ.1 1) (σ.1 2) g) (ha : acc.2 ≤ 41) (c : Nat) (hc13 : c < 13) (hok : bOk σ g c) (P T' : Int32) (hPT : (c = 0 ∧ P = -9 ∧ T' = -9) ∨ (0 < c ∧ P = nI ((c - 1) / 4) ∧ T' = nI ((c - 1) % 4))) : Cv X (e + 6) M_Se_tryTurn [.ref 31, .ref 4, .int (nI k), .int P, .int T'] h (fun h1 => ∃ row', SQ h1 F N w (bB σ w r (bSt σ g c) acc (pre * 13 + c)) row' ∧ (∀ j, j < k → row' j = row j) ∧ (∀ j, j ≤ k → h1.2 (41 + j) = h.2 (41 + j)) ∧ Fr 31 46 h h1) := by
  have sq0 := sq
  have hn := si.1.2.1
  have hm := si.1.2.2.1
  obtain ⟨a1, ⟨r32, a2, a2'⟩, a3, -, -, -, a7⟩ := sq
  obtain ⟨c1, q1, fl1⟩ := a7 (41 + (k + 1)) (by omega) (by omega)
  have flf := fc.fl hg
  have frp : ∀ c', Fr 31 46 h (e_put h (41 + (k + 1)) c') := fun c' => Fr.rf.put ⟨by omega, by omega⟩
  -- the end, once the flight behind the turn stands
  have fin : ∀ (row1 : Nat → Int32) (c2 : AC) (g0 : Nat → Int32) (H : AH), row1 = e_up row k (dC c) → SQ H F N w acc row1 → Fr 31 46 h H → (∀ j, j ≤ k → H.2 (41 + j) = h.2 (41 + j)) → H.2 (41 + (k + 1)) = some c2 → FC c2 g0 → GI (σ.1 1) (σ.1 2) g0 → sP σ g0 = bSt σ g c → T X (e + 6) M_Se_tryTurn 55 [.ref 31, .ref 4, .int (nI k), .int P, .int T', .ref (41 + (k + 1))] [] H (fun r_1 h1 => r_1 = none ∧ ∃ row', SQ h1 F N w (bB σ w r (bSt σ g c) acc (pre * 13 + c)) row' ∧ (∀ j, j < k → row' j = row j) ∧ (∀ j, j ≤ k → h1.2 (41 + j) = h.2 (41 + j)) ∧ Fr 31 46 h h1) := by
    intro row1 c2 g0 H hr1 sqH frH hjs hc2 fc2 gi2 est
    have tr2 := TR_fr frH (by decide) tr
    have t0 := tr2.1
    have k31 := sqH.1
    refine T_aload_n (pc' := 56) d_Se_tryTurn_55 rfl rfl rfl ?_
    refine T_aload (pc' := 58) d_Se_tryTurn_56 rfl rfl ?_
    refine T_V1v (pc' := 61) d_Se_tryTurn_58 rfl l_Se_104 v_To_passMinute (by first | assumption | exact e_put_s | simp [e_put, *]) (Nat.le_of_ble_eq_true rfl) (c_To_passMinute X _ _ 4 _ _ _ _ _ _ _ _ _ (41 + (k + 1)) c2 g0 hn hm tr2 (by omega) hc2 fc2 gi2) (fun h2 hq => ?_)
    obtain ⟨c3, rfl, fc3⟩ := hq
    have e3 : sPass (σ.1 1) (σ.2.1 1) (σ.2.1 2) (σ.2.1 3) (σ.2.1 4) (σ.2.1 5) g0 = bSt σ g c := est
    rw [e3] at fc3
    have gi3 : GI (σ.1 1) (σ.1 2) (bSt σ g c) := GI_bSt si hg hok
    have sq3 := SQ_fl (i := 41 + (k + 1)) sqH (by omega) (by omega) (fc3.fl gi3)
    have fr3 : Fr 31 46 H (e_put H (41 + (k + 1)) c3) := Fr.rf.put ⟨by omega, by omega⟩
    have k31' := sq3.1
    refine T_aload_n (pc' := 62) d_Se_tryTurn_61 rfl rfl rfl ?_
    refine T_aload_n (pc' := 63) d_Se_tryTurn_62 rfl rfl rfl ?_
    refine T_iload_n (pc' := 64) d_Se_tryTurn_63 rfl rfl rfl ?_
    refine T_iconst (v := 1) (pc' := 65) d_Se_tryTurn_64 rfl (by decide) ?_
    refine T_iadd (pc' := 66) d_Se_tryTurn_65 rfl ?_
    rw [nI_1]
    refine T_V2v (pc' := 69) d_Se_tryTurn_66 rfl l_Se_54 v_Se_tryTurns (by first | assumption | exact e_put_s | simp [e_put, *]) (Nat.le_of_ble_eq_true rfl) (ih _ (bSt σ g c) acc (pre * 13 + c) row1 c3 sq3 (by rw [hr1]; exact rowOK_s hc13 hrow) (TR_fr fr3 (by decide) tr2) e_put_s fc3 gi3 ha) (fun h3 hq => ?_)
    obtain ⟨row', s1, s2, s3, s4⟩ := hq
    refine T_vret d_Se_tryTurn_69 rfl ?_
    refine ⟨rfl, row', s1, fun j hj => ?_, fun j hj => ?_, (frH.tr fr3).tr s4⟩
    · rw [s2 j (by omega), hr1, e_upL, if_neg (by omega)]
    · rw [s3 j (by omega), e_put_n (by omega)]; exact hjs j hj
  refine C_of_T rfl rfl (Nat.le_of_ble_eq_true rfl) rfl ?_
  refine T_aload_n (pc' := 1) d_Se_tryTurn_0 rfl rfl rfl ?_
  refine T_get (pc' := 4) d_Se_tryTurn_1 rfl g_Se_11 (by first | assumption | exact e_put_s | simp [e_put, *]) rfl ?_
  refine T_iload_n (pc' := 5) d_Se_tryTurn_4 rfl rfl rfl ?_
  refine T_iconst (v := 1) (pc' := 6) d_Se_tryTurn_5 rfl (by decide) ?_
  refine T_iadd (pc' := 7) d_Se_tryTurn_6 rfl ?_
  rw [nI_1]
  refine T_aaloadN (k + 1) (pc' := 8) d_Se_tryTurn_7 rfl a2 (by decide) ⟨by omega, by decide⟩ (a2' (k + 1) (by omega)) ?_
  refine T_as5 (pc' := 10) d_Se_tryTurn_8 rfl (Nat.le_of_ble_eq_true rfl) rfl ?_
  refine T_aload (pc' := 12) d_Se_tryTurn_10 rfl rfl ?_
  refine T_aload_n (pc' := 13) d_Se_tryTurn_12 rfl rfl rfl ?_
  refine T_get (pc' := 16) d_Se_tryTurn_13 rfl g_Se_11 (by first | assumption | exact e_put_s | simp [e_put, *]) rfl ?_
  refine T_iload_n (pc' := 17) d_Se_tryTurn_16 rfl rfl rfl ?_
  refine T_aaloadN k (pc' := 18) d_Se_tryTurn_17 rfl a2 (by decide) ⟨by omega, by decide⟩ (a2' k (by omega)) ?_
  have flc := fl1
  obtain ⟨mi7, ce7, he7, th7, id7, si7, ab7, us7, lo7, rfl, hlo7⟩ := fl1
  refine T_V1v (pc' := 21) d_Se_tryTurn_18 rfl l_Se_50 v_Fl_copyFrom (by first | assumption | exact e_put_s | simp [e_put, *]) (Nat.le_of_ble_eq_true rfl) (c_Fl_copy X _ h (41 + (k + 1)) (41 + k) _ cf (by omega) q1 hcf flc flf) (fun h1 hq => ?_)
  subst hq
  have sq1 := SQ_fl (i := 41 + (k + 1)) sq0 (by omega) (by omega) flf
  have b1 := sq1.1
  have b3 := sq1.2.2.1
  refine T_aload_n (pc' := 22) d_Se_tryTurn_21 rfl rfl rfl ?_
  refine T_get (pc' := 25) d_Se_tryTurn_22 rfl g_Se_17 (by first | assumption | exact e_put_s | simp [e_put, *]) rfl ?_
  refine T_iload_n (pc' := 26) d_Se_tryTurn_25 rfl rfl rfl ?_
  refine T_bipush (v := (-9)) (pc' := 28) d_Se_tryTurn_26 rfl (by decide) ?_
  refine T_iastoreN k (pc' := 29) d_Se_tryTurn_28 rfl b3 ⟨by omega, by decide⟩ ?_
  refine T_iload_n (pc' := 30) d_Se_tryTurn_29 rfl rfl rfl ?_
  refine T_bipush (v := (-9)) (pc' := 32) d_Se_tryTurn_30 rfl (by decide) ?_
  rcases hPT with ⟨hc0, rfl, rfl⟩ | ⟨hc0, rfl, rfl⟩
  · refine T_icmp_eq (pc' := 35) (tgt := 55) d_Se_tryTurn_32 rfl (by decide) (fun _ => ?_) (fun hzz => absurd (by decide) hzz)
    have edc : dC c = -9 := by rw [dC, if_pos hc0]
    refine fin (e_up row k (-9)) cf g _ (by rw [edc]) (SQ_row sq1) ((frp cf).put ⟨by omega, by omega⟩) (fun j hj => ?_) ((e_put_n (by omega)).trans e_put_s) fc hg (by rw [bSt, if_pos hc0])
    rw [e_put_n (by omega), e_put_n (by omega)]
  · refine T_icmp_eq (pc' := 35) (tgt := 55) d_Se_tryTurn_32 rfl (by decide) (fun hzz => absurd hzz (nI_ne9 (by omega))) (fun _ => ?_)
    have hz : ¬ c = 0 := by omega
    obtain ⟨o1, o2, o3⟩ : (c - 1) / 4 < σ.1 1 ∧ (c - 1) % 4 < σ.1 2 ∧ sCan g ((c - 1) / 4) ((c - 1) % 4) := by
      rcases hok with z | z
      · exact absurd z hz
      · exact z
    obtain ⟨si_, us, rfl, hel, hus⟩ := id fc
    have kk : (e_put (e_put h (41 + (k + 1)) (oFl (g 0) (g 1) (g 2) (g 3) (g 4) si_ (g 6) us (g 10))) 33 (.inl (0, 4, e_up row k (-9)))).2 (41 + (k + 1)) = some (oFl (g 0) (g 1) (g 2) (g 3) (g 4) si_ (g 6) us (g 10)) := (e_put_n (by omega)).trans e_put_s
    refine T_aload (pc' := 37) d_Se_tryTurn_35 rfl rfl ?_
    refine T_iload_n (pc' := 38) d_Se_tryTurn_37 rfl rfl rfl ?_
    refine T_iload (pc' := 40) d_Se_tryTurn_38 rfl rfl ?_
    refine T_V2v (pc' := 43) d_Se_tryTurn_40 rfl l_Se_100 v_Fl_begin (by first | assumption | exact e_put_s | simp [e_put, *]) (Nat.le_of_ble_eq_true rfl) (c_Fl_begin X _ _ (41 + (k + 1)) _ _ _ _ _ _ _ _ _ (nI ((c - 1) / 4)) (nI ((c - 1) % 4)) kk) (fun h1 hq => ?_)
    subst hq
    have fb := FC_begin (g := g) (si := si_) (us := us) (p := (c - 1) / 4) (t := (c - 1) % 4) (by omega) (by omega) hus
    have gib : GI (σ.1 1) (σ.1 2) (sBegin g ((c - 1) / 4) ((c - 1) % 4)) := GI_begin hg o1 o2 hn hm
    generalize oFl (g 0) (g 1) (g 2) (nI ((c - 1) / 4)) (nI ((c - 1) % 4)) (g 0) (g 6) (us ||| (1 <<< ((4 * nI ((c - 1) / 4) + nI ((c - 1) % 4)) &&& 31))) (g 10) = cb at fb
    generalize oFl (g 0) (g 1) (g 2) (g 3) (g 4) si_ (g 6) us (g 10) = ca at *
    have sq2 := SQ_fl (i := 41 + (k + 1)) (SQ_row (row' := e_up row k (-9)) sq1) (by omega) (by omega) (fb.fl gib)
    have b31 := sq2.1
    have b33 := sq2.2.2.1
    refine T_aload_n (pc' := 44) d_Se_tryTurn_43 rfl rfl rfl ?_
    refine T_get (pc' := 47) d_Se_tryTurn_44 rfl g_Se_17 (by first | assumption | exact e_put_s | simp [e_put, *]) rfl ?_
    refine T_iload_n (pc' := 48) d_Se_tryTurn_47 rfl rfl rfl ?_
    refine T_iconst (v := 4) (pc' := 49) d_Se_tryTurn_48 rfl (by decide) ?_
    refine T_iload_n (pc' := 50) d_Se_tryTurn_49 rfl rfl rfl ?_
    refine T_imul (pc' := 51) d_Se_tryTurn_50 rfl ?_
    refine T_iload (pc' := 53) d_Se_tryTurn_51 rfl rfl ?_
    refine T_iadd (pc' := 54) d_Se_tryTurn_53 rfl ?_
    refine T_iastoreN k (pc' := 55) d_Se_tryTurn_54 rfl b33 ⟨by omega, by decide⟩ ?_
    have e4 : (4 : Int32) * nI ((c - 1) / 4) + nI ((c - 1) % 4) = nI (c - 1) := by
      rw [show (4 : Int32) * nI ((c - 1) / 4) = nI (4 * ((c - 1) / 4)) from pk_mul 4 _, nI_add]
      congr 1
      omega
    rw [e4]
    have edc : dC c = nI (c - 1) := by rw [dC, if_neg hz]
    have eup : e_up (e_up row k (-9)) k (nI (c - 1)) = e_up row k (dC c) := by
      funext j
      rw [edc, e_upL, e_upL, e_upL]
      by_cases hj : j = k
      · rw [if_pos hj, if_pos hj]
      · rw [if_neg hj, if_neg hj, if_neg hj]
    rw [eup]
    refine fin (e_up row k (dC c)) cb _ _ rfl (SQ_row sq2) (((frp ca).put ⟨by omega, by omega⟩).put ⟨by omega, by omega⟩ |>.put ⟨by omega, by omega⟩) (fun j hj => ?_) ((e_put_n (by omega)).trans e_put_s) fb gib (by rw [bSt, if_neg hz])
    rw [e_put_n (by omega), e_put_n (by omega), e_put_n (by omega), e_put_n (by omega)]
end BEST4
