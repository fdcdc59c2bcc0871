/-! History.copyFrom, Image -/
/-- as HR, but the number that stands in the object is another -/
def HQ (h : AH) (a sz kn : Nat) (rows : Nat → Nat → Int32) : Prop := ∃ ρ : Nat → Nat, h.2 a = some (oHi (a + 1) (nI sz)) ∧ (∃ r, h.2 (a + 1) = some (.inr (.inl (3, 10, r))) ∧ ∀ i, i < 10 → r i = some (ρ i)) ∧ (∀ i, i < 10 → a + 2 ≤ ρ i ∧ ρ i < a + 12) ∧ (∀ i, i < 10 → ∀ j, j < 10 → ρ i = ρ j → i = j) ∧ (∀ i, a + 2 ≤ i → i < a + 12 → ∃ c, h.2 i = some c ∧ isFl c) ∧ (∀ i, i < kn → ∃ c, h.2 (ρ i) = some c ∧ FC c (rows i))
section IMG
variable (X : EX) (d : Nat) (a : Nat)
theorem l_Hi_copy (b kn : Nat) (rows : Nat → Nat → Int32) (h0 : AH) (hkn : kn ≤ 10) (hab : b + 12 ≤ a ∨ a + 12 ≤ b) (hb : HR h0 b kn rows) (Q : Option Value → AH → Prop) (hQ : ∀ h1, HR h1 a kn rows → Fr a (a + 12) h0 h1 → Q none h1) : ∀ (k i : Nat), i + k = kn → ∀ h : AH, Fr a (a + 12) h0 h → HQ h a kn i rows → T X (d + 1) M_Hi_copyFrom 10 [.ref a, .ref b, .int (nI i)] [] h Q
  | 0, i, hi, h, fr, hq => by
    have : i = kn := by omega
    subst this
    have hq' : HR h a i rows := hq
    obtain ⟨ρ, h0, -⟩ := hq
    refine T_iload_n (pc' := 11) d_Hi_copyFrom_10 rfl rfl rfl ?_
    refine T_aload_n (pc' := 12) d_Hi_copyFrom_11 rfl rfl rfl ?_
    refine T_get (pc' := 15) d_Hi_copyFrom_12 rfl g_Hi_17 (by first | assumption | exact e_put_s | simp [e_put, *]) rfl ?_
    refine T_icmp_ge (pc' := 18) (tgt := 39) d_Hi_copyFrom_15 rfl (by decide) (fun _ => ?_) (fun hzz => absurd (Int32.le_refl _) hzz)
    refine T_vret d_Hi_copyFrom_39 rfl ?_
    exact hQ h hq' fr
  | k + 1, i, hi, h, fr, hq => by
    have hbh : HR h b kn rows := HR_fr fr hkn (by omega) hb
    obtain ⟨ρ, h0, ⟨r, h2, h3⟩, h4, h5, h6, h7⟩ := hq
    obtain ⟨ρ', h0', ⟨r', h2', h3'⟩, h4', h5', h6', h7'⟩ := hbh
    have p1 := h4 i (by omega)
    have p2 := h4' i (by omega)
    obtain ⟨ca, c1, c2⟩ := h6 (ρ i) p1.1 p1.2
    obtain ⟨cb, b1, b2⟩ := h7' i (by omega)
    obtain ⟨cb', b1', b3⟩ := h6' (ρ' i) p2.1 p2.2
    cases b1.symm.trans b1'
    refine T_iload_n (pc' := 11) d_Hi_copyFrom_10 rfl rfl rfl ?_
    refine T_aload_n (pc' := 12) d_Hi_copyFrom_11 rfl rfl rfl ?_
    refine T_get (pc' := 15) d_Hi_copyFrom_12 rfl g_Hi_17 (by first | assumption | exact e_put_s | simp [e_put, *]) rfl ?_
    refine T_icmp_ge (pc' := 18) (tgt := 39) d_Hi_copyFrom_15 rfl (by decide) (fun hzz => absurd hzz (nI_ge (by omega) (by omega))) (fun _ => ?_)
    refine T_aload_n (pc' := 19) d_Hi_copyFrom_18 rfl rfl rfl ?_
    refine T_get (pc' := 22) d_Hi_copyFrom_19 rfl g_Hi_11 (by first | assumption | exact e_put_s | simp [e_put, *]) rfl ?_
    refine T_iload_n (pc' := 23) d_Hi_copyFrom_22 rfl rfl rfl ?_
    refine T_aaloadN i (b := ρ i) (pc' := 24) d_Hi_copyFrom_23 rfl h2 (by decide) ⟨by omega, by decide⟩ (h3 i (by omega)) ?_
    refine T_aload_n (pc' := 25) d_Hi_copyFrom_24 rfl rfl rfl ?_
    refine T_get (pc' := 28) d_Hi_copyFrom_25 rfl g_Hi_11 (by first | assumption | exact e_put_s | simp [e_put, *]) rfl ?_
    refine T_iload_n (pc' := 29) d_Hi_copyFrom_28 rfl rfl rfl ?_
    refine T_aaloadN i (b := ρ' i) (pc' := 30) d_Hi_copyFrom_29 rfl h2' (by decide) ⟨by omega, by decide⟩ (h3' i (by omega)) ?_
    obtain ⟨mi, ce, he, th, id, si, ab, us, lo, rfl, hlo⟩ := c2
    refine T_V1v (pc' := 33) d_Hi_copyFrom_30 rfl l_Hi_25 v_Fl_copyFrom (by first | assumption | exact e_put_s | simp [e_put, *]) (Nat.le_of_ble_eq_true rfl) (c_Fl_copy X d h (ρ i) (ρ' i) _ cb (by omega) c1 b1 ⟨_, _, _, _, _, _, _, _, _, rfl, hlo⟩ b3) (fun h1 hq => ?_)
    subst hq
    refine T_ii2 (c := 1) (pc' := 36) d_Hi_copyFrom_33 rfl (by decide) (Nat.le_of_ble_eq_true rfl) rfl ?_
    rw [nI_1]
    refine T_goto (pc' := 10) d_Hi_copyFrom_36 (by decide) ?_
    refine l_Hi_copy b kn rows _ hkn hab hb Q hQ k (i + 1) (by omega) _ (fr.put ⟨by omega, by omega⟩) ⟨ρ, (e_put_n (by omega)).trans h0, ⟨r, (e_put_n (by omega)).trans h2, h3⟩, h4, h5, fun j g1 g2 => ?_, fun j hj => ?_⟩
    · by_cases hj : j = ρ i
      · subst hj; exact ⟨cb, e_put_s, b3⟩
      · obtain ⟨c, k1, k2⟩ := h6 j g1 g2
        exact ⟨c, (e_put_n hj).trans k1, k2⟩
    · by_cases hji : j = i
      · subst hji; exact ⟨cb, e_put_s, b2⟩
      · obtain ⟨c, k1, k2⟩ := h7 j (by omega)
        exact ⟨c, (e_put_n (fun q => hji (h5 j (by omega) i (by omega) q))).trans k1, k2⟩
theorem c_Hi_copyFrom (h : AH) (b ka kn : Nat) (ra rows : Nat → Nat → Int32) (hkn : kn ≤ 10) (hab : b + 12 ≤ a ∨ a + 12 ≤ b) (ha : HR h a ka ra) (hb : HR h b kn rows) : Cv X (d + 1) M_Hi_copyFrom [.ref a, .ref b] h (fun h1 => HR h1 a kn rows ∧ Fr a (a + 12) h h1) := by
  have hb' := hb
  obtain ⟨ρ, h0, ⟨r, h2, h3⟩, h4, h5, h6, h7⟩ := ha
  obtain ⟨ρ', h0', -⟩ := hb
  refine C_of_T rfl rfl (Nat.le_of_ble_eq_true rfl) rfl ?_
  refine T_aload_n (pc' := 1) d_Hi_copyFrom_0 rfl rfl rfl ?_
  refine T_aload_n (pc' := 2) d_Hi_copyFrom_1 rfl rfl rfl ?_
  refine T_get (pc' := 5) d_Hi_copyFrom_2 rfl g_Hi_17 (by first | assumption | exact e_put_s | simp [e_put, *]) rfl ?_
  refine T_puti1 (pc' := 8) d_Hi_copyFrom_5 rfl f_Hi_17 (fun z => absurd z Bool.false_ne_true) (by first | assumption | exact e_put_s | simp [e_put, *]) ?_
  refine T_iconst (v := 0) (pc' := 9) d_Hi_copyFrom_8 rfl (by decide) ?_
  refine T_is_n2 (pc' := 10) d_Hi_copyFrom_9 rfl rfl (Nat.le_of_ble_eq_true rfl) rfl ?_
  refine l_Hi_copy X d a b kn rows h hkn hab hb' _ (fun h1 k1 k2 => ⟨rfl, k1, k2⟩) kn 0 (by omega) _ (Fr.rf.put ⟨by omega, by omega⟩) ⟨ρ, e_put_s, ⟨r, (e_put_n (by omega)).trans h2, h3⟩, h4, h5, fun j g1 g2 => ?_, fun j hj => by omega⟩
  obtain ⟨c, k1, k2⟩ := h6 j g1 g2
  exact ⟨c, (e_put_n (by omega)).trans k1, k2⟩
/-- an image at a: its flight at a + 1, what may be undone at a + 2 .. -/
def IR (h : AH) (a : Nat) (ke kn : Nat) (g : Nat → Int32) (rows : Nat → Nat → Int32) : Prop := h.2 a = some (oIm (a + 1) (a + 2) (nI ke)) ∧ (∃ c, h.2 (a + 1) = some c ∧ isFl c ∧ (ke = 1 → FC c g)) ∧ (∃ k r, HR h (a + 2) k r ∧ k ≤ 10 ∧ (ke = 1 → k = kn ∧ ∀ i, i < kn → r i = rows i))
theorem IR_fr {h h1 : AH} {a ke kn lo hi : Nat} {g : Nat → Int32} {rows : Nat → Nat → Int32} (fr : Fr lo hi h h1) (hd : a + 14 ≤ lo ∨ hi ≤ a) (r : IR h a ke kn g rows) : IR h1 a ke kn g rows := by
  obtain ⟨r0, ⟨c, r1, r2, r3⟩, k, rr, r4, r5, r6⟩ := r
  exact ⟨(fr.2 _ (by omega)).trans r0, ⟨c, (fr.2 _ (by omega)).trans r1, r2, r3⟩, k, rr, HR_fr fr r5 (by omega) r4, r5, r6⟩
theorem c_Im_take (h : AH) (f hi_ ke kn kn0 : Nat) (c : AC) (g g0 : Nat → Int32) (rows rows0 : Nat → Nat → Int32) (hkn : kn ≤ 10) (ir : IR h a ke kn0 g0 rows0) (hf : h.2 f = some c) (fc : FC c g) (fl : isFl c) (hh : HR h hi_ kn rows) (d1 : f < a ∨ a + 14 ≤ f) (d2 : hi_ + 12 ≤ a ∨ a + 14 ≤ hi_) : Cv X (d + 2) M_Im_take [.ref a, .ref f, .ref hi_] h (fun h1 => IR h1 a 1 kn g rows ∧ Fr a (a + 14) h h1) := by
  obtain ⟨r0, ⟨c0, r1, r2, r3⟩, k, rr, r4, r5, r6⟩ := ir
  refine C_of_T rfl rfl (Nat.le_of_ble_eq_true rfl) rfl ?_
  refine T_aload_n (pc' := 1) d_Im_take_0 rfl rfl rfl ?_
  refine T_get (pc' := 4) d_Im_take_1 rfl g_Im_10 (by first | assumption | exact e_put_s | simp [e_put, *]) rfl ?_
  refine T_aload_n (pc' := 5) d_Im_take_4 rfl rfl rfl ?_
  obtain ⟨mi, ce, he, th, id, si, ab, us, lo, rfl, hlo⟩ := r2
  refine T_V1v (pc' := 8) d_Im_take_5 rfl l_Im_27 v_Fl_copyFrom (by first | assumption | exact e_put_s | simp [e_put, *]) (Nat.le_of_ble_eq_true rfl) (c_Fl_copy X (d + 1) h (a + 1) f _ c (by omega) r1 hf ⟨_, _, _, _, _, _, _, _, _, rfl, hlo⟩ fl) (fun h1 hq => ?_)
  subst hq
  have fr1 : Fr (a + 1) (a + 2) h (e_put h (a + 1) c) := Fr.rf.put ⟨by omega, by omega⟩
  refine T_aload_n (pc' := 9) d_Im_take_8 rfl rfl rfl ?_
  refine T_get (pc' := 12) d_Im_take_9 rfl g_Im_19 ((e_put_n (by omega)).trans r0) rfl ?_
  refine T_aload_n (pc' := 13) d_Im_take_12 rfl rfl rfl ?_
  obtain ⟨ρ, q0, -⟩ := HR_fr fr1 r5 (by omega) r4
  refine T_V1v (pc' := 16) d_Im_take_13 rfl l_Im_31 v_Hi_copyFrom (by first | assumption | exact e_put_s | simp [e_put, *]) (Nat.le_of_ble_eq_true rfl) (c_Hi_copyFrom X d (a + 2) _ hi_ k kn rr rows hkn (by omega) (HR_fr fr1 r5 (by omega) r4) (HR_fr fr1 hkn (by omega) hh)) (fun h2 hq => ?_)
  obtain ⟨k1, k2⟩ := hq
  refine T_aload_n (pc' := 17) d_Im_take_16 rfl rfl rfl ?_
  refine T_iconst (v := 1) (pc' := 18) d_Im_take_17 rfl (by decide) ?_
  refine T_putz2 (pc' := 21) d_Im_take_18 rfl f_Im_23 (fun z => absurd z Bool.false_ne_true) ((k2.2 _ (by omega)).trans ((e_put_n (by omega)).trans r0)) (by first | assumption | exact Or.inl rfl | exact Or.inr rfl) ?_
  refine T_vret d_Im_take_21 rfl ?_
  have fr2 : Fr a (a + 1) h2 (e_put h2 a (oIm (a + 1) (a + 2) 1)) := Fr.rf.put ⟨by omega, by omega⟩
  refine ⟨rfl, ⟨e_put_s, ⟨c, (e_put_n (by omega)).trans ((k2.2 _ (by omega)).trans e_put_s), fl, fun _ => fc⟩, kn, rows, HR_fr fr2 hkn (by omega) k1, hkn, fun _ => ⟨rfl, fun _ _ => rfl⟩⟩, ?_⟩
  exact ((fr1.wide (by omega) (by omega)).tr (k2.wide (by omega) (by omega))).tr (fr2.wide (by omega) (by omega))
theorem c_Im_give (h : AH) (f hi_ kn k0 : Nat) (cf : AC) (g : Nat → Int32) (rows rows0 : Nat → Nat → Int32) (ir : IR h a 1 kn g rows) (hf : h.2 f = some cf) (fl : isFl cf) (hh : HR h hi_ k0 rows0) (d1 : f < a ∨ a + 14 ≤ f) (d2 : hi_ + 12 ≤ a ∨ a + 14 ≤ hi_) (d3 : f < hi_ ∨ hi_ + 12 ≤ f) (hk0 : k0 ≤ 10) : Cv X (d + 2) M_Im_give [.ref a, .ref f, .ref hi_] h (fun h1 => ∃ c h2, h2 = e_put h f c ∧ FC c g ∧ isFl c ∧ HR h1 hi_ kn rows ∧ Fr hi_ (hi_ + 12) h2 h1) := by
  obtain ⟨r0, ⟨c0, r1, r2, r3⟩, k, rr, r4, r5, r6⟩ := ir
  obtain ⟨rfl, r7⟩ := r6 rfl
  have r4 := HR_congr r4 r7
  refine C_of_T rfl rfl (Nat.le_of_ble_eq_true rfl) rfl ?_
  refine T_aload_n (pc' := 1) d_Im_give_0 rfl rfl rfl ?_
  refine T_aload_n (pc' := 2) d_Im_give_1 rfl rfl rfl ?_
  refine T_get (pc' := 5) d_Im_give_2 rfl g_Im_10 (by first | assumption | exact e_put_s | simp [e_put, *]) rfl ?_
  obtain ⟨mi, ce, he, th, id, si, ab, us, lo, rfl, hlo⟩ := fl
  refine T_V1v (pc' := 8) d_Im_give_5 rfl l_Im_27 v_Fl_copyFrom (by first | assumption | exact e_put_s | simp [e_put, *]) (Nat.le_of_ble_eq_true rfl) (c_Fl_copy X (d + 1) h f (a + 1) _ c0 (by omega) hf r1 ⟨_, _, _, _, _, _, _, _, _, rfl, hlo⟩ r2) (fun h1 hq => ?_)
  subst hq
  have fr1 : Fr f (f + 1) h (e_put h f c0) := Fr.rf.put ⟨by omega, by omega⟩
  refine T_aload_n (pc' := 9) d_Im_give_8 rfl rfl rfl ?_
  refine T_aload_n (pc' := 10) d_Im_give_9 rfl rfl rfl ?_
  refine T_get (pc' := 13) d_Im_give_10 rfl g_Im_19 ((e_put_n (by omega)).trans r0) rfl ?_
  obtain ⟨ρ, q0, -⟩ := HR_fr fr1 hk0 (by omega) hh
  refine T_V1v (pc' := 16) d_Im_give_13 rfl l_Im_31 v_Hi_copyFrom (by first | assumption | exact e_put_s | simp [e_put, *]) (Nat.le_of_ble_eq_true rfl) (c_Hi_copyFrom X d hi_ _ (a + 2) k0 k rows0 rows r5 (by omega) (HR_fr fr1 hk0 (by omega) hh) (HR_fr fr1 r5 (by omega) r4)) (fun h2 hq => ?_)
  obtain ⟨k1, k2⟩ := hq
  refine T_vret d_Im_give_16 rfl ?_
  exact ⟨rfl, c0, _, rfl, r3 rfl, r2, k1, k2⟩
end IMG
