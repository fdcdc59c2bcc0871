/-! Reports, History, Image -/
/-- nothing but the cells lo .. hi - 1 has changed -/
def Fr (lo hi : Nat) (h h1 : AH) : Prop := h1.1 = h.1 ∧ ∀ k, ¬ (lo ≤ k ∧ k < hi) → h1.2 k = h.2 k
theorem Fr.rf {lo hi : Nat} {h : AH} : Fr lo hi h h := ⟨rfl, fun _ _ => rfl⟩
theorem Fr.tr {lo hi : Nat} {h h1 h2 : AH} (a : Fr lo hi h h1) (b : Fr lo hi h1 h2) : Fr lo hi h h2 := ⟨b.1.trans a.1, fun k hk => (b.2 k hk).trans (a.2 k hk)⟩
theorem Fr.put {lo hi : Nat} {h h1 : AH} {k : Nat} {c : AC} (a : Fr lo hi h h1) (hk : lo ≤ k ∧ k < hi) : Fr lo hi h (e_put h1 k c) := ⟨a.1, fun j hj => (e_put_n (show j ≠ k from fun e => hj (by rw [e]; exact hk))).trans (a.2 j hj)⟩
theorem Fr.wide {lo hi lo' hi' : Nat} {h h1 : AH} (a : Fr lo hi h h1) (h1' : lo' ≤ lo) (h2 : hi ≤ hi') : Fr lo' hi' h h1 := ⟨a.1, fun k hk => a.2 k (fun q => hk ⟨by omega, by omega⟩)⟩
abbrev oRe (w1 w2 w3 : Nat) (sz : Int32) : AC := .inr (.inr (4, [.ref w1, .ref w2, .ref w3, .int sz]))
abbrev oHi (w1 : Nat) (sz : Int32) : AC := .inr (.inr (1, [.ref w1, .int sz]))
abbrev oIm (w1 w2 : Nat) (ke : Int32) : AC := .inr (.inr (2, [.ref w1, .ref w2, .int ke]))
def RR (h : AH) (a sn : Nat) (f1 f2 f3 : Nat → Int32) : Prop := h.2 a = some (oRe (a + 1) (a + 2) (a + 3) (nI sn)) ∧ h.2 (a + 1) = some (.inl (0, 6, f1)) ∧ h.2 (a + 2) = some (.inl (0, 6, f2)) ∧ h.2 (a + 3) = some (.inl (0, 6, f3))
theorem RR_fr {h h1 : AH} {a sn lo hi : Nat} {f1 f2 f3 : Nat → Int32} (fr : Fr lo hi h h1) (hd : a + 3 < lo ∨ hi ≤ a) (r : RR h a sn f1 f2 f3) : RR h1 a sn f1 f2 f3 := by
  obtain ⟨h1, h2, h3, h4⟩ := r
  exact ⟨(fr.2 _ (by omega)).trans h1, (fr.2 _ (by omega)).trans h2, (fr.2 _ (by omega)).trans h3, (fr.2 _ (by omega)).trans h4⟩
theorem TR_fr {h h1 : AH} {a n m lo hi : Nat} {wi we br li fa : Nat → Int32} {sta ab : Int32} (fr : Fr lo hi h h1) (hd : a + 5 < lo ∨ hi ≤ a) (tr : TR h a n m wi we br li fa sta ab) : TR h1 a n m wi we br li fa sta ab := by
  obtain ⟨t0, t1, t2, t3, t4, t5⟩ := tr
  exact ⟨(fr.2 _ (by omega)).trans t0, (fr.2 _ (by omega)).trans t1, (fr.2 _ (by omega)).trans t2, (fr.2 _ (by omega)).trans t3, (fr.2 _ (by omega)).trans t4, (fr.2 _ (by omega)).trans t5⟩
/-- any flight -/
def isFl (c : AC) : Prop := ∃ mi ce he th id si ab us lo : Int32, c = oFl mi ce he th id si ab us lo ∧ (lo = 0 ∨ lo = 1)
theorem FC.fl {c : AC} {g : Nat → Int32} {n m : Nat} (h : FC c g) (hg : GI n m g) : isFl c := by
  obtain ⟨si, us, rfl, -, -⟩ := h
  exact ⟨_, _, _, _, _, _, _, _, _, rfl, hg.2.2.2.1⟩
section HIST
variable (X : EX) (d : Nat) (h : AH) (a : Nat)
theorem c_Fl_copy (b : Nat) (ca cb : AC) (hab : b ≠ a) (ha : h.2 a = some ca) (hb : h.2 b = some cb) (fa : isFl ca) (fb : isFl cb) : Cv X d M_Fl_copyFrom [.ref a, .ref b] h (fun h1 => h1 = e_put h a cb) := by
  obtain ⟨mi, ce, he, th, id, si, ab, us, lo, rfl, -⟩ := fa
  obtain ⟨mi', ce', he', th', id', si', ab', us', lo', rfl, hlo⟩ := fb
  exact c_Fl_copyFrom X d h a _ _ _ _ _ _ _ _ _ b _ _ _ _ _ _ _ _ _ hab hlo ha hb
theorem c_Re_drop (sn : Nat) (f1 f2 f3 : Nat → Int32) (rr : RR h a sn f1 f2 f3) : Ci X d M_Re_drop [.ref a] h (fun v h1 => v = nI sn ∧ RR h1 a 0 f1 f2 f3 ∧ Fr a (a + 4) h h1) := by
  obtain ⟨r0, r1, r2, r3⟩ := rr
  refine C_of_T rfl rfl (Nat.le_of_ble_eq_true rfl) rfl ?_
  refine T_aload_n (pc' := 1) d_Re_drop_0 rfl rfl rfl ?_
  refine T_get (pc' := 4) d_Re_drop_1 rfl g_Re_21 (by first | assumption | exact e_put_s | simp [e_put, *]) rfl ?_
  refine T_is_n1 (pc' := 5) d_Re_drop_4 rfl rfl (Nat.le_of_ble_eq_true rfl) rfl ?_
  refine T_aload_n (pc' := 6) d_Re_drop_5 rfl rfl rfl ?_
  refine T_iconst (v := 0) (pc' := 7) d_Re_drop_6 rfl (by decide) ?_
  refine T_puti3 (pc' := 10) d_Re_drop_7 rfl f_Re_21 (fun z => absurd z Bool.false_ne_true) (by first | assumption | exact e_put_s | simp [e_put, *]) ?_
  refine T_iload_n (pc' := 11) d_Re_drop_10 rfl rfl rfl ?_
  refine T_iret d_Re_drop_11 rfl ?_
  exact ⟨_, rfl, rfl, ⟨e_put_s, (e_put_n (by omega)).trans r1, (e_put_n (by omega)).trans r2, (e_put_n (by omega)).trans r3⟩, Fr.rf.put ⟨by omega, by omega⟩⟩
theorem c_Re_add (sn : Nat) (hsn : sn ≤ 6) (f1 f2 f3 : Nat → Int32) (p q r : Int32) (rr : RR h a sn f1 f2 f3) : Ci X d M_Re_add [.ref a, .int p, .int q, .int r] h (fun v h1 => (6 ≤ sn ∧ v = -3 ∧ h1 = h) ∨ (sn < 6 ∧ v = nI (sn + 1) ∧ RR h1 a (sn + 1) (e_up f1 sn p) (e_up f2 sn q) (e_up f3 sn r) ∧ Fr a (a + 4) h h1)) := by
  obtain ⟨r0, r1, r2, r3⟩ := rr
  refine C_of_T rfl rfl (Nat.le_of_ble_eq_true rfl) rfl ?_
  refine T_aload_n (pc' := 1) d_Re_add_0 rfl rfl rfl ?_
  refine T_get (pc' := 4) d_Re_add_1 rfl g_Re_21 (by first | assumption | exact e_put_s | simp [e_put, *]) rfl ?_
  refine T_bipush (v := 6) (pc' := 6) d_Re_add_4 rfl (by decide) ?_
  by_cases hs : sn < 6
  · refine T_icmp_lt (pc' := 9) (tgt := 12) d_Re_add_6 rfl (by decide) (fun _ => ?_) (fun hzz => absurd (nI_lt (b := 6) hs (by decide)) hzz)
    refine T_aload_n (pc' := 13) d_Re_add_12 rfl rfl rfl ?_
    refine T_get (pc' := 16) d_Re_add_13 rfl g_Re_9 (by first | assumption | exact e_put_s | simp [e_put, *]) rfl ?_
    refine T_aload_n (pc' := 17) d_Re_add_16 rfl rfl rfl ?_
    refine T_get (pc' := 20) d_Re_add_17 rfl g_Re_21 (by first | assumption | exact e_put_s | simp [e_put, *]) rfl ?_
    refine T_iload_n (pc' := 21) d_Re_add_20 rfl rfl rfl ?_
    refine T_iastoreN sn (pc' := 22) d_Re_add_21 rfl r1 ⟨hs, by decide⟩ ?_
    refine T_aload_n (pc' := 23) d_Re_add_22 rfl rfl rfl ?_
    refine T_get (pc' := 26) d_Re_add_23 rfl g_Re_15 ((e_put_n (by omega)).trans r0) rfl ?_
    refine T_aload_n (pc' := 27) d_Re_add_26 rfl rfl rfl ?_
    refine T_get (pc' := 30) d_Re_add_27 rfl g_Re_21 ((e_put_n (by omega)).trans r0) rfl ?_
    refine T_iload_n (pc' := 31) d_Re_add_30 rfl rfl rfl ?_
    refine T_iastoreN sn (pc' := 32) d_Re_add_31 rfl ((e_put_n (by omega)).trans r2) ⟨hs, by decide⟩ ?_
    refine T_aload_n (pc' := 33) d_Re_add_32 rfl rfl rfl ?_
    refine T_get (pc' := 36) d_Re_add_33 rfl g_Re_18 ((e_put_n (by omega)).trans ((e_put_n (by omega)).trans r0)) rfl ?_
    refine T_aload_n (pc' := 37) d_Re_add_36 rfl rfl rfl ?_
    refine T_get (pc' := 40) d_Re_add_37 rfl g_Re_21 ((e_put_n (by omega)).trans ((e_put_n (by omega)).trans r0)) rfl ?_
    refine T_iload_n (pc' := 41) d_Re_add_40 rfl rfl rfl ?_
    refine T_iastoreN sn (pc' := 42) d_Re_add_41 rfl ((e_put_n (by omega)).trans ((e_put_n (by omega)).trans r3)) ⟨hs, by decide⟩ ?_
    refine T_aload_n (pc' := 43) d_Re_add_42 rfl rfl rfl ?_
    refine T_dup (pc' := 44) d_Re_add_43 rfl rfl ?_
    refine T_get (pc' := 47) d_Re_add_44 rfl g_Re_21 ((e_put_n (by omega)).trans ((e_put_n (by omega)).trans ((e_put_n (by omega)).trans r0))) rfl ?_
    refine T_iconst (v := 1) (pc' := 48) d_Re_add_47 rfl (by decide) ?_
    refine T_iadd (pc' := 49) d_Re_add_48 rfl ?_
    refine T_puti3 (pc' := 52) d_Re_add_49 rfl f_Re_21 (fun z => absurd z Bool.false_ne_true) ((e_put_n (by omega)).trans ((e_put_n (by omega)).trans ((e_put_n (by omega)).trans r0))) ?_
    refine T_aload_n (pc' := 53) d_Re_add_52 rfl rfl rfl ?_
    refine T_get (pc' := 56) d_Re_add_53 rfl g_Re_21 (by first | assumption | exact e_put_s | simp [e_put, *]) rfl ?_
    refine T_iret d_Re_add_56 rfl ?_
    rw [nI_1]
    refine ⟨_, rfl, Or.inr ⟨hs, rfl, ⟨e_put_s, ?_, ?_, ?_⟩, ?_⟩⟩
    · rw [e_put_n (by omega), e_put_n (by omega), e_put_n (by omega), e_put_s]
    · rw [e_put_n (by omega), e_put_n (by omega), e_put_s]
    · rw [e_put_n (by omega), e_put_s]
    · exact (((Fr.rf.put ⟨by omega, by omega⟩).put ⟨by omega, by omega⟩).put ⟨by omega, by omega⟩).put ⟨by omega, by omega⟩
  · refine T_icmp_lt (pc' := 9) (tgt := 12) d_Re_add_6 rfl (by decide) (fun hzz => absurd hzz (nI_nlt (b := 6) (by omega) (by omega))) (fun _ => ?_)
    refine T_bipush (v := (-3)) (pc' := 11) d_Re_add_9 rfl (by decide) ?_
    refine T_iret d_Re_add_11 rfl ?_
    exact ⟨_, rfl, Or.inl ⟨by omega, rfl, rfl⟩⟩
/-- what may be undone: kn flights, of these numbers, in the order of the row -/
def HR (h : AH) (a kn : Nat) (rows : Nat → Nat → Int32) : Prop := ∃ ρ : Nat → Nat, h.2 a = some (oHi (a + 1) (nI kn)) ∧ (∃ r, h.2 (a + 1) = some (.inr (.inl (3, 10, r))) ∧ ∀ i, i < 10 → r i = some (ρ i)) ∧ (∀ i, i < 10 → a + 2 ≤ ρ i ∧ ρ i < a + 12) ∧ (∀ i, i < 10 → ∀ j, j < 10 → ρ i = ρ j → i = j) ∧ (∀ i, a + 2 ≤ i → i < a + 12 → ∃ c, h.2 i = some c ∧ isFl c) ∧ (∀ i, i < kn → ∃ c, h.2 (ρ i) = some c ∧ FC c (rows i))
theorem HR_fr {h h1 : AH} {a kn lo hi : Nat} {rows : Nat → Nat → Int32} (fr : Fr lo hi h h1) (hkn : kn ≤ 10) (hd : a + 12 ≤ lo ∨ hi ≤ a) (hr : HR h a kn rows) : HR h1 a kn rows := by
  obtain ⟨ρ, h0, ⟨r, h2, h3⟩, h4, h5, h6, h7⟩ := hr
  refine ⟨ρ, (fr.2 _ (by omega)).trans h0, ⟨r, (fr.2 _ (by omega)).trans h2, h3⟩, h4, h5, fun i g1 g2 => ?_, fun i hi => ?_⟩
  · obtain ⟨c, k1, k2⟩ := h6 i g1 g2
    exact ⟨c, (fr.2 _ (by omega)).trans k1, k2⟩
  · obtain ⟨c, k1, k2⟩ := h7 i hi
    have := h4 i (by omega)
    exact ⟨c, (fr.2 _ (by omega)).trans k1, k2⟩
end HIST
