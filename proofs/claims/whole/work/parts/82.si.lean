/-! what always holds of the state goes on holding -/
theorem okP_n {n : Nat} {p : Int32} (hn : n < 1000) (h : okP n p) : p.toNatClampNeg < n := by
  obtain ⟨i, hi, rfl⟩ := (isP_iff (by omega) p).mpr h
  rw [nI_clamp (by omega)]; exact hi
theorem SI_text {σ : Sp} {l : Nat} {f : Nat → Int32} (si : SI σ) (hl : l ≤ 120) (hf : ∀ i, i < l → ∃ b, b < 256 ∧ f i = nI b) : SI (sF (sI σ 0 l) 0 f) := by
  obtain ⟨⟨a0, a1⟩, s2, s3, s4, s5, s6, s7, s8, s9⟩ := si
  have e : ∀ k, 1 ≤ k → (sF (sI σ 0 l) 0 f).2.1 k = σ.2.1 k := fun k hk => if_neg (by omega)
  refine ⟨⟨hl, a1⟩, s2, s3, fun i hi => ?_, fun z => ⟨(s5 z).1, fun i hi => ?_⟩, fun z => ⟨(s6 z).1, fun i hi => ?_⟩, s7, s8, hf⟩
  · rw [e _ (by omega)]; exact s4 i hi
  · rw [e _ (by omega)]; exact (s5 z).2 i hi
  · rw [e _ (by omega)]; exact (s6 z).2 i hi
theorem SI_type {σ : Sp} (si : SI σ) (c : Int32) : SI (a_type σ c).2 := by
  unfold a_type
  split
  · rename_i hc
    split
    · rename_i hl
      refine SI_text si (by omega) (fun i hi => ?_)
      rw [e_upL]
      split
      · obtain ⟨k, hk, rfl⟩ := nI_of2 (M := 255) (n := 255) (by decide) (Int32.not_lt.mpr hc.1) hc.2
        exact ⟨k, by omega, rfl⟩
      · exact si.2.2.2.2.2.2.2.2 i (by omega)
    · exact si
  · exact si
theorem SI_clear {σ : Sp} (si : SI σ) : SI (a_clear σ).2 := SI_text si (by omega) (fun i hi => absurd hi (by omega))
theorem SI_begins {σ : Sp} (si : SI σ) (p t : Int32) : SI (a_begins σ p t).2 := by
  have h1 := si.1.2.1
  have h2 := si.1.2.2.1
  unfold a_begins
  split
  · rename_i hc
    have q1 := okP_n (by omega) hc.1
    have q2 := okP_n (by omega) hc.2
    split
    · exact SI_flight (SI_know si) (GI_begin si.2.2.1 q1 q2 h1 h2)
    · exact si
  · exact si
theorem SI_minutes {σ : Sp} (si : SI σ) (k : Int32) : SI (a_minutes σ k).2 := by
  unfold a_minutes
  split
  · split
    · exact SI_flight (SI_know si) (GI_passN si.2.2.1 _)
    · exact si
  · exact si
theorem SI_enters {σ : Sp} (si : SI σ) (p : Int32) : SI (a_enters σ p).2 := by
  have h1 := si.1.2.1
  unfold a_enters
  split
  · rename_i hc
    have := okP_n (by omega) hc
    split
    · exact SI_flight (SI_know si) (GI_in si.2.2.1 (by omega))
    · exact si
  · exact si
theorem SI_leaves {σ : Sp} (si : SI σ) (p : Int32) : SI (a_leaves σ p).2 := by
  have h1 := si.1.2.1
  unfold a_leaves
  split
  · rename_i hc
    have := okP_n (by omega) hc
    split
    · exact SI_flight (SI_know si) (GI_out si.2.2.1 (by omega))
    · exact si
  · exact si
theorem SI_undo {σ : Sp} (si : SI σ) : SI (a_undo σ).2 := by
  have h3 := si.1.2.2.2.1
  unfold a_undo
  split
  · exact si
  · exact SI_flight (SI_hist si (by omega) (fun i hi => si.2.2.2.1 i (by omega))) (GI_cp (si.2.2.2.1 _ (by omega)))
theorem SI_saw {σ : Sp} (si : SI σ) (p m k : Int32) : SI (a_saw σ p m k).2 := by
  unfold a_saw
  split
  · rename_i hc
    split
    · rename_i hl
      refine SI_seen si (by omega) (fun i hi => ?_)
      rw [e_upL]
      split
      · obtain ⟨j, hj, rfl⟩ := s_09 (p := m) ⟨Int32.le_trans (by decide) hc.2.1.1, hc.2.1.2⟩
        refine ⟨j, ?_, hj, rfl⟩
        have := hc.2.1.1
        rcases Nat.eq_zero_or_pos j with z | z
        · subst z; exact absurd this (by decide)
        · exact z
      · exact si.2.2.2.2.2.2.1 i (by omega)
    · exact si
  · exact si
theorem SI_hears {σ : Sp} (si : SI σ) (m k : Int32) : SI (a_hears σ m k).2 := by
  unfold a_hears
  split
  · split
    · exact SI_heard si (by omega)
    · exact si
  · exact si
theorem SI_forget {σ : Sp} (si : SI σ) : SI (a_forget σ).2 := SI_heard (SI_seen si (by omega) (fun i hi => absurd hi (by omega))) (by omega)
theorem SI_mark {σ : Sp} (si : SI σ) (w p : Int32) : SI (a_mark σ w p).2 := by
  unfold a_mark
  split
  · exact SI_trace si
  · exact si
theorem SI_keep {σ : Sp} (si : SI σ) (i : Int32) : SI (a_keep σ i).2 := by
  unfold a_keep
  split
  · rename_i hc
    obtain ⟨j, hj, rfl⟩ := nI_of2 (M := 1) (n := 1) (by decide) (Int32.not_lt.mpr hc.1) hc.2
    rw [nI_clamp (by omega)]
    obtain ⟨⟨a0, a1, a2, a3, a4, a5, a6, a7, a8, a9⟩, s2, s3, s4, s5, s6, s7, s8, s9⟩ := si
    have hc : j = 0 ∨ j = 1 := by omega
    rcases hc with rfl | rfl
    · refine ⟨⟨a0, a1, a2, a3, a4, a5, Nat.le_refl 1, a7, fun _ => a3, a9⟩, s2, s3, fun i hi => ?_, fun _ => ⟨s3, fun i (hi : i < σ.1 3) => ?_⟩, fun z => ⟨(s6 z).1, fun i hi => ?_⟩, s7, s8, s9⟩
      · have hi' : i < σ.1 3 := hi
        have e : (sG σ 0 (σ.1 3) (σ.2.1 6) (fun j => σ.2.1 (20 + j))).2.1 (20 + i) = σ.2.1 (20 + i) := (if_neg (by omega)).trans (if_neg (by omega))
        rw [e]; exact s4 i hi
      · have e : (sG σ 0 (σ.1 3) (σ.2.1 6) (fun j => σ.2.1 (20 + j))).2.1 (30 + i) = σ.2.1 (20 + i) := (if_neg (by omega)).trans ((if_pos ⟨by omega, by omega⟩).trans (by rw [show 30 + i - (30 + 10 * 0) = i by omega]))
        rw [e]; exact s4 i hi
      · have e : (sG σ 0 (σ.1 3) (σ.2.1 6) (fun j => σ.2.1 (20 + j))).2.1 (40 + i) = σ.2.1 (40 + i) := (if_neg (by omega)).trans (if_neg (by omega))
        rw [e]; exact (s6 z).2 i hi
    · refine ⟨⟨a0, a1, a2, a3, a4, a5, a6, Nat.le_refl 1, a8, fun _ => a3⟩, s2, s3, fun i hi => ?_, fun z => ⟨(s5 z).1, fun i hi => ?_⟩, fun _ => ⟨s3, fun i (hi : i < σ.1 3) => ?_⟩, s7, s8, s9⟩
      · have hi' : i < σ.1 3 := hi
        have e : (sG σ 1 (σ.1 3) (σ.2.1 6) (fun j => σ.2.1 (20 + j))).2.1 (20 + i) = σ.2.1 (20 + i) := (if_neg (by omega)).trans (if_neg (by omega))
        rw [e]; exact s4 i hi
      · have hi' : i < σ.1 8 := hi
        have z' : σ.1 6 = 1 := z
        have := a8 z'
        have e : (sG σ 1 (σ.1 3) (σ.2.1 6) (fun j => σ.2.1 (20 + j))).2.1 (30 + i) = σ.2.1 (30 + i) := (if_neg (by omega)).trans (if_neg (by omega))
        rw [e]; exact (s5 z).2 i hi
      · have e : (sG σ 1 (σ.1 3) (σ.2.1 6) (fun j => σ.2.1 (20 + j))).2.1 (40 + i) = σ.2.1 (20 + i) := (if_neg (by omega)).trans ((if_pos ⟨by omega, by omega⟩).trans (by rw [show 40 + i - (30 + 10 * 1) = i by omega]))
        rw [e]; exact s4 i hi
  · exact si
theorem SI_back {σ : Sp} (si : SI σ) (i : Int32) : SI (a_back σ i).2 := by
  unfold a_back
  split
  · rename_i hc
    obtain ⟨j, hj, rfl⟩ := nI_of2 (M := 1) (n := 1) (by decide) (Int32.not_lt.mpr hc.1) hc.2
    rw [nI_clamp (by omega)]
    split
    · rename_i hk
      have hc : j = 0 ∨ j = 1 := by omega
      rcases hc with rfl | rfl
      · have := si.2.2.2.2.1 hk
        exact SI_hist (SI_flight si (GI_cp this.1)) (si.1.2.2.2.2.2.2.2.2.1 hk) (fun i hi => this.2 i hi)
      · have := si.2.2.2.2.2.1 hk
        exact SI_hist (SI_flight si (GI_cp this.1)) (si.1.2.2.2.2.2.2.2.2.2 hk) (fun i hi => this.2 i hi)
    · exact si
  · exact si
