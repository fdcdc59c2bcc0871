/-! the text: items, the model -/
abbrev mLen : Nat → Nat := fun j => [20, 2, 6, 6, 6, 2, 8, 8, 2].getD j 0
/-- the model's told rows: 0 winds, 1 people, 2 weight, 3 breath, 4 firstIn, 5 thoughts, 6 lift, 7 fade, 8 starts -/
def HA (h : AH) (F : Nat → Nat → Int32) : Prop := ∀ j, j < 9 → h.2 (88 + j) = some (.inl (0, mLen j, F j))
def FH (σ : Sp) (F : Nat → Nat → Int32) : Prop := (∀ i, i < 10 → 0 < i → F 0 i = σ.2.1 1 i) ∧ F 1 0 = nI (σ.1 1) ∧ (∀ i, i < σ.1 1 → F 2 i = σ.2.1 2 i ∧ F 3 i = σ.2.1 3 i) ∧ F 5 0 = nI (σ.1 2) ∧ (∀ i, i < σ.1 2 → F 6 i = σ.2.1 4 i ∧ F 7 i = σ.2.1 5 i) ∧ F 8 0 = σ.2.1 12 0
def SH (ps : PS) (F : Nat → Nat → Int32) : Prop := (∀ i, i < 10 → F 0 (10 + i) = ps.2 0 i) ∧ F 1 1 = nI (ps.1 0) ∧ (∀ i, i < ps.1 0 → F 2 (3 + i) = ps.2 1 i ∧ F 3 (3 + i) = ps.2 2 i ∧ F 4 (3 + i) = ps.2 6 i) ∧ F 5 1 = nI (ps.1 1) ∧ (∀ i, i < ps.1 1 → F 6 (4 + i) = ps.2 3 i ∧ F 7 (4 + i) = ps.2 4 i) ∧ F 8 1 = ps.2 5 0
theorem HA_put {h : AH} {F : Nat → Nat → Int32} {j : Nat} {f : Nat → Int32} (ha : HA h F) (hj : j < 9) : HA (e_put h (88 + j) (.inl (0, mLen j, f))) (upF F j f) := by
  intro k hk
  by_cases e : k = j
  · subst e
    rw [upF, if_pos rfl]; exact e_put_s
  · rw [upF, if_neg e]; exact (e_put_n (by omega)).trans (ha k hk)
theorem HA_obj {h : AH} {F : Nat → Nat → Int32} {c : AC} (ha : HA h F) : HA (e_put h 86 c) F := fun k hk => (e_put_n (by omega)).trans (ha k hk)
/-- where the reading stands: wrong at a place, or at a token -/
def PMO (h : AH) (L : Nat) (st : Nat ⊕ (Nat × Nat × Nat × Nat)) (a6 a7 s8 s9 : Int32) (tc : Int64) : Prop := match st with
  | .inr t => ∃ so va, h.2 86 = some (oMq (nI L) (nI t.2.2.2) (nI t.2.2.1) so va 0 a6 a7 s8 s9 tc) ∧ MTok t so va
  | .inl q => ∃ a1 so va b6 b7, h.2 86 = some (oMq (nI L) a1 (nI q) so va 1 b6 b7 s8 s9 tc)
def dS (B : Nat → Nat) (L : Nat) (b : Bool) (st : Nat ⊕ (Nat × Nat × Nat × Nat)) : Nat ⊕ (Nat × Nat × Nat × Nat) := match st with
  | .inl q => .inl q
  | .inr t => if b = true then .inr (tkn B L t.2.2.2) else .inl t.2.2.1
def stOK (L : Nat) (st : Nat ⊕ (Nat × Nat × Nat × Nat)) : Prop := match st with
  | .inl _ => True
  | .inr t => t.2.2.2 ≤ L ∧ t.1 ≤ 4
/-- only the object, or a told row, has changed -/
def ExP (h h1 : AH) : Prop := h1.1 = h.1 ∧ ∀ k, k ≠ 86 → ¬ (88 ≤ k ∧ k < 97) → h1.2 k = h.2 k
theorem ExP.rf {h : AH} : ExP h h := ⟨rfl, fun _ _ _ => rfl⟩
theorem ExP.tr {h h1 h2 : AH} (a : ExP h h1) (b : ExP h1 h2) : ExP h h2 := ⟨b.1.trans a.1, fun k q1 q2 => (b.2 k q1 q2).trans (a.2 k q1 q2)⟩
theorem ExP.put {h h1 : AH} {k : Nat} {c : AC} (a : ExP h h1) (hk : k = 86 ∨ (88 ≤ k ∧ k < 97)) : ExP h (e_put h1 k c) := ⟨a.1, fun j q1 q2 => (e_put_n (by omega)).trans (a.2 j q1 q2)⟩
section MPARSE
variable (X : EX) (d : Nat) (h : AH) (s8 s9 : Int32) (tc : Int64)
theorem c_due (f : Nat → Int32) (B : Nat → Nat) (L : Nat) (b : Bool) (st : Nat ⊕ (Nat × Nat × Nat × Nat)) (a6 a7 : Int32) (ok : okM f B L) (so : stOK L st) (h0 : PMO h L st a6 a7 s8 s9 tc) (h1 : h.2 87 = some (.inl (1, 120, f))) : Cv X (d + 2) M_Mo_due [.ref 86, .int (bi b)] h (fun h' => ∃ c, h' = e_put h 86 c ∧ PMO h' L (dS B L b st) a6 a7 s8 s9 tc) := by
  refine C_of_T rfl rfl (Nat.le_of_ble_eq_true rfl) rfl ?_
  cases st with
  | inl q =>
    obtain ⟨a1, so', va, b6, b7, k0⟩ := h0
    refine T_aload_n (pc' := 1) d_Mo_due_0 rfl rfl rfl ?_
    refine T_get (pc' := 4) d_Mo_due_1 rfl g_Mo_102 (by first | assumption | exact e_put_s | simp [e_put, *]) rfl ?_
    refine T_if_eq (pc' := 7) (tgt := 8) d_Mo_due_4 rfl (by decide) (fun hzz => absurd hzz (by decide)) (fun _ => ?_)
    refine T_vret d_Mo_due_7 rfl ?_
    exact ⟨rfl, _, (e_put_self k0).symm, ⟨a1, so', va, b6, b7, k0⟩⟩
  | inr t =>
    obtain ⟨so', va, k0, mt⟩ := h0
    refine T_aload_n (pc' := 1) d_Mo_due_0 rfl rfl rfl ?_
    refine T_get (pc' := 4) d_Mo_due_1 rfl g_Mo_102 (by first | assumption | exact e_put_s | simp [e_put, *]) rfl ?_
    refine T_if_eq (pc' := 7) (tgt := 8) d_Mo_due_4 rfl (by decide) (fun _ => ?_) (fun hzz => absurd (by decide) hzz)
    refine T_iload_n (pc' := 9) d_Mo_due_8 rfl rfl rfl ?_
    cases b with
    | true =>
      refine T_if_eq (pc' := 12) (tgt := 19) d_Mo_due_9 rfl (by decide) (fun hzz => absurd hzz (by decide)) (fun _ => ?_)
      refine T_aload_n (pc' := 13) d_Mo_due_12 rfl rfl rfl ?_
      refine T_V0v (pc' := 16) d_Mo_due_13 rfl l_Mo_106 v_Mo_step (by first | assumption | exact e_put_s | simp [e_put, *]) (Nat.le_of_ble_eq_true rfl) (c_step X _ h _ _ _ _ _ _ _ _ _ f B L t.2.2.2 ok so.1 k0 h1) (fun h2 hq => ?_)
      obtain ⟨so2, va2, rfl, mt2⟩ := hq
      refine T_goto (pc' := 24) d_Mo_due_16 (by decide) ?_
      refine T_vret d_Mo_due_24 rfl ?_
      exact ⟨rfl, _, rfl, ⟨so2, va2, e_put_s, mt2⟩⟩
    | false =>
      refine T_if_eq (pc' := 12) (tgt := 19) d_Mo_due_9 rfl (by decide) (fun _ => ?_) (fun hzz => absurd (by decide) hzz)
      refine T_aload_n (pc' := 20) d_Mo_due_19 rfl rfl rfl ?_
      refine T_iconst (v := 1) (pc' := 21) d_Mo_due_20 rfl (by decide) ?_
      refine T_putz15 (pc' := 24) d_Mo_due_21 rfl f_Mo_102 (fun z => absurd z Bool.false_ne_true) (by first | assumption | exact e_put_s | simp [e_put, *]) (by first | assumption | exact Or.inl rfl | exact Or.inr rfl) ?_
      refine T_vret d_Mo_due_24 rfl ?_
      exact ⟨rfl, _, rfl, ⟨_, _, _, _, _, e_put_s⟩⟩
abbrev nOk (lo hi : Nat) (t : Nat × Nat × Nat × Nat) : Prop := t.1 = 2 ∧ lo ≤ t.2.1 ∧ t.2.1 ≤ hi
def nS (B : Nat → Nat) (L lo hi : Nat) (st : Nat ⊕ (Nat × Nat × Nat × Nat)) : Nat ⊕ (Nat × Nat × Nat × Nat) := match st with
  | .inl q => .inl q
  | .inr t => if nOk lo hi t then .inr (tkn B L t.2.2.2) else .inl t.2.2.1
theorem c_number (f : Nat → Int32) (B : Nat → Nat) (L lo hi : Nat) (hlo : lo < 1000) (hhi : hi < 1000) (st : Nat ⊕ (Nat × Nat × Nat × Nat)) (a6 a7 : Int32) (ok : okM f B L) (so : stOK L st) (sv : ∀ t, st = .inr t → t.2.1 < 256) (h0 : PMO h L st a6 a7 s8 s9 tc) (h1 : h.2 87 = some (.inl (1, 120, f))) : Ci X (d + 3) M_Mo_number [.ref 86, .int (nI lo), .int (nI hi)] h (fun v h' => (∃ c, h' = e_put h 86 c) ∧ PMO h' L (nS B L lo hi st) a6 a7 s8 s9 tc ∧ ∀ t, st = .inr t → nOk lo hi t → v = nI t.2.1) := by
  have hobj : ∃ b1 b2 b3 b4 b5 b6 b7, h.2 86 = some (oMq (nI L) b1 b2 b3 b4 b5 b6 b7 s8 s9 tc) := by
    cases st with
    | inl q =>
      obtain ⟨a1, so', va, b6, b7, k0⟩ := h0
      exact ⟨_, _, _, _, _, _, _, k0⟩
    | inr t =>
      obtain ⟨so', va, k0, mt⟩ := h0
      exact ⟨_, _, _, _, _, _, _, k0⟩
  obtain ⟨b1, b2, b3, b4, b5, b6, b7, k0⟩ := hobj
  have fin : ∀ b : Bool, (∀ t, st = .inr t → (b = true ↔ nOk lo hi t)) → (∀ t, st = .inr t → nOk lo hi t → b4 = nI t.2.1) → T X (d + 3) M_Mo_number 28 [.ref 86, .int (nI lo), .int (nI hi), .int b4] [.int (bi b), .ref 86] h (fun r h' => ∃ v : Int32, r = some (.int v) ∧ (∃ c, h' = e_put h 86 c) ∧ PMO h' L (nS B L lo hi st) a6 a7 s8 s9 tc ∧ ∀ t, st = .inr t → nOk lo hi t → v = nI t.2.1) := by
    intro b hb hv
    refine T_V1v (pc' := 31) d_Mo_number_28 rfl l_Mo_109 v_Mo_due (by first | assumption | exact e_put_s | simp [e_put, *]) (Nat.le_of_ble_eq_true rfl) (c_due X _ h s8 s9 tc f B L b st a6 a7 ok so h0 h1) (fun h2 hq => ?_)
    obtain ⟨c, rfl, pm⟩ := hq
    refine T_iload_n (pc' := 32) d_Mo_number_31 rfl rfl rfl ?_
    refine T_iret d_Mo_number_32 rfl ?_
    refine ⟨_, rfl, ⟨c, rfl⟩, ?_, hv⟩
    have e : dS B L b st = nS B L lo hi st := by
      cases st with
      | inl q => rfl
      | inr t =>
        show (if b = true then (.inr (tkn B L t.2.2.2) : Nat ⊕ (Nat × Nat × Nat × Nat)) else .inl t.2.2.1) = if nOk lo hi t then .inr (tkn B L t.2.2.2) else .inl t.2.2.1
        by_cases z : nOk lo hi t
        · rw [if_pos z, if_pos ((hb t rfl).mpr z)]
        · rw [if_neg z, if_neg (fun y => z ((hb t rfl).mp y))]
    rw [← e]
    exact pm
  refine C_of_T rfl rfl (Nat.le_of_ble_eq_true rfl) rfl ?_
  refine T_aload_n (pc' := 1) d_Mo_number_0 rfl rfl rfl ?_
  refine T_get (pc' := 4) d_Mo_number_1 rfl g_Mo_96 (by first | assumption | exact e_put_s | simp [e_put, *]) rfl ?_
  refine T_is_n3 (pc' := 5) d_Mo_number_4 rfl rfl (Nat.le_of_ble_eq_true rfl) rfl ?_
  refine T_aload_n (pc' := 6) d_Mo_number_5 rfl rfl rfl ?_
  refine T_aload_n (pc' := 7) d_Mo_number_6 rfl rfl rfl ?_
  refine T_get (pc' := 10) d_Mo_number_7 rfl g_Mo_99 (by first | assumption | exact e_put_s | simp [e_put, *]) rfl ?_
  refine T_iconst (v := 2) (pc' := 11) d_Mo_number_10 rfl (by decide) ?_
  cases st with
  | inl q =>
    by_cases hs : b3 = 2
    · refine T_icmp_ne (pc' := 14) (tgt := 27) d_Mo_number_11 rfl (by decide) (fun hzz => absurd hs hzz) (fun _ => ?_)
      refine T_iload_n (pc' := 15) d_Mo_number_14 rfl rfl rfl ?_
      refine T_iload_n (pc' := 16) d_Mo_number_15 rfl rfl rfl ?_
      refine T_iload_n (pc' := 17) d_Mo_number_16 rfl rfl rfl ?_
      refine T_S3i (pc' := 20) d_Mo_number_17 rfl l_Mo_78 v_Mo_in (Nat.le_of_ble_eq_true rfl) (c_Mo_in X _ h b4 (nI lo) (nI hi)) (fun v h2 hq => ?_)
      obtain ⟨rfl, ⟨z, rfl⟩ | ⟨z, rfl⟩⟩ := hq
      · refine T_if_eq (pc' := 23) (tgt := 27) d_Mo_number_20 rfl (by decide) (fun hzz => absurd hzz (by decide)) (fun _ => ?_)
        refine T_iconst (v := 1) (pc' := 24) d_Mo_number_23 rfl (by decide) ?_
        refine T_goto (pc' := 28) d_Mo_number_24 (by decide) ?_
        exact fin true (fun t e => by cases e) (fun t e => by cases e)
      · refine T_if_eq (pc' := 23) (tgt := 27) d_Mo_number_20 rfl (by decide) (fun _ => ?_) (fun hzz => absurd (by decide) hzz)
        refine T_iconst (v := 0) (pc' := 28) d_Mo_number_27 rfl (by decide) ?_
        exact fin false (fun t e => by cases e) (fun t e => by cases e)
    · refine T_icmp_ne (pc' := 14) (tgt := 27) d_Mo_number_11 rfl (by decide) (fun _ => ?_) (fun hzz => absurd hzz hs)
      refine T_iconst (v := 0) (pc' := 28) d_Mo_number_27 rfl (by decide) ?_
      exact fin false (fun t e => by cases e) (fun t e => by cases e)
  | inr t =>
    have hval := sv t rfl
    obtain ⟨so', va, k0', mt⟩ := h0
    rw [k0] at k0'
    have eb3 : b3 = so' := by injection k0' with k0'; injection k0' with k0'; injection k0' with k0'; injection k0' with _ k0'; simp at k0'; exact k0'.2.2.1
    have eb4 : b4 = va := by injection k0' with k0'; injection k0' with k0'; injection k0' with k0'; injection k0' with _ k0'; simp at k0'; exact k0'.2.2.2.1
    subst eb3
    subst eb4
    obtain ⟨m0, m1, m2, m3, m4⟩ := mt
    by_cases h2 : t.1 = 2
    · obtain ⟨rfl, rfl⟩ := m2 h2
      refine T_icmp_ne (pc' := 14) (tgt := 27) d_Mo_number_11 rfl (by decide) (fun hzz => absurd rfl hzz) (fun _ => ?_)
      refine T_iload_n (pc' := 15) d_Mo_number_14 rfl rfl rfl ?_
      refine T_iload_n (pc' := 16) d_Mo_number_15 rfl rfl rfl ?_
      refine T_iload_n (pc' := 17) d_Mo_number_16 rfl rfl rfl ?_
      refine T_S3i (pc' := 20) d_Mo_number_17 rfl l_Mo_78 v_Mo_in (Nat.le_of_ble_eq_true rfl) (c_Mo_in X _ h (nI t.2.1) (nI lo) (nI hi)) (fun v h2' hq => ?_)
      rw [nI_leI (by omega) (by omega), nI_leI (by omega) (by omega)] at hq
      obtain ⟨rfl, ⟨z, rfl⟩ | ⟨z, rfl⟩⟩ := hq
      · refine T_if_eq (pc' := 23) (tgt := 27) d_Mo_number_20 rfl (by decide) (fun hzz => absurd hzz (by decide)) (fun _ => ?_)
        refine T_iconst (v := 1) (pc' := 24) d_Mo_number_23 rfl (by decide) ?_
        refine T_goto (pc' := 28) d_Mo_number_24 (by decide) ?_
        exact fin true (fun t' e => by cases e; exact ⟨fun _ => ⟨h2, z⟩, fun _ => rfl⟩) (fun t' e _ => by cases e; rfl)
      · refine T_if_eq (pc' := 23) (tgt := 27) d_Mo_number_20 rfl (by decide) (fun _ => ?_) (fun hzz => absurd (by decide) hzz)
        refine T_iconst (v := 0) (pc' := 28) d_Mo_number_27 rfl (by decide) ?_
        exact fin false (fun t' e => by cases e; exact ⟨fun y => absurd y (by decide), fun y => absurd y.2 z⟩) (fun t' e _ => by cases e; rfl)
    · have hne : ¬ b3 = 2 := by
        have hc : t.1 = 0 ∨ t.1 = 1 ∨ t.1 = 3 ∨ t.1 = 4 := by have := so.2; omega
        rcases hc with z | z | z | z
        · rw [m0 z]; decide
        · rw [(m1 z).1]; decide
        · rw [m3 z]; decide
        · rw [m4 z]; decide
      refine T_icmp_ne (pc' := 14) (tgt := 27) d_Mo_number_11 rfl (by decide) (fun _ => ?_) (fun hzz => absurd hzz hne)
      refine T_iconst (v := 0) (pc' := 28) d_Mo_number_27 rfl (by decide) ?_
      exact fin false (fun t' e => by cases e; exact ⟨fun y => absurd y (by decide), fun y => absurd y.1 h2⟩) (fun t' e y => by cases e; exact absurd y.1 h2)
end MPARSE
