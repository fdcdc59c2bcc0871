/-! the run of calls, from the start -/
theorem HR_ag2 {h h1 : AH} {a kn : Nat} {rows : Nat → Nat → Int32} (hkn : kn ≤ 10) (ag : ∀ k, a ≤ k → k < a + 12 → h1.2 k = h.2 k) (hr : HR h a kn rows) : HR h1 a kn rows := by
  obtain ⟨ρ, z0, ⟨r, z2, z3⟩, z4, z5, z6, z7⟩ := hr
  refine ⟨ρ, (ag _ (by omega) (by omega)).trans z0, ⟨r, (ag _ (by omega) (by omega)).trans z2, z3⟩, z4, z5, fun i g1 g2 => ?_, fun i hi => ?_⟩
  · obtain ⟨c, c1, c2⟩ := z6 i g1 g2
    exact ⟨c, (ag _ (by omega) (by omega)).trans c1, c2⟩
  · obtain ⟨c, c1, c2⟩ := z7 i hi
    have := z4 i (by omega)
    exact ⟨c, (ag _ (by omega) (by omega)).trans c1, c2⟩
theorem IR_ag {h h1 : AH} {a ke kn : Nat} {g : Nat → Int32} {rows : Nat → Nat → Int32} (ag : ∀ k, a ≤ k → k < a + 14 → h1.2 k = h.2 k) (r : IR h a ke kn g rows) : IR h1 a ke kn g rows := by
  obtain ⟨r0, ⟨c, r1, r2, r3⟩, k, rr, r4, r5, r6⟩ := r
  exact ⟨(ag _ (by omega) (by omega)).trans r0, ⟨c, (ag _ (by omega) (by omega)).trans r1, r2, r3⟩, k, rr, HR_ag2 r5 (fun k q1 q2 => ag k (by omega) (by omega)) r4, r5, r6⟩
theorem CI_ag {h h1 : AH} {σ : Sp} (ag : ∀ k, k < 86 → h1.2 k = h.2 k) (hkn : σ.1 3 ≤ 10) (r : CI h σ) : CI h1 σ := by
  obtain ⟨r0, r1, ⟨ab, r2⟩, ⟨n, m, wi, we, br, li, fa, sta, ab', r3⟩, ⟨c4, r4, q4⟩, ⟨c5, r5, q5⟩, r6, ⟨rr, r7, q7⟩, r8, r9, r10, ⟨f11, r11⟩, ⟨f12, r12⟩, r13, r14⟩ := r
  exact ⟨(ag _ (by omega)).trans r0, XR_ag (fun k _ _ => ag k (by omega)) r1, ⟨ab, TR_ag (fun k _ _ => ag k (by omega)) r2⟩, ⟨n, m, wi, we, br, li, fa, sta, ab', TR_ag (fun k _ _ => ag k (by omega)) r3⟩, ⟨c4, (ag _ (by omega)).trans r4, q4⟩, ⟨c5, (ag _ (by omega)).trans r5, q5⟩, HR_ag2 hkn (fun k _ _ => ag k (by omega)) r6, ⟨rr, (ag _ (by omega)).trans r7, q7⟩, SR_ag (fun k _ _ => ag k (by omega)) r8, OR_ag (fun k _ _ => ag k (by omega)) r9, RR_ag (fun k _ _ => ag k (by omega)) r10, ⟨f11, RR_ag (fun k _ _ => ag k (by omega)) r11⟩, ⟨f12, (ag _ (by omega)).trans r12⟩, IR_ag (fun k _ _ => ag k (by omega)) r13, IR_ag (fun k _ _ => ag k (by omega)) r14⟩
def h00 : AH := ((0, 0), fun _ => none)
theorem t_law (X : EX) (d : Nat) (xt : XT X) (hb : (X.2.2.2 3).1 < 2 ^ 31) : T X (d + 21) M_La_law 0 [.ref (1000000 + 3), .null, .null, .null] [] h00 (fun r h' => r = some (.int 1) ∧ h'.1 = (109, 1505)) := by
  refine T_new1 (m := 0) (s := 0) (pc' := 3) d_La_law_0 rfl kc_Tb cl_La_7 in_Tb it_Tb df_Tb rfl (by omega) (fun K0 n0 => ?_)
  refine T_dup (pc' := 4) d_La_law_3 rfl rfl ?_
  refine T_I0v (pc' := 7) d_La_law_4 rfl l_La_9 v_Tb_init (Nat.le_of_ble_eq_true rfl) (c_Tb_init X _ K0 _ n0.1 n0.2.1) (fun H0 hq => ?_)
  obtain ⟨ci, m0⟩ := hq
  refine T_as_n1 (pc' := 8) d_La_law_7 rfl rfl (Nat.le_of_ble_eq_true rfl) rfl ?_
  refine T_new1 (m := 86) (pc' := 11) d_La_law_8 rfl kc_Mo cl_La_10 in_Mo it_Mo df_Mo m0 (by omega) (fun K1 n1 => ?_)
  refine T_dup (pc' := 12) d_La_law_11 rfl rfl ?_
  refine T_I0v (pc' := 15) d_La_law_12 rfl l_La_12 v_Mo_init (Nat.le_of_ble_eq_true rfl) (c_Mo_init X _ K1 _ n1.1 n1.2.1) (fun H1 hq => ?_)
  obtain ⟨mi, m1, g1⟩ := hq
  refine T_as_n2 (pc' := 16) d_La_law_15 rfl rfl (Nat.le_of_ble_eq_true rfl) rfl ?_
  refine T_iconst (v := 0) (pc' := 17) d_La_law_16 rfl (by decide) ?_
  refine T_is_n3 (pc' := 18) d_La_law_17 rfl rfl (Nat.le_of_ble_eq_true rfl) rfl ?_
  have ci1 : CI H1 s00 := CI_ag (fun k hk => (g1 k hk).trans (n1.2.2 k (by omega))) SI_00.1.2.2.2.1 ci
  exact l_law X d xt hb (109, 1505) _ (fun h hh => ⟨rfl, hh⟩) (X.2.2.2 3).1 0 H1 s00 (by omega) (by omega) m1 ⟨ci1, mi, SI_00⟩
