/-! CONSTRUCTORS: history, image, search -/
theorem TR_ag {h h1 : AH} {a n m : Nat} {wi we br li fa : Nat → Int32} {sta ab : Int32} (ag : ∀ k, a ≤ k → k < a + 6 → h1.2 k = h.2 k) (tr : TR h a n m wi we br li fa sta ab) : TR h1 a n m wi we br li fa sta ab := by
  obtain ⟨t0, t1, t2, t3, t4, t5⟩ := tr
  exact ⟨(ag _ (by omega) (by omega)).trans t0, (ag _ (by omega) (by omega)).trans t1, (ag _ (by omega) (by omega)).trans t2, (ag _ (by omega) (by omega)).trans t3, (ag _ (by omega) (by omega)).trans t4, (ag _ (by omega) (by omega)).trans t5⟩
theorem RR_ag {h h1 : AH} {a sn : Nat} {f1 f2 f3 : Nat → Int32} (ag : ∀ k, a ≤ k → k < a + 4 → h1.2 k = h.2 k) (r : RR h a sn f1 f2 f3) : RR h1 a sn f1 f2 f3 := by
  obtain ⟨t0, t1, t2, t3⟩ := r
  exact ⟨(ag _ (by omega) (by omega)).trans t0, (ag _ (by omega) (by omega)).trans t1, (ag _ (by omega) (by omega)).trans t2, (ag _ (by omega) (by omega)).trans t3⟩
theorem XR_ag {h h1 : AH} {tl : Nat} {tx : Nat → Int32} (ag : ∀ k, 1 ≤ k → k < 4 → h1.2 k = h.2 k) (r : XR h tl tx) : XR h1 tl tx := by
  obtain ⟨⟨a1, a2, a3, a4, a5, r0⟩, r1, f, r2⟩ := r
  exact ⟨⟨a1, a2, a3, a4, a5, (ag _ (by omega) (by omega)).trans r0⟩, (ag _ (by omega) (by omega)).trans r1, f, (ag _ (by omega) (by omega)).trans r2⟩
theorem SR_ag {h h1 : AH} (ag : ∀ k, 31 ≤ k → k < 46 → h1.2 k = h.2 k) (r : SR h) : SR h1 := by
  obtain ⟨⟨a1, a2, a3, r0⟩, ⟨r, r1, r2⟩, ⟨f1, r3⟩, ⟨f2, r4⟩, ⟨g, r5, r6⟩, r7, r8⟩ := r
  refine ⟨⟨a1, a2, a3, (ag _ (by omega) (by omega)).trans r0⟩, ⟨r, (ag _ (by omega) (by omega)).trans r1, r2⟩, ⟨f1, (ag _ (by omega) (by omega)).trans r3⟩, ⟨f2, (ag _ (by omega) (by omega)).trans r4⟩, ⟨g, (ag _ (by omega) (by omega)).trans r5, r6⟩, fun i g1 g2 => ?_, fun i g1 g2 => ?_⟩
  · obtain ⟨f, q⟩ := r7 i g1 g2
    exact ⟨f, (ag _ (by omega) (by omega)).trans q⟩
  · obtain ⟨c, q, q2⟩ := r8 i g1 g2
    exact ⟨c, (ag _ (by omega) (by omega)).trans q, q2⟩
theorem OR_ag {h h1 : AH} (ag : ∀ k, 46 ≤ k → k < 49 → h1.2 k = h.2 k) (r : OR_ h) : OR_ h1 := by
  obtain ⟨⟨al, r0⟩, ⟨f1, r1⟩, f2, r2⟩ := r
  exact ⟨⟨al, (ag _ (by omega) (by omega)).trans r0⟩, ⟨f1, (ag _ (by omega) (by omega)).trans r1⟩, f2, (ag _ (by omega) (by omega)).trans r2⟩
theorem HR_ag {h h1 : AH} {a : Nat} {rows : Nat → Nat → Int32} (ag : ∀ k, a ≤ k → k < a + 12 → h1.2 k = h.2 k) (hr : HR h a 0 rows) : HR h1 a 0 rows := by
  obtain ⟨ρ, z0, ⟨r, z2, z3⟩, z4, z5, z6, z7⟩ := hr
  refine ⟨ρ, (ag _ (by omega) (by omega)).trans z0, ⟨r, (ag _ (by omega) (by omega)).trans z2, z3⟩, z4, z5, fun i g1 g2 => ?_, fun i hi => absurd hi (by omega)⟩
  obtain ⟨c, c1, c2⟩ := z6 i g1 g2
  exact ⟨c, (ag _ (by omega) (by omega)).trans c1, c2⟩
theorem HR_any {h : AH} {a : Nat} {rows rows' : Nat → Nat → Int32} (hr : HR h a 0 rows) : HR h a 0 rows' := by
  obtain ⟨ρ, z0, z1, z4, z5, z6, z7⟩ := hr
  exact ⟨ρ, z0, z1, z4, z5, z6, fun i hi => absurd hi (by omega)⟩
/-- a new image -/
def IZ (h : AH) (a : Nat) : Prop := h.2 a = some (oIm (a + 1) (a + 2) 0) ∧ h.2 (a + 1) = some (oFl 0 0 0 0 0 0 0 0 0) ∧ HR h (a + 2) 0 (fun _ _ => 0)
theorem IZ_ag {h h1 : AH} {a : Nat} (ag : ∀ k, a ≤ k → k < a + 14 → h1.2 k = h.2 k) (r : IZ h a) : IZ h1 a := ⟨(ag _ (by omega) (by omega)).trans r.1, (ag _ (by omega) (by omega)).trans r.2.1, HR_ag (fun k q1 q2 => ag k (by omega) (by omega)) r.2.2⟩
theorem isFl_0 : isFl (oFl 0 0 0 0 0 0 0 0 0) := ⟨0, 0, 0, 0, 0, 0, 0, 0, 0, rfl, Or.inl rfl⟩
theorem IZ_IR {h : AH} {a kn : Nat} {g : Nat → Int32} {rows : Nat → Nat → Int32} (r : IZ h a) : IR h a 0 kn g rows := ⟨r.1, ⟨_, r.2.1, isFl_0, fun z => absurd z (by decide)⟩, 0, _, r.2.2, by omega, fun z => absurd z (by decide)⟩
section INIT2
variable (X : EX) (d : Nat) (h : AH)
theorem l_Hi (a s0 : Nat) (ha : a < 500) (Q : Option Value → AH → Prop) (hk : ∀ H r, H.1 = (a + 12, s0 + 90) → H.2 a = some (oHi (a + 1) 0) → H.2 (a + 1) = some (.inr (.inl (3, 10, r))) → (∀ j, j < 10 → r j = some (a + 2 + j)) → (∀ j, j < 10 → H.2 (a + 2 + j) = some (oFl 0 0 0 0 0 0 0 0 0)) → (∀ k, k < a → H.2 k = h.2 k) → T X (d + 2) M_Hi_init 45 [.ref a, .int (nI 10)] [] H Q) : ∀ (k i : Nat), i + k = 10 → ∀ H r, H.1 = (a + 2 + i, s0 + 9 * i) → H.2 a = some (oHi (a + 1) 0) → H.2 (a + 1) = some (.inr (.inl (3, 10, r))) → (∀ j, j < i → r j = some (a + 2 + j)) → (∀ j, j < i → H.2 (a + 2 + j) = some (oFl 0 0 0 0 0 0 0 0 0)) → (∀ k, k < a → H.2 k = h.2 k) → T X (d + 2) M_Hi_init 20 [.ref a, .int (nI i)] [] H Q
  | 0, i, hi, H, r, hm, e0, e1, e2, e3, e4 => by
    have : i = 10 := by omega
    subst this
    refine T_iload_n (pc' := 21) d_Hi_init_20 rfl rfl rfl ?_
    refine T_bipush (v := 10) (pc' := 23) d_Hi_init_21 rfl (by decide) ?_
    refine T_icmp_ge (pc' := 26) (tgt := 45) d_Hi_init_23 rfl (by decide) (fun _ => ?_) (fun hzz => absurd (by decide) hzz)
    exact hk H r hm e0 e1 e2 e3 e4
  | k + 1, i, hi, H, r, hm, e0, e1, e2, e3, e4 => by
    refine T_iload_n (pc' := 21) d_Hi_init_20 rfl rfl rfl ?_
    refine T_bipush (v := 10) (pc' := 23) d_Hi_init_21 rfl (by decide) ?_
    refine T_icmp_ge (pc' := 26) (tgt := 45) d_Hi_init_23 rfl (by decide) (fun hzz => absurd hzz (nI_ge (a := i) (b := 10) (by omega) (by decide))) (fun _ => ?_)
    refine T_aload_n (pc' := 27) d_Hi_init_26 rfl rfl rfl ?_
    refine T_get (pc' := 30) d_Hi_init_27 rfl g_Hi_11 (by first | assumption | exact e_put_s | simp [e_put, *]) rfl ?_
    refine T_iload_n (pc' := 31) d_Hi_init_30 rfl rfl rfl ?_
    refine T_new1 (pc' := 34) d_Hi_init_31 rfl kc_Fl cl_Hi_9 in_Fl it_Fl df_Fl hm (by omega) (fun K nk => ?_)
    obtain ⟨n1, n2, n3⟩ := nk
    refine T_dup (pc' := 35) d_Hi_init_34 rfl rfl ?_
    refine T_I0v (pc' := 38) d_Hi_init_35 rfl l_Hi_21 v_Fl_init (Nat.le_of_ble_eq_true rfl) (c_Fl_init X _ K (a + 2 + i) _ _ _ _ _ _ _ _ _ n2) (fun K2 hq => ?_)
    subst hq
    refine T_aastoreN i (pc' := 39) d_Hi_init_38 rfl ((n3 _ (by omega)).trans e1) (Or.inl ⟨rfl, rfl⟩) ⟨by omega, by decide⟩ n2 ?_
    refine T_ii1 (c := 1) (pc' := 42) d_Hi_init_39 rfl (by decide) (Nat.le_of_ble_eq_true rfl) rfl ?_
    rw [nI_1]
    refine T_goto (pc' := 20) d_Hi_init_42 (by decide) ?_
    refine l_Hi a s0 ha Q hk k (i + 1) (by omega) _ _ ?_ ((e_put_n (by omega)).trans ((n3 _ (by omega)).trans e0)) e_put_s (fun j hj => ?_) (fun j hj => ?_) (fun k hk => (e_put_n (by omega)).trans ((n3 _ (by omega)).trans (e4 k hk)))
    · show K2.1 = _
      rw [n1]
      exact Prod.ext (by show a + 2 + i + 1 = a + 2 + (i + 1); omega) (by show s0 + 9 * i + 9 = s0 + 9 * (i + 1); omega)
    · rw [e_upr]
      by_cases e : j = i
      · rw [if_pos e, e]
      · rw [if_neg e]; exact e2 j (by omega)
    · refine (e_put_n (by omega)).trans ?_
      by_cases e : j = i
      · rw [e]; exact n2
      · exact (n3 _ (by omega)).trans (e3 j (by omega))
theorem c_Hi_init (a s : Nat) (ha : a < 500) (hm : h.1 = (a + 1, s)) (hb : h.2 a = some (.inr (.inr (1, [.null, .int 0])))) : Cv X (d + 2) M_Hi_init [.ref a] h (fun h1 => HR h1 a 0 (fun _ _ => 0) ∧ h1.1 = (a + 12, s + 100) ∧ ∀ k, k < a → h1.2 k = h.2 k) := by
  refine C_of_T rfl rfl (Nat.le_of_ble_eq_true rfl) rfl ?_
  refine T_aload_n (pc' := 1) d_Hi_init_0 rfl rfl rfl ?_
  refine T_objInit (pc' := 4) d_Hi_init_1 rfl ol_Hi_3 oi_i oi_c ?_
  refine T_aload_n (pc' := 5) d_Hi_init_4 rfl rfl rfl ?_
  refine T_bipush (v := 10) (pc' := 7) d_Hi_init_5 rfl (by decide) ?_
  refine T_newr1 (N := 10) (pc' := 10) d_Hi_init_7 rfl (Or.inl ⟨rfl, rfl⟩) cl_Hi_9 (by decide) (by decide) (by decide) hm (by omega) (fun K nk => ?_)
  obtain ⟨n1, n2, n3⟩ := nk
  have b1 := (n3 a (by omega)).trans hb
  refine T_puta0 (pc' := 13) d_Hi_init_10 rfl f_Hi_11 (fun _ => rfl) b1 ?_
  refine T_aload_n (pc' := 14) d_Hi_init_13 rfl rfl rfl ?_
  refine T_iconst (v := 0) (pc' := 15) d_Hi_init_14 rfl (by decide) ?_
  refine T_puti1 (pc' := 18) d_Hi_init_15 rfl f_Hi_17 (fun z => absurd z Bool.false_ne_true) e_put_s ?_
  refine T_iconst (v := 0) (pc' := 19) d_Hi_init_18 rfl (by decide) ?_
  refine T_is_n1 (pc' := 20) d_Hi_init_19 rfl rfl (Nat.le_of_ble_eq_true rfl) rfl ?_
  rw [e_pp]
  refine l_Hi X d h a (s + 10) ha _ (fun H r m1 e0 e1 e2 e3 e4 => ?_) 10 0 rfl _ (fun _ => none) n1 e_put_s ((e_put_n (by omega)).trans n2) (fun j hj => absurd hj (by omega)) (fun j hj => absurd hj (by omega)) (fun k hk => (e_put_n (by omega)).trans (n3 k (by omega)))
  refine T_vret d_Hi_init_45 rfl ?_
  refine ⟨rfl, ⟨fun i => a + 2 + i, e0, ⟨r, e1, e2⟩, fun i hi => ⟨by show a + 2 ≤ a + 2 + i; omega, by show a + 2 + i < a + 12; omega⟩, fun i _ j _ e => Nat.add_left_cancel e, fun i g1 g2 => ?_, fun i hi => absurd hi (by omega)⟩, m1, e4⟩
  have := e3 (i - (a + 2)) (by omega)
  rw [show a + 2 + (i - (a + 2)) = i by omega] at this
  exact ⟨_, this, isFl_0⟩
theorem c_Im_init (a s : Nat) (ha : a < 400) (hm : h.1 = (a + 1, s)) (hb : h.2 a = some (.inr (.inr (2, [.null, .null, .int 0])))) : Cv X (d + 3) M_Im_init [.ref a] h (fun h1 => IZ h1 a ∧ h1.1 = (a + 14, s + 111) ∧ ∀ k, k < a → h1.2 k = h.2 k) := by
  refine C_of_T rfl rfl (Nat.le_of_ble_eq_true rfl) rfl ?_
  refine T_aload_n (pc' := 1) d_Im_init_0 rfl rfl rfl ?_
  refine T_objInit (pc' := 4) d_Im_init_1 rfl ol_Im_1 oi_i oi_c ?_
  refine T_aload_n (pc' := 5) d_Im_init_4 rfl rfl rfl ?_
  refine T_new1 (pc' := 8) d_Im_init_5 rfl kc_Fl cl_Im_7 in_Fl it_Fl df_Fl hm (by omega) (fun K nk => ?_)
  obtain ⟨n1, n2, n3⟩ := nk
  refine T_dup (pc' := 9) d_Im_init_8 rfl rfl ?_
  refine T_I0v (pc' := 12) d_Im_init_9 rfl l_Im_9 v_Fl_init (Nat.le_of_ble_eq_true rfl) (c_Fl_init X _ K (a + 1) _ _ _ _ _ _ _ _ _ n2) (fun K2 hq => ?_)
  subst hq
  have b1 := (n3 a (by omega)).trans hb
  refine T_puto0 (pc' := 15) d_Im_init_12 rfl f_Im_10 (fun _ => rfl) b1 ?_
  refine T_aload_n (pc' := 16) d_Im_init_15 rfl rfl rfl ?_
  refine T_new1 (m := a + 2) (pc' := 19) d_Im_init_16 rfl kc_Hi cl_Im_16 in_Hi it_Hi df_Hi n1 (by omega) (fun K3 nk => ?_)
  obtain ⟨p1, p2, p3⟩ := nk
  refine T_dup (pc' := 20) d_Im_init_19 rfl rfl ?_
  refine T_I0v (pc' := 23) d_Im_init_20 rfl l_Im_18 v_Hi_init (Nat.le_of_ble_eq_true rfl) (c_Hi_init X _ K3 (a + 2) _ (by omega) p1 p2) (fun K4 hq => ?_)
  obtain ⟨hr, m4, g4⟩ := hq
  have b4 := (g4 a (by omega)).trans ((p3 a (by omega)).trans e_put_s)
  refine T_puto1 (pc' := 26) d_Im_init_23 rfl f_Im_19 (fun _ => rfl) b4 ?_
  refine T_aload_n (pc' := 27) d_Im_init_26 rfl rfl rfl ?_
  refine T_iconst (v := 0) (pc' := 28) d_Im_init_27 rfl (by decide) ?_
  refine T_putz2 (pc' := 31) d_Im_init_28 rfl f_Im_23 (fun z => absurd z Bool.false_ne_true) e_put_s (by first | assumption | exact Or.inl rfl | exact Or.inr rfl) ?_
  refine T_vret d_Im_init_31 rfl ?_
  refine ⟨rfl, ⟨e_put_s, ?_, HR_ag (fun k q1 q2 => (e_put_n (by omega)).trans (e_put_n (by omega))) hr⟩, m4, fun k hk => ?_⟩
  · exact (e_put_n (by omega)).trans ((e_put_n (by omega)).trans ((g4 _ (by omega)).trans ((p3 _ (by omega)).trans ((e_put_n (by omega)).trans n2))))
  · exact (e_put_n (by omega)).trans ((e_put_n (by omega)).trans ((g4 _ (by omega)).trans ((p3 _ (by omega)).trans ((e_put_n (by omega)).trans (n3 _ (by omega))))))
theorem l_Se (G : AH) (s0 : Nat) (Q : Option Value → AH → Prop) (hk : ∀ H r, H.1 = (46, s0 + 45) → H.2 31 = some (oSe 0 0 0) → H.2 32 = some (.inr (.inl (3, 5, r))) → (∀ j, j < 5 → r j = some (41 + j)) → (∀ j, j < 5 → H.2 (41 + j) = some (oFl 0 0 0 0 0 0 0 0 0)) → (∀ k, k < 31 ∨ (33 ≤ k ∧ k < 41) → H.2 k = G.2 k) → T X (d + 2) M_Se_init 63 [.ref 31, .int (nI 5)] [] H Q) : ∀ (k i : Nat), i + k = 5 → ∀ H r, H.1 = (41 + i, s0 + 9 * i) → H.2 31 = some (oSe 0 0 0) → H.2 32 = some (.inr (.inl (3, 5, r))) → (∀ j, j < i → r j = some (41 + j)) → (∀ j, j < i → H.2 (41 + j) = some (oFl 0 0 0 0 0 0 0 0 0)) → (∀ k, k < 31 ∨ (33 ≤ k ∧ k < 41) → H.2 k = G.2 k) → T X (d + 2) M_Se_init 39 [.ref 31, .int (nI i)] [] H Q
  | 0, i, hi, H, r, hm, e0, e1, e2, e3, e4 => by
    have : i = 5 := by omega
    subst this
    refine T_iload_n (pc' := 40) d_Se_init_39 rfl rfl rfl ?_
    refine T_iconst (v := 4) (pc' := 41) d_Se_init_40 rfl (by decide) ?_
    refine T_icmp_gt (pc' := 44) (tgt := 63) d_Se_init_41 rfl (by decide) (fun _ => ?_) (fun hzz => absurd (by decide) hzz)
    exact hk H r hm e0 e1 e2 e3 e4
  | k + 1, i, hi, H, r, hm, e0, e1, e2, e3, e4 => by
    refine T_iload_n (pc' := 40) d_Se_init_39 rfl rfl rfl ?_
    refine T_iconst (v := 4) (pc' := 41) d_Se_init_40 rfl (by decide) ?_
    refine T_icmp_gt (pc' := 44) (tgt := 63) d_Se_init_41 rfl (by decide) (fun hzz => absurd hzz (fun q => absurd q (by rw [Int32.not_lt]; exact nI_le (a := i) (b := 4) (by omega) (by decide)))) (fun _ => ?_)
    refine T_aload_n (pc' := 45) d_Se_init_44 rfl rfl rfl ?_
    refine T_get (pc' := 48) d_Se_init_45 rfl g_Se_11 (by first | assumption | exact e_put_s | simp [e_put, *]) rfl ?_
    refine T_iload_n (pc' := 49) d_Se_init_48 rfl rfl rfl ?_
    refine T_new1 (pc' := 52) d_Se_init_49 rfl kc_Fl cl_Se_9 in_Fl it_Fl df_Fl hm (by omega) (fun K nk => ?_)
    obtain ⟨n1, n2, n3⟩ := nk
    refine T_dup (pc' := 53) d_Se_init_52 rfl rfl ?_
    refine T_I0v (pc' := 56) d_Se_init_53 rfl l_Se_29 v_Fl_init (Nat.le_of_ble_eq_true rfl) (c_Fl_init X _ K (41 + i) _ _ _ _ _ _ _ _ _ n2) (fun K2 hq => ?_)
    subst hq
    refine T_aastoreN i (pc' := 57) d_Se_init_56 rfl ((n3 _ (by omega)).trans e1) (Or.inl ⟨rfl, rfl⟩) ⟨by omega, by decide⟩ n2 ?_
    refine T_ii1 (c := 1) (pc' := 60) d_Se_init_57 rfl (by decide) (Nat.le_of_ble_eq_true rfl) rfl ?_
    rw [nI_1]
    refine T_goto (pc' := 39) d_Se_init_60 (by decide) ?_
    refine l_Se G s0 Q hk k (i + 1) (by omega) _ _ ?_ ((e_put_n (by omega)).trans ((n3 _ (by omega)).trans e0)) e_put_s (fun j hj => ?_) (fun j hj => ?_) (fun k hk => (e_put_n (by omega)).trans ((n3 _ (by omega)).trans (e4 k hk)))
    · show K2.1 = _
      rw [n1]
      exact Prod.ext (by show 41 + i + 1 = 41 + (i + 1); omega) (by show s0 + 9 * i + 9 = s0 + 9 * (i + 1); omega)
    · rw [e_upr]
      by_cases e : j = i
      · rw [if_pos e, e]
      · rw [if_neg e]; exact e2 j (by omega)
    · refine (e_put_n (by omega)).trans ?_
      by_cases e : j = i
      · rw [e]; exact n2
      · exact (n3 _ (by omega)).trans (e3 j (by omega))
theorem c_Se_init (s : Nat) (hm : h.1 = (32, s)) (hb : h.2 31 = some (.inr (.inr (5, [.null, .null, .null, .null, .int 0, .int 0, .int 0])))) : Cv X (d + 2) M_Se_init [.ref 31] h (fun h1 => SR h1 ∧ h1.1 = (46, s + 113) ∧ ∀ k, k < 31 → h1.2 k = h.2 k) := by
  refine C_of_T rfl rfl (Nat.le_of_ble_eq_true rfl) rfl ?_
  refine T_aload_n (pc' := 1) d_Se_init_0 rfl rfl rfl ?_
  refine T_objInit (pc' := 4) d_Se_init_1 rfl ol_Se_3 oi_i oi_c ?_
  refine T_aload_n (pc' := 5) d_Se_init_4 rfl rfl rfl ?_
  refine T_iconst (v := 5) (pc' := 6) d_Se_init_5 rfl (by decide) ?_
  refine T_newr1 (N := 5) (pc' := 9) d_Se_init_6 rfl (Or.inl ⟨rfl, rfl⟩) cl_Se_9 (by decide) (by decide) (by decide) hm (by omega) (fun K1 nk => ?_)
  obtain ⟨m1, n1, f1⟩ := nk
  have b1 := (f1 31 (by omega)).trans hb
  refine T_puta0 (pc' := 12) d_Se_init_9 rfl f_Se_11 (fun _ => rfl) b1 ?_
  refine T_aload_n (pc' := 13) d_Se_init_12 rfl rfl rfl ?_
  refine T_iconst (v := 4) (pc' := 14) d_Se_init_13 rfl (by decide) ?_
  refine T_newi1 (N := 4) (m := 33) (pc' := 16) d_Se_init_14 rfl (Or.inl ⟨rfl, rfl⟩) ac_int (by decide) (by decide) (by decide) m1 (by omega) (fun K2 nk => ?_)
  obtain ⟨m2, n2, f2⟩ := nk
  have b2 := (f2 31 (by omega)).trans e_put_s
  refine T_puta1 (pc' := 19) d_Se_init_16 rfl f_Se_17 (fun _ => rfl) b2 ?_
  refine T_aload_n (pc' := 20) d_Se_init_19 rfl rfl rfl ?_
  refine T_iconst (v := 4) (pc' := 21) d_Se_init_20 rfl (by decide) ?_
  refine T_newi1 (N := 4) (m := 34) (pc' := 23) d_Se_init_21 rfl (Or.inl ⟨rfl, rfl⟩) ac_int (by decide) (by decide) (by decide) m2 (by omega) (fun K3 nk => ?_)
  obtain ⟨m3, n3, f3⟩ := nk
  have b3 := (f3 31 (by omega)).trans e_put_s
  refine T_puta2 (pc' := 26) d_Se_init_23 rfl f_Se_21 (fun _ => rfl) b3 ?_
  refine T_aload_n (pc' := 27) d_Se_init_26 rfl rfl rfl ?_
  refine T_iconst (v := 5) (pc' := 28) d_Se_init_27 rfl (by decide) ?_
  refine T_bipush (v := 10) (pc' := 30) d_Se_init_28 rfl (by decide) ?_
  refine T_grid1 (N := 5) (K := 10) (m := 35) (pc' := 34) d_Se_init_30 rfl cl_Se_24 ac_int (by decide) (by decide) (by decide) (by decide) (by decide) m3 (by omega) (fun K4 m4 n4 o4 f4 => ?_)
  have b4 := (f4 31 (by omega)).trans e_put_s
  refine T_puta3 (pc' := 37) d_Se_init_34 rfl f_Se_26 (fun _ => rfl) b4 ?_
  refine T_iconst (v := 0) (pc' := 38) d_Se_init_37 rfl (by decide) ?_
  refine T_is_n1 (pc' := 39) d_Se_init_38 rfl rfl (Nat.le_of_ble_eq_true rfl) rfl ?_
  refine l_Se X d _ (s + 68) _ (fun H r mm e0 e1 e2 e3 e4 => ?_) 5 0 rfl _ (fun _ => none) m4 e_put_s ?_ (fun j hj => absurd hj (by omega)) (fun j hj => absurd hj (by omega)) (fun k hk => rfl)
  · refine T_vret d_Se_init_63 rfl ?_
    obtain ⟨r4, n4, n4'⟩ := n4
    refine ⟨rfl, ⟨⟨0, 0, 0, e0⟩, ⟨r, e1, e2⟩, ⟨fun _ => 0, ?_⟩, ⟨fun _ => 0, ?_⟩, ⟨r4, ?_, n4'⟩, fun i g1 g2 => ⟨fun _ => 0, ?_⟩, fun i g1 g2 => ?_⟩, mm, fun k hk => ?_⟩
    · exact (e4 33 (by omega)).trans ((e_put_n (by decide)).trans ((f4 33 (by omega)).trans ((e_put_n (by decide)).trans ((f3 33 (by omega)).trans ((e_put_n (by decide)).trans n2)))))
    · exact (e4 34 (by omega)).trans ((e_put_n (by decide)).trans ((f4 34 (by omega)).trans ((e_put_n (by decide)).trans n3)))
    · exact (e4 35 (by omega)).trans ((e_put_n (by decide)).trans n4)
    · exact (e4 i (by omega)).trans ((e_put_n (by omega)).trans (o4 i (by omega) (by omega)))
    · have := e3 (i - 41) (by omega)
      rw [show 41 + (i - 41) = i by omega] at this
      exact ⟨_, this, isFl_0⟩
    · exact (e4 k (by omega)).trans ((e_put_n (by omega)).trans ((f4 k (by omega)).trans ((e_put_n (by omega)).trans ((f3 k (by omega)).trans ((e_put_n (by omega)).trans ((f2 k (by omega)).trans ((e_put_n (by omega)).trans (f1 k (by omega)))))))))
  · exact (e_put_n (by decide)).trans ((f4 32 (by omega)).trans ((e_put_n (by decide)).trans ((f3 32 (by omega)).trans ((e_put_n (by decide)).trans ((f2 32 (by omega)).trans ((e_put_n (by decide)).trans n1))))))
end INIT2
