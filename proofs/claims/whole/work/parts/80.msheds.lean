/-! sheds: the model -/
theorem MI_HA {h : AH} {σ : Sp} (mi : MI h σ) : ∃ F, HA h F ∧ FH σ F := by
  obtain ⟨-, -, ⟨-, ⟨g0, a0, b0⟩, ⟨g1, a1, b1⟩, ⟨g2, a2, b2⟩, ⟨g3, a3, b3⟩, ⟨g5, a5, b5⟩, ⟨g6, a6, b6⟩, ⟨g7, a7, b7⟩⟩, ⟨g4, a4⟩, ⟨g8, a8, b8⟩, -⟩ := mi
  refine ⟨fun j => [g0, g1, g2, g3, g4, g5, g6, g7, g8].getD j (fun _ => 0), fun j hj => ?_, b0, b1, fun i hi => ⟨b2 i hi, b3 i hi⟩, b5, fun i hi => ⟨b6 i hi, b7 i hi⟩, b8⟩
  match j, hj with
  | 0, _ => exact a0
  | 1, _ => exact a1
  | 2, _ => exact a2
  | 3, _ => exact a3
  | 4, _ => exact a4
  | 5, _ => exact a5
  | 6, _ => exact a6
  | 7, _ => exact a7
  | 8, _ => exact a8
theorem MI_par {h h1 : AH} {σ : Sp} {F : Nat → Nat → Int32} {b1 b2 b3 b4 b5 b6 b7 : Int32} (mi : MI h σ) (ex : ExP h h1) (ha : HA h1 F) (fh : FH σ F) (ho : h1.2 86 = some (oMq (nI (σ.1 0)) b1 b2 b3 b4 b5 b6 b7 (nI (σ.1 4)) (nI (σ.1 5)) σ.2.2)) : MI h1 σ := by
  obtain ⟨-, ⟨f1, r1, q1⟩, -, -, -, r5, ⟨f6, r6, q6⟩, ⟨f7, r7, q7⟩, ⟨f8, r8, q8⟩, ⟨f9, r9, q9⟩, ⟨f10, r10⟩, ⟨f11, r11⟩, ⟨f12, r12, q12⟩, ⟨f13, r13, q13⟩, ⟨f14, r14, q14⟩, ⟨f15, r15, q15⟩, ⟨f16, r16, q16⟩⟩ := mi
  obtain ⟨g1, g2, g3, g4, g5, g6⟩ := fh
  have ob : ∃ sc, h1.2 86 = some (oMo sc σ.2.2) ∧ sc 0 = nI (σ.1 0) ∧ sc 8 = nI (σ.1 4) ∧ sc 9 = nI (σ.1 5) := ⟨fun j => [nI (σ.1 0), b1, b2, b3, b4, b5, b6, b7, nI (σ.1 4), nI (σ.1 5)].getD j 0, ho, rfl, rfl, rfl⟩
  refine ⟨ob, ⟨f1, (ex.2 _ (by decide) (by decide)).trans r1, q1⟩, ⟨?_, ⟨_, ha 0 (by omega), g1⟩, ⟨_, ha 1 (by omega), g2⟩, ⟨_, ha 2 (by omega), fun i hi => (g3 i hi).1⟩, ⟨_, ha 3 (by omega), fun i hi => (g3 i hi).2⟩, ⟨_, ha 5 (by omega), g4⟩, ⟨_, ha 6 (by omega), fun i hi => (g5 i hi).1⟩, ⟨_, ha 7 (by omega), fun i hi => (g5 i hi).2⟩⟩, ⟨_, ha 4 (by omega)⟩, ⟨_, ha 8 (by omega), g6⟩, (ex.2 _ (by decide) (by decide)).trans r5, ⟨f6, (ex.2 _ (by decide) (by decide)).trans r6, q6⟩, ⟨f7, (ex.2 _ (by decide) (by decide)).trans r7, q7⟩, ⟨f8, (ex.2 _ (by decide) (by decide)).trans r8, q8⟩, ⟨f9, (ex.2 _ (by decide) (by decide)).trans r9, q9⟩, ⟨f10, (ex.2 _ (by decide) (by decide)).trans r10⟩, ⟨f11, (ex.2 _ (by decide) (by decide)).trans r11⟩, ⟨f12, (ex.2 _ (by decide) (by decide)).trans r12, q12⟩, ⟨f13, (ex.2 _ (by decide) (by decide)).trans r13, q13⟩, ⟨f14, (ex.2 _ (by decide) (by decide)).trans r14, q14⟩, ⟨f15, (ex.2 _ (by decide) (by decide)).trans r15, q15⟩, ⟨f16, (ex.2 _ (by decide) (by decide)).trans r16, q16⟩⟩
  obtain ⟨sc, o1, -⟩ := ob
  exact ⟨sc, σ.2.2, o1⟩
theorem MI_okM {h : AH} {σ : Sp} (mi : MI h σ) (si : SI σ) : ∃ f, h.2 87 = some (.inl (1, 120, f)) ∧ okM f (bt σ) (σ.1 0) := by
  obtain ⟨-, ⟨f, r1, q1⟩, -⟩ := mi
  have ok := bt_ok si
  refine ⟨f, r1, ok.1, fun i hi => ⟨?_, (ok.2 i hi).2⟩⟩
  rw [q1 i hi, (ok.2 i hi).1]
def JM (h h1 : AH) (F : Nat → Nat → Int32) (N : Nat → Int32) (c : AC) : Prop := h1.1 = h.1 ∧ (∀ k, ¬ (86 ≤ k ∧ k < 98 ∧ k ≠ 87) → h1.2 k = h.2 k) ∧ HA h1 F ∧ h1.2 97 = some (.inl (0, 11, N)) ∧ h1.2 86 = some c
theorem JM.row {h h1 : AH} {F : Nat → Nat → Int32} {N : Nat → Int32} {c : AC} {j : Nat} {f : Nat → Int32} (a : JM h h1 F N c) (hj : j < 9) : JM h (e_put h1 (88 + j) (.inl (0, mLen j, f))) (upF F j f) N c := ⟨a.1, fun k hk => (e_put_n (by omega)).trans (a.2.1 k hk), HA_put a.2.2.1 hj, (e_put_n (by omega)).trans a.2.2.2.1, (e_put_n (by omega)).trans a.2.2.2.2⟩
theorem JM.now {h h1 : AH} {F : Nat → Nat → Int32} {N : Nat → Int32} {c : AC} {f : Nat → Int32} (a : JM h h1 F N c) : JM h (e_put h1 97 (.inl (0, 11, f))) F f c := ⟨a.1, fun k hk => (e_put_n (by omega)).trans (a.2.1 k hk), fun k hk => (e_put_n (by omega)).trans (a.2.2.1 k hk), e_put_s, (e_put_n (by decide)).trans a.2.2.2.2⟩
section MSHEDS
variable (X : EX) (d : Nat) (h : AH) (σ : Sp)
theorem l_rw (F0 : Nat → Nat → Int32) (s0 b1 b2 b3 b4 b5 b6 b7 s8 s9 : Int32) (tc : Int64) (Q : Option Value → AH → Prop) (hk : ∀ h1 F, HA h1 F → (∀ j, j ≠ 0 → F j = F0 j) → (∀ j, j < 10 → F 0 j = F0 0 j) → (∀ j, j < 10 → F 0 (10 + j) = 0) → h1.2 86 = some (oMq s0 b1 b2 b3 b4 b5 b6 b7 s8 s9 tc) → ExP h h1 → T X d M_Mo_read 66 [.ref 86, .int (nI 10)] [] h1 Q) : ∀ (k i : Nat), i + k = 10 → ∀ h1 F, HA h1 F → (∀ j, j ≠ 0 → F j = F0 j) → (∀ j, j < 10 → F 0 j = F0 0 j) → (∀ j, j < i → F 0 (10 + j) = 0) → h1.2 86 = some (oMq s0 b1 b2 b3 b4 b5 b6 b7 s8 s9 tc) → ExP h h1 → T X d M_Mo_read 44 [.ref 86, .int (nI i)] [] h1 Q
  | 0, i, hi, h1, F, ha, e1, e2, e3, ho, ex => by
    have : i = 10 := by omega
    subst this
    refine T_iload_n (pc' := 45) d_Mo_read_44 rfl rfl rfl ?_
    refine T_bipush (v := 9) (pc' := 47) d_Mo_read_45 rfl (by decide) ?_
    refine T_icmp_gt (pc' := 50) (tgt := 66) d_Mo_read_47 rfl (by decide) (fun _ => ?_) (fun hzz => absurd (by decide) hzz)
    exact hk h1 F ha e1 e2 e3 ho ex
  | k + 1, i, hi, h1, F, ha, e1, e2, e3, ho, ex => by
    refine T_iload_n (pc' := 45) d_Mo_read_44 rfl rfl rfl ?_
    refine T_bipush (v := 9) (pc' := 47) d_Mo_read_45 rfl (by decide) ?_
    refine T_icmp_gt (pc' := 50) (tgt := 66) d_Mo_read_47 rfl (by decide) (fun hzz => absurd hzz (fun q => absurd q (by rw [Int32.not_lt]; exact nI_le (a := i) (b := 9) (by omega) (by decide)))) (fun _ => ?_)
    refine T_aload_n (pc' := 51) d_Mo_read_50 rfl rfl rfl ?_
    refine T_get (pc' := 54) d_Mo_read_51 rfl g_Mo_13 (by first | assumption | exact e_put_s | simp [e_put, *]) rfl ?_
    refine T_bipush (v := 10) (pc' := 56) d_Mo_read_54 rfl (by decide) ?_
    refine T_iload_n (pc' := 57) d_Mo_read_56 rfl rfl rfl ?_
    refine T_iadd (pc' := 58) d_Mo_read_57 rfl ?_
    rw [show (10 : Int32) + nI i = nI (10 + i) from nI_add 10 _]
    refine T_iconst (v := 0) (pc' := 59) d_Mo_read_58 rfl (by decide) ?_
    refine T_iastoreN (10 + i) (pc' := 60) d_Mo_read_59 rfl (ha 0 (by omega)) ⟨by show 10 + i < 20; omega, by decide⟩ ?_
    refine T_ii1 (c := 1) (pc' := 63) d_Mo_read_60 rfl (by decide) (Nat.le_of_ble_eq_true rfl) rfl ?_
    rw [nI_1]
    refine T_goto (pc' := 44) d_Mo_read_63 (by decide) ?_
    refine l_rw F0 s0 b1 b2 b3 b4 b5 b6 b7 s8 s9 tc Q hk k (i + 1) (by omega) _ _ (HA_put (j := 0) (f := e_up (F 0) (10 + i) 0) ha (by omega)) (fun j hj => ?_) (fun j hj => ?_) (fun j hj => ?_) ((e_put_n (by decide)).trans ho) (ex.put (Or.inr ⟨by omega, by omega⟩))
    · rw [upF, if_neg hj]; exact e1 j hj
    · show e_up (F 0) (10 + i) 0 j = _
      rw [e_upL, if_neg (by omega)]; exact e2 j hj
    · show e_up (F 0) (10 + i) 0 (10 + j) = _
      rw [e_upL]
      by_cases e : j = i
      · rw [if_pos (by omega)]
      · rw [if_neg (by omega)]; exact e3 j (by omega)
theorem c_Mo_read (f : Nat → Int32) (B : Nat → Nat) (L : Nat) (F : Nat → Nat → Int32) (b1 b2 b3 b4 b5 b6 b7 s8 s9 : Int32) (tc : Int64) (si : SI σ) (ok : okM f B L) (h1t : h.2 87 = some (.inl (1, 120, f))) (ha : HA h F) (fh : FH σ F) (ho : h.2 86 = some (oMq (nI L) b1 b2 b3 b4 b5 b6 b7 s8 s9 tc)) : Cv X (d + 5) M_Mo_read [.ref 86] h (fun h1 => ((∃ q, sRd B L = .inl q ∧ ∃ F a6 a7, PMO h1 L (.inl q) a6 a7 s8 s9 tc ∧ HA h1 F ∧ FH σ F) ∨ (∃ z t' F, sRd B L = .inr z ∧ PMO h1 L (.inr t') (nI z.1) (nI (z.2.1 2)) s8 s9 tc ∧ HA h1 F ∧ FH σ F ∧ SH z.2 F ∧ PSI z.2 ∧ z.1 ≤ 120)) ∧ ExP h h1) := by
  have hB : ∀ i, i < L → B i < 256 := fun i q => (ok.2 i q).2
  have hL := ok.1
  refine C_of_T rfl rfl (Nat.le_of_ble_eq_true rfl) rfl ?_
  refine T_aload_n (pc' := 1) d_Mo_read_0 rfl rfl rfl ?_
  refine T_iconst (v := 0) (pc' := 2) d_Mo_read_1 rfl (by decide) ?_
  refine T_puti11 (pc' := 5) d_Mo_read_2 rfl f_Mo_86 (fun z => absurd z Bool.false_ne_true) (by first | assumption | exact e_put_s | simp [e_put, *]) ?_
  refine T_aload_n (pc' := 6) d_Mo_read_5 rfl rfl rfl ?_
  refine T_iconst (v := 0) (pc' := 7) d_Mo_read_6 rfl (by decide) ?_
  refine T_putz15 (pc' := 10) d_Mo_read_7 rfl f_Mo_102 (fun z => absurd z Bool.false_ne_true) e_put_s (by first | assumption | exact Or.inl rfl | exact Or.inr rfl) ?_
  rw [e_pp]
  refine T_aload_n (pc' := 11) d_Mo_read_10 rfl rfl rfl ?_
  refine T_iconst (v := 0) (pc' := 12) d_Mo_read_11 rfl (by decide) ?_
  refine T_puti16 (pc' := 15) d_Mo_read_12 rfl f_Mo_120 (fun z => absurd z Bool.false_ne_true) e_put_s ?_
  rw [e_pp]
  refine T_aload_n (pc' := 16) d_Mo_read_15 rfl rfl rfl ?_
  refine T_iconst (v := 0) (pc' := 17) d_Mo_read_16 rfl (by decide) ?_
  refine T_putz17 (pc' := 20) d_Mo_read_17 rfl f_Mo_117 (fun z => absurd z Bool.false_ne_true) e_put_s (by first | assumption | exact Or.inl rfl | exact Or.inr rfl) ?_
  rw [e_pp]
  have ex1 : ExP h (e_put h 86 (oMq (nI L) 0 b2 b3 b4 0 0 0 s8 s9 tc)) := ExP.rf.put (Or.inl rfl)
  have ha1 := HA_obj (c := oMq (nI L) 0 b2 b3 b4 0 0 0 s8 s9 tc) ha
  have ho1 : (e_put h 86 (oMq (nI L) 0 b2 b3 b4 0 0 0 s8 s9 tc)).2 86 = some (oMq (nI L) 0 b2 b3 b4 0 0 0 s8 s9 tc) := e_put_s
  show T _ _ _ _ _ _ (e_put h 86 (oMq (nI L) 0 b2 b3 b4 0 0 0 s8 s9 tc)) _
  generalize e_put h 86 (oMq (nI L) 0 b2 b3 b4 0 0 0 s8 s9 tc) = H at ex1 ha1 ho1 ⊢
  refine T_aload_n (pc' := 21) d_Mo_read_20 rfl rfl rfl ?_
  refine T_get (pc' := 24) d_Mo_read_21 rfl g_Mo_17 (by first | assumption | exact e_put_s | simp [e_put, *]) rfl ?_
  refine T_iconst (v := 1) (pc' := 25) d_Mo_read_24 rfl (by decide) ?_
  refine T_iconst (v := 0) (pc' := 26) d_Mo_read_25 rfl (by decide) ?_
  refine T_iastoreL 1 (pc' := 27) d_Mo_read_26 rfl (ha1 1 (by omega)) (by decide) ?_
  have ha2 := HA_put (j := 1) (f := e_up (F 1) 1 0) ha1 (by omega)
  have ho2 : (e_put H (88 + 1) (.inl (0, mLen 1, e_up (F 1) 1 0))).2 86 = some (oMq (nI L) 0 b2 b3 b4 0 0 0 s8 s9 tc) := (e_put_n (by decide)).trans ho1
  refine T_aload_n (pc' := 28) d_Mo_read_27 rfl rfl rfl ?_
  refine T_get (pc' := 31) d_Mo_read_28 rfl g_Mo_29 ho2 rfl ?_
  refine T_iconst (v := 1) (pc' := 32) d_Mo_read_31 rfl (by decide) ?_
  refine T_iconst (v := 0) (pc' := 33) d_Mo_read_32 rfl (by decide) ?_
  refine T_iastoreL 1 (pc' := 34) d_Mo_read_33 rfl (ha2 5 (by omega)) (by decide) ?_
  have ha3 := HA_put (j := 5) (f := e_up (upF F 1 (e_up (F 1) 1 0) 5) 1 0) ha2 (by omega)
  refine T_aload_n (pc' := 35) d_Mo_read_34 rfl rfl rfl ?_
  refine T_get (pc' := 38) d_Mo_read_35 rfl g_Mo_38 ((e_put_n (by decide)).trans ho2) rfl ?_
  refine T_iconst (v := 1) (pc' := 39) d_Mo_read_38 rfl (by decide) ?_
  refine T_bipush (v := 20) (pc' := 41) d_Mo_read_39 rfl (by decide) ?_
  refine T_iastoreL 1 (pc' := 42) d_Mo_read_41 rfl (ha3 8 (by omega)) (by decide) ?_
  have ha4 := HA_put (j := 8) (f := e_up (upF (upF F 1 (e_up (F 1) 1 0)) 5 (e_up (upF F 1 (e_up (F 1) 1 0) 5) 1 0) 8) 1 20) ha3 (by omega)
  refine T_iconst (v := 0) (pc' := 43) d_Mo_read_42 rfl (by decide) ?_
  refine T_is_n1 (pc' := 44) d_Mo_read_43 rfl rfl (Nat.le_of_ble_eq_true rfl) rfl ?_
  refine l_rw X _ h _ (nI L) 0 b2 b3 b4 0 0 0 s8 s9 tc _ (fun h1 F1 hb e1 e2 e3 ho' ex => ?_) 10 0 rfl _ _ ha4 (fun _ _ => rfl) (fun _ _ => rfl) (fun j hj => absurd hj (by omega)) ((e_put_n (by decide)).trans ((e_put_n (by decide)).trans ho2)) (((ex1.put (Or.inr ⟨by omega, by omega⟩)).put (Or.inr ⟨by omega, by omega⟩)).put (Or.inr ⟨by omega, by omega⟩))
  refine T_aload_n (pc' := 67) d_Mo_read_66 rfl rfl rfl ?_
  refine T_V0v (pc' := 70) d_Mo_read_67 rfl l_Mo_106 v_Mo_step (by first | assumption | exact e_put_s | simp [e_put, *]) (Nat.le_of_ble_eq_true rfl) (c_step X _ h1 _ _ _ _ _ _ _ _ _ f B L 0 ok (by omega) ho' ((ex.2 87 (by decide) (by decide)).trans h1t)) (fun h2 hq => ?_)
  obtain ⟨so, va, rfl, mt⟩ := hq
  obtain ⟨tf1, tf2, tf3, tf4, tf5, tf6, tf7⟩ := tkn_facts B L 0 (by omega)
  have fh1 : FH σ F1 := by
    obtain ⟨g1, g2, g3, g4, g5, g6⟩ := fh
    refine ⟨fun i hi h0 => ?_, ?_, fun i hi => ?_, ?_, fun i hi => ?_, ?_⟩
    · rw [e2 i hi]; exact g1 i hi h0
    · rw [e1 1 (by decide)]; exact g2
    · rw [e1 2 (by decide), e1 3 (by decide)]; exact g3 i hi
    · rw [e1 5 (by decide)]; exact g4
    · rw [e1 6 (by decide), e1 7 (by decide)]; exact g5 i hi
    · rw [e1 8 (by decide)]; exact g6
  have sh1 : SH ps0 F1 := by
    refine ⟨fun i hi => e3 i hi, ?_, fun i hi => absurd hi (by show ¬ i < 0; omega), ?_, fun i hi => absurd hi (by show ¬ i < 0; omega), ?_⟩
    · rw [e1 1 (by decide)]; rfl
    · rw [e1 5 (by decide)]; rfl
    · rw [e1 8 (by decide)]; rfl
  refine l_Mread X d h σ s8 s9 tc f B L si ok h1t (sRd B L) _ (fun q e hx Fx a6 a7 p1 p2 p3 p4 => ⟨rfl, Or.inl ⟨q, e, Fx, a6, a7, p1, p2, p3⟩, p4⟩) (fun z e hx Fx t' p1 p2 p3 p4 p5 p6 p7 => ⟨rfl, Or.inr ⟨z, t', Fx, e, p1, p2, p3, p4, p5, p6⟩, p7⟩) 121 0 (tkn B L 0) ps0 rfl (by omega) tf2 tf4 tf5 tf3 tf7 (tk_val B L _ hB) (by omega) PSI_0 _ F1 _ ⟨so, va, e_put_s, mt⟩ (HA_obj hb) fh1 sh1 (ex.put (Or.inl rfl))
theorem l_sw (F0 : Nat → Nat → Int32) (N : Nat → Int32) (s0 b1 b2 b3 b4 b5 b6 b7 s8 s9 : Int32) (tc : Int64) (Q : Option Value → AH → Prop) (hk : ∀ h1 F, JM h h1 F N (oMq s0 b1 b2 b3 b4 b5 b6 b7 s8 s9 tc) → (∀ j, j ≠ 0 → F j = F0 j) → (∀ j, j < 10 → F 0 j = F0 0 (10 + j)) → T X d M_Mo_sheds 84 [.ref 86, .int (nI 10)] [] h1 Q) : ∀ (k i : Nat), i + k = 10 → ∀ h1 F, JM h h1 F N (oMq s0 b1 b2 b3 b4 b5 b6 b7 s8 s9 tc) → (∀ j, j ≠ 0 → F j = F0 j) → (∀ j, 10 ≤ j → F 0 j = F0 0 j) → (∀ j, j < i → F 0 j = F0 0 (10 + j)) → T X d M_Mo_sheds 57 [.ref 86, .int (nI i)] [] h1 Q
  | 0, i, hi, h1, F, jm, e1, e2, e3 => by
    have : i = 10 := by omega
    subst this
    refine T_iload_n (pc' := 58) d_Mo_sheds_57 rfl rfl rfl ?_
    refine T_bipush (v := 9) (pc' := 60) d_Mo_sheds_58 rfl (by decide) ?_
    refine T_icmp_gt (pc' := 63) (tgt := 84) d_Mo_sheds_60 rfl (by decide) (fun _ => ?_) (fun hzz => absurd (by decide) hzz)
    exact hk h1 F jm e1 e3
  | k + 1, i, hi, h1, F, jm, e1, e2, e3 => by
    obtain ⟨-, -, ha, -, ho⟩ := id jm
    refine T_iload_n (pc' := 58) d_Mo_sheds_57 rfl rfl rfl ?_
    refine T_bipush (v := 9) (pc' := 60) d_Mo_sheds_58 rfl (by decide) ?_
    refine T_icmp_gt (pc' := 63) (tgt := 84) d_Mo_sheds_60 rfl (by decide) (fun hzz => absurd hzz (fun q => absurd q (by rw [Int32.not_lt]; exact nI_le (a := i) (b := 9) (by omega) (by decide)))) (fun _ => ?_)
    refine T_aload_n (pc' := 64) d_Mo_sheds_63 rfl rfl rfl ?_
    refine T_get (pc' := 67) d_Mo_sheds_64 rfl g_Mo_13 (by first | assumption | exact e_put_s | simp [e_put, *]) rfl ?_
    refine T_iload_n (pc' := 68) d_Mo_sheds_67 rfl rfl rfl ?_
    refine T_aload_n (pc' := 69) d_Mo_sheds_68 rfl rfl rfl ?_
    refine T_get (pc' := 72) d_Mo_sheds_69 rfl g_Mo_13 (by first | assumption | exact e_put_s | simp [e_put, *]) rfl ?_
    refine T_bipush (v := 10) (pc' := 74) d_Mo_sheds_72 rfl (by decide) ?_
    refine T_iload_n (pc' := 75) d_Mo_sheds_74 rfl rfl rfl ?_
    refine T_iadd (pc' := 76) d_Mo_sheds_75 rfl ?_
    rw [show (10 : Int32) + nI i = nI (10 + i) from nI_add 10 _]
    refine T_ialoadN (10 + i) (pc' := 77) d_Mo_sheds_76 rfl (ha 0 (by omega)) ⟨by show 10 + i < 20; omega, by decide⟩ ?_
    refine T_iastoreN i (pc' := 78) d_Mo_sheds_77 rfl (ha 0 (by omega)) ⟨by show i < 20; omega, by decide⟩ ?_
    refine T_ii1 (c := 1) (pc' := 81) d_Mo_sheds_78 rfl (by decide) (Nat.le_of_ble_eq_true rfl) rfl ?_
    rw [nI_1]
    refine T_goto (pc' := 57) d_Mo_sheds_81 (by decide) ?_
    refine l_sw F0 N s0 b1 b2 b3 b4 b5 b6 b7 s8 s9 tc Q hk k (i + 1) (by omega) _ _ (jm.row (j := 0) (f := e_up (F 0) i (F 0 (10 + i))) (by omega)) (fun j hj => ?_) (fun j hj => ?_) (fun j hj => ?_)
    · rw [upF, if_neg hj]; exact e1 j hj
    · show e_up (F 0) i _ j = _
      rw [e_upL, if_neg (by omega)]; exact e2 j hj
    · show e_up (F 0) i _ j = _
      rw [e_upL]
      by_cases e : j = i
      · rw [if_pos e, e]; exact e2 _ (by omega)
      · rw [if_neg e]; exact e3 j (by omega)
theorem l_sn (F : Nat → Nat → Int32) (g : Nat → Int32) (s0 b1 b2 b3 b4 b5 b6 b7 s8 s9 : Int32) (tc : Int64) (Q : Option Value → AH → Prop) (hk : ∀ h1, JM h h1 F (sRow g 0 (fun _ => 0) 11) (oMq s0 b1 b2 b3 b4 b5 b6 b7 s8 s9 tc) → T X d M_Mo_sheds 105 [.ref 86, .int (nI 11)] [] h1 Q) : ∀ (k i : Nat), i + k = 11 → ∀ h1, JM h h1 F (sRow g 0 (fun _ => 0) i) (oMq s0 b1 b2 b3 b4 b5 b6 b7 s8 s9 tc) → T X d M_Mo_sheds 86 [.ref 86, .int (nI i)] [] h1 Q
  | 0, i, hi, h1, jm => by
    have : i = 11 := by omega
    subst this
    refine T_iload_n (pc' := 87) d_Mo_sheds_86 rfl rfl rfl ?_
    refine T_bipush (v := 11) (pc' := 89) d_Mo_sheds_87 rfl (by decide) ?_
    refine T_icmp_ge (pc' := 92) (tgt := 105) d_Mo_sheds_89 rfl (by decide) (fun _ => ?_) (fun hzz => absurd (by decide) hzz)
    exact hk h1 jm
  | k + 1, i, hi, h1, jm => by
    obtain ⟨-, -, ha, hn, ho⟩ := id jm
    refine T_iload_n (pc' := 87) d_Mo_sheds_86 rfl rfl rfl ?_
    refine T_bipush (v := 11) (pc' := 89) d_Mo_sheds_87 rfl (by decide) ?_
    refine T_icmp_ge (pc' := 92) (tgt := 105) d_Mo_sheds_89 rfl (by decide) (fun hzz => absurd hzz (nI_ge (a := i) (b := 11) (by omega) (by decide))) (fun _ => ?_)
    refine T_aload_n (pc' := 93) d_Mo_sheds_92 rfl rfl rfl ?_
    refine T_get (pc' := 96) d_Mo_sheds_93 rfl g_Mo_41 (by first | assumption | exact e_put_s | simp [e_put, *]) rfl ?_
    refine T_iload_n (pc' := 97) d_Mo_sheds_96 rfl rfl rfl ?_
    refine T_iconst (v := 0) (pc' := 98) d_Mo_sheds_97 rfl (by decide) ?_
    refine T_iastoreN i (pc' := 99) d_Mo_sheds_98 rfl hn ⟨by omega, by decide⟩ ?_
    refine T_ii1 (c := 1) (pc' := 102) d_Mo_sheds_99 rfl (by decide) (Nat.le_of_ble_eq_true rfl) rfl ?_
    rw [nI_1]
    refine T_goto (pc' := 86) d_Mo_sheds_102 (by decide) ?_
    have jm2 := jm.now (f := e_up (sRow g 0 (fun _ => 0) i) i 0)
    have e : e_up (sRow g 0 (fun _ => 0) i) i 0 = sRow g 0 (fun _ => 0) (i + 1) := by
      have := sRow_s g 0 (fun _ => (0 : Int32)) i
      rw [show 0 + i = i by omega] at this
      exact this
    rw [e] at jm2 ⊢
    exact l_sn F g s0 b1 b2 b3 b4 b5 b6 b7 s8 s9 tc Q hk k (i + 1) (by omega) _ jm2
theorem l_sp (F0 : Nat → Nat → Int32) (N0 : Nat → Int32) (n : Nat) (q6 : Nat → Int32) (hn : n ≤ 3) (h01 : F0 1 0 = nI n) (h04 : ∀ j, j < n → F0 4 (3 + j) = q6 j) (hq6 : ∀ j, j < n → q6 j = 0 ∨ q6 j = 1) (s0 b1 b2 b3 b4 b5 b6 b7 s8 s9 : Int32) (tc : Int64) (Q : Option Value → AH → Prop) (hk : ∀ h1 F N, JM h h1 F N (oMq s0 b1 b2 b3 b4 b5 b6 b7 s8 s9 tc) → (∀ j, j ≠ 2 → j ≠ 3 → F j = F0 j) → (∀ j, j < 3 → F 2 j = F0 2 (3 + j) ∧ F 3 j = F0 3 (3 + j)) → N 6 = sAb q6 n → (∀ k, k ≠ 6 → N k = N0 k) → T X d M_Mo_sheds 185 [.ref 86, .int (nI 3)] [] h1 Q) : ∀ (k i : Nat), i + k = 3 → ∀ h1 F N, JM h h1 F N (oMq s0 b1 b2 b3 b4 b5 b6 b7 s8 s9 tc) → (∀ j, j ≠ 2 → j ≠ 3 → F j = F0 j) → (∀ j, 3 ≤ j → F 2 j = F0 2 j ∧ F 3 j = F0 3 j) → (∀ j, j < i → F 2 j = F0 2 (3 + j) ∧ F 3 j = F0 3 (3 + j)) → N 6 = sAb q6 (min i n) → (∀ k, k ≠ 6 → N k = N0 k) → T X d M_Mo_sheds 107 [.ref 86, .int (nI i)] [] h1 Q
  | 0, i, hi, h1, F, N, jm, e1, e2, e3, e4, e5 => by
    have : i = 3 := by omega
    subst this
    refine T_iload_n (pc' := 108) d_Mo_sheds_107 rfl rfl rfl ?_
    refine T_iconst (v := 3) (pc' := 109) d_Mo_sheds_108 rfl (by decide) ?_
    refine T_icmp_ge (pc' := 112) (tgt := 185) d_Mo_sheds_109 rfl (by decide) (fun _ => ?_) (fun hzz => absurd (by decide) hzz)
    exact hk h1 F N jm e1 e3 (by rw [e4, show min 3 n = n by omega]) e5
  | k + 1, i, hi, h1, F, N, jm, e1, e2, e3, e4, e5 => by
    obtain ⟨-, -, ha, hnow, ho⟩ := id jm
    refine T_iload_n (pc' := 108) d_Mo_sheds_107 rfl rfl rfl ?_
    refine T_iconst (v := 3) (pc' := 109) d_Mo_sheds_108 rfl (by decide) ?_
    refine T_icmp_ge (pc' := 112) (tgt := 185) d_Mo_sheds_109 rfl (by decide) (fun hzz => absurd hzz (nI_ge (a := i) (b := 3) (by omega) (by decide))) (fun _ => ?_)
    refine T_aload_n (pc' := 113) d_Mo_sheds_112 rfl rfl rfl ?_
    refine T_get (pc' := 116) d_Mo_sheds_113 rfl g_Mo_20 (by first | assumption | exact e_put_s | simp [e_put, *]) rfl ?_
    refine T_iload_n (pc' := 117) d_Mo_sheds_116 rfl rfl rfl ?_
    refine T_aload_n (pc' := 118) d_Mo_sheds_117 rfl rfl rfl ?_
    refine T_get (pc' := 121) d_Mo_sheds_118 rfl g_Mo_20 (by first | assumption | exact e_put_s | simp [e_put, *]) rfl ?_
    refine T_iconst (v := 3) (pc' := 122) d_Mo_sheds_121 rfl (by decide) ?_
    refine T_iload_n (pc' := 123) d_Mo_sheds_122 rfl rfl rfl ?_
    refine T_iadd (pc' := 124) d_Mo_sheds_123 rfl ?_
    rw [show (3 : Int32) + nI i = nI (3 + i) from nI_add 3 _]
    refine T_ialoadN (3 + i) (pc' := 125) d_Mo_sheds_124 rfl (ha 2 (by omega)) ⟨by show 3 + i < 6; omega, by decide⟩ ?_
    refine T_iastoreN i (pc' := 126) d_Mo_sheds_125 rfl (ha 2 (by omega)) ⟨by show i < 6; omega, by decide⟩ ?_
    have jm2 := jm.row (j := 2) (f := e_up (F 2) i (F 2 (3 + i))) (by omega)
    obtain ⟨-, -, ha2, hnow2, ho2⟩ := id jm2
    refine T_aload_n (pc' := 127) d_Mo_sheds_126 rfl rfl rfl ?_
    refine T_get (pc' := 130) d_Mo_sheds_127 rfl g_Mo_23 ho2 rfl ?_
    refine T_iload_n (pc' := 131) d_Mo_sheds_130 rfl rfl rfl ?_
    refine T_aload_n (pc' := 132) d_Mo_sheds_131 rfl rfl rfl ?_
    refine T_get (pc' := 135) d_Mo_sheds_132 rfl g_Mo_23 ho2 rfl ?_
    refine T_iconst (v := 3) (pc' := 136) d_Mo_sheds_135 rfl (by decide) ?_
    refine T_iload_n (pc' := 137) d_Mo_sheds_136 rfl rfl rfl ?_
    refine T_iadd (pc' := 138) d_Mo_sheds_137 rfl ?_
    rw [show (3 : Int32) + nI i = nI (3 + i) from nI_add 3 _]
    refine T_ialoadN (3 + i) (pc' := 139) d_Mo_sheds_138 rfl (ha2 3 (by omega)) ⟨by show 3 + i < 6; omega, by decide⟩ ?_
    refine T_iastoreN i (pc' := 140) d_Mo_sheds_139 rfl (ha2 3 (by omega)) ⟨by show i < 6; omega, by decide⟩ ?_
    have jm3 := jm2.row (j := 3) (f := e_up (upF F 2 (e_up (F 2) i (F 2 (3 + i))) 3) i (upF F 2 (e_up (F 2) i (F 2 (3 + i))) 3 (3 + i))) (by omega)
    have g1 : ∀ j, j ≠ 2 → j ≠ 3 → upF (upF F 2 (e_up (F 2) i (F 2 (3 + i)))) 3 (e_up (upF F 2 (e_up (F 2) i (F 2 (3 + i))) 3) i (upF F 2 (e_up (F 2) i (F 2 (3 + i))) 3 (3 + i))) j = F0 j := fun j q1 q2 => by
      rw [upF, if_neg q2, upF, if_neg q1]; exact e1 j q1 q2
    have g2 : ∀ j, 3 ≤ j → upF (upF F 2 (e_up (F 2) i (F 2 (3 + i)))) 3 (e_up (upF F 2 (e_up (F 2) i (F 2 (3 + i))) 3) i (upF F 2 (e_up (F 2) i (F 2 (3 + i))) 3 (3 + i))) 2 j = F0 2 j ∧ upF (upF F 2 (e_up (F 2) i (F 2 (3 + i)))) 3 (e_up (upF F 2 (e_up (F 2) i (F 2 (3 + i))) 3) i (upF F 2 (e_up (F 2) i (F 2 (3 + i))) 3 (3 + i))) 3 j = F0 3 j := fun j hj => by
      show e_up (F 2) i (F 2 (3 + i)) j = F0 2 j ∧ e_up (F 3) i (F 3 (3 + i)) j = F0 3 j
      rw [e_upL, e_upL, if_neg (by omega), if_neg (by omega)]; exact e2 j hj
    have g3 : ∀ j, j < i + 1 → upF (upF F 2 (e_up (F 2) i (F 2 (3 + i)))) 3 (e_up (upF F 2 (e_up (F 2) i (F 2 (3 + i))) 3) i (upF F 2 (e_up (F 2) i (F 2 (3 + i))) 3 (3 + i))) 2 j = F0 2 (3 + j) ∧ upF (upF F 2 (e_up (F 2) i (F 2 (3 + i)))) 3 (e_up (upF F 2 (e_up (F 2) i (F 2 (3 + i))) 3) i (upF F 2 (e_up (F 2) i (F 2 (3 + i))) 3 (3 + i))) 3 j = F0 3 (3 + j) := fun j hj => by
      show e_up (F 2) i (F 2 (3 + i)) j = F0 2 (3 + j) ∧ e_up (F 3) i (F 3 (3 + i)) j = F0 3 (3 + j)
      rw [e_upL, e_upL]
      by_cases e : j = i
      · rw [if_pos e, if_pos e, e]; exact e2 _ (by omega)
      · rw [if_neg e, if_neg e]; exact e3 j (by omega)
    generalize upF (upF F 2 (e_up (F 2) i (F 2 (3 + i)))) 3 (e_up (upF F 2 (e_up (F 2) i (F 2 (3 + i))) 3) i (upF F 2 (e_up (F 2) i (F 2 (3 + i))) 3 (3 + i))) = F3 at jm3 g1 g2 g3
    generalize hH : e_put (e_put h1 (88 + 2) (.inl (0, mLen 2, e_up (F 2) i (F 2 (3 + i))))) (88 + 3) (.inl (0, mLen 3, e_up (upF F 2 (e_up (F 2) i (F 2 (3 + i))) 3) i (upF F 2 (e_up (F 2) i (F 2 (3 + i))) 3 (3 + i)))) = H at jm3
    clear hH
    obtain ⟨-, -, ha3, hnow3, ho3⟩ := id jm3
    have w1 := ha3 1 (by omega)
    have fin : ∀ b : Int32, N 6 ||| b = sAb q6 (min (i + 1) n) → T X d M_Mo_sheds 177 [.ref 86, .int (nI i)] [.int b, .int (N 6), .int 6, .ref 97] H Q := by
      intro b hb
      refine T_ior (pc' := 178) d_Mo_sheds_177 rfl ?_
      rw [hb]
      refine T_iastoreL 6 (pc' := 179) d_Mo_sheds_178 rfl hnow3 (by decide) ?_
      refine T_ii1 (c := 1) (pc' := 182) d_Mo_sheds_179 rfl (by decide) (Nat.le_of_ble_eq_true rfl) rfl ?_
      rw [nI_1]
      refine T_goto (pc' := 107) d_Mo_sheds_182 (by decide) ?_
      refine l_sp F0 N0 n q6 hn h01 h04 hq6 s0 b1 b2 b3 b4 b5 b6 b7 s8 s9 tc Q hk k (i + 1) (by omega) _ _ _ jm3.now g1 g2 g3 ?_ (fun k hk => ?_)
      · rw [e_upL, if_pos rfl]
      · rw [e_upL, if_neg hk]; exact e5 k hk
    refine T_aload_n (pc' := 141) d_Mo_sheds_140 rfl rfl rfl ?_
    refine T_get (pc' := 144) d_Mo_sheds_141 rfl g_Mo_41 (by first | assumption | exact e_put_s | simp [e_put, *]) rfl ?_
    refine T_bipush (v := 6) (pc' := 146) d_Mo_sheds_144 rfl (by decide) ?_
    refine T_dup2 (pc' := 147) d_Mo_sheds_146 rfl rfl rfl ?_
    refine T_ialoadL 6 (pc' := 148) d_Mo_sheds_147 rfl hnow3 (by decide) ?_
    refine T_iload_n (pc' := 149) d_Mo_sheds_148 rfl rfl rfl ?_
    refine T_aload_n (pc' := 150) d_Mo_sheds_149 rfl rfl rfl ?_
    refine T_get (pc' := 153) d_Mo_sheds_150 rfl g_Mo_17 (by first | assumption | exact e_put_s | simp [e_put, *]) rfl ?_
    refine T_iconst (v := 0) (pc' := 154) d_Mo_sheds_153 rfl (by decide) ?_
    refine T_ialoadL 0 (pc' := 155) d_Mo_sheds_154 rfl (by first | assumption | exact e_put_s | simp [e_put, *]) (by decide) ?_
    rw [show F3 1 0 = nI n by rw [g1 1 (by decide) (by decide)]; exact h01]
    by_cases hin : i < n
    · have hmin : min i n = i := by omega
      have hmin1 : min (i + 1) n = i + 1 := by omega
      rw [hmin] at e4
      refine T_icmp_ge (pc' := 158) (tgt := 176) d_Mo_sheds_155 rfl (by decide) (fun hzz => absurd hzz (nI_ge hin (by omega))) (fun _ => ?_)
      refine T_aload_n (pc' := 159) d_Mo_sheds_158 rfl rfl rfl ?_
      refine T_get (pc' := 162) d_Mo_sheds_159 rfl g_Mo_26 (by first | assumption | exact e_put_s | simp [e_put, *]) rfl ?_
      refine T_iconst (v := 3) (pc' := 163) d_Mo_sheds_162 rfl (by decide) ?_
      refine T_iload_n (pc' := 164) d_Mo_sheds_163 rfl rfl rfl ?_
      refine T_iadd (pc' := 165) d_Mo_sheds_164 rfl ?_
      rw [show (3 : Int32) + nI i = nI (3 + i) from nI_add 3 _]
      refine T_ialoadN (3 + i) (pc' := 166) d_Mo_sheds_165 rfl (ha3 4 (by omega)) ⟨by show 3 + i < 6; omega, by decide⟩ ?_
      rw [show F3 4 (3 + i) = q6 i by rw [g1 4 (by decide) (by decide)]; exact h04 i hin]
      refine T_iconst (v := 1) (pc' := 167) d_Mo_sheds_166 rfl (by decide) ?_
      rcases hq6 i hin with z | z
      · refine T_icmp_ne (pc' := 170) (tgt := 176) d_Mo_sheds_167 rfl (by decide) (fun _ => ?_) (fun hzz => absurd hzz (by rw [z]; decide))
        refine T_iconst (v := 0) (pc' := 177) d_Mo_sheds_176 rfl (by decide) ?_
        refine fin 0 ?_
        rw [hmin1, sAb, z, e4, show (0 : Int32) <<< (nI i &&& 31) = 0 by simp]
      · refine T_icmp_ne (pc' := 170) (tgt := 176) d_Mo_sheds_167 rfl (by decide) (fun hzz => absurd z hzz) (fun _ => ?_)
        refine T_iconst (v := 1) (pc' := 171) d_Mo_sheds_170 rfl (by decide) ?_
        refine T_iload_n (pc' := 172) d_Mo_sheds_171 rfl rfl rfl ?_
        refine T_ishl (pc' := 173) d_Mo_sheds_172 rfl ?_
        refine T_goto (pc' := 177) d_Mo_sheds_173 (by decide) ?_
        refine fin _ ?_
        rw [hmin1, sAb, z, e4]
    · refine T_icmp_ge (pc' := 158) (tgt := 176) d_Mo_sheds_155 rfl (by decide) (fun _ => ?_) (fun hzz => absurd (nI_le (by omega) (by omega)) hzz)
      refine T_iconst (v := 0) (pc' := 177) d_Mo_sheds_176 rfl (by decide) ?_
      refine fin 0 ?_
      rw [i_or0, e4, show min i n = min (i + 1) n by omega]
theorem l_sl (F0 : Nat → Nat → Int32) (N : Nat → Int32) (s0 b1 b2 b3 b4 b5 b6 b7 s8 s9 : Int32) (tc : Int64) (Q : Option Value → AH → Prop) (hk : ∀ h1 F, JM h h1 F N (oMq s0 b1 b2 b3 b4 b5 b6 b7 s8 s9 tc) → (∀ j, j ≠ 6 → j ≠ 7 → F j = F0 j) → (∀ j, j < 4 → F 6 j = F0 6 (4 + j) ∧ F 7 j = F0 7 (4 + j)) → T X d M_Mo_sheds 226 [.ref 86, .int (nI 4)] [] h1 Q) : ∀ (k i : Nat), i + k = 4 → ∀ h1 F, JM h h1 F N (oMq s0 b1 b2 b3 b4 b5 b6 b7 s8 s9 tc) → (∀ j, j ≠ 6 → j ≠ 7 → F j = F0 j) → (∀ j, 4 ≤ j → F 6 j = F0 6 j ∧ F 7 j = F0 7 j) → (∀ j, j < i → F 6 j = F0 6 (4 + j) ∧ F 7 j = F0 7 (4 + j)) → T X d M_Mo_sheds 187 [.ref 86, .int (nI i)] [] h1 Q
  | 0, i, hi, h1, F, jm, e1, e2, e3 => by
    have : i = 4 := by omega
    subst this
    refine T_iload_n (pc' := 188) d_Mo_sheds_187 rfl rfl rfl ?_
    refine T_iconst (v := 4) (pc' := 189) d_Mo_sheds_188 rfl (by decide) ?_
    refine T_icmp_ge (pc' := 192) (tgt := 226) d_Mo_sheds_189 rfl (by decide) (fun _ => ?_) (fun hzz => absurd (by decide) hzz)
    exact hk h1 F jm e1 e3
  | k + 1, i, hi, h1, F, jm, e1, e2, e3 => by
    obtain ⟨-, -, ha, hnow, ho⟩ := id jm
    refine T_iload_n (pc' := 188) d_Mo_sheds_187 rfl rfl rfl ?_
    refine T_iconst (v := 4) (pc' := 189) d_Mo_sheds_188 rfl (by decide) ?_
    refine T_icmp_ge (pc' := 192) (tgt := 226) d_Mo_sheds_189 rfl (by decide) (fun hzz => absurd hzz (nI_ge (a := i) (b := 4) (by omega) (by decide))) (fun _ => ?_)
    refine T_aload_n (pc' := 193) d_Mo_sheds_192 rfl rfl rfl ?_
    refine T_get (pc' := 196) d_Mo_sheds_193 rfl g_Mo_32 (by first | assumption | exact e_put_s | simp [e_put, *]) rfl ?_
    refine T_iload_n (pc' := 197) d_Mo_sheds_196 rfl rfl rfl ?_
    refine T_aload_n (pc' := 198) d_Mo_sheds_197 rfl rfl rfl ?_
    refine T_get (pc' := 201) d_Mo_sheds_198 rfl g_Mo_32 (by first | assumption | exact e_put_s | simp [e_put, *]) rfl ?_
    refine T_iconst (v := 4) (pc' := 202) d_Mo_sheds_201 rfl (by decide) ?_
    refine T_iload_n (pc' := 203) d_Mo_sheds_202 rfl rfl rfl ?_
    refine T_iadd (pc' := 204) d_Mo_sheds_203 rfl ?_
    rw [show (4 : Int32) + nI i = nI (4 + i) from nI_add 4 _]
    refine T_ialoadN (4 + i) (pc' := 205) d_Mo_sheds_204 rfl (ha 6 (by omega)) ⟨by show 4 + i < 8; omega, by decide⟩ ?_
    refine T_iastoreN i (pc' := 206) d_Mo_sheds_205 rfl (ha 6 (by omega)) ⟨by show i < 8; omega, by decide⟩ ?_
    have jm2 := jm.row (j := 6) (f := e_up (F 6) i (F 6 (4 + i))) (by omega)
    obtain ⟨-, -, ha2, hnow2, ho2⟩ := id jm2
    refine T_aload_n (pc' := 207) d_Mo_sheds_206 rfl rfl rfl ?_
    refine T_get (pc' := 210) d_Mo_sheds_207 rfl g_Mo_35 ho2 rfl ?_
    refine T_iload_n (pc' := 211) d_Mo_sheds_210 rfl rfl rfl ?_
    refine T_aload_n (pc' := 212) d_Mo_sheds_211 rfl rfl rfl ?_
    refine T_get (pc' := 215) d_Mo_sheds_212 rfl g_Mo_35 ho2 rfl ?_
    refine T_iconst (v := 4) (pc' := 216) d_Mo_sheds_215 rfl (by decide) ?_
    refine T_iload_n (pc' := 217) d_Mo_sheds_216 rfl rfl rfl ?_
    refine T_iadd (pc' := 218) d_Mo_sheds_217 rfl ?_
    rw [show (4 : Int32) + nI i = nI (4 + i) from nI_add 4 _]
    refine T_ialoadN (4 + i) (pc' := 219) d_Mo_sheds_218 rfl (ha2 7 (by omega)) ⟨by show 4 + i < 8; omega, by decide⟩ ?_
    refine T_iastoreN i (pc' := 220) d_Mo_sheds_219 rfl (ha2 7 (by omega)) ⟨by show i < 8; omega, by decide⟩ ?_
    have jm3 := jm2.row (j := 7) (f := e_up (upF F 6 (e_up (F 6) i (F 6 (4 + i))) 7) i (upF F 6 (e_up (F 6) i (F 6 (4 + i))) 7 (4 + i))) (by omega)
    refine T_ii1 (c := 1) (pc' := 223) d_Mo_sheds_220 rfl (by decide) (Nat.le_of_ble_eq_true rfl) rfl ?_
    rw [nI_1]
    refine T_goto (pc' := 187) d_Mo_sheds_223 (by decide) ?_
    refine l_sl F0 N s0 b1 b2 b3 b4 b5 b6 b7 s8 s9 tc Q hk k (i + 1) (by omega) _ _ jm3 (fun j q1 q2 => ?_) (fun j hj => ?_) (fun j hj => ?_)
    · rw [upF, if_neg q2, upF, if_neg q1]; exact e1 j q1 q2
    · show e_up (F 6) i (F 6 (4 + i)) j = F0 6 j ∧ e_up (F 7) i (F 7 (4 + i)) j = F0 7 j
      rw [e_upL, e_upL, if_neg (by omega), if_neg (by omega)]; exact e2 j hj
    · show e_up (F 6) i (F 6 (4 + i)) j = F0 6 (4 + j) ∧ e_up (F 7) i (F 7 (4 + i)) j = F0 7 (4 + j)
      rw [e_upL, e_upL]
      by_cases e : j = i
      · rw [if_pos e, if_pos e, e]; exact e2 _ (by omega)
      · rw [if_neg e, if_neg e]; exact e3 j (by omega)
end MSHEDS
