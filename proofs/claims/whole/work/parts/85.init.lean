/-! CONSTRUCTORS: rows -/
section INIT
variable (X : EX) (d : Nat) (h : AH)
theorem c_Tx_init (s : Nat) (hm : h.1 = (2, s)) (hb : h.2 1 = some (.inr (.inr (6, [.null, .int 0, .int 0, .int 0, .int 0, .int 0, .null, .int 0])))) : Cv X (d + 1) M_Tx_init [.ref 1] h (fun h1 => XR h1 0 (fun _ => 0) ∧ h1.1 = (4, s + 123) ∧ ∀ k, k < 1 → h1.2 k = h.2 k) := by
  refine C_of_T rfl rfl (Nat.le_of_ble_eq_true rfl) rfl ?_
  refine T_aload_n (pc' := 1) d_Tx_init_0 rfl rfl rfl ?_
  refine T_objInit (pc' := 4) d_Tx_init_1 rfl ol_Tx_3 oi_i oi_c ?_
  refine T_aload_n (pc' := 5) d_Tx_init_4 rfl rfl rfl ?_
  refine T_bipush (v := 120) (pc' := 7) d_Tx_init_5 rfl (by decide) ?_
  refine T_newA (l' := [(0, 120)]) (m := 2) (N := 120) (a := 1) (l := []) (pc' := 9) d_Tx_init_7 rfl (Or.inl ⟨rfl, rfl⟩) ac_int (by decide) (by decide) (by decide) (AL0 hm hb) rfl (by omega) rfl (fun H1 b1 al1 => ?_)
  refine T_puta0 (pc' := 12) d_Tx_init_9 rfl f_Tx_9 (fun _ => rfl) b1 ?_
  refine T_aload_n (pc' := 13) d_Tx_init_12 rfl rfl rfl ?_
  refine T_iconst (v := 0) (pc' := 14) d_Tx_init_13 rfl (by decide) ?_
  refine T_puti1 (pc' := 17) d_Tx_init_14 rfl f_Tx_15 (fun z => absurd z Bool.false_ne_true) e_put_s ?_
  refine T_aload_n (pc' := 18) d_Tx_init_17 rfl rfl rfl ?_
  refine T_iconst (v := 3) (pc' := 19) d_Tx_init_18 rfl (by decide) ?_
  refine T_newA (l' := [(0, 120), (0, 3)]) (m := 3) (N := 3) (pc' := 21) d_Tx_init_19 rfl (Or.inl ⟨rfl, rfl⟩) ac_int (by decide) (by decide) (by decide) al1.put.put rfl (by omega) rfl (fun H2 b2 al2 => ?_)
  refine T_puta6 (pc' := 24) d_Tx_init_21 rfl f_Tx_19 (fun _ => rfl) b2 ?_
  refine T_vret d_Tx_init_24 rfl ?_
  have fin : ∀ H : AH, AL h H 1 (oTx 0 0 0 0 0 0) [(0, 120), (0, 3)] (s + 120 + 3) → XR H 0 (fun _ => 0) ∧ H.1 = (4, s + 123) ∧ ∀ k, k < 1 → H.2 k = h.2 k := fun H A => ⟨⟨⟨0, 0, 0, 0, 0, A.2.1⟩, A.2.2.1 0 _ rfl, _, A.2.2.1 1 _ rfl⟩, A.1, A.2.2.2⟩
  exact ⟨rfl, fin _ al2.put⟩
theorem c_To_init (a s : Nat) (ha : a < 500) (hm : h.1 = (a + 1, s)) (hb : h.2 a = some (.inr (.inr (7, [.null, .null, .null, .null, .null, .int 0, .int 0, .int 0, .int 0])))) : Cv X (d + 1) M_To_init [.ref a] h (fun h1 => TR h1 a 0 0 (fun _ => 0) (fun _ => 0) (fun _ => 0) (fun _ => 0) (fun _ => 0) 20 0 ∧ h1.1 = (a + 6, s + 24) ∧ ∀ k, k < a → h1.2 k = h.2 k) := by
  refine C_of_T rfl rfl (Nat.le_of_ble_eq_true rfl) rfl ?_
  refine T_aload_n (pc' := 1) d_To_init_0 rfl rfl rfl ?_
  refine T_objInit (pc' := 4) d_To_init_1 rfl ol_To_3 oi_i oi_c ?_
  refine T_aload_n (pc' := 5) d_To_init_4 rfl rfl rfl ?_
  refine T_bipush (v := 10) (pc' := 7) d_To_init_5 rfl (by decide) ?_
  refine T_newA (l' := [(0, 10)]) (m := a + 1) (N := 10) (l := []) (pc' := 9) d_To_init_7 rfl (Or.inl ⟨rfl, rfl⟩) ac_int (by decide) (by decide) (by decide) (AL0 hm hb) rfl (by omega) rfl (fun H1 b1 al1 => ?_)
  refine T_puta0 (pc' := 12) d_To_init_9 rfl f_To_9 (fun _ => rfl) b1 ?_
  refine T_aload_n (pc' := 13) d_To_init_12 rfl rfl rfl ?_
  refine T_iconst (v := 3) (pc' := 14) d_To_init_13 rfl (by decide) ?_
  refine T_newA (l' := [(0, 10), (0, 3)]) (m := a + 2) (N := 3) (pc' := 16) d_To_init_14 rfl (Or.inl ⟨rfl, rfl⟩) ac_int (by decide) (by decide) (by decide) al1.put rfl (by omega) rfl (fun H2 b2 al2 => ?_)
  refine T_puta1 (pc' := 19) d_To_init_16 rfl f_To_15 (fun _ => rfl) b2 ?_
  refine T_aload_n (pc' := 20) d_To_init_19 rfl rfl rfl ?_
  refine T_iconst (v := 3) (pc' := 21) d_To_init_20 rfl (by decide) ?_
  refine T_newA (l' := [(0, 10), (0, 3), (0, 3)]) (m := a + 3) (N := 3) (pc' := 23) d_To_init_21 rfl (Or.inl ⟨rfl, rfl⟩) ac_int (by decide) (by decide) (by decide) al2.put rfl (by omega) rfl (fun H3 b3 al3 => ?_)
  refine T_puta2 (pc' := 26) d_To_init_23 rfl f_To_18 (fun _ => rfl) b3 ?_
  refine T_aload_n (pc' := 27) d_To_init_26 rfl rfl rfl ?_
  refine T_iconst (v := 4) (pc' := 28) d_To_init_27 rfl (by decide) ?_
  refine T_newA (l' := [(0, 10), (0, 3), (0, 3), (0, 4)]) (m := a + 4) (N := 4) (pc' := 30) d_To_init_28 rfl (Or.inl ⟨rfl, rfl⟩) ac_int (by decide) (by decide) (by decide) al3.put rfl (by omega) rfl (fun H4 b4 al4 => ?_)
  refine T_puta3 (pc' := 33) d_To_init_30 rfl f_To_21 (fun _ => rfl) b4 ?_
  refine T_aload_n (pc' := 34) d_To_init_33 rfl rfl rfl ?_
  refine T_iconst (v := 4) (pc' := 35) d_To_init_34 rfl (by decide) ?_
  refine T_newA (l' := [(0, 10), (0, 3), (0, 3), (0, 4), (0, 4)]) (m := a + 5) (N := 4) (pc' := 37) d_To_init_35 rfl (Or.inl ⟨rfl, rfl⟩) ac_int (by decide) (by decide) (by decide) al4.put rfl (by omega) rfl (fun H5 b5 al5 => ?_)
  refine T_puta4 (pc' := 40) d_To_init_37 rfl f_To_24 (fun _ => rfl) b5 ?_
  refine T_aload_n (pc' := 41) d_To_init_40 rfl rfl rfl ?_
  refine T_iconst (v := 0) (pc' := 42) d_To_init_41 rfl (by decide) ?_
  refine T_puti5 (pc' := 45) d_To_init_42 rfl f_To_27 (fun z => absurd z Bool.false_ne_true) e_put_s ?_
  refine T_aload_n (pc' := 46) d_To_init_45 rfl rfl rfl ?_
  refine T_iconst (v := 0) (pc' := 47) d_To_init_46 rfl (by decide) ?_
  rw [e_pp]
  refine T_puti6 (pc' := 50) d_To_init_47 rfl f_To_31 (fun z => absurd z Bool.false_ne_true) e_put_s ?_
  refine T_aload_n (pc' := 51) d_To_init_50 rfl rfl rfl ?_
  refine T_bipush (v := 20) (pc' := 53) d_To_init_51 rfl (by decide) ?_
  rw [e_pp]
  refine T_puti7 (pc' := 56) d_To_init_53 rfl f_To_34 (fun z => absurd z Bool.false_ne_true) e_put_s ?_
  refine T_aload_n (pc' := 57) d_To_init_56 rfl rfl rfl ?_
  refine T_iconst (v := 0) (pc' := 58) d_To_init_57 rfl (by decide) ?_
  rw [e_pp]
  refine T_puti8 (pc' := 61) d_To_init_58 rfl f_To_37 (fun z => absurd z Bool.false_ne_true) e_put_s ?_
  refine T_vret d_To_init_61 rfl ?_
  have fin : ∀ H : AH, AL h H a (oTo (a + 1) (a + 2) (a + 3) (a + 4) (a + 5) 0 0 20 0) [(0, 10), (0, 3), (0, 3), (0, 4), (0, 4)] (s + 10 + 3 + 3 + 4 + 4) → TR H a 0 0 (fun _ => 0) (fun _ => 0) (fun _ => 0) (fun _ => 0) (fun _ => 0) 20 0 ∧ H.1 = (a + 6, s + 24) ∧ ∀ k, k < a → H.2 k = h.2 k := fun H A => ⟨⟨A.2.1, A.2.2.1 0 _ rfl, A.2.2.1 1 _ rfl, A.2.2.1 2 _ rfl, A.2.2.1 3 _ rfl, A.2.2.1 4 _ rfl⟩, A.1, A.2.2.2⟩
  exact ⟨rfl, fin _ al5.put.put⟩
theorem c_Re_init (a s : Nat) (ha : a < 500) (hm : h.1 = (a + 1, s)) (hb : h.2 a = some (.inr (.inr (4, [.null, .null, .null, .int 0])))) : Cv X (d + 1) M_Re_init [.ref a] h (fun h1 => RR h1 a 0 (fun _ => 0) (fun _ => 0) (fun _ => 0) ∧ h1.1 = (a + 4, s + 18) ∧ ∀ k, k < a → h1.2 k = h.2 k) := by
  refine C_of_T rfl rfl (Nat.le_of_ble_eq_true rfl) rfl ?_
  refine T_aload_n (pc' := 1) d_Re_init_0 rfl rfl rfl ?_
  refine T_objInit (pc' := 4) d_Re_init_1 rfl ol_Re_3 oi_i oi_c ?_
  refine T_aload_n (pc' := 5) d_Re_init_4 rfl rfl rfl ?_
  refine T_bipush (v := 6) (pc' := 7) d_Re_init_5 rfl (by decide) ?_
  refine T_newA (l' := [(0, 6)]) (m := a + 1) (N := 6) (l := []) (pc' := 9) d_Re_init_7 rfl (Or.inl ⟨rfl, rfl⟩) ac_int (by decide) (by decide) (by decide) (AL0 hm hb) rfl (by omega) rfl (fun H1 b1 al1 => ?_)
  refine T_puta0 (pc' := 12) d_Re_init_9 rfl f_Re_9 (fun _ => rfl) b1 ?_
  refine T_aload_n (pc' := 13) d_Re_init_12 rfl rfl rfl ?_
  refine T_bipush (v := 6) (pc' := 15) d_Re_init_13 rfl (by decide) ?_
  refine T_newA (l' := [(0, 6), (0, 6)]) (m := a + 2) (N := 6) (pc' := 17) d_Re_init_15 rfl (Or.inl ⟨rfl, rfl⟩) ac_int (by decide) (by decide) (by decide) al1.put rfl (by omega) rfl (fun H2 b2 al2 => ?_)
  refine T_puta1 (pc' := 20) d_Re_init_17 rfl f_Re_15 (fun _ => rfl) b2 ?_
  refine T_aload_n (pc' := 21) d_Re_init_20 rfl rfl rfl ?_
  refine T_bipush (v := 6) (pc' := 23) d_Re_init_21 rfl (by decide) ?_
  refine T_newA (l' := [(0, 6), (0, 6), (0, 6)]) (m := a + 3) (N := 6) (pc' := 25) d_Re_init_23 rfl (Or.inl ⟨rfl, rfl⟩) ac_int (by decide) (by decide) (by decide) al2.put rfl (by omega) rfl (fun H3 b3 al3 => ?_)
  refine T_puta2 (pc' := 28) d_Re_init_25 rfl f_Re_18 (fun _ => rfl) b3 ?_
  refine T_aload_n (pc' := 29) d_Re_init_28 rfl rfl rfl ?_
  refine T_iconst (v := 0) (pc' := 30) d_Re_init_29 rfl (by decide) ?_
  refine T_puti3 (pc' := 33) d_Re_init_30 rfl f_Re_21 (fun z => absurd z Bool.false_ne_true) e_put_s ?_
  refine T_vret d_Re_init_33 rfl ?_
  have fin : ∀ H : AH, AL h H a (oRe (a + 1) (a + 2) (a + 3) 0) [(0, 6), (0, 6), (0, 6)] (s + 6 + 6 + 6) → RR H a 0 (fun _ => 0) (fun _ => 0) (fun _ => 0) ∧ H.1 = (a + 4, s + 18) ∧ ∀ k, k < a → H.2 k = h.2 k := fun H A => ⟨⟨A.2.1, A.2.2.1 0 _ rfl, A.2.2.1 1 _ rfl, A.2.2.1 2 _ rfl⟩, A.1, A.2.2.2⟩
  exact ⟨rfl, fin _ al3.put.put⟩
theorem c_Od_init (s : Nat) (hm : h.1 = (47, s)) (hb : h.2 46 = some (.inr (.inr (3, [.null, .null, .int 0])))) : Cv X (d + 1) M_Od_init [.ref 46] h (fun h1 => OR_ h1 ∧ h1.1 = (49, s + 82) ∧ ∀ k, k < 46 → h1.2 k = h.2 k) := by
  refine C_of_T rfl rfl (Nat.le_of_ble_eq_true rfl) rfl ?_
  refine T_aload_n (pc' := 1) d_Od_init_0 rfl rfl rfl ?_
  refine T_objInit (pc' := 4) d_Od_init_1 rfl ol_Od_3 oi_i oi_c ?_
  refine T_aload_n (pc' := 5) d_Od_init_4 rfl rfl rfl ?_
  refine T_bipush (v := 41) (pc' := 7) d_Od_init_5 rfl (by decide) ?_
  refine T_newA (l' := [(0, 41)]) (m := 47) (N := 41) (a := 46) (l := []) (pc' := 9) d_Od_init_7 rfl (Or.inl ⟨rfl, rfl⟩) ac_int (by decide) (by decide) (by decide) (AL0 hm hb) rfl (by omega) rfl (fun H1 b1 al1 => ?_)
  refine T_puta0 (pc' := 12) d_Od_init_9 rfl f_Od_9 (fun _ => rfl) b1 ?_
  refine T_aload_n (pc' := 13) d_Od_init_12 rfl rfl rfl ?_
  refine T_bipush (v := 41) (pc' := 15) d_Od_init_13 rfl (by decide) ?_
  refine T_newA (l' := [(0, 41), (0, 41)]) (m := 48) (N := 41) (pc' := 17) d_Od_init_15 rfl (Or.inl ⟨rfl, rfl⟩) ac_int (by decide) (by decide) (by decide) al1.put rfl (by omega) rfl (fun H2 b2 al2 => ?_)
  refine T_puta1 (pc' := 20) d_Od_init_17 rfl f_Od_15 (fun _ => rfl) b2 ?_
  refine T_vret d_Od_init_20 rfl ?_
  have fin : ∀ H : AH, AL h H 46 (oOd 0) [(0, 41), (0, 41)] (s + 41 + 41) → OR_ H ∧ H.1 = (49, s + 82) ∧ ∀ k, k < 46 → H.2 k = h.2 k := fun H A => ⟨⟨⟨0, A.2.1⟩, ⟨_, A.2.2.1 0 _ rfl⟩, _, A.2.2.1 1 _ rfl⟩, A.1, A.2.2.2⟩
  exact ⟨rfl, fin _ al2.put⟩
/-- the state at the start -/
def s00 : Sp := (fun _ => 0, fun j => if j = 6 then sStart (fun _ => 0) 20 0 else if j = 12 then fun _ => 20 else fun _ => 0, 0)
theorem s_now0 : e_up (e_up (e_up (fun _ => 0) 1 20) 3 (-9)) 4 (-9) = sStart (fun _ => 0) 20 0 := by
  funext k
  rw [e_upL, e_upL, e_upL, sStart]
  by_cases q4 : k = 4
  · rw [if_pos q4, if_neg (by omega), if_pos (by omega)]
  rw [if_neg q4]
  by_cases q3 : k = 3
  · rw [if_pos q3, if_neg (by omega), if_pos (by omega)]
  rw [if_neg q3]
  by_cases q1 : k = 1
  · rw [if_pos q1, if_pos q1]
  rw [if_neg q1, if_neg q1, if_neg (by omega)]
  split <;> (try split) <;> rfl
theorem MI_00 {H : AH} (ho : H.2 86 = some (oMq 0 0 0 0 0 0 0 0 0 0 0)) (al : ∀ j p, ([(1, 120), (0, 20), (0, 2), (0, 6), (0, 6), (0, 6), (0, 2), (0, 8), (0, 8), (0, 2), (0, 11), (0, 3), (0, 330), (0, 22), (2, 2), (0, 11), (0, 64), (0, 6), (0, 6), (0, 6), (0, 6), (0, 6)] : List (Nat × Nat))[j]? = some p → j ≠ 9 → j ≠ 10 → H.2 (86 + 1 + j) = some (.inl (p.1, p.2, fun _ => 0))) (h9 : H.2 96 = some (.inl (0, 2, e_up (fun _ => 0) 0 20))) (h10 : H.2 97 = some (.inl (0, 11, sStart (fun _ => 0) 20 0))) : MI H s00 := by
  have ob : ∃ sc, H.2 86 = some (oMo sc 0) ∧ sc 0 = nI 0 ∧ sc 8 = nI 0 ∧ sc 9 = nI 0 := ⟨fun _ => 0, ho, rfl, rfl, rfl⟩
  refine ⟨ob, ⟨_, al 0 _ rfl (by decide) (by decide), fun i hi => absurd (show i < 0 from hi) (by omega)⟩, ⟨⟨_, _, ob.choose_spec.1⟩, ⟨_, al 1 _ rfl (by decide) (by decide), fun _ _ _ => rfl⟩, ⟨_, al 2 _ rfl (by decide) (by decide), rfl⟩, ⟨_, al 3 _ rfl (by decide) (by decide), fun _ _ => rfl⟩, ⟨_, al 4 _ rfl (by decide) (by decide), fun _ _ => rfl⟩, ⟨_, al 6 _ rfl (by decide) (by decide), rfl⟩, ⟨_, al 7 _ rfl (by decide) (by decide), fun _ _ => rfl⟩, ⟨_, al 8 _ rfl (by decide) (by decide), fun _ _ => rfl⟩⟩, ⟨_, al 5 _ rfl (by decide) (by decide)⟩, ⟨_, h9, rfl⟩, h10, ⟨_, al 11 _ rfl (by decide) (by decide), rfl, fun _ => rfl, fun _ => rfl⟩, ⟨_, al 12 _ rfl (by decide) (by decide), fun i hi => absurd (show i < 0 from hi) (by omega), fun _ i hi => absurd (show i < 0 from hi) (by omega), fun _ i hi => absurd (show i < 0 from hi) (by omega)⟩, ⟨_, al 13 _ rfl (by decide) (by decide), fun z => absurd (show (0 : Nat) = 1 from z) (by decide), fun z => absurd (show (0 : Nat) = 1 from z) (by decide)⟩, ⟨_, al 14 _ rfl (by decide) (by decide), rfl, rfl⟩, ⟨_, al 15 _ rfl (by decide) (by decide)⟩, ⟨_, al 16 _ rfl (by decide) (by decide)⟩, ⟨_, al 17 _ rfl (by decide) (by decide), fun i hi => absurd (show i < 0 from hi) (by omega)⟩, ⟨_, al 18 _ rfl (by decide) (by decide), fun i hi => absurd (show i < 0 from hi) (by omega)⟩, ⟨_, al 19 _ rfl (by decide) (by decide), fun i hi => absurd (show i < 0 from hi) (by omega)⟩, ⟨_, al 20 _ rfl (by decide) (by decide), fun i hi => absurd (show i < 0 from hi) (by omega)⟩, ⟨_, al 21 _ rfl (by decide) (by decide), fun i hi => absurd (show i < 0 from hi) (by omega)⟩⟩
theorem c_Mo_init (s : Nat) (hm : h.1 = (87, s)) (hb : h.2 86 = some (.inr (.inr (9, [.null, .int 0, .null, .null, .null, .null, .null, .null, .null, .null, .null, .int 0, .int 0, .int 0, .int 0, .int 0, .int 0, .int 0, .null, .null, .null, .null, .null, .null, .null, .null, .null, .null, .int 0, .null, .null, .int 0, .long 0])))) : Cv X (d + 1) M_Mo_init [.ref 86] h (fun h1 => MI h1 s00 ∧ h1.1 = (109, s + 653) ∧ ∀ k, k < 86 → h1.2 k = h.2 k) := by
  refine C_of_T rfl rfl (Nat.le_of_ble_eq_true rfl) rfl ?_
  refine T_aload_n (pc' := 1) d_Mo_init_0 rfl rfl rfl ?_
  refine T_objInit (pc' := 4) d_Mo_init_1 rfl ol_Mo_1 oi_i oi_c ?_
  refine T_aload_n (pc' := 5) d_Mo_init_4 rfl rfl rfl ?_
  refine T_bipush (v := 120) (pc' := 7) d_Mo_init_5 rfl (by decide) ?_
  refine T_newA (l' := [(1, 120)]) (m := 87) (N := 120) (a := 86) (l := []) (pc' := 9) d_Mo_init_7 rfl (Or.inr (Or.inl ⟨rfl, rfl⟩)) ac_byte (by decide) (by decide) (by decide) (AL0 hm hb) rfl (by omega) rfl (fun H1 b1 al1 => ?_)
  refine T_puta0 (pc' := 12) d_Mo_init_9 rfl f_Mo_7 (fun _ => rfl) b1 ?_
  refine T_aload_n (pc' := 13) d_Mo_init_12 rfl rfl rfl ?_
  refine T_bipush (v := 20) (pc' := 15) d_Mo_init_13 rfl (by decide) ?_
  refine T_newA (l' := [(1, 120), (0, 20)]) (m := 88) (N := 20) (a := 86) (l := [(1, 120)]) (pc' := 17) d_Mo_init_15 rfl (Or.inl ⟨rfl, rfl⟩) ac_int (by decide) (by decide) (by decide) al1.put rfl (by omega) rfl (fun H2 b2 al2 => ?_)
  refine T_puta2 (pc' := 20) d_Mo_init_17 rfl f_Mo_13 (fun _ => rfl) b2 ?_
  refine T_aload_n (pc' := 21) d_Mo_init_20 rfl rfl rfl ?_
  refine T_iconst (v := 2) (pc' := 22) d_Mo_init_21 rfl (by decide) ?_
  refine T_newA (l' := [(1, 120), (0, 20), (0, 2)]) (m := 89) (N := 2) (a := 86) (l := [(1, 120), (0, 20)]) (pc' := 24) d_Mo_init_22 rfl (Or.inl ⟨rfl, rfl⟩) ac_int (by decide) (by decide) (by decide) al2.put rfl (by omega) rfl (fun H3 b3 al3 => ?_)
  refine T_puta3 (pc' := 27) d_Mo_init_24 rfl f_Mo_17 (fun _ => rfl) b3 ?_
  refine T_aload_n (pc' := 28) d_Mo_init_27 rfl rfl rfl ?_
  refine T_bipush (v := 6) (pc' := 30) d_Mo_init_28 rfl (by decide) ?_
  refine T_newA (l' := [(1, 120), (0, 20), (0, 2), (0, 6)]) (m := 90) (N := 6) (a := 86) (l := [(1, 120), (0, 20), (0, 2)]) (pc' := 32) d_Mo_init_30 rfl (Or.inl ⟨rfl, rfl⟩) ac_int (by decide) (by decide) (by decide) al3.put rfl (by omega) rfl (fun H4 b4 al4 => ?_)
  refine T_puta4 (pc' := 35) d_Mo_init_32 rfl f_Mo_20 (fun _ => rfl) b4 ?_
  refine T_aload_n (pc' := 36) d_Mo_init_35 rfl rfl rfl ?_
  refine T_bipush (v := 6) (pc' := 38) d_Mo_init_36 rfl (by decide) ?_
  refine T_newA (l' := [(1, 120), (0, 20), (0, 2), (0, 6), (0, 6)]) (m := 91) (N := 6) (a := 86) (l := [(1, 120), (0, 20), (0, 2), (0, 6)]) (pc' := 40) d_Mo_init_38 rfl (Or.inl ⟨rfl, rfl⟩) ac_int (by decide) (by decide) (by decide) al4.put rfl (by omega) rfl (fun H5 b5 al5 => ?_)
  refine T_puta5 (pc' := 43) d_Mo_init_40 rfl f_Mo_23 (fun _ => rfl) b5 ?_
  refine T_aload_n (pc' := 44) d_Mo_init_43 rfl rfl rfl ?_
  refine T_bipush (v := 6) (pc' := 46) d_Mo_init_44 rfl (by decide) ?_
  refine T_newA (l' := [(1, 120), (0, 20), (0, 2), (0, 6), (0, 6), (0, 6)]) (m := 92) (N := 6) (a := 86) (l := [(1, 120), (0, 20), (0, 2), (0, 6), (0, 6)]) (pc' := 48) d_Mo_init_46 rfl (Or.inl ⟨rfl, rfl⟩) ac_int (by decide) (by decide) (by decide) al5.put rfl (by omega) rfl (fun H6 b6 al6 => ?_)
  refine T_puta6 (pc' := 51) d_Mo_init_48 rfl f_Mo_26 (fun _ => rfl) b6 ?_
  refine T_aload_n (pc' := 52) d_Mo_init_51 rfl rfl rfl ?_
  refine T_iconst (v := 2) (pc' := 53) d_Mo_init_52 rfl (by decide) ?_
  refine T_newA (l' := [(1, 120), (0, 20), (0, 2), (0, 6), (0, 6), (0, 6), (0, 2)]) (m := 93) (N := 2) (a := 86) (l := [(1, 120), (0, 20), (0, 2), (0, 6), (0, 6), (0, 6)]) (pc' := 55) d_Mo_init_53 rfl (Or.inl ⟨rfl, rfl⟩) ac_int (by decide) (by decide) (by decide) al6.put rfl (by omega) rfl (fun H7 b7 al7 => ?_)
  refine T_puta7 (pc' := 58) d_Mo_init_55 rfl f_Mo_29 (fun _ => rfl) b7 ?_
  refine T_aload_n (pc' := 59) d_Mo_init_58 rfl rfl rfl ?_
  refine T_bipush (v := 8) (pc' := 61) d_Mo_init_59 rfl (by decide) ?_
  refine T_newA (l' := [(1, 120), (0, 20), (0, 2), (0, 6), (0, 6), (0, 6), (0, 2), (0, 8)]) (m := 94) (N := 8) (a := 86) (l := [(1, 120), (0, 20), (0, 2), (0, 6), (0, 6), (0, 6), (0, 2)]) (pc' := 63) d_Mo_init_61 rfl (Or.inl ⟨rfl, rfl⟩) ac_int (by decide) (by decide) (by decide) al7.put rfl (by omega) rfl (fun H8 b8 al8 => ?_)
  refine T_puta8 (pc' := 66) d_Mo_init_63 rfl f_Mo_32 (fun _ => rfl) b8 ?_
  refine T_aload_n (pc' := 67) d_Mo_init_66 rfl rfl rfl ?_
  refine T_bipush (v := 8) (pc' := 69) d_Mo_init_67 rfl (by decide) ?_
  refine T_newA (l' := [(1, 120), (0, 20), (0, 2), (0, 6), (0, 6), (0, 6), (0, 2), (0, 8), (0, 8)]) (m := 95) (N := 8) (a := 86) (l := [(1, 120), (0, 20), (0, 2), (0, 6), (0, 6), (0, 6), (0, 2), (0, 8)]) (pc' := 71) d_Mo_init_69 rfl (Or.inl ⟨rfl, rfl⟩) ac_int (by decide) (by decide) (by decide) al8.put rfl (by omega) rfl (fun H9 b9 al9 => ?_)
  refine T_puta9 (pc' := 74) d_Mo_init_71 rfl f_Mo_35 (fun _ => rfl) b9 ?_
  refine T_aload_n (pc' := 75) d_Mo_init_74 rfl rfl rfl ?_
  refine T_iconst (v := 2) (pc' := 76) d_Mo_init_75 rfl (by decide) ?_
  refine T_newA (l' := [(1, 120), (0, 20), (0, 2), (0, 6), (0, 6), (0, 6), (0, 2), (0, 8), (0, 8), (0, 2)]) (m := 96) (N := 2) (a := 86) (l := [(1, 120), (0, 20), (0, 2), (0, 6), (0, 6), (0, 6), (0, 2), (0, 8), (0, 8)]) (pc' := 78) d_Mo_init_76 rfl (Or.inl ⟨rfl, rfl⟩) ac_int (by decide) (by decide) (by decide) al9.put rfl (by omega) rfl (fun H10 b10 al10 => ?_)
  refine T_puta10 (pc' := 81) d_Mo_init_78 rfl f_Mo_38 (fun _ => rfl) b10 ?_
  refine T_aload_n (pc' := 82) d_Mo_init_81 rfl rfl rfl ?_
  refine T_bipush (v := 11) (pc' := 84) d_Mo_init_82 rfl (by decide) ?_
  refine T_newA (l' := [(1, 120), (0, 20), (0, 2), (0, 6), (0, 6), (0, 6), (0, 2), (0, 8), (0, 8), (0, 2), (0, 11)]) (m := 97) (N := 11) (a := 86) (l := [(1, 120), (0, 20), (0, 2), (0, 6), (0, 6), (0, 6), (0, 2), (0, 8), (0, 8), (0, 2)]) (pc' := 86) d_Mo_init_84 rfl (Or.inl ⟨rfl, rfl⟩) ac_int (by decide) (by decide) (by decide) al10.put rfl (by omega) rfl (fun H11 b11 al11 => ?_)
  refine T_puta18 (pc' := 89) d_Mo_init_86 rfl f_Mo_41 (fun _ => rfl) b11 ?_
  refine T_aload_n (pc' := 90) d_Mo_init_89 rfl rfl rfl ?_
  refine T_iconst (v := 3) (pc' := 91) d_Mo_init_90 rfl (by decide) ?_
  refine T_newA (l' := [(1, 120), (0, 20), (0, 2), (0, 6), (0, 6), (0, 6), (0, 2), (0, 8), (0, 8), (0, 2), (0, 11), (0, 3)]) (m := 98) (N := 3) (a := 86) (l := [(1, 120), (0, 20), (0, 2), (0, 6), (0, 6), (0, 6), (0, 2), (0, 8), (0, 8), (0, 2), (0, 11)]) (pc' := 93) d_Mo_init_91 rfl (Or.inl ⟨rfl, rfl⟩) ac_int (by decide) (by decide) (by decide) al11.put rfl (by omega) rfl (fun H12 b12 al12 => ?_)
  refine T_puta19 (pc' := 96) d_Mo_init_93 rfl f_Mo_44 (fun _ => rfl) b12 ?_
  refine T_aload_n (pc' := 97) d_Mo_init_96 rfl rfl rfl ?_
  refine T_sipush (v := 330) (pc' := 100) d_Mo_init_97 rfl (by decide) ?_
  refine T_newA (l' := [(1, 120), (0, 20), (0, 2), (0, 6), (0, 6), (0, 6), (0, 2), (0, 8), (0, 8), (0, 2), (0, 11), (0, 3), (0, 330)]) (m := 99) (N := 330) (a := 86) (l := [(1, 120), (0, 20), (0, 2), (0, 6), (0, 6), (0, 6), (0, 2), (0, 8), (0, 8), (0, 2), (0, 11), (0, 3)]) (pc' := 102) d_Mo_init_100 rfl (Or.inl ⟨rfl, rfl⟩) ac_int (by decide) (by decide) (by decide) al12.put rfl (by omega) rfl (fun H13 b13 al13 => ?_)
  refine T_puta20 (pc' := 105) d_Mo_init_102 rfl f_Mo_47 (fun _ => rfl) b13 ?_
  refine T_aload_n (pc' := 106) d_Mo_init_105 rfl rfl rfl ?_
  refine T_bipush (v := 22) (pc' := 108) d_Mo_init_106 rfl (by decide) ?_
  refine T_newA (l' := [(1, 120), (0, 20), (0, 2), (0, 6), (0, 6), (0, 6), (0, 2), (0, 8), (0, 8), (0, 2), (0, 11), (0, 3), (0, 330), (0, 22)]) (m := 100) (N := 22) (a := 86) (l := [(1, 120), (0, 20), (0, 2), (0, 6), (0, 6), (0, 6), (0, 2), (0, 8), (0, 8), (0, 2), (0, 11), (0, 3), (0, 330)]) (pc' := 110) d_Mo_init_108 rfl (Or.inl ⟨rfl, rfl⟩) ac_int (by decide) (by decide) (by decide) al13.put rfl (by omega) rfl (fun H14 b14 al14 => ?_)
  refine T_puta21 (pc' := 113) d_Mo_init_110 rfl f_Mo_50 (fun _ => rfl) b14 ?_
  refine T_aload_n (pc' := 114) d_Mo_init_113 rfl rfl rfl ?_
  refine T_iconst (v := 2) (pc' := 115) d_Mo_init_114 rfl (by decide) ?_
  refine T_newA (l' := [(1, 120), (0, 20), (0, 2), (0, 6), (0, 6), (0, 6), (0, 2), (0, 8), (0, 8), (0, 2), (0, 11), (0, 3), (0, 330), (0, 22), (2, 2)]) (m := 101) (N := 2) (a := 86) (l := [(1, 120), (0, 20), (0, 2), (0, 6), (0, 6), (0, 6), (0, 2), (0, 8), (0, 8), (0, 2), (0, 11), (0, 3), (0, 330), (0, 22)]) (pc' := 117) d_Mo_init_115 rfl (Or.inr (Or.inr ⟨rfl, rfl⟩)) ac_boolean (by decide) (by decide) (by decide) al14.put rfl (by omega) rfl (fun H15 b15 al15 => ?_)
  refine T_puta22 (pc' := 120) d_Mo_init_117 rfl f_Mo_53 (fun _ => rfl) b15 ?_
  refine T_aload_n (pc' := 121) d_Mo_init_120 rfl rfl rfl ?_
  refine T_bipush (v := 11) (pc' := 123) d_Mo_init_121 rfl (by decide) ?_
  refine T_newA (l' := [(1, 120), (0, 20), (0, 2), (0, 6), (0, 6), (0, 6), (0, 2), (0, 8), (0, 8), (0, 2), (0, 11), (0, 3), (0, 330), (0, 22), (2, 2), (0, 11)]) (m := 102) (N := 11) (a := 86) (l := [(1, 120), (0, 20), (0, 2), (0, 6), (0, 6), (0, 6), (0, 2), (0, 8), (0, 8), (0, 2), (0, 11), (0, 3), (0, 330), (0, 22), (2, 2)]) (pc' := 125) d_Mo_init_123 rfl (Or.inl ⟨rfl, rfl⟩) ac_int (by decide) (by decide) (by decide) al15.put rfl (by omega) rfl (fun H16 b16 al16 => ?_)
  refine T_puta23 (pc' := 128) d_Mo_init_125 rfl f_Mo_57 (fun _ => rfl) b16 ?_
  refine T_aload_n (pc' := 129) d_Mo_init_128 rfl rfl rfl ?_
  refine T_bipush (v := 64) (pc' := 131) d_Mo_init_129 rfl (by decide) ?_
  refine T_newA (l' := [(1, 120), (0, 20), (0, 2), (0, 6), (0, 6), (0, 6), (0, 2), (0, 8), (0, 8), (0, 2), (0, 11), (0, 3), (0, 330), (0, 22), (2, 2), (0, 11), (0, 64)]) (m := 103) (N := 64) (a := 86) (l := [(1, 120), (0, 20), (0, 2), (0, 6), (0, 6), (0, 6), (0, 2), (0, 8), (0, 8), (0, 2), (0, 11), (0, 3), (0, 330), (0, 22), (2, 2), (0, 11)]) (pc' := 133) d_Mo_init_131 rfl (Or.inl ⟨rfl, rfl⟩) ac_int (by decide) (by decide) (by decide) al16.put rfl (by omega) rfl (fun H17 b17 al17 => ?_)
  refine T_puta24 (pc' := 136) d_Mo_init_133 rfl f_Mo_60 (fun _ => rfl) b17 ?_
  refine T_aload_n (pc' := 137) d_Mo_init_136 rfl rfl rfl ?_
  refine T_bipush (v := 6) (pc' := 139) d_Mo_init_137 rfl (by decide) ?_
  refine T_newA (l' := [(1, 120), (0, 20), (0, 2), (0, 6), (0, 6), (0, 6), (0, 2), (0, 8), (0, 8), (0, 2), (0, 11), (0, 3), (0, 330), (0, 22), (2, 2), (0, 11), (0, 64), (0, 6)]) (m := 104) (N := 6) (a := 86) (l := [(1, 120), (0, 20), (0, 2), (0, 6), (0, 6), (0, 6), (0, 2), (0, 8), (0, 8), (0, 2), (0, 11), (0, 3), (0, 330), (0, 22), (2, 2), (0, 11), (0, 64)]) (pc' := 141) d_Mo_init_139 rfl (Or.inl ⟨rfl, rfl⟩) ac_int (by decide) (by decide) (by decide) al17.put rfl (by omega) rfl (fun H18 b18 al18 => ?_)
  refine T_puta25 (pc' := 144) d_Mo_init_141 rfl f_Mo_63 (fun _ => rfl) b18 ?_
  refine T_aload_n (pc' := 145) d_Mo_init_144 rfl rfl rfl ?_
  refine T_bipush (v := 6) (pc' := 147) d_Mo_init_145 rfl (by decide) ?_
  refine T_newA (l' := [(1, 120), (0, 20), (0, 2), (0, 6), (0, 6), (0, 6), (0, 2), (0, 8), (0, 8), (0, 2), (0, 11), (0, 3), (0, 330), (0, 22), (2, 2), (0, 11), (0, 64), (0, 6), (0, 6)]) (m := 105) (N := 6) (a := 86) (l := [(1, 120), (0, 20), (0, 2), (0, 6), (0, 6), (0, 6), (0, 2), (0, 8), (0, 8), (0, 2), (0, 11), (0, 3), (0, 330), (0, 22), (2, 2), (0, 11), (0, 64), (0, 6)]) (pc' := 149) d_Mo_init_147 rfl (Or.inl ⟨rfl, rfl⟩) ac_int (by decide) (by decide) (by decide) al18.put rfl (by omega) rfl (fun H19 b19 al19 => ?_)
  refine T_puta26 (pc' := 152) d_Mo_init_149 rfl f_Mo_66 (fun _ => rfl) b19 ?_
  refine T_aload_n (pc' := 153) d_Mo_init_152 rfl rfl rfl ?_
  refine T_bipush (v := 6) (pc' := 155) d_Mo_init_153 rfl (by decide) ?_
  refine T_newA (l' := [(1, 120), (0, 20), (0, 2), (0, 6), (0, 6), (0, 6), (0, 2), (0, 8), (0, 8), (0, 2), (0, 11), (0, 3), (0, 330), (0, 22), (2, 2), (0, 11), (0, 64), (0, 6), (0, 6), (0, 6)]) (m := 106) (N := 6) (a := 86) (l := [(1, 120), (0, 20), (0, 2), (0, 6), (0, 6), (0, 6), (0, 2), (0, 8), (0, 8), (0, 2), (0, 11), (0, 3), (0, 330), (0, 22), (2, 2), (0, 11), (0, 64), (0, 6), (0, 6)]) (pc' := 157) d_Mo_init_155 rfl (Or.inl ⟨rfl, rfl⟩) ac_int (by decide) (by decide) (by decide) al19.put rfl (by omega) rfl (fun H20 b20 al20 => ?_)
  refine T_puta27 (pc' := 160) d_Mo_init_157 rfl f_Mo_69 (fun _ => rfl) b20 ?_
  refine T_aload_n (pc' := 161) d_Mo_init_160 rfl rfl rfl ?_
  refine T_bipush (v := 6) (pc' := 163) d_Mo_init_161 rfl (by decide) ?_
  refine T_newA (l' := [(1, 120), (0, 20), (0, 2), (0, 6), (0, 6), (0, 6), (0, 2), (0, 8), (0, 8), (0, 2), (0, 11), (0, 3), (0, 330), (0, 22), (2, 2), (0, 11), (0, 64), (0, 6), (0, 6), (0, 6), (0, 6)]) (m := 107) (N := 6) (a := 86) (l := [(1, 120), (0, 20), (0, 2), (0, 6), (0, 6), (0, 6), (0, 2), (0, 8), (0, 8), (0, 2), (0, 11), (0, 3), (0, 330), (0, 22), (2, 2), (0, 11), (0, 64), (0, 6), (0, 6), (0, 6)]) (pc' := 165) d_Mo_init_163 rfl (Or.inl ⟨rfl, rfl⟩) ac_int (by decide) (by decide) (by decide) al20.put rfl (by omega) rfl (fun H21 b21 al21 => ?_)
  refine T_puta29 (pc' := 168) d_Mo_init_165 rfl f_Mo_72 (fun _ => rfl) b21 ?_
  refine T_aload_n (pc' := 169) d_Mo_init_168 rfl rfl rfl ?_
  refine T_bipush (v := 6) (pc' := 171) d_Mo_init_169 rfl (by decide) ?_
  refine T_newA (l' := [(1, 120), (0, 20), (0, 2), (0, 6), (0, 6), (0, 6), (0, 2), (0, 8), (0, 8), (0, 2), (0, 11), (0, 3), (0, 330), (0, 22), (2, 2), (0, 11), (0, 64), (0, 6), (0, 6), (0, 6), (0, 6), (0, 6)]) (m := 108) (N := 6) (a := 86) (l := [(1, 120), (0, 20), (0, 2), (0, 6), (0, 6), (0, 6), (0, 2), (0, 8), (0, 8), (0, 2), (0, 11), (0, 3), (0, 330), (0, 22), (2, 2), (0, 11), (0, 64), (0, 6), (0, 6), (0, 6), (0, 6)]) (pc' := 173) d_Mo_init_171 rfl (Or.inl ⟨rfl, rfl⟩) ac_int (by decide) (by decide) (by decide) al21.put rfl (by omega) rfl (fun H22 b22 al22 => ?_)
  refine T_puta30 (pc' := 176) d_Mo_init_173 rfl f_Mo_75 (fun _ => rfl) b22 ?_
  refine T_aload_n (pc' := 177) d_Mo_init_176 rfl rfl rfl ?_
  have A := al22.put (o' := oMq 0 0 0 0 0 0 0 0 0 0 0)
  show T _ _ _ _ _ _ (e_put H22 86 (oMq 0 0 0 0 0 0 0 0 0 0 0)) _
  generalize e_put H22 86 (oMq 0 0 0 0 0 0 0 0 0 0 0) = K at A
  have k0 := A.2.1
  refine T_get (pc' := 180) d_Mo_init_177 rfl g_Mo_38 k0 rfl ?_
  refine T_iconst (v := 0) (pc' := 181) d_Mo_init_180 rfl (by decide) ?_
  refine T_bipush (v := 20) (pc' := 183) d_Mo_init_181 rfl (by decide) ?_
  refine T_iastoreL 0 (pc' := 184) d_Mo_init_183 rfl (A.2.2.1 9 _ rfl) (by decide) ?_
  refine T_aload_n (pc' := 185) d_Mo_init_184 rfl rfl rfl ?_
  refine T_get (pc' := 188) d_Mo_init_185 rfl g_Mo_41 ((e_put_n (by decide)).trans k0) rfl ?_
  refine T_iconst (v := 1) (pc' := 189) d_Mo_init_188 rfl (by decide) ?_
  refine T_bipush (v := 20) (pc' := 191) d_Mo_init_189 rfl (by decide) ?_
  refine T_iastoreL 1 (pc' := 192) d_Mo_init_191 rfl ((e_put_n (by decide)).trans (A.2.2.1 10 _ rfl)) (by decide) ?_
  refine T_aload_n (pc' := 193) d_Mo_init_192 rfl rfl rfl ?_
  refine T_get (pc' := 196) d_Mo_init_193 rfl g_Mo_41 ((e_put_n (by decide)).trans ((e_put_n (by decide)).trans k0)) rfl ?_
  refine T_iconst (v := 3) (pc' := 197) d_Mo_init_196 rfl (by decide) ?_
  refine T_bipush (v := (-9)) (pc' := 199) d_Mo_init_197 rfl (by decide) ?_
  refine T_iastoreL 3 (pc' := 200) d_Mo_init_199 rfl e_put_s (by decide) ?_
  rw [e_pp]
  refine T_aload_n (pc' := 201) d_Mo_init_200 rfl rfl rfl ?_
  refine T_get (pc' := 204) d_Mo_init_201 rfl g_Mo_41 ((e_put_n (by decide)).trans ((e_put_n (by decide)).trans k0)) rfl ?_
  refine T_iconst (v := 4) (pc' := 205) d_Mo_init_204 rfl (by decide) ?_
  refine T_bipush (v := (-9)) (pc' := 207) d_Mo_init_205 rfl (by decide) ?_
  refine T_iastoreL 4 (pc' := 208) d_Mo_init_207 rfl e_put_s (by decide) ?_
  rw [e_pp, s_now0]
  refine T_vret d_Mo_init_208 rfl ?_
  refine ⟨rfl, MI_00 ((e_put_n (by decide)).trans ((e_put_n (by decide)).trans k0)) (fun j p q n1 n2 => (e_put_n (by omega)).trans ((e_put_n (by omega)).trans (A.2.2.1 j p q))) ((e_put_n (by decide)).trans e_put_s) e_put_s, A.1, fun k hk => (e_put_n (by omega)).trans ((e_put_n (by omega)).trans (A.2.2.2 k hk))⟩
end INIT
