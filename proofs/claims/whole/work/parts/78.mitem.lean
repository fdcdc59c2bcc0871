/-! the text: one item, the model -/
def ITM (h h1 : AH) (B : Nat → Nat) (L : Nat) (σ : Sp) (ps : PS) (it : Nat) (R : Nat ⊕ ((Nat → Nat) × Nat)) (a6 s8 s9 : Int32) (tc : Int64) : Prop := ExP h h1 ∧ match R with
  | .inl q => PMO h1 L (.inl q) a6 0 s8 s9 tc ∧ ∃ F', HA h1 F' ∧ FH σ F'
  | .inr z => PMO h1 L (.inr (tkn B L z.2)) a6 (nI ((pTell ps it z.1).1 2)) s8 s9 tc ∧ ∃ F', HA h1 F' ∧ FH σ F' ∧ SH (pTell ps it z.1) F'
theorem tkn_st (B : Nat → Nat) (L pos : Nat) (hp : pos ≤ L) : stOK L (.inr (tkn B L pos)) := by
  obtain ⟨-, -, -, t4, -, -, t7⟩ := tkn_facts B L pos hp
  exact ⟨t4, t7⟩
theorem nS_ok (B : Nat → Nat) (L lo hi : Nat) (st : Nat ⊕ (Nat × Nat × Nat × Nat)) (so : stOK L st) : stOK L (nS B L lo hi st) := by
  cases st with
  | inl q => exact trivial
  | inr t =>
    show stOK L (if nOk lo hi t then .inr (tkn B L t.2.2.2) else .inl t.2.2.1)
    split
    · exact tkn_st B L _ so.1
    · exact trivial
theorem nS_v (B : Nat → Nat) (L lo hi : Nat) (hB : ∀ i, i < L → B i < 256) (st : Nat ⊕ (Nat × Nat × Nat × Nat)) : ∀ t, nS B L lo hi st = .inr t → t.2.1 < 256 := by
  intro t e
  cases st with
  | inl q => cases e
  | inr t0 =>
    have e' : (if nOk lo hi t0 then (.inr (tkn B L t0.2.2.2) : Nat ⊕ (Nat × Nat × Nat × Nat)) else .inl t0.2.2.1) = .inr t := e
    split at e'
    · cases e'; exact tk_val B L _ hB
    · cases e'
theorem tkn_v (B : Nat → Nat) (L pos : Nat) (hB : ∀ i, i < L → B i < 256) : ∀ t, (.inr (tkn B L pos) : Nat ⊕ (Nat × Nat × Nat × Nat)) = .inr t → t.2.1 < 256 := by
  intro t e; cases e; exact tk_val B L _ hB
theorem PMO_fr {h h1 : AH} {L : Nat} {st : Nat ⊕ (Nat × Nat × Nat × Nat)} {a6 a7 s8 s9 : Int32} {tc : Int64} (e : h1.2 86 = h.2 86) (p : PMO h L st a6 a7 s8 s9 tc) : PMO h1 L st a6 a7 s8 s9 tc := by
  cases st with
  | inl q => obtain ⟨a1, so, va, b6, b7, k⟩ := p; exact ⟨a1, so, va, b6, b7, e.trans k⟩
  | inr t => obtain ⟨so, va, k, m⟩ := p; exact ⟨so, va, e.trans k, m⟩
theorem PMO_bad {h : AH} {L q : Nat} {a6 a7 b6 b7 s8 s9 : Int32} {tc : Int64} (p : PMO h L (.inl q) a6 a7 s8 s9 tc) : PMO h L (.inl q) b6 b7 s8 s9 tc := p
theorem PMO_obj {h : AH} {L : Nat} {st : Nat ⊕ (Nat × Nat × Nat × Nat)} {a6 a7 s8 s9 : Int32} {tc : Int64} (p : PMO h L st a6 a7 s8 s9 tc) : ∃ b1 b2 b3 b4 b5 b6 b7, h.2 86 = some (oMq (nI L) b1 b2 b3 b4 b5 b6 b7 s8 s9 tc) := by
  cases st with
  | inl q => obtain ⟨a1, so', va, b6, b7, k0⟩ := p; exact ⟨_, _, _, _, _, _, _, k0⟩
  | inr t => obtain ⟨so', va, k0, mt⟩ := p; exact ⟨_, _, _, _, _, _, _, k0⟩
section MITEM
variable (X : EX) (d : Nat) (h : AH) (σ : Sp) (s8 s9 : Int32) (tc : Int64) (f : Nat → Int32) (B : Nat → Nat) (L pos : Nat) (ps : PS) (F : Nat → Nat → Int32) (a6 : Int32)
theorem c_item_w (ok : okM f B L) (hp : pos ≤ L) (si : SI σ) (pm : PMO h L (.inr (tkn B L pos)) a6 (nI (ps.1 2)) s8 s9 tc) (h1 : h.2 87 = some (.inl (1, 120, f))) (ha : HA h F) (fh : FH σ F) (sh : SH ps F) : Cv X (d + 4) M_Mo_item [.ref 86, .int 119] h (fun h' => ITM h h' B L σ ps 0 (pNums B L 0 (cntT 0) 0 pos (fun _ => 0)) a6 s8 s9 tc) := by
  have hB : ∀ i, i < L → B i < 256 := fun i q => (ok.2 i q).2
  have so0 := tkn_st B L pos hp
  obtain ⟨b1, b2, b3, b4, b5, b6, b7, k0⟩ := PMO_obj pm
  refine C_of_T rfl rfl (Nat.le_of_ble_eq_true rfl) rfl ?_
  refine T_iload_n (pc' := 1) d_Mo_item_0 rfl rfl rfl ?_
  refine sw_Mo_item_1 (fun hx => absurd hx (by decide)) (fun hx => absurd hx (by decide)) (fun _ => ?_) (fun _ _ y => absurd rfl y)
  refine T_aload_n (pc' := 37) d_Mo_item_36 rfl rfl rfl ?_
  refine T_iconst (v := 1) (pc' := 38) d_Mo_item_37 rfl (by decide) ?_
  refine T_bipush (v := 9) (pc' := 40) d_Mo_item_38 rfl (by decide) ?_
  refine T_V2i (pc' := 43) d_Mo_item_40 rfl l_Mo_113 v_Mo_number (by first | assumption | exact e_put_s | simp [e_put, *]) (Nat.le_of_ble_eq_true rfl) (c_number X _ h s8 s9 tc f B L 1 9 (by decide) (by decide) _ a6 (nI (ps.1 2)) ok so0 (tkn_v B L pos hB) pm h1) (fun v0 h2 hq => ?_)
  obtain ⟨⟨c2, rfl⟩, pm2, hv0⟩ := hq
  have so1 := nS_ok B L 1 9 _ so0
  obtain ⟨d1, d2, d3, d4, d5, d6, d7, k2⟩ := PMO_obj pm2
  refine T_is_n2 (pc' := 44) d_Mo_item_43 rfl rfl (Nat.le_of_ble_eq_true rfl) rfl ?_
  refine T_aload_n (pc' := 45) d_Mo_item_44 rfl rfl rfl ?_
  refine T_iconst (v := 0) (pc' := 46) d_Mo_item_45 rfl (by decide) ?_
  refine T_bipush (v := 6) (pc' := 48) d_Mo_item_46 rfl (by decide) ?_
  refine T_V2i (pc' := 51) d_Mo_item_48 rfl l_Mo_113 v_Mo_number (by first | assumption | exact e_put_s | simp [e_put, *]) (Nat.le_of_ble_eq_true rfl) (c_number X _ _ s8 s9 tc f B L 0 6 (by decide) (by decide) _ a6 (nI (ps.1 2)) ok so1 (nS_v B L 1 9 hB _) pm2 ((e_put_n (by decide)).trans h1)) (fun v1 h3 hq => ?_)
  obtain ⟨⟨c3, rfl⟩, pm3, hv1⟩ := hq
  rw [e_pp] at pm3 ⊢
  have ha3 : HA (e_put h 86 c3) F := HA_obj ha
  have ex3 : ExP h (e_put h 86 c3) := ExP.rf.put (Or.inl rfl)
  refine T_is_n3 (pc' := 52) d_Mo_item_51 rfl rfl (Nat.le_of_ble_eq_true rfl) rfl ?_
  have bad : ∀ q, nS B L 0 6 (nS B L 1 9 (.inr (tkn B L pos))) = .inl q → pNums B L 0 (cntT 0) 0 pos (fun _ => 0) = .inl q → T X (d + 4) M_Mo_item 52 [.ref 86, .int 119, .int v0, .int v1, .null, .null] [] (e_put h 86 c3) (fun r h' => r = none ∧ ITM h h' B L σ ps 0 (pNums B L 0 (cntT 0) 0 pos (fun _ => 0)) a6 s8 s9 tc) := by
    intro q e1 e2
    rw [e1] at pm3
    have pm4 := pm3
    obtain ⟨a1, so', va, b6', b7', k3⟩ := pm3
    refine T_aload_n (pc' := 53) d_Mo_item_52 rfl rfl rfl ?_
    refine T_get (pc' := 56) d_Mo_item_53 rfl g_Mo_102 (by first | assumption | exact e_put_s | simp [e_put, *]) rfl ?_
    refine T_if_ne (pc' := 59) (tgt := 206) d_Mo_item_56 rfl (by decide) (fun _ => ?_) (fun hzz => absurd hzz (by decide))
    refine T_vret d_Mo_item_206 rfl ?_
    rw [e2]
    exact ⟨rfl, ex3, PMO_bad pm4, F, ha3, fh⟩
  have e0 : pNums B L 0 (cntT 0) 0 pos (fun _ => 0) = if nOk 1 9 (tkn B L pos) then (if nOk 0 6 (tkn B L (tkn B L pos).2.2.2) then .inr ((fun k => if k = 1 then (tkn B L (tkn B L pos).2.2.2).2.1 else if k = 0 then (tkn B L pos).2.1 else 0), (tkn B L (tkn B L pos).2.2.2).2.2.2) else .inl (tkn B L (tkn B L pos).2.2.2).2.2.1) else .inl (tkn B L pos).2.2.1 := rfl
  have n0 : nS B L 1 9 (.inr (tkn B L pos)) = if nOk 1 9 (tkn B L pos) then .inr (tkn B L (tkn B L pos).2.2.2) else .inl (tkn B L pos).2.2.1 := rfl
  by_cases q0 : nOk 1 9 (tkn B L pos)
  · rw [if_pos q0] at e0 n0
    rw [n0] at pm3 bad hv1
    have n1 : nS B L 0 6 (.inr (tkn B L (tkn B L pos).2.2.2)) = if nOk 0 6 (tkn B L (tkn B L pos).2.2.2) then .inr (tkn B L (tkn B L (tkn B L pos).2.2.2).2.2.2) else .inl (tkn B L (tkn B L pos).2.2.2).2.2.1 := rfl
    by_cases q1 : nOk 0 6 (tkn B L (tkn B L pos).2.2.2)
    · rw [if_pos q1] at e0 n1
      rw [n1] at pm3
      have ev0 := hv0 _ rfl q0
      have ev1 := hv1 _ rfl q1
      subst ev0
      subst ev1
      have pm4 := pm3
      obtain ⟨so', va, k3, mt⟩ := pm3
      have w := ha3 0 (by omega)
      obtain ⟨q0a, q0b, q0c⟩ := q0
      refine T_aload_n (pc' := 53) d_Mo_item_52 rfl rfl rfl ?_
      refine T_get (pc' := 56) d_Mo_item_53 rfl g_Mo_102 (by first | assumption | exact e_put_s | simp [e_put, *]) rfl ?_
      refine T_if_ne (pc' := 59) (tgt := 206) d_Mo_item_56 rfl (by decide) (fun hzz => absurd (by decide) hzz) (fun _ => ?_)
      refine T_aload_n (pc' := 60) d_Mo_item_59 rfl rfl rfl ?_
      refine T_get (pc' := 63) d_Mo_item_60 rfl g_Mo_13 (by first | assumption | exact e_put_s | simp [e_put, *]) rfl ?_
      refine T_bipush (v := 10) (pc' := 65) d_Mo_item_63 rfl (by decide) ?_
      refine T_iload_n (pc' := 66) d_Mo_item_65 rfl rfl rfl ?_
      refine T_iadd (pc' := 67) d_Mo_item_66 rfl ?_
      refine T_iload_n (pc' := 68) d_Mo_item_67 rfl rfl rfl ?_
      refine T_iconst (v := 3) (pc' := 69) d_Mo_item_68 rfl (by decide) ?_
      refine T_isub (pc' := 70) d_Mo_item_69 rfl ?_
      rw [show (10 : Int32) + nI (tkn B L pos).2.1 = nI (10 + (tkn B L pos).2.1) from nI_add 10 _]
      refine T_iastoreN (10 + (tkn B L pos).2.1) (pc' := 71) d_Mo_item_70 rfl w ⟨by show 10 + (tkn B L pos).2.1 < 20; omega, by decide⟩ ?_
      refine T_goto (pc' := 206) d_Mo_item_71 (by decide) ?_
      refine T_vret d_Mo_item_206 rfl ?_
      rw [e0]
      refine ⟨rfl, ex3.put (Or.inr ⟨by omega, by omega⟩), PMO_fr (e_put_n (by decide)) pm4, _, HA_put (j := 0) ha3 (by omega), ?_, ?_⟩
      · obtain ⟨g1, g2, g3, g4, g5, g6⟩ := fh
        refine ⟨fun i i1 i2 => ?_, g2, g3, g4, g5, g6⟩
        show e_up (F 0) (10 + (tkn B L pos).2.1) _ i = _
        rw [e_upL, if_neg (by omega)]; exact g1 i i1 i2
      · obtain ⟨g1, g2, g3, g4, g5, g6⟩ := sh
        refine ⟨fun i i1 => ?_, g2, g3, g4, g5, g6⟩
        show e_up (F 0) (10 + (tkn B L pos).2.1) (nI (tkn B L (tkn B L pos).2.2.2).2.1 - 3) (10 + i) = e_up (ps.2 0) (tkn B L pos).2.1 (nI (tkn B L (tkn B L pos).2.2.2).2.1 - 3) i
        rw [e_upL, e_upL]
        by_cases e : i = (tkn B L pos).2.1
        · rw [if_pos (by omega), if_pos e]
        · rw [if_neg (by omega), if_neg e]; exact g1 i i1
    · rw [if_neg q1] at e0 n1
      exact bad _ n1 e0
  · rw [if_neg q0] at e0 n0
    exact bad _ (by rw [n0]; rfl) e0
theorem c_item_x (ok : okM f B L) (hp : pos ≤ L) (si : SI σ) (pm : PMO h L (.inr (tkn B L pos)) a6 (nI (ps.1 2)) s8 s9 tc) (h1 : h.2 87 = some (.inl (1, 120, f))) (ha : HA h F) (fh : FH σ F) (sh : SH ps F) : Cv X (d + 4) M_Mo_item [.ref 86, .int 120] h (fun h' => ITM h h' B L σ ps 3 (pNums B L 3 (cntT 3) 0 pos (fun _ => 0)) a6 s8 s9 tc) := by
  have hB : ∀ i, i < L → B i < 256 := fun i q => (ok.2 i q).2
  have so0 := tkn_st B L pos hp
  obtain ⟨b1, b2, b3, b4, b5, b6, b7, k0⟩ := PMO_obj pm
  refine C_of_T rfl rfl (Nat.le_of_ble_eq_true rfl) rfl ?_
  refine T_iload_n (pc' := 1) d_Mo_item_0 rfl rfl rfl ?_
  refine sw_Mo_item_1 (fun hx => absurd hx (by decide)) (fun hx => absurd hx (by decide)) (fun hx => absurd hx (by decide)) (fun _ _ _ => ?_)
  refine T_aload_n (pc' := 189) d_Mo_item_188 rfl rfl rfl ?_
  refine T_get (pc' := 192) d_Mo_item_189 rfl g_Mo_38 (by first | assumption | exact e_put_s | simp [e_put, *]) rfl ?_
  refine T_iconst (v := 1) (pc' := 193) d_Mo_item_192 rfl (by decide) ?_
  refine T_aload_n (pc' := 194) d_Mo_item_193 rfl rfl rfl ?_
  refine T_iconst (v := 0) (pc' := 195) d_Mo_item_194 rfl (by decide) ?_
  refine T_bipush (v := 40) (pc' := 197) d_Mo_item_195 rfl (by decide) ?_
  refine T_V2i (pc' := 200) d_Mo_item_197 rfl l_Mo_113 v_Mo_number (by first | assumption | exact e_put_s | simp [e_put, *]) (Nat.le_of_ble_eq_true rfl) (c_number X _ h s8 s9 tc f B L 0 40 (by decide) (by decide) _ a6 (nI (ps.1 2)) ok so0 (tkn_v B L pos hB) pm h1) (fun v0 h2 hq => ?_)
  obtain ⟨⟨c2, rfl⟩, pm2, hv0⟩ := hq
  have ha2 : HA (e_put h 86 c2) F := HA_obj ha
  have w := ha2 8 (by omega)
  refine T_iastoreL 1 (pc' := 201) d_Mo_item_200 rfl w (by decide) ?_
  have fh' : FH σ (upF F 8 (e_up (F 8) 1 v0)) := by
    obtain ⟨g1, g2, g3, g4, g5, g6⟩ := fh
    exact ⟨g1, g2, g3, g4, g5, g6⟩
  have ha3 := HA_put (j := 8) (f := e_up (F 8) 1 v0) ha2 (by omega)
  have ex3 : ExP h (e_put (e_put h 86 c2) (88 + 8) (.inl (0, mLen 8, e_up (F 8) 1 v0))) := (ExP.rf.put (Or.inl rfl)).put (Or.inr ⟨by omega, by omega⟩)
  have pm3 : PMO (e_put (e_put h 86 c2) (88 + 8) (.inl (0, mLen 8, e_up (F 8) 1 v0))) L (nS B L 0 40 (.inr (tkn B L pos))) a6 (nI (ps.1 2)) s8 s9 tc := PMO_fr (e_put_n (by decide)) pm2
  have e0 : pNums B L 3 (cntT 3) 0 pos (fun _ => 0) = if nOk 0 40 (tkn B L pos) then .inr ((fun k => if k = 0 then (tkn B L pos).2.1 else 0), (tkn B L pos).2.2.2) else .inl (tkn B L pos).2.2.1 := rfl
  have n0 : nS B L 0 40 (.inr (tkn B L pos)) = if nOk 0 40 (tkn B L pos) then .inr (tkn B L (tkn B L pos).2.2.2) else .inl (tkn B L pos).2.2.1 := rfl
  rw [e0]
  by_cases q0 : nOk 0 40 (tkn B L pos)
  · rw [if_pos q0] at n0 ⊢
    rw [n0] at pm3
    have ev0 := hv0 _ rfl q0
    subst ev0
    obtain ⟨so', va, k3, mt⟩ := pm3
    refine T_aload_n (pc' := 202) d_Mo_item_201 rfl rfl rfl ?_
    refine T_iconst (v := 1) (pc' := 203) d_Mo_item_202 rfl (by decide) ?_
    refine T_putz17 (pc' := 206) d_Mo_item_203 rfl f_Mo_117 (fun z => absurd z Bool.false_ne_true) k3 (by first | assumption | exact Or.inl rfl | exact Or.inr rfl) ?_
    refine T_vret d_Mo_item_206 rfl ?_
    refine ⟨rfl, ex3.put (Or.inl rfl), ⟨so', va, e_put_s, mt⟩, _, HA_obj ha3, fh', ?_⟩
    obtain ⟨g1, g2, g3, g4, g5, g6⟩ := sh
    exact ⟨g1, g2, g3, g4, g5, rfl⟩
  · rw [if_neg q0] at n0 ⊢
    rw [n0] at pm3
    obtain ⟨a1, so', va, b6', b7', k3⟩ := pm3
    refine T_aload_n (pc' := 202) d_Mo_item_201 rfl rfl rfl ?_
    refine T_iconst (v := 1) (pc' := 203) d_Mo_item_202 rfl (by decide) ?_
    refine T_putz17 (pc' := 206) d_Mo_item_203 rfl f_Mo_117 (fun z => absurd z Bool.false_ne_true) k3 (by first | assumption | exact Or.inl rfl | exact Or.inr rfl) ?_
    refine T_vret d_Mo_item_206 rfl ?_
    exact ⟨rfl, ex3.put (Or.inl rfl), ⟨_, _, _, _, _, e_put_s⟩, _, HA_obj ha3, fh'⟩
theorem c_item_t (ok : okM f B L) (hp : pos ≤ L) (si : SI σ) (hm : ps.1 1 < 4) (pm : PMO h L (.inr (tkn B L pos)) a6 (nI (ps.1 2)) s8 s9 tc) (h1 : h.2 87 = some (.inl (1, 120, f))) (ha : HA h F) (fh : FH σ F) (sh : SH ps F) : Cv X (d + 4) M_Mo_item [.ref 86, .int 116] h (fun h' => ITM h h' B L σ ps 2 (pNums B L 2 (cntT 2) 0 pos (fun _ => 0)) a6 s8 s9 tc) := by
  have hB : ∀ i, i < L → B i < 256 := fun i q => (ok.2 i q).2
  have so0 := tkn_st B L pos hp
  have sm := si.1.2.2.1
  obtain ⟨b1, b2, b3, b4, b5, b6, b7, k0⟩ := PMO_obj pm
  obtain ⟨y1, y2, y3, y4, y5, y6⟩ := sh
  have w5 := ha 5 (by omega)
  refine C_of_T rfl rfl (Nat.le_of_ble_eq_true rfl) rfl ?_
  refine T_iload_n (pc' := 1) d_Mo_item_0 rfl rfl rfl ?_
  refine sw_Mo_item_1 (fun hx => absurd hx (by decide)) (fun _ => ?_) (fun hx => absurd hx (by decide)) (fun _ y _ => absurd rfl y)
  refine T_iconst (v := 4) (pc' := 139) d_Mo_item_138 rfl (by decide) ?_
  refine T_aload_n (pc' := 140) d_Mo_item_139 rfl rfl rfl ?_
  refine T_get (pc' := 143) d_Mo_item_140 rfl g_Mo_29 (by first | assumption | exact e_put_s | simp [e_put, *]) rfl ?_
  refine T_iconst (v := 1) (pc' := 144) d_Mo_item_143 rfl (by decide) ?_
  refine T_ialoadL 1 (pc' := 145) d_Mo_item_144 rfl (by first | assumption | exact e_put_s | simp [e_put, *]) (by decide) ?_
  rw [y4]
  refine T_iadd (pc' := 146) d_Mo_item_145 rfl ?_
  rw [show (4 : Int32) + nI (ps.1 1) = nI (4 + ps.1 1) from nI_add 4 _]
  refine T_is5 (pc' := 148) d_Mo_item_146 rfl (Nat.le_of_ble_eq_true rfl) rfl ?_
  refine T_aload_n (pc' := 149) d_Mo_item_148 rfl rfl rfl ?_
  refine T_get (pc' := 152) d_Mo_item_149 rfl g_Mo_32 (by first | assumption | exact e_put_s | simp [e_put, *]) rfl ?_
  refine T_iload (pc' := 154) d_Mo_item_152 rfl rfl ?_
  refine T_aload_n (pc' := 155) d_Mo_item_154 rfl rfl rfl ?_
  refine T_iconst (v := 1) (pc' := 156) d_Mo_item_155 rfl (by decide) ?_
  refine T_bipush (v := 30) (pc' := 158) d_Mo_item_156 rfl (by decide) ?_
  refine T_V2i (pc' := 161) d_Mo_item_158 rfl l_Mo_113 v_Mo_number (by first | assumption | exact e_put_s | simp [e_put, *]) (Nat.le_of_ble_eq_true rfl) (c_number X _ h s8 s9 tc f B L 1 30 (by decide) (by decide) _ a6 (nI (ps.1 2)) ok so0 (tkn_v B L pos hB) pm h1) (fun v0 h2 hq => ?_)
  obtain ⟨⟨c2, rfl⟩, pm2, hv0⟩ := hq
  have ha2 : HA (e_put h 86 c2) F := HA_obj ha
  refine T_iastoreN (4 + ps.1 1) (pc' := 162) d_Mo_item_161 rfl (ha2 6 (by omega)) ⟨by show 4 + ps.1 1 < 8; omega, by decide⟩ ?_
  have ha3 := HA_put (j := 6) (f := e_up (F 6) (4 + ps.1 1) v0) ha2 (by omega)
  have pm3 : PMO (e_put (e_put h 86 c2) (88 + 6) (.inl (0, mLen 6, e_up (F 6) (4 + ps.1 1) v0))) L (nS B L 1 30 (.inr (tkn B L pos))) a6 (nI (ps.1 2)) s8 s9 tc := PMO_fr (e_put_n (by decide)) pm2
  have so1 := nS_ok B L 1 30 _ so0
  obtain ⟨d1, d2, d3, d4, d5, d6, d7, k3⟩ := PMO_obj pm3
  refine T_aload_n (pc' := 163) d_Mo_item_162 rfl rfl rfl ?_
  refine T_get (pc' := 166) d_Mo_item_163 rfl g_Mo_35 k3 rfl ?_
  refine T_iload (pc' := 168) d_Mo_item_166 rfl rfl ?_
  refine T_aload_n (pc' := 169) d_Mo_item_168 rfl rfl rfl ?_
  refine T_iconst (v := 0) (pc' := 170) d_Mo_item_169 rfl (by decide) ?_
  refine T_iconst (v := 5) (pc' := 171) d_Mo_item_170 rfl (by decide) ?_
  refine T_V2i (pc' := 174) d_Mo_item_171 rfl l_Mo_113 v_Mo_number k3 (Nat.le_of_ble_eq_true rfl) (c_number X _ _ s8 s9 tc f B L 0 5 (by decide) (by decide) _ a6 (nI (ps.1 2)) ok so1 (nS_v B L 1 30 hB _) pm3 ((e_put_n (by decide)).trans ((e_put_n (by decide)).trans h1))) (fun v1 h4 hq => ?_)
  obtain ⟨⟨c4, rfl⟩, pm4, hv1⟩ := hq
  have ha4 := HA_obj (c := c4) ha3
  refine T_iastoreN (4 + ps.1 1) (pc' := 175) d_Mo_item_174 rfl (ha4 7 (by omega)) ⟨by show 4 + ps.1 1 < 8; omega, by decide⟩ ?_
  have ha5 := HA_put (j := 7) (f := e_up (F 7) (4 + ps.1 1) v1) ha4 (by omega)
  have pm5 := PMO_fr (h1 := e_put (e_put (e_put (e_put h 86 c2) (88 + 6) (.inl (0, mLen 6, e_up (F 6) (4 + ps.1 1) v0))) 86 c4) (88 + 7) (.inl (0, mLen 7, e_up (F 7) (4 + ps.1 1) v1))) (e_put_n (by decide)) pm4
  obtain ⟨g1, g2, g3, g4, g5, g6, g7, k5⟩ := PMO_obj pm5
  refine T_aload_n (pc' := 176) d_Mo_item_175 rfl rfl rfl ?_
  refine T_get (pc' := 179) d_Mo_item_176 rfl g_Mo_29 k5 rfl ?_
  refine T_iconst (v := 1) (pc' := 180) d_Mo_item_179 rfl (by decide) ?_
  refine T_dup2 (pc' := 181) d_Mo_item_180 rfl rfl rfl ?_
  refine T_ialoadL 1 (pc' := 182) d_Mo_item_181 rfl (ha5 5 (by omega)) (by decide) ?_
  rw [show upF (upF F 6 (e_up (F 6) (4 + ps.1 1) v0)) 7 (e_up (F 7) (4 + ps.1 1) v1) 5 1 = F 5 1 from rfl, y4]
  refine T_iconst (v := 1) (pc' := 183) d_Mo_item_182 rfl (by decide) ?_
  refine T_iadd (pc' := 184) d_Mo_item_183 rfl ?_
  rw [nI_1]
  refine T_iastoreL 1 (pc' := 185) d_Mo_item_184 rfl (ha5 5 (by omega)) (by decide) ?_
  have ha6 := HA_put (j := 5) (f := e_up (F 5) 1 (nI (ps.1 1 + 1))) ha5 (by omega)
  have ex6 : ExP h (e_put (e_put (e_put (e_put (e_put h 86 c2) (88 + 6) (.inl (0, mLen 6, e_up (F 6) (4 + ps.1 1) v0))) 86 c4) (88 + 7) (.inl (0, mLen 7, e_up (F 7) (4 + ps.1 1) v1))) (88 + 5) (.inl (0, mLen 5, e_up (F 5) 1 (nI (ps.1 1 + 1))))) := ((((ExP.rf.put (Or.inl rfl)).put (Or.inr ⟨by omega, by omega⟩)).put (Or.inl rfl)).put (Or.inr ⟨by omega, by omega⟩)).put (Or.inr ⟨by omega, by omega⟩)
  have pm6 := PMO_fr (h1 := e_put (e_put (e_put (e_put (e_put h 86 c2) (88 + 6) (.inl (0, mLen 6, e_up (F 6) (4 + ps.1 1) v0))) 86 c4) (88 + 7) (.inl (0, mLen 7, e_up (F 7) (4 + ps.1 1) v1))) (88 + 5) (.inl (0, mLen 5, e_up (F 5) 1 (nI (ps.1 1 + 1))))) (e_put_n (by decide)) pm5
  have fh' : FH σ (upF (upF (upF F 6 (e_up (F 6) (4 + ps.1 1) v0)) 7 (e_up (F 7) (4 + ps.1 1) v1)) 5 (e_up (F 5) 1 (nI (ps.1 1 + 1)))) := by
    obtain ⟨z1, z2, z3, z4, z5, z6⟩ := fh
    refine ⟨z1, z2, z3, z4, fun i hi => ?_, z6⟩
    show e_up (F 6) (4 + ps.1 1) v0 i = _ ∧ e_up (F 7) (4 + ps.1 1) v1 i = _
    rw [e_upL, e_upL, if_neg (by omega), if_neg (by omega)]; exact z5 i hi
  refine T_goto (pc' := 206) d_Mo_item_185 (by decide) ?_
  refine T_vret d_Mo_item_206 rfl ?_
  have e0 : pNums B L 2 (cntT 2) 0 pos (fun _ => 0) = if nOk 1 30 (tkn B L pos) then (if nOk 0 5 (tkn B L (tkn B L pos).2.2.2) then .inr ((fun k => if k = 1 then (tkn B L (tkn B L pos).2.2.2).2.1 else if k = 0 then (tkn B L pos).2.1 else 0), (tkn B L (tkn B L pos).2.2.2).2.2.2) else .inl (tkn B L (tkn B L pos).2.2.2).2.2.1) else .inl (tkn B L pos).2.2.1 := rfl
  have n0 : nS B L 1 30 (.inr (tkn B L pos)) = if nOk 1 30 (tkn B L pos) then .inr (tkn B L (tkn B L pos).2.2.2) else .inl (tkn B L pos).2.2.1 := rfl
  rw [e0]
  refine ⟨rfl, ex6, ?_⟩
  by_cases q0 : nOk 1 30 (tkn B L pos)
  · rw [if_pos q0] at n0 ⊢
    rw [n0] at pm6 hv1
    have n1 : nS B L 0 5 (.inr (tkn B L (tkn B L pos).2.2.2)) = if nOk 0 5 (tkn B L (tkn B L pos).2.2.2) then .inr (tkn B L (tkn B L (tkn B L pos).2.2.2).2.2.2) else .inl (tkn B L (tkn B L pos).2.2.2).2.2.1 := rfl
    by_cases q1 : nOk 0 5 (tkn B L (tkn B L pos).2.2.2)
    · rw [if_pos q1] at n1 ⊢
      rw [n1] at pm6
      have ev0 := hv0 _ rfl q0
      have ev1 := hv1 _ rfl q1
      refine ⟨pm6, _, ha6, fh', y1, y2, y3, rfl, fun i (hi : i < ps.1 1 + 1) => ?_, y6⟩
      show e_up (F 6) (4 + ps.1 1) v0 (4 + i) = e_up (ps.2 3) (ps.1 1) (nI (tkn B L pos).2.1) i ∧ e_up (F 7) (4 + ps.1 1) v1 (4 + i) = e_up (ps.2 4) (ps.1 1) (nI (tkn B L (tkn B L pos).2.2.2).2.1) i
      rw [e_upL, e_upL, e_upL, e_upL]
      by_cases e : i = ps.1 1
      · rw [if_pos (by omega), if_pos e, if_pos (by omega), if_pos e]; exact ⟨ev0, ev1⟩
      · rw [if_neg (by omega), if_neg e, if_neg (by omega), if_neg e]; exact y5 i (by omega)
    · rw [if_neg q1] at n1 ⊢
      rw [n1] at pm6
      exact ⟨PMO_bad pm6, _, ha6, fh'⟩
  · rw [if_neg q0] at n0 ⊢
    rw [n0] at pm6
    exact ⟨PMO_bad pm6, _, ha6, fh'⟩
theorem c_item_p (ok : okM f B L) (hp : pos ≤ L) (si : SI σ) (hn : ps.1 0 < 3) (pm : PMO h L (.inr (tkn B L pos)) a6 (nI (ps.1 2)) s8 s9 tc) (h1 : h.2 87 = some (.inl (1, 120, f))) (ha : HA h F) (fh : FH σ F) (sh : SH ps F) : Cv X (d + 4) M_Mo_item [.ref 86, .int 112] h (fun h' => ITM h h' B L σ ps 1 (pNums B L 1 (cntT 1) 0 pos (fun _ => 0)) a6 s8 s9 tc) := by
  have hB : ∀ i, i < L → B i < 256 := fun i q => (ok.2 i q).2
  have so0 := tkn_st B L pos hp
  have sn := si.1.2.1
  obtain ⟨b1, b2, b3, b4, b5, b6, b7, k0⟩ := PMO_obj pm
  obtain ⟨y1, y2, y3, y4, y5, y6⟩ := sh
  have w5 := ha 1 (by omega)
  refine C_of_T rfl rfl (Nat.le_of_ble_eq_true rfl) rfl ?_
  refine T_iload_n (pc' := 1) d_Mo_item_0 rfl rfl rfl ?_
  refine sw_Mo_item_1 (fun _ => ?_) (fun hx => absurd hx (by decide)) (fun hx => absurd hx (by decide)) (fun y _ _ => absurd rfl y)
  refine T_iconst (v := 3) (pc' := 75) d_Mo_item_74 rfl (by decide) ?_
  refine T_aload_n (pc' := 76) d_Mo_item_75 rfl rfl rfl ?_
  refine T_get (pc' := 79) d_Mo_item_76 rfl g_Mo_17 (by first | assumption | exact e_put_s | simp [e_put, *]) rfl ?_
  refine T_iconst (v := 1) (pc' := 80) d_Mo_item_79 rfl (by decide) ?_
  refine T_ialoadL 1 (pc' := 81) d_Mo_item_80 rfl (by first | assumption | exact e_put_s | simp [e_put, *]) (by decide) ?_
  rw [y2]
  refine T_iadd (pc' := 82) d_Mo_item_81 rfl ?_
  rw [show (3 : Int32) + nI (ps.1 0) = nI (3 + ps.1 0) from nI_add 3 _]
  refine T_is4 (pc' := 84) d_Mo_item_82 rfl (Nat.le_of_ble_eq_true rfl) rfl ?_
  refine T_aload_n (pc' := 85) d_Mo_item_84 rfl rfl rfl ?_
  refine T_get (pc' := 88) d_Mo_item_85 rfl g_Mo_20 (by first | assumption | exact e_put_s | simp [e_put, *]) rfl ?_
  refine T_iload (pc' := 90) d_Mo_item_88 rfl rfl ?_
  refine T_aload_n (pc' := 91) d_Mo_item_90 rfl rfl rfl ?_
  refine T_iconst (v := 0) (pc' := 92) d_Mo_item_91 rfl (by decide) ?_
  refine T_bipush (v := 9) (pc' := 94) d_Mo_item_92 rfl (by decide) ?_
  refine T_V2i (pc' := 97) d_Mo_item_94 rfl l_Mo_113 v_Mo_number (by first | assumption | exact e_put_s | simp [e_put, *]) (Nat.le_of_ble_eq_true rfl) (c_number X _ h s8 s9 tc f B L 0 9 (by decide) (by decide) _ a6 (nI (ps.1 2)) ok so0 (tkn_v B L pos hB) pm h1) (fun v0 h2 hq => ?_)
  obtain ⟨⟨c2, rfl⟩, pm2, hv0⟩ := hq
  have ha2 : HA (e_put h 86 c2) F := HA_obj ha
  refine T_iastoreN (3 + ps.1 0) (pc' := 98) d_Mo_item_97 rfl (ha2 2 (by omega)) ⟨by show 3 + ps.1 0 < 6; omega, by decide⟩ ?_
  have ha3 := HA_put (j := 2) (f := e_up (F 2) (3 + ps.1 0) v0) ha2 (by omega)
  have h13 : (e_put (e_put h 86 c2) (88 + 2) (.inl (0, mLen 2, e_up (F 2) (3 + ps.1 0) v0))).2 87 = some (.inl (1, 120, f)) := (e_put_n (by decide)).trans ((e_put_n (by decide)).trans h1)
  have ex3 : ExP h (e_put (e_put h 86 c2) (88 + 2) (.inl (0, mLen 2, e_up (F 2) (3 + ps.1 0) v0))) := (ExP.rf.put (Or.inl rfl)).put (Or.inr ⟨by omega, by omega⟩)
  have pm3 : PMO (e_put (e_put h 86 c2) (88 + 2) (.inl (0, mLen 2, e_up (F 2) (3 + ps.1 0) v0))) L (nS B L 0 9 (.inr (tkn B L pos))) a6 (nI (ps.1 2)) s8 s9 tc := PMO_fr (e_put_n (by decide)) pm2
  show T _ _ _ _ _ _ (e_put (e_put h 86 c2) (88 + 2) (.inl (0, mLen 2, e_up (F 2) (3 + ps.1 0) v0))) _
  generalize e_put (e_put h 86 c2) (88 + 2) (.inl (0, mLen 2, e_up (F 2) (3 + ps.1 0) v0)) = H3 at *
  have so1 := nS_ok B L 0 9 _ so0
  obtain ⟨d1, d2, d3, d4, d5, d6, d7, k3⟩ := PMO_obj pm3
  refine T_aload_n (pc' := 99) d_Mo_item_98 rfl rfl rfl ?_
  refine T_get (pc' := 102) d_Mo_item_99 rfl g_Mo_23 k3 rfl ?_
  refine T_iload (pc' := 104) d_Mo_item_102 rfl rfl ?_
  refine T_aload_n (pc' := 105) d_Mo_item_104 rfl rfl rfl ?_
  refine T_iconst (v := 1) (pc' := 106) d_Mo_item_105 rfl (by decide) ?_
  refine T_bipush (v := 9) (pc' := 108) d_Mo_item_106 rfl (by decide) ?_
  refine T_V2i (pc' := 111) d_Mo_item_108 rfl l_Mo_113 v_Mo_number k3 (Nat.le_of_ble_eq_true rfl) (c_number X _ H3 s8 s9 tc f B L 1 9 (by decide) (by decide) _ a6 (nI (ps.1 2)) ok so1 (nS_v B L 0 9 hB _) pm3 h13) (fun v1 h4 hq => ?_)
  obtain ⟨⟨c4, rfl⟩, pm4, hv1⟩ := hq
  have ha4 := HA_obj (c := c4) ha3
  refine T_iastoreN (3 + ps.1 0) (pc' := 112) d_Mo_item_111 rfl (ha4 3 (by omega)) ⟨by show 3 + ps.1 0 < 6; omega, by decide⟩ ?_
  have ha5 := HA_put (j := 3) (f := e_up (F 3) (3 + ps.1 0) v1) ha4 (by omega)
  have h15 : (e_put (e_put H3 86 c4) (88 + 3) (.inl (0, mLen 3, e_up (F 3) (3 + ps.1 0) v1))).2 87 = some (.inl (1, 120, f)) := (e_put_n (by decide)).trans ((e_put_n (by decide)).trans h13)
  have ex5 : ExP h (e_put (e_put H3 86 c4) (88 + 3) (.inl (0, mLen 3, e_up (F 3) (3 + ps.1 0) v1))) := (ex3.put (Or.inl rfl)).put (Or.inr ⟨by omega, by omega⟩)
  have pm5 : PMO (e_put (e_put H3 86 c4) (88 + 3) (.inl (0, mLen 3, e_up (F 3) (3 + ps.1 0) v1))) L _ a6 (nI (ps.1 2)) s8 s9 tc := PMO_fr (e_put_n (by decide)) pm4
  show T _ _ _ _ _ _ (e_put (e_put H3 86 c4) (88 + 3) (.inl (0, mLen 3, e_up (F 3) (3 + ps.1 0) v1))) _
  generalize e_put (e_put H3 86 c4) (88 + 3) (.inl (0, mLen 3, e_up (F 3) (3 + ps.1 0) v1)) = H5 at *
  have so2 := nS_ok B L 1 9 _ so1
  obtain ⟨g1, g2, g3, g4, g5, g6, g7, k5⟩ := PMO_obj pm5
  refine T_aload_n (pc' := 113) d_Mo_item_112 rfl rfl rfl ?_
  refine T_get (pc' := 116) d_Mo_item_113 rfl g_Mo_26 k5 rfl ?_
  refine T_iload (pc' := 118) d_Mo_item_116 rfl rfl ?_
  refine T_aload_n (pc' := 119) d_Mo_item_118 rfl rfl rfl ?_
  refine T_iconst (v := 0) (pc' := 120) d_Mo_item_119 rfl (by decide) ?_
  refine T_iconst (v := 1) (pc' := 121) d_Mo_item_120 rfl (by decide) ?_
  refine T_V2i (pc' := 124) d_Mo_item_121 rfl l_Mo_113 v_Mo_number k5 (Nat.le_of_ble_eq_true rfl) (c_number X _ H5 s8 s9 tc f B L 0 1 (by decide) (by decide) _ a6 (nI (ps.1 2)) ok so2 (nS_v B L 1 9 hB _) pm5 h15) (fun v2 h6 hq => ?_)
  obtain ⟨⟨c6, rfl⟩, pm6, hv2⟩ := hq
  have ha6 := HA_obj (c := c6) ha5
  refine T_iastoreN (3 + ps.1 0) (pc' := 125) d_Mo_item_124 rfl (ha6 4 (by omega)) ⟨by show 3 + ps.1 0 < 6; omega, by decide⟩ ?_
  have ha7 := HA_put (j := 4) (f := e_up (F 4) (3 + ps.1 0) v2) ha6 (by omega)
  have ex7 : ExP h (e_put (e_put H5 86 c6) (88 + 4) (.inl (0, mLen 4, e_up (F 4) (3 + ps.1 0) v2))) := (ex5.put (Or.inl rfl)).put (Or.inr ⟨by omega, by omega⟩)
  have pm7 : PMO (e_put (e_put H5 86 c6) (88 + 4) (.inl (0, mLen 4, e_up (F 4) (3 + ps.1 0) v2))) L _ a6 (nI (ps.1 2)) s8 s9 tc := PMO_fr (e_put_n (by decide)) pm6
  show T _ _ _ _ _ _ (e_put (e_put H5 86 c6) (88 + 4) (.inl (0, mLen 4, e_up (F 4) (3 + ps.1 0) v2))) _
  generalize e_put (e_put H5 86 c6) (88 + 4) (.inl (0, mLen 4, e_up (F 4) (3 + ps.1 0) v2)) = H7 at *
  obtain ⟨g1', g2', g3', g4', g5', g6', g7', k7⟩ := PMO_obj pm7
  refine T_aload_n (pc' := 126) d_Mo_item_125 rfl rfl rfl ?_
  refine T_get (pc' := 129) d_Mo_item_126 rfl g_Mo_17 k7 rfl ?_
  refine T_iconst (v := 1) (pc' := 130) d_Mo_item_129 rfl (by decide) ?_
  refine T_dup2 (pc' := 131) d_Mo_item_130 rfl rfl rfl ?_
  refine T_ialoadL 1 (pc' := 132) d_Mo_item_131 rfl (ha7 1 (by omega)) (by decide) ?_
  rw [show upF (upF (upF F 2 (e_up (F 2) (3 + ps.1 0) v0)) 3 (e_up (F 3) (3 + ps.1 0) v1)) 4 (e_up (F 4) (3 + ps.1 0) v2) 1 1 = F 1 1 from rfl, y2]
  refine T_iconst (v := 1) (pc' := 133) d_Mo_item_132 rfl (by decide) ?_
  refine T_iadd (pc' := 134) d_Mo_item_133 rfl ?_
  rw [nI_1]
  refine T_iastoreL 1 (pc' := 135) d_Mo_item_134 rfl (ha7 1 (by omega)) (by decide) ?_
  have ha8 := HA_put (j := 1) (f := e_up (F 1) 1 (nI (ps.1 0 + 1))) ha7 (by omega)
  have pm8 : PMO (e_put H7 (88 + 1) (.inl (0, mLen 1, e_up (F 1) 1 (nI (ps.1 0 + 1))))) L _ a6 (nI (ps.1 2)) s8 s9 tc := PMO_fr (e_put_n (by decide)) pm7
  have fh' : FH σ (upF (upF (upF (upF F 2 (e_up (F 2) (3 + ps.1 0) v0)) 3 (e_up (F 3) (3 + ps.1 0) v1)) 4 (e_up (F 4) (3 + ps.1 0) v2)) 1 (e_up (F 1) 1 (nI (ps.1 0 + 1)))) := by
    obtain ⟨z1, z2, z3, z4, z5, z6⟩ := fh
    refine ⟨z1, z2, fun i hi => ?_, z4, z5, z6⟩
    show e_up (F 2) (3 + ps.1 0) v0 i = _ ∧ e_up (F 3) (3 + ps.1 0) v1 i = _
    rw [e_upL, e_upL, if_neg (by omega), if_neg (by omega)]; exact z3 i hi
  refine T_goto (pc' := 206) d_Mo_item_135 (by decide) ?_
  refine T_vret d_Mo_item_206 rfl ?_
  have e0 : pNums B L 1 (cntT 1) 0 pos (fun _ => 0) = if nOk 0 9 (tkn B L pos) then (if nOk 1 9 (tkn B L (tkn B L pos).2.2.2) then (if nOk 0 1 (tkn B L (tkn B L (tkn B L pos).2.2.2).2.2.2) then .inr ((fun k => if k = 2 then (tkn B L (tkn B L (tkn B L pos).2.2.2).2.2.2).2.1 else if k = 1 then (tkn B L (tkn B L pos).2.2.2).2.1 else if k = 0 then (tkn B L pos).2.1 else 0), (tkn B L (tkn B L (tkn B L pos).2.2.2).2.2.2).2.2.2) else .inl (tkn B L (tkn B L (tkn B L pos).2.2.2).2.2.2).2.2.1) else .inl (tkn B L (tkn B L pos).2.2.2).2.2.1) else .inl (tkn B L pos).2.2.1 := rfl
  have n0 : nS B L 0 9 (.inr (tkn B L pos)) = if nOk 0 9 (tkn B L pos) then .inr (tkn B L (tkn B L pos).2.2.2) else .inl (tkn B L pos).2.2.1 := rfl
  rw [e0]
  refine ⟨rfl, ex7.put (Or.inr ⟨by omega, by omega⟩), ?_⟩
  by_cases q0 : nOk 0 9 (tkn B L pos)
  · rw [if_pos q0] at n0 ⊢
    rw [n0] at pm8 hv1 hv2
    have n1 : nS B L 1 9 (.inr (tkn B L (tkn B L pos).2.2.2)) = if nOk 1 9 (tkn B L (tkn B L pos).2.2.2) then .inr (tkn B L (tkn B L (tkn B L pos).2.2.2).2.2.2) else .inl (tkn B L (tkn B L pos).2.2.2).2.2.1 := rfl
    by_cases q1 : nOk 1 9 (tkn B L (tkn B L pos).2.2.2)
    · rw [if_pos q1] at n1 ⊢
      rw [n1] at pm8 hv2
      have n2 : nS B L 0 1 (.inr (tkn B L (tkn B L (tkn B L pos).2.2.2).2.2.2)) = if nOk 0 1 (tkn B L (tkn B L (tkn B L pos).2.2.2).2.2.2) then .inr (tkn B L (tkn B L (tkn B L (tkn B L pos).2.2.2).2.2.2).2.2.2) else .inl (tkn B L (tkn B L (tkn B L pos).2.2.2).2.2.2).2.2.1 := rfl
      by_cases q2 : nOk 0 1 (tkn B L (tkn B L (tkn B L pos).2.2.2).2.2.2)
      · rw [if_pos q2] at n2 ⊢
        rw [n2] at pm8
        have ev0 := hv0 _ rfl q0
        have ev1 := hv1 _ rfl q1
        have ev2 := hv2 _ rfl q2
        refine ⟨pm8, _, ha8, fh', y1, rfl, fun i (hi : i < ps.1 0 + 1) => ?_, y4, y5, y6⟩
        show e_up (F 2) (3 + ps.1 0) v0 (3 + i) = e_up (ps.2 1) (ps.1 0) (nI (tkn B L pos).2.1) i ∧ e_up (F 3) (3 + ps.1 0) v1 (3 + i) = e_up (ps.2 2) (ps.1 0) (nI (tkn B L (tkn B L pos).2.2.2).2.1) i ∧ e_up (F 4) (3 + ps.1 0) v2 (3 + i) = e_up (ps.2 6) (ps.1 0) (nI (tkn B L (tkn B L (tkn B L pos).2.2.2).2.2.2).2.1) i
        rw [e_upL, e_upL, e_upL, e_upL, e_upL, e_upL]
        by_cases e : i = ps.1 0
        · rw [if_pos (by omega), if_pos e, if_pos (by omega), if_pos e, if_pos (by omega), if_pos e]; exact ⟨ev0, ev1, ev2⟩
        · rw [if_neg (by omega), if_neg e, if_neg (by omega), if_neg e, if_neg (by omega), if_neg e]; exact y3 i (by omega)
      · rw [if_neg q2] at n2 ⊢
        rw [n2] at pm8
        exact ⟨PMO_bad pm8, _, ha8, fh'⟩
    · rw [if_neg q1] at n1 ⊢
      rw [n1] at pm8
      exact ⟨PMO_bad pm8, _, ha8, fh'⟩
  · rw [if_neg q0] at n0 ⊢
    rw [n0] at pm8
    exact ⟨PMO_bad pm8, _, ha8, fh'⟩
end MITEM
