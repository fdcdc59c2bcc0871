/-! CONSTRUCTORS: making cells -/
def NW (h H : AH) (m s n : Nat) (c : AC) : Prop := H.1 = (m + 1, s + n) ∧ H.2 m = some c ∧ ∀ k, k ≠ m → H.2 k = h.2 k
theorem NW_new {h : AH} {m s n : Nat} {c : AC} (hm : h.1 = (m, s)) : NW h (e_new h c n) m s n c := by
  have e1 : h.1.1 = m := by rw [hm]
  have e2 : h.1.2 = s := by rw [hm]
  subst e1
  subst e2
  exact ⟨rfl, if_pos rfl, fun k hk => if_neg hk⟩
/-- a row of arrays made one after another behind their owner -/
def AL (h H : AH) (a : Nat) (o : AC) (l : List (Nat × Nat)) (s : Nat) : Prop := H.1 = (a + 1 + l.length, s) ∧ H.2 a = some o ∧ (∀ j p, l[j]? = some p → H.2 (a + 1 + j) = some (.inl (p.1, p.2, fun _ => 0))) ∧ ∀ k, k < a → H.2 k = h.2 k
theorem AL0 {h : AH} {a s : Nat} {o : AC} (hm : h.1 = (a + 1, s)) (hb : h.2 a = some o) : AL h h a o [] s := ⟨hm, hb, fun j p q => (by cases j <;> cases q), fun _ _ => rfl⟩
theorem AL.put {h H : AH} {a s : Nat} {o o' : AC} {l : List (Nat × Nat)} (al : AL h H a o l s) : AL h (e_put H a o') a o' l s := ⟨al.1, e_put_s, fun j p q => (e_put_n (by omega)).trans (al.2.2.1 j p q), fun k hk => (e_put_n (by omega)).trans (al.2.2.2 k hk)⟩
theorem AL.add {h H H1 : AH} {a s t N : Nat} {o : AC} {l : List (Nat × Nat)} (al : AL h H a o l s) (nw : NW H H1 (a + 1 + l.length) s N (.inl (t, N, fun _ => 0))) : AL h H1 a o (l ++ [(t, N)]) (s + N) := by
  obtain ⟨a1, a2, a3, a4⟩ := al
  obtain ⟨n1, n2, n3⟩ := nw
  refine ⟨?_, (n3 a (by omega)).trans a2, fun j p q => ?_, fun k hk => (n3 k (by omega)).trans (a4 k hk)⟩
  · rw [n1, List.length_append]; rfl
  · by_cases e : j < l.length
    · rw [List.getElem?_append_left e] at q
      exact (n3 _ (by omega)).trans (a3 j p q)
    · by_cases e2 : j = l.length
      · subst e2
        rw [List.getElem?_append_right (Nat.le_refl _), Nat.sub_self] at q
        cases q
        exact n2
      · rw [List.getElem?_eq_none (by rw [List.length_append]; show l.length + 1 ≤ j; omega)] at q
        cases q
section NEW2
variable {X : EX} {d : Nat} {M : Mt} {pc pc' : Nat} {ls st : List Value} {h : AH} {Q : Option Value → AH → Prop}
theorem T_newA {h0 : AH} {n : Int32} {N a s t m : Nat} {o : AC} {l l' : List (Nat × Nat)} {at_ : ArrayType} (hd : decode M.2.1 pc = .ok (.newarray at_, 2)) (hn : pc + 2 = pc') (hat : (at_ = .int ∧ t = 0) ∨ (at_ = .byte ∧ t = 1) ∨ (at_ = .boolean ∧ t = 2)) (harr : Cond.arrayClass (newarray.typeOf at_) ∈ e_gw) (hn0 : ¬ n < 0) (hN : n.toNatClampNeg = N) (hNs : N ≤ 100000) (al : AL h0 h a o l s) (hm : a + 1 + l.length = m) (hlt : m < 1000) (hl : l ++ [(t, N)] = l') (kk : ∀ H : AH, H.2 a = some o → AL h0 H a o l' (s + N) → T X d M pc' ls (.ref m :: st) H Q) : T X d M pc ls (.int n :: st) h Q := by
  subst hm
  subst hl
  have e1 : h.1.1 = a + 1 + l.length := by rw [al.1]
  refine T_newi hd hn hat harr hn0 hN hNs (by omega) ?_
  rw [e1]
  have al2 := al.add (NW_new (c := .inl (t, N, fun _ => 0)) (n := N) al.1)
  exact kk _ al2.2.1 al2
theorem T_new1 {idx ci m s : Nat} {r : vw_C} {tys : Nat → FieldType} {fs : List Value} (hd : decode M.2.1 pc = .ok (.new idx, 3)) (hn : pc + 3 = pc') (hkc : KC ci r tys) (hcl : Cond.classLink M.1.cls idx r.1 ∈ e_gw) (hins : Cond.instantiable r.1 r.2.2 ∈ e_gw) (hini : Cond.initialized r.1 ∈ e_gw) (hfs : fs.length = r.2.2 ∧ ∀ k, k < r.2.2 → fs[k]? = some (defaultValue (tys k))) (hm : h.1 = (m, s)) (hlt : m < 1000) (kk : ∀ H : AH, NW h H m s r.2.2 (.inr (.inr (ci, fs))) → T X d M pc' ls (.ref m :: st) H Q) : T X d M pc ls st h Q := by
  have e1 : h.1.1 = m := by rw [hm]
  refine T_new hd hn hkc hcl hins hini hfs (by omega) ?_
  rw [e1]
  exact kk _ (NW_new hm)
theorem T_newr1 {n : Int32} {N idx t m s : Nat} {K : String} (hd : decode M.2.1 pc = .ok (.anewarray idx, 3)) (hn : pc + 3 = pc') (hat : (K = R_Fl ∧ t = 3) ∨ (K = R_Im ∧ t = 4)) (hcl : Cond.classLink M.1.cls idx K ∈ e_gw) (hn0 : ¬ n < 0) (hN : n.toNatClampNeg = N) (hNs : N ≤ 100000) (hm : h.1 = (m, s)) (hlt : m < 1000) (kk : ∀ H : AH, NW h H m s N (.inr (.inl (t, N, fun _ => none))) → T X d M pc' ls (.ref m :: st) H Q) : T X d M pc ls (.int n :: st) h Q := by
  have e1 : h.1.1 = m := by rw [hm]
  refine T_newr hd hn hat hcl hn0 hN hNs (by omega) ?_
  rw [e1]
  exact kk _ (NW_new hm)
theorem T_newi1 {n : Int32} {N m s t : Nat} {at_ : ArrayType} (hd : decode M.2.1 pc = .ok (.newarray at_, 2)) (hn : pc + 2 = pc') (hat : (at_ = .int ∧ t = 0) ∨ (at_ = .byte ∧ t = 1) ∨ (at_ = .boolean ∧ t = 2)) (harr : Cond.arrayClass (newarray.typeOf at_) ∈ e_gw) (hn0 : ¬ n < 0) (hN : n.toNatClampNeg = N) (hNs : N ≤ 100000) (hm : h.1 = (m, s)) (hlt : m < 1000) (kk : ∀ H : AH, NW h H m s N (.inl (t, N, fun _ => 0)) → T X d M pc' ls (.ref m :: st) H Q) : T X d M pc ls (.int n :: st) h Q := by
  have e1 : h.1.1 = m := by rw [hm]
  refine T_newi hd hn hat harr hn0 hN hNs (by omega) ?_
  rw [e1]
  exact kk _ (NW_new hm)
theorem T_grid1 {n k : Int32} {N K idx m s : Nat} (hd : decode M.2.1 pc = .ok (.multianewarray idx 2, 4)) (hn : pc + 4 = pc') (hcl : Cond.classLink M.1.cls idx "[[I" ∈ e_gw) (harr : Cond.arrayClass .int ∈ e_gw) (hn0 : ¬ n < 0) (hk0 : ¬ k < 0) (hN : n.toNatClampNeg = N) (hK : k.toNatClampNeg = K) (hNs : N ≤ 1000 ∧ K ≤ 1000) (hm : h.1 = (m, s)) (hlt : m < 1000) (kk : ∀ H : AH, H.1 = (m + 1 + N, s + N + N * K) → (∃ r, H.2 m = some (.inr (.inl (5, N, r))) ∧ ∀ i, i < N → r i = some (m + 1 + i)) → (∀ i, m < i → i ≤ m + N → H.2 i = some (.inl (0, K, fun _ => 0))) → (∀ i, ¬ (m ≤ i ∧ i ≤ m + N) → H.2 i = h.2 i) → T X d M pc' ls (.ref m :: st) H Q) : T X d M pc ls (.int k :: .int n :: st) h Q := by
  have e1 : h.1.1 = m := by rw [hm]
  have e2 : h.1.2 = s := by rw [hm]
  refine T_grid hd hn hcl harr hn0 hk0 hN hK hNs (by omega) ?_
  have e3 : (e_grid h N K).1 = (m + 1 + N, s + N + N * K) := by rw [e_grid, e1, e2]
  have e4 : ∃ r, (e_grid h N K).2 m = some (.inr (.inl (5, N, r))) ∧ ∀ i, i < N → r i = some (m + 1 + i) := by
    refine ⟨_, if_pos e1.symm, fun i hi => ?_⟩
    rw [if_pos hi, e1]
  have e5 : ∀ i, m < i → i ≤ m + N → (e_grid h N K).2 i = some (.inl (0, K, fun _ => 0)) := fun i q1 q2 => (if_neg (by omega)).trans (if_pos ⟨by omega, by omega⟩)
  have e6 : ∀ i, ¬ (m ≤ i ∧ i ≤ m + N) → (e_grid h N K).2 i = h.2 i := fun i q => (if_neg (by omega)).trans (if_neg (by omega))
  rw [e1]
  exact kk _ e3 e4 e5 e6
end NEW2
theorem df_Fl : ([.int 0, .int 0, .int 0, .int 0, .int 0, .int 0, .int 0, .int 0, .int 0] : List Value).length = 9 ∧ ∀ k, k < 9 → ([.int 0, .int 0, .int 0, .int 0, .int 0, .int 0, .int 0, .int 0, .int 0] : List Value)[k]? = some (defaultValue (t_Fl k)) := by
  refine ⟨rfl, fun k hk => ?_⟩
  match k, hk with
  | 0, _ => rfl
  | 1, _ => rfl
  | 2, _ => rfl
  | 3, _ => rfl
  | 4, _ => rfl
  | 5, _ => rfl
  | 6, _ => rfl
  | 7, _ => rfl
  | 8, _ => rfl
theorem df_Hi : ([.null, .int 0] : List Value).length = 2 ∧ ∀ k, k < 2 → ([.null, .int 0] : List Value)[k]? = some (defaultValue (t_Hi k)) := by
  refine ⟨rfl, fun k hk => ?_⟩
  match k, hk with
  | 0, _ => rfl
  | 1, _ => rfl
theorem df_Im : ([.null, .null, .int 0] : List Value).length = 3 ∧ ∀ k, k < 3 → ([.null, .null, .int 0] : List Value)[k]? = some (defaultValue (t_Im k)) := by
  refine ⟨rfl, fun k hk => ?_⟩
  match k, hk with
  | 0, _ => rfl
  | 1, _ => rfl
  | 2, _ => rfl
theorem df_Od : ([.null, .null, .int 0] : List Value).length = 3 ∧ ∀ k, k < 3 → ([.null, .null, .int 0] : List Value)[k]? = some (defaultValue (t_Od k)) := by
  refine ⟨rfl, fun k hk => ?_⟩
  match k, hk with
  | 0, _ => rfl
  | 1, _ => rfl
  | 2, _ => rfl
theorem df_Re : ([.null, .null, .null, .int 0] : List Value).length = 4 ∧ ∀ k, k < 4 → ([.null, .null, .null, .int 0] : List Value)[k]? = some (defaultValue (t_Re k)) := by
  refine ⟨rfl, fun k hk => ?_⟩
  match k, hk with
  | 0, _ => rfl
  | 1, _ => rfl
  | 2, _ => rfl
  | 3, _ => rfl
theorem df_Se : ([.null, .null, .null, .null, .int 0, .int 0, .int 0] : List Value).length = 7 ∧ ∀ k, k < 7 → ([.null, .null, .null, .null, .int 0, .int 0, .int 0] : List Value)[k]? = some (defaultValue (t_Se k)) := by
  refine ⟨rfl, fun k hk => ?_⟩
  match k, hk with
  | 0, _ => rfl
  | 1, _ => rfl
  | 2, _ => rfl
  | 3, _ => rfl
  | 4, _ => rfl
  | 5, _ => rfl
  | 6, _ => rfl
theorem df_Tx : ([.null, .int 0, .int 0, .int 0, .int 0, .int 0, .null, .int 0] : List Value).length = 8 ∧ ∀ k, k < 8 → ([.null, .int 0, .int 0, .int 0, .int 0, .int 0, .null, .int 0] : List Value)[k]? = some (defaultValue (t_Tx k)) := by
  refine ⟨rfl, fun k hk => ?_⟩
  match k, hk with
  | 0, _ => rfl
  | 1, _ => rfl
  | 2, _ => rfl
  | 3, _ => rfl
  | 4, _ => rfl
  | 5, _ => rfl
  | 6, _ => rfl
  | 7, _ => rfl
theorem df_To : ([.null, .null, .null, .null, .null, .int 0, .int 0, .int 0, .int 0] : List Value).length = 9 ∧ ∀ k, k < 9 → ([.null, .null, .null, .null, .null, .int 0, .int 0, .int 0, .int 0] : List Value)[k]? = some (defaultValue (t_To k)) := by
  refine ⟨rfl, fun k hk => ?_⟩
  match k, hk with
  | 0, _ => rfl
  | 1, _ => rfl
  | 2, _ => rfl
  | 3, _ => rfl
  | 4, _ => rfl
  | 5, _ => rfl
  | 6, _ => rfl
  | 7, _ => rfl
  | 8, _ => rfl
theorem df_Tb : ([.null, .null, .null, .null, .null, .null, .null, .null, .null, .null, .null, .null, .long 0] : List Value).length = 13 ∧ ∀ k, k < 13 → ([.null, .null, .null, .null, .null, .null, .null, .null, .null, .null, .null, .null, .long 0] : List Value)[k]? = some (defaultValue (t_Tb k)) := by
  refine ⟨rfl, fun k hk => ?_⟩
  match k, hk with
  | 0, _ => rfl
  | 1, _ => rfl
  | 2, _ => rfl
  | 3, _ => rfl
  | 4, _ => rfl
  | 5, _ => rfl
  | 6, _ => rfl
  | 7, _ => rfl
  | 8, _ => rfl
  | 9, _ => rfl
  | 10, _ => rfl
  | 11, _ => rfl
  | 12, _ => rfl
theorem df_Mo : ([.null, .int 0, .null, .null, .null, .null, .null, .null, .null, .null, .null, .int 0, .int 0, .int 0, .int 0, .int 0, .int 0, .int 0, .null, .null, .null, .null, .null, .null, .null, .null, .null, .null, .int 0, .null, .null, .int 0, .long 0] : List Value).length = 33 ∧ ∀ k, k < 33 → ([.null, .int 0, .null, .null, .null, .null, .null, .null, .null, .null, .null, .int 0, .int 0, .int 0, .int 0, .int 0, .int 0, .int 0, .null, .null, .null, .null, .null, .null, .null, .null, .null, .null, .int 0, .null, .null, .int 0, .long 0] : List Value)[k]? = some (defaultValue (t_Mo k)) := by
  refine ⟨rfl, fun k hk => ?_⟩
  match k, hk with
  | 0, _ => rfl
  | 1, _ => rfl
  | 2, _ => rfl
  | 3, _ => rfl
  | 4, _ => rfl
  | 5, _ => rfl
  | 6, _ => rfl
  | 7, _ => rfl
  | 8, _ => rfl
  | 9, _ => rfl
  | 10, _ => rfl
  | 11, _ => rfl
  | 12, _ => rfl
  | 13, _ => rfl
  | 14, _ => rfl
  | 15, _ => rfl
  | 16, _ => rfl
  | 17, _ => rfl
  | 18, _ => rfl
  | 19, _ => rfl
  | 20, _ => rfl
  | 21, _ => rfl
  | 22, _ => rfl
  | 23, _ => rfl
  | 24, _ => rfl
  | 25, _ => rfl
  | 26, _ => rfl
  | 27, _ => rfl
  | 28, _ => rfl
  | 29, _ => rfl
  | 30, _ => rfl
  | 31, _ => rfl
  | 32, _ => rfl
  | n + 33, q => exact absurd q (by omega)
