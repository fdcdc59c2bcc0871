/-! rows of ints at written places -/
section ENG11
variable {X : EX} {d : Nat} {M : Mt} {pc pc' a n : Nat} {ls st : List Value} {f : Nat → Int32} {h : AH} {Q : Option Value → AH → Prop}
theorem T_ialoadL {i : Int32} (j : Nat) (hd : decode M.2.1 pc = .ok (.iaload, 1)) (hn : pc + 1 = pc') (ha : h.2 a = some (.inl (0, n, f))) (hj : ¬ i < 0 ∧ i.toNatClampNeg = j ∧ j < n) (kk : T X d M pc' ls (.int (f j) :: st) h Q) : T X d M pc ls (.int i :: .ref a :: st) h Q := by
  obtain ⟨h1, h2, h3⟩ := hj
  subst h2
  exact T_iaload hd hn ha (fun q => q.elim h1 (fun q => by omega)) kk
theorem T_iastoreL {i x : Int32} (j : Nat) (hd : decode M.2.1 pc = .ok (.iastore, 1)) (hn : pc + 1 = pc') (ha : h.2 a = some (.inl (0, n, f))) (hj : ¬ i < 0 ∧ i.toNatClampNeg = j ∧ j < n) (kk : T X d M pc' ls st (e_put h a (.inl (0, n, e_up f j x))) Q) : T X d M pc ls (.int x :: .int i :: .ref a :: st) h Q := by
  obtain ⟨h1, h2, h3⟩ := hj
  subst h2
  exact T_iastore hd hn ha (fun q => q.elim h1 (fun q => by omega)) kk
theorem T_ialoadN (j : Nat) (hd : decode M.2.1 pc = .ok (.iaload, 1)) (hn : pc + 1 = pc') (ha : h.2 a = some (.inl (0, n, f))) (hj : j < n ∧ n < 100000) (kk : T X d M pc' ls (.int (f j) :: st) h Q) : T X d M pc ls (.int (nI j) :: .ref a :: st) h Q :=
  T_ialoadL j hd hn ha ⟨nI_pos (by omega), nI_clamp (by omega), hj.1⟩ kk
theorem T_iastoreN {x : Int32} (j : Nat) (hd : decode M.2.1 pc = .ok (.iastore, 1)) (hn : pc + 1 = pc') (ha : h.2 a = some (.inl (0, n, f))) (hj : j < n ∧ n < 100000) (kk : T X d M pc' ls st (e_put h a (.inl (0, n, e_up f j x))) Q) : T X d M pc ls (.int x :: .int (nI j) :: .ref a :: st) h Q :=
  T_iastoreL j hd hn ha ⟨nI_pos (by omega), nI_clamp (by omega), hj.1⟩ kk
theorem T_aaloadN {t b : Nat} {g : Nat → Option Nat} (j : Nat) (hd : decode M.2.1 pc = .ok (.aaload, 1)) (hn : pc + 1 = pc') (ha : h.2 a = some (.inr (.inl (t, n, g)))) (ht : t < 6 ∧ 3 ≤ t) (hj : j < n ∧ n < 100000) (hg : g j = some b) (kk : T X d M pc' ls (.ref b :: st) h Q) : T X d M pc ls (.int (nI j) :: .ref a :: st) h Q :=
  T_aaload hd hn ha ht (vp_in_nI hj.1 (by omega)) (by rw [nI_clamp (by omega)]; exact hg) kk
theorem T_aaloadL {t b : Nat} {i : Int32} {g : Nat → Option Nat} (j : Nat) (hd : decode M.2.1 pc = .ok (.aaload, 1)) (hn : pc + 1 = pc') (ha : h.2 a = some (.inr (.inl (t, n, g)))) (ht : t < 6 ∧ 3 ≤ t) (hj : ¬ i < 0 ∧ i.toNatClampNeg = j ∧ j < n) (hg : g j = some b) (kk : T X d M pc' ls (.ref b :: st) h Q) : T X d M pc ls (.int i :: .ref a :: st) h Q := by
  obtain ⟨h1, h2, h3⟩ := hj
  subst h2
  exact T_aaload hd hn ha ht (fun q => q.elim h1 (fun q => by omega)) hg kk
theorem T_aastoreL {t b ci : Nat} {i : Int32} {g : Nat → Option Nat} {vs : List Value} (j : Nat) (hd : decode M.2.1 pc = .ok (.aastore, 1)) (hn : pc + 1 = pc') (ha : h.2 a = some (.inr (.inl (t, n, g)))) (ht : (t = 3 ∧ ci = 0) ∨ (t = 4 ∧ ci = 2)) (hj : ¬ i < 0 ∧ i.toNatClampNeg = j ∧ j < n) (hbv : h.2 b = some (.inr (.inr (ci, vs)))) (kk : T X d M pc' ls st (e_put h a (.inr (.inl (t, n, e_upr g j b)))) Q) : T X d M pc ls (.ref b :: .int i :: .ref a :: st) h Q := by
  obtain ⟨h1, h2, h3⟩ := hj
  subst h2
  exact T_aastore hd hn ha ht (fun q => q.elim h1 (fun q => by omega)) hbv kk
theorem T_aastoreN {t b ci : Nat} {g : Nat → Option Nat} {vs : List Value} (j : Nat) (hd : decode M.2.1 pc = .ok (.aastore, 1)) (hn : pc + 1 = pc') (ha : h.2 a = some (.inr (.inl (t, n, g)))) (ht : (t = 3 ∧ ci = 0) ∨ (t = 4 ∧ ci = 2)) (hj : j < n ∧ n < 100000) (hbv : h.2 b = some (.inr (.inr (ci, vs)))) (kk : T X d M pc' ls st (e_put h a (.inr (.inl (t, n, e_upr g j b)))) Q) : T X d M pc ls (.ref b :: .int (nI j) :: .ref a :: st) h Q :=
  T_aastoreL j hd hn ha ht ⟨nI_pos (by omega), nI_clamp (by omega), hj.1⟩ hbv kk
theorem e_upL {k j : Nat} {x : Int32} : e_up f k x j = if j = k then x else f j := rfl
end ENG11
