section ENG7
variable {X : EX} {d : Nat} {M : Mt} {pc pc' : Nat} {ls ls' st st' : List Value} {h : AH} {Q : Option Value → AH → Prop}
/-- N rows of K ints, in a row of them -/
def e_grid (h : AH) (N K : Nat) : AH := ((h.1.1 + 1 + N, h.1.2 + N + N * K), fun k => if k = h.1.1 then some (.inr (.inl (5, N, fun i => if i < N then some (h.1.1 + 1 + i) else none))) else if h.1.1 < k ∧ k ≤ h.1.1 + N then some (.inl (0, K, fun _ => 0)) else h.2 k)
theorem e_outer (X : EX) (cA : ClassId) (N n0 : Nat) (hlt : n0 + N < 1000000) : ∀ i : Nat, i ≤ N → Jvm.Free.Multi.outerC cA N (X.2.1 + n0) i = arrV cA N (fun j => e_rf X (if j < i then some (n0 + 1 + j) else none))
  | 0, _ => by
    show ({ cls := cA, slots := Array.replicate N .null, vm := .none } : Cell) = _
    rw [arrV_new]
    congr 1
  | i + 1, hi => by
    show (Jvm.Free.Multi.outerC cA N (X.2.1 + n0) i).setSlot i (.ref (X.2.1 + n0 + 1 + i)) = _
    rw [e_outer X cA N n0 hlt i (by omega), arrV_store]
    congr 1
    funext j
    by_cases hj : j = i
    · subst hj
      have : e_am X (n0 + 1 + j) = X.2.1 + n0 + 1 + j := by rw [e_am_lt (by omega)]; omega
      simp [updV, e_rf, this]
    · by_cases hl : j < i
      · simp [updV, hj, hl, Nat.lt_succ_of_lt hl]
      · simp [updV, hj, hl, show ¬ j < i + 1 by omega]
theorem T_grid {n k : Int32} {N K idx : Nat} (hd : decode M.2.1 pc = .ok (.multianewarray idx 2, 4)) (hn : pc + 4 = pc') (hcl : Cond.classLink M.1.cls idx "[[I" ∈ e_gw) (harr : Cond.arrayClass .int ∈ e_gw) (hn0 : ¬ n < 0) (hk0 : ¬ k < 0) (hN : n.toNatClampNeg = N) (hK : k.toNatClampNeg = K) (hNs : N ≤ 1000 ∧ K ≤ 1000) (hlt : h.1.1 < 900000) (kk : T X d M pc' ls (.ref h.1.1 :: st) (e_grid h N K) Q) : T X d M pc ls (.int k :: .int n :: st) h Q := by
  obtain ⟨r, h', q, mono, w⟩ := kk
  subst hN
  subst hK
  have m1 : h.1.1 + 1 + n.toNatClampNeg ≤ h'.1.1 := mono.1
  have m2 : h.1.2 + n.toNatClampNeg + n.toNatClampNeg * k.toNatClampNeg ≤ h'.1.2 := mono.2
  refine ⟨r, h', q, ⟨by omega, by omega⟩, fun p e R s m args below meth c H locs cells slots Q n0 s0 l hC h1 h2 h3 h4 hP hS hc hs hL hF => ?_⟩
  have hC' := hC
  obtain ⟨hx, hb, hml, hown, hts, -, -, -, hE⟩ := hC'
  intro T0 hT Xs
  obtain ⟨vm₁, cA, comp, -, fA, fC, hO, -, X', stp⟩ := Xs.multianewarray2F hx hown (ty := .int) (hts _ hcl) (show (Cond.arrayOver (.array .int)).before args s = true from hE.2.2.1.2.2) (hts _ harr) (g := F0 m pc l (.int k :: .int n :: st.map (e_tr X))) rfl (by rw [hb]; exact hd) rfl hn0 hk0 (by omega) (by show k.toNatClampNeg * 4 ≤ _; omega) (by omega) rfl rfl (by omega) (by omega)
  have hcA : cA = X.1.2.2 5 := Option.some.inj (fA.symm.trans (e_ty hE.1 (t := 5) (by decide)).2)
  have hco : comp = X.1.2.2 0 := Option.some.inj (fC.symm.trans (e_ty hE.1 (t := 0) (by decide)).2)
  subst hcA
  subst hco
  have hTh : (T0.setVm vm₁).heap = H := hT
  generalize hFi : Jvm.Free.Multi.fill (T0.setVm vm₁) (X.1.2.2 5) (X.1.2.2 0) n.toNatClampNeg k.toNatClampNeg (defaultValue .int) n.toNatClampNeg = F at X' stp
  obtain ⟨f1, f2, -, -⟩ := Jvm.Free.Multi.fill_facts (T0.setVm vm₁) (X.1.2.2 5) (X.1.2.2 0) n.toNatClampNeg k.toNatClampNeg (defaultValue .int) n.toNatClampNeg
  rw [hFi, hTh] at f1 f2
  have hold : ∀ x : Nat, x < H.size → F.heap[x]? = H[x]? := fun x hx => by
    have := Jvm.Free.Multi.fill_old (T0.setVm vm₁) (X.1.2.2 5) (X.1.2.2 0) n.toNatClampNeg k.toNatClampNeg (defaultValue .int) (a := x) (by rw [hTh]; exact hx) n.toNatClampNeg
    rw [hFi, hTh] at this
    exact this
  have hrow : ∀ j : Nat, j < n.toNatClampNeg → F.heap[H.size + 1 + j]? = some (arrV (X.1.2.2 0) k.toNatClampNeg (fun _ => .int 0)) := fun j hj => by
    have := Jvm.Free.Multi.fill_inner (T0.setVm vm₁) (X.1.2.2 5) (X.1.2.2 0) n.toNatClampNeg k.toNatClampNeg (defaultValue .int) n.toNatClampNeg j hj
    rw [hFi, hTh] at this
    rw [this, ← arrV_new]
    rfl
  have hsz : H.size = X.2.1 + h.1.1 := hP.1
  rw [hsz, e_outer X (X.1.2.2 5) n.toNatClampNeg h.1.1 (by omega) n.toNatClampNeg (Nat.le_refl _)] at f2
  have hPF : e_P X (e_grid h n.toNatClampNeg k.toNatClampNeg) F.heap := by
    refine ⟨by rw [f1, hsz]; show _ = X.2.1 + (h.1.1 + 1 + n.toNatClampNeg); omega, fun x c hxc => ?_⟩
    by_cases g1 : x = h.1.1
    · subst g1
      have : c = (.inr (.inl (5, n.toNatClampNeg, fun i => if i < n.toNatClampNeg then some (h.1.1 + 1 + i) else none)) : AC) := by simpa [e_grid] using hxc.symm
      subst this
      exact ⟨by omega, f2⟩
    · by_cases g2 : h.1.1 < x ∧ x ≤ h.1.1 + n.toNatClampNeg
      · have : c = (.inl (0, k.toNatClampNeg, fun _ => 0) : AC) := by simpa [e_grid, g1, g2] using hxc.symm
        subst this
        refine ⟨by omega, ?_⟩
        have := hrow (x - h.1.1 - 1) (by omega)
        rw [show H.size + 1 + (x - h.1.1 - 1) = X.2.1 + x by omega] at this
        exact this
      · have hk' : h.2 x = some c := by simpa [e_grid, g1, g2] using hxc
        obtain ⟨g3, g4⟩ := hP.2 x c hk'
        refine ⟨g3, ?_⟩
        match c, g4 with
        | .inl y, g4 => exact (hold _ (Array.getElem?_eq_some_iff.mp g4).1).trans g4
        | .inr (.inl y), g4 => exact (hold _ (Array.getElem?_eq_some_iff.mp g4).1).trans g4
        | .inr (.inr o), ⟨r, r1, r2⟩ =>
          obtain ⟨cell, r3, r4⟩ := r2
          exact ⟨r, r1, t_OB.kept ⟨cell, r3, r4⟩ (hold _ (Array.getElem?_eq_some_iff.mp r3).1)⟩
  have hSF : va_S (e_A X) s.heap F.heap locs := ⟨Nat.le_trans hS.1 (by omega), fun q g1 g2 => (hold q (Nat.lt_of_lt_of_le g1 hS.1)).trans (hS.2.1 q g1 g2), hS.2.2⟩
  have hfin := w p e R s m args below meth c F.heap locs (cells + 1 + n.toNatClampNeg) (slots + n.toNatClampNeg + n.toNatClampNeg * k.toNatClampNeg) Q n0 s0 l hC h1 h2 h3 h4 hPF hSF (by show _ = h.1.1 + 1 + n.toNatClampNeg; omega) (by show _ = h.1.2 + n.toNatClampNeg + n.toNatClampNeg * k.toNatClampNeg; omega) hL hF
  obtain ⟨t, a1, b1⟩ := hfin F rfl X'
  refine ⟨t, stp t ?_, b1⟩
  have e1 : e_am X h.1.1 = T0.heap.size := by rw [e_am_lt (by omega), hT, hsz]
  rw [List.map_cons, show e_tr X (.ref h.1.1) = .ref (T0.heap.size) by rw [← e1]; rfl, ← hn] at a1
  exact a1
end ENG7
