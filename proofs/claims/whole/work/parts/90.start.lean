/-! THE START: the machine's state holds what the engine asks -/
theorem c_eqi {args : Array Value} {s : State} {a : Term} {y : Int32} (h : (Cond.eq a (.int y)).before args s = true) : a.eval args s none [] s = some (.int y) := by
  simp only [Cond.before, Cond.holds, Cond.value, Term.eval] at h
  cases he : a.eval args s none [] s with
  | none => simp [he] at h
  | some v => cases v <;> simp [he] at h; rw [h]
theorem c_len {args : Array Value} {s : State} {t : Term} {y : Int32} (h : (Term.length t).eval args s none [] s = some (.int y)) : ∃ (a : Nat) (cell : Cell), t.eval args s none [] s = some (.ref a) ∧ s.arrayAt? a = some cell ∧ cell.slots.size < 2 ^ 31 ∧ cell.slots.size.toInt32 = y := by
  simp only [Term.eval] at h
  cases he : t.eval args s none [] s with
  | none => simp [he] at h
  | some v =>
    cases v with
    | ref a =>
      cases hc : s.arrayAt? a with
      | none => simp [he, hc] at h
      | some cell =>
        simp [he, hc] at h
        exact ⟨a, cell, rfl, hc, h.1, h.2⟩
    | _ => simp [he] at h
theorem c_row {args : Array Value} {s : State} {t : Term} {n : Nat} {f : Nat → Int32} (hn : n < 2 ^ 31) (hlen : (Cond.eq (.length t) (.int (nI n))).before args s = true) (harr : (Cond.arrayOf t .int).before args s = true) (hel : ∀ i, i < n → (Cond.eq (.elem t (.int (nI i))) (.int (f i))).before args s = true) : ∃ (a : Nat) (cell : Cell), t.eval args s none [] s = some (.ref a) ∧ s.heap[a]? = some cell ∧ s.isArrayOf cell .int ∧ cell.vm ≠ .unknown ∧ cell.slots.size = n ∧ (∀ i, i < n → cell.slots[i]? = some (.int (f i))) ∧ a < s.heap.size := by
  obtain ⟨a, cell, e1, e2, e3, e4⟩ := c_len (c_eqi hlen)
  obtain ⟨g1, g2, -, -⟩ := State.arrayAt?_spec e2
  obtain ⟨k1, k2⟩ := Cond.arrayOf_spec harr e1 g1
  refine ⟨a, cell, e1, g1, k1, k2, (nI_eq e3 hn).mp e4, fun i hi => ?_, (Array.getElem?_eq_some_iff.mp g1).1⟩
  have h := c_eqi (hel i hi)
  have hp : ¬ nI i < 0 := nI_pos (by omega)
  simp only [Term.eval, e1, e2] at h
  simp [hp, nI_clamp (show i < 2 ^ 31 by omega)] at h
  rw [e2] at h
  exact h
theorem ax_int {s : State} {ty : FieldType} {args : Array Value} (h : (Cond.arrayClass ty).before args s = true) : ∃ cA : ClassId, ArrOfT s cA ty ∧ s.vm.findClass ("[" ++ ty.toString) = some cA := by
  obtain ⟨c, k, comp, h1, h2, h3⟩ := Cond.arrayClass_spec h
  exact ⟨c, fun n z => ⟨fun k h => (by cases h), k, h2, comp, h3⟩, h1⟩
theorem ax_obj {s : State} {n : String} {args : Array Value} (h : (Cond.arrayOver (.object n)).before args s = true) : ∃ cA : ClassId, ArrOfT s cA (.object n) ∧ va_RA s cA (.object n) := by
  obtain ⟨comp, c, k, h1, -, h2, h3, h4⟩ := Cond.arrayOver_spec h
  exact ⟨c, fun n z => ⟨fun k h => (by cases h), k, h2, comp, h3⟩, k, comp, h2, h3, h1, h4⟩
theorem ax_arr {s : State} {args : Array Value} (h : (Cond.arrayOver (.array .int)).before args s = true) : ∃ cA : ClassId, ArrOfT s cA (.array .int) ∧ s.vm.findClass ("[" ++ (FieldType.array .int).toString) = some cA := by
  obtain ⟨comp, c, k, h1, -, h2, h3, h4⟩ := arrayOverA_spec h
  exact ⟨c, fun n z => ⟨fun k h => (by cases h), k, h2, comp, h3⟩, h4⟩
theorem st_NUMBERS {args : Array Value} {s : State} (hs : ∀ w ∈ flatC (Jvm.Cond.and given_1 narrow_1), w.before args s = true) : ∃ (a : Nat) (cell : Cell), (Term.static "ThoughtBalloon$Text" "NUMBERS" "[I").eval args s none [] s = some (.ref a) ∧ s.heap[a]? = some cell ∧ s.isArrayOf cell .int ∧ cell.vm ≠ .unknown ∧ cell.slots.size = 4 ∧ (∀ i, i < 4 → cell.slots[i]? = some (.int (nI (cntT i)))) ∧ a < s.heap.size := by
  refine c_row (f := fun i => nI (cntT i)) (by decide) (hs _ (by decide +kernel)) (hs _ (by decide +kernel)) (fun i hi => ?_)
  match i, hi with
  | 0, _ => exact hs _ (by decide +kernel)
  | 1, _ => exact hs _ (by decide +kernel)
  | 2, _ => exact hs _ (by decide +kernel)
  | 3, _ => exact hs _ (by decide +kernel)
theorem st_LEAST {args : Array Value} {s : State} (hs : ∀ w ∈ flatC (Jvm.Cond.and given_1 narrow_1), w.before args s = true) : ∃ (a : Nat) (cell : Cell), (Term.static "ThoughtBalloon$Text" "LEAST" "[I").eval args s none [] s = some (.ref a) ∧ s.heap[a]? = some cell ∧ s.isArrayOf cell .int ∧ cell.vm ≠ .unknown ∧ cell.slots.size = 12 ∧ (∀ i, i < 12 → cell.slots[i]? = some (.int (nI (loT i)))) ∧ a < s.heap.size := by
  refine c_row (f := fun i => nI (loT i)) (by decide) (hs _ (by decide +kernel)) (hs _ (by decide +kernel)) (fun i hi => ?_)
  match i, hi with
  | 0, _ => exact hs _ (by decide +kernel)
  | 1, _ => exact hs _ (by decide +kernel)
  | 2, _ => exact hs _ (by decide +kernel)
  | 3, _ => exact hs _ (by decide +kernel)
  | 4, _ => exact hs _ (by decide +kernel)
  | 5, _ => exact hs _ (by decide +kernel)
  | 6, _ => exact hs _ (by decide +kernel)
  | 7, _ => exact hs _ (by decide +kernel)
  | 8, _ => exact hs _ (by decide +kernel)
  | 9, _ => exact hs _ (by decide +kernel)
  | 10, _ => exact hs _ (by decide +kernel)
  | 11, _ => exact hs _ (by decide +kernel)
theorem st_MOST {args : Array Value} {s : State} (hs : ∀ w ∈ flatC (Jvm.Cond.and given_1 narrow_1), w.before args s = true) : ∃ (a : Nat) (cell : Cell), (Term.static "ThoughtBalloon$Text" "MOST" "[I").eval args s none [] s = some (.ref a) ∧ s.heap[a]? = some cell ∧ s.isArrayOf cell .int ∧ cell.vm ≠ .unknown ∧ cell.slots.size = 12 ∧ (∀ i, i < 12 → cell.slots[i]? = some (.int (nI (hiT i)))) ∧ a < s.heap.size := by
  refine c_row (f := fun i => nI (hiT i)) (by decide) (hs _ (by decide +kernel)) (hs _ (by decide +kernel)) (fun i hi => ?_)
  match i, hi with
  | 0, _ => exact hs _ (by decide +kernel)
  | 1, _ => exact hs _ (by decide +kernel)
  | 2, _ => exact hs _ (by decide +kernel)
  | 3, _ => exact hs _ (by decide +kernel)
  | 4, _ => exact hs _ (by decide +kernel)
  | 5, _ => exact hs _ (by decide +kernel)
  | 6, _ => exact hs _ (by decide +kernel)
  | 7, _ => exact hs _ (by decide +kernel)
  | 8, _ => exact hs _ (by decide +kernel)
  | 9, _ => exact hs _ (by decide +kernel)
  | 10, _ => exact hs _ (by decide +kernel)
  | 11, _ => exact hs _ (by decide +kernel)
theorem k_all {s : State} {args : Array Value} (hts : ∀ w ∈ e_gw, w.before args s = true) : ∃ D : va_G, ∀ (c : Nat) (q : vw_C), e_cl[c]? = some q → u_Kn s q.1 q.2.1 q.2.2 (D.1 c) (D.2 c) := by
  obtain ⟨c0, i0, k0⟩ := u_known hts kc_Fl.2.1 (hts _ in_Fl)
  obtain ⟨c1, i1, k1⟩ := u_known hts kc_Hi.2.1 (hts _ in_Hi)
  obtain ⟨c2, i2, k2⟩ := u_known hts kc_Im.2.1 (hts _ in_Im)
  obtain ⟨c3, i3, k3⟩ := u_known hts kc_Od.2.1 (hts _ in_Od)
  obtain ⟨c4, i4, k4⟩ := u_known hts kc_Re.2.1 (hts _ in_Re)
  obtain ⟨c5, i5, k5⟩ := u_known hts kc_Se.2.1 (hts _ in_Se)
  obtain ⟨c6, i6, k6⟩ := u_known hts kc_Tx.2.1 (hts _ in_Tx)
  obtain ⟨c7, i7, k7⟩ := u_known hts kc_To.2.1 (hts _ in_To)
  obtain ⟨c8, i8, k8⟩ := u_known hts kc_Tb.2.1 (hts _ in_Tb)
  obtain ⟨c9, i9, k9⟩ := u_known hts kc_Mo.2.1 (hts _ in_Mo)
  refine ⟨(fun k => [c0, c1, c2, c3, c4, c5, c6, c7, c8, c9].getD k c0, fun k => [i0, i1, i2, i3, i4, i5, i6, i7, i8, i9].getD k i0), fun k q hq => ?_⟩
  match k, hq with
  | 0, hq => cases hq; exact k0
  | 1, hq => cases hq; exact k1
  | 2, hq => cases hq; exact k2
  | 3, hq => cases hq; exact k3
  | 4, hq => cases hq; exact k4
  | 5, hq => cases hq; exact k5
  | 6, hq => cases hq; exact k6
  | 7, hq => cases hq; exact k7
  | 8, hq => cases hq; exact k8
  | 9, hq => cases hq; exact k9
  | k + 10, hq => simp [e_cl] at hq
theorem whole_start {p : Program} {e : Env} {s : State} {m : MethodId} {below : List Frame} {meth : Method} {c : Code} (l : Launch) {b L : Nat} {xs : Nat → Int32} (hL : L ≤ 384) (C0 : lw_At p s m meth c b L xs) : W p l e room_1 s m #[Value.ref b] below meth c s.heap [] 0 0 (lw_Z below #[Value.ref b] s) (entryFrame m ([Value.ref b] : List Value).toArray 4) := by
  obtain ⟨hx, hb, hr, hml, hown, hts0, hX, hbl, hlocks, hgv⟩ := id C0
  have hts : ∀ w ∈ e_gw, w.before #[Value.ref b] s = true := fun w hw => hts0 w (List.mem_filter.mp hw).1
  have htt : ∀ w ∈ tables_1, w.before #[Value.ref b] s = true := fun w hw => hts0 w (List.mem_append_right _ hw)
  have hs := flat_of_before _ hgv
  obtain ⟨a0, x0, p1, p2, p3, p4, p5, p6, p7⟩ := st_NUMBERS hs
  obtain ⟨a1, x1, q1, q2, q3, q4, q5, q6, q7⟩ := st_LEAST hs
  obtain ⟨a2, x2, r1, r2, r3, r4, r5, r6, r7⟩ := st_MOST hs
  obtain ⟨scr, z1, z2, z3, z4, z5⟩ := id hX
  obtain ⟨D, hKn⟩ := k_all hts
  have wF : (Cond.arrayOver (.object R_Fl)).before #[Value.ref b] s = true := htt _ (List.mem_of_getElem? (i := 160) (by decide +kernel))
  have wI : (Cond.arrayOver (.object R_Im)).before #[Value.ref b] s = true := htt _ (List.mem_of_getElem? (i := 171) (by decide +kernel))
  have wA : (Cond.arrayOver (.array .int)).before #[Value.ref b] s = true := htt _ (List.mem_of_getElem? (i := 180) (by decide +kernel))
  obtain ⟨d0, e0, f0⟩ := ax_int (hts _ ac_int)
  obtain ⟨d1, e1, f1⟩ := ax_int (hts _ ac_byte)
  obtain ⟨d2, e2, f2⟩ := ax_int (hts _ ac_boolean)
  obtain ⟨d3, e3, f3⟩ := ax_obj wF
  obtain ⟨d4, e4, f4⟩ := ax_obj wI
  obtain ⟨d5, e5, f5⟩ := ax_arr wA
  let X : EX := ((l, D, fun t => [d0, d1, d2, d3, d4, d5].getD t d0), (s.heap.size, (fun j => [a0, a1, a2, b].getD j b), fun j => [(4, fun i => nI (cntT i)), (12, fun i => nI (loT i)), (12, fun i => nI (hiT i)), (L, xs)].getD j (L, xs)))
  have hA : ∀ a : Nat, a < s.heap.size → ¬ e_A X a := fun a h => Nat.not_le.mpr h
  have eK : e_K X s := by
    refine ⟨hKn, fun k q hq => ?_⟩
    match k, hq with
    | 0, hq => cases hq; exact ⟨e0, f0⟩
    | 1, hq => cases hq; exact ⟨e1, f1⟩
    | 2, hq => cases hq; exact ⟨e2, f2⟩
    | 3, hq => cases hq; exact ⟨e3, f3⟩
    | 4, hq => cases hq; exact ⟨e4, f4⟩
    | 5, hq => cases hq; exact ⟨e5, f5⟩
    | k + 6, hq => exact absurd (List.getElem?_eq_some_iff.mp hq).1 (by rw [List.length_map, List.length_range]; omega)
  have eN : e_N s := fun w hw => va_Nw.of (e_isN_tab (List.mem_filter.mp hw).2) (htt w (List.mem_filter.mp hw).1)
  have eO : e_O s := ⟨va_AO.of wF, va_AO.of wI, wA⟩
  have eR : e_RO X s s.heap := by
    intro j hj
    match j, hj with
    | 0, _ => exact ⟨x0, p2, p3, p4, p5, p6, p7⟩
    | 1, _ => exact ⟨x1, q2, q3, q4, q5, q6, q7⟩
    | 2, _ => exact ⟨x2, r2, r3, r4, r5, r6, r7⟩
    | 3, _ => exact ⟨scr, z1, z2, z3, z4, z5, hbl⟩
  have eZ : e_Z X s s.heap := ⟨va_Zof (htt _ (List.mem_of_getElem? (i := 385) (by decide +kernel))) (hts _ it_Tx) p1 hA, va_Zof (htt _ (List.mem_of_getElem? (i := 387) (by decide +kernel))) (hts _ it_Tx) q1 hA, va_Zof (htt _ (List.mem_of_getElem? (i := 389) (by decide +kernel))) (hts _ it_Tx) r1 hA⟩
  have xt : XT X := ⟨⟨rfl, fun _ _ => rfl⟩, ⟨rfl, fun _ _ => rfl⟩, ⟨rfl, fun _ _ => rfl⟩⟩
  obtain ⟨r, h', ⟨rfl, hc'⟩, mono, k⟩ := t_law X 0 xt (show L < 2 ^ 31 by omega)
  have hC : e_C X M_La_law p s m #[Value.ref b] meth c := ⟨hx, hb, hml, hown, hts, hr, hlocks, fun z => absurd z (by decide), eK, eN, eO, eR, eZ, Nat.le_refl _⟩
  have hl := e_L_entry (X := X) (n := 4) [.ref (1000000 + 3)] rfl (by decide)
  rw [lg_entry_eq]
  refine k p e room_1 s m #[Value.ref b] below meth c s.heap [] 0 0 _ 0 0 _ hC (by decide) (by decide) (by rw [hc']; decide) (by rw [hc']; decide) ⟨rfl, fun k c q => by cases q⟩ va_S.rf rfl rfl hl ?_
  intro H locs ll pc cells slots hP hS h1 h2
  rw [hc'] at h1 h2
  refine ⟨fun q => (by cases q), fun v ty hv hty hna hd => ?_, fun v q => (by cases q)⟩
  cases hv
  refine va_forget (fun q hq => hS.2.2 q hq) ?_
  refine W.widen (k := 600000) (n := 7302250) (by omega) (by omega) ?_
  exact lw_ret hx hb hr hlocks hd
