section ENG5
variable {X : EX} {d : Nat} {M : Mt} {pc pc' : Nat} {ls ls' st st' : List Value} {h : AH} {Q : Option Value → AH → Prop}
theorem e_E_mv {u U : State} {H H1 : Heap} (hE : e_E X u H) (hA : u.vm.Alike U.vm) (hN : e_N U) (hz : H.size ≤ H1.size) (ho : ∀ q : Nat, q < H.size → ¬ e_A X q → H1[q]? = H[q]?) : e_E X U H1 := by
  obtain ⟨h1, -, h3, h4, h5, h6⟩ := hE
  refine ⟨va_K.moved hA h1, hN, ⟨h3.1.moved hA, h3.2.1.moved hA, e_AOA_moved hA h3.2.2⟩, fun j hj => ?_, ?_, Nat.le_trans h6 hz⟩
  · obtain ⟨cell, c1, c2, c3, c4, c5, c6⟩ := h4 j hj
    refine ⟨cell, ?_, State.isArrayOf_alike hA c2, c3, c4, c5, c6⟩
    rw [ho _ (Array.getElem?_eq_some_iff.mp c1).1 (by show ¬ X.2.1 ≤ X.2.2.1 j; omega)]
    exact c1
  · exact ⟨(h5.1.moved hA).kept ho, (h5.2.1.moved hA).kept ho, (h5.2.2.moved hA).kept ho⟩
theorem e_isN_tab {w : Cond} (hw : e_isN w = true) : w.onTables = true := by
  cases w <;> first | rfl | exact absurd hw Bool.false_ne_true
theorem e_N_warm {s U : State} (hW : s.WarmedH U.vm) (hN : e_N s) : e_N U := by
  intro w hw
  have h1 := hN w hw
  have h2 : e_isN w = true := (List.mem_filter.mp hw).2
  cases w <;> first | exact absurd h2 Bool.false_ne_true | exact va_Nw.warmF hW h1 | exact va_Nw.warmM hW h1
theorem e_N_same {u U : State} (hv : u.vm = U.vm) (hN : e_N u) : e_N U := fun w hw => va_Nw.same (e_isN_tab (List.mem_filter.mp hw).2) hv (hN w hw)
theorem e_blind (av : List Value) : FrameBlind (e_Pc X av h) := by
  intro a U g mk q
  obtain ⟨q0, q1, q2⟩ := q
  exact ⟨q0, q1, e_E_mv (u := U) (U := U.calling g mk a) q2 (Vm.Alike.refl U.vm) (e_N_same (u := U) (U := U.calling g mk a) rfl q2.2.1) (Nat.le_refl _) (fun _ _ _ => rfl)⟩
theorem T_vret (hd : decode M.2.1 pc = .ok (.return_, 1)) (hr : M.2.2.2 = none) (hq : Q none h) : T X d M pc ls [] h Q :=
  ⟨none, h, hq, ⟨Nat.le_refl _, Nat.le_refl _⟩, fun p e R s m args below meth c H locs cells slots Q n0 s0 l hC h1 h2 h3 h4 hP hS hc hs hL hF => (hF H locs l pc cells slots hP hS hc hs).1 rfl hr hd⟩
theorem T_iret {v : Int32} (hd : decode M.2.1 pc = .ok (.ireturn, 1)) (hr : M.2.2.2 = some .int) (hq : Q (some (.int v)) h) : T X d M pc ls [.int v] h Q :=
  ⟨some (.int v), h, hq, ⟨Nat.le_refl _, Nat.le_refl _⟩, fun p e R s m args below meth c H locs cells slots Q n0 s0 l hC h1 h2 h3 h4 hP hS hc hs hL hF => (hF H locs l pc cells slots hP hS hc hs).2.1 v .int rfl hr rfl hd⟩
theorem T_zret {v : Int32} (hd : decode M.2.1 pc = .ok (.ireturn, 1)) (hr : M.2.2.2 = some .boolean) (hv : v = 0 ∨ v = 1) (hq : Q (some (.int v)) h) : T X d M pc ls [.int v] h Q :=
  ⟨some (.int v), h, hq, ⟨Nat.le_refl _, Nat.le_refl _⟩, fun p e R s m args below meth c H locs cells slots Q n0 s0 l hC h1 h2 h3 h4 hP hS hc hs hL hF => (hF H locs l pc cells slots hP hS hc hs).2.1 v .boolean rfl hr (by rcases hv with rfl | rfl <;> rfl) hd⟩
theorem T_lret {v : Int64} (hd : decode M.2.1 pc = .ok (.lreturn, 1)) (hr : M.2.2.2 = some .long) (hq : Q (some (.long v)) h) : T X d M pc ls [.long v] h Q :=
  ⟨some (.long v), h, hq, ⟨Nat.le_refl _, Nat.le_refl _⟩, fun p e R s m args below meth c H locs cells slots Q n0 s0 l hC h1 h2 h3 h4 hP hS hc hs hL hF => (hF H locs l pc cells slots hP hS hc hs).2.2 v rfl hr hd⟩
theorem e_sl (av : List Value) (hc : ∀ v ∈ av, v.category = 1) : lg_sl av = av.map Slot.val := by
  induction av with
  | nil => rfl
  | cons v t ih =>
    have h1 : ¬ v.category = 2 := by rw [hc v List.mem_cons_self]; decide
    have h2 := ih (fun w hw => hc w (List.mem_cons_of_mem _ hw))
    simp only [lg_sl, List.flatMap_cons, if_neg h1, List.map_cons] at h2 ⊢
    rw [h2]; rfl
theorem e_L_entry {n : Nat} (av : List Value) (hc : (av.all (fun v => v.category == 1)) = true) (hn : av.length ≤ n) : e_L X n (av ++ List.replicate (n - av.length) .null) ((lg_sl (av.map (e_tr X)) ++ List.replicate (n - (lg_sl (av.map (e_tr X))).length) Slot.unset).toArray) := by
  have hc' : ∀ v ∈ av.map (e_tr X), v.category = 1 := by
    intro v hv
    obtain ⟨w, hw, rfl⟩ := List.mem_map.mp hv
    rw [e_cat]
    simpa using List.all_eq_true.mp hc w hw
  have hsl := e_sl _ hc'
  have hent := lv_entry (av.map (e_tr X)) (n := n) (by rw [hsl]; simpa using hn)
  refine ⟨by simp; omega, hent.1, hent.2.1, fun i v hi hv => ?_⟩
  rw [hsl]
  by_cases hlt : i < av.length
  · rw [List.getElem?_append_left hlt] at hi
    simp [List.getElem?_append_left, hlt, hi]
    have := List.getElem?_eq_some_iff.mp hi
    obtain ⟨h1, h2⟩ := this
    rw [h2]
  · rw [List.getElem?_append_right (by omega)] at hi
    exact absurd (List.eq_of_mem_replicate (List.mem_of_getElem? hi)) hv
theorem C_of_T {av : List Value} (hp : plainName M.1.cls = true) (hc : (av.all (fun v => v.category == 1)) = true) (hn : av.length ≤ M.2.2.1) (hl : av ++ List.replicate (M.2.2.1 - av.length) .null = ls) (k : T X d M 0 ls [] h Q) : C X d M av h Q := by
  subst hl
  obtain ⟨r, h', q, mono, w⟩ := k
  refine ⟨r, h', q, mono, Met.ofW (cc := M.2.1) (maxL := M.2.2.1) (ret := M.2.2.2) hp rfl ?_⟩
  intro p e s m args below meth c s₁ B hml hv
  obtain ⟨rfl, hP, hE⟩ := hv
  have hts := atoms_spec (ws := e_ws M) B.pre
  rw [lg_entry_eq]
  have hx := B.exec
  have hb := B.bytes
  have hr := B.returns
  have hlocks := B.notSynchronized
  refine w p e _ s m _ below meth c s.heap [] 0 0 _ h.1.1 h.1.2 _ ⟨hx, hb, hml, findClass_of_methodNamed B.named, fun w hw => hts w (List.mem_cons_of_mem _ hw), hr, hlocks, fun z => (name_of_methodNamed B.named B.method).1.trans z, hE⟩ (Nat.le_refl _) (Nat.le_refl _) ?_ ?_ hP va_S.rf (Nat.zero_add _) (Nat.zero_add _) (e_L_entry av hc hn) ?_
  · show h'.1.1 ≤ (h'.1.1 - h.1.1) + h.1.1
    omega
  · show h'.1.2 ≤ (h'.1.2 - h.1.2) + h.1.2
    omega
  · intro H locs l pc cells slots hP1 hS1 hc1 hs1
    obtain ⟨m1, m2⟩ := mono
    obtain rfl : cells = h'.1.1 - h.1.1 := by omega
    obtain rfl : slots = h'.1.2 - h.1.2 := by omega
    refine ⟨fun hr1 hr2 hdg => ?_, fun v ty hr1 hr2 hnv hdg => ?_, fun v hr1 hr2 hdg => ?_⟩
    · subst hr1
      exact W.vret hx hb (hr.trans hr2) (fun t ht hW => ⟨rfl, by rw [ht]; exact hP1, hS1.F ht⟩) hS1.2.2 hdg
    · subst hr1
      exact W.zret hx hb (hr.trans hr2) hnv (fun t ht hW => ⟨rfl, by rw [ht]; exact hP1, hS1.F ht⟩) hS1.2.2 hdg
    · subst hr1
      exact W.lret hx hb (hr.trans hr2) (fun t ht hW => ⟨rfl, by rw [ht]; exact hP1, hS1.F ht⟩) hS1.2.2 hdg
/-- what a call needs of the called: its words are in the tables -/
def MK (M' : Mt) (n : Nat) : Prop := Cond.code M'.1 M'.2.1 M'.2.2.1 M'.2.2.2 ∈ e_gw ∧ Cond.initialized M'.1.cls ∈ e_gw ∧ (M'.1.cls ≠ "java/lang/invoke/MethodHandle" ∧ M'.1.cls ≠ "java/lang/invoke/VarHandle" ∧ (parseMethodDescriptor M'.1.desc).map (fun d => d.parameters.length) = some n) ∧ M'.2.2.1 ≤ 40
def CL (own : String) (idx : Nat) (M' : Mt) : Prop := Cond.methodLink own idx M'.1 ∈ e_gw ∨ ∃ host, Cond.methodLinkNest own idx M'.1 host ∈ e_nw
theorem e_good (M M' : Mt) (hm : Cond.code M'.1 M'.2.1 M'.2.2.1 M'.2.2.2 ∈ e_gw) : GoodIn e_gw (e_ws M') := by
  intro w hw
  have : w ∈ e_gw := by
    rcases List.mem_cons.mp hw with rfl | h1
    · exact hm
    · exact h1
  exact ⟨this, good_of_word (List.mem_filter.mp this).2⟩
/-- behind a call -/
theorem e_after {p : Program} {e : Env} {R : Room} {s : State} {m : MethodId} {args : Array Value} {below : List Frame} {meth : Method} {c : Code} {H : Heap} {locs : List Loc} {cells slots mc ms : Nat} {Q : State → Prop} {l : Array Slot} {rest st0 : List Value} {r : Option Value} {h1 : AH} {a : Array Value}
    (hr : va_Run p X.1.1 e R s m args below meth c H locs cells slots mc ms (F0 m pc l st0) rest (e_Qc X r h1 a) (e_A X)) (hS : va_S (e_A X) s.heap H locs)
    (kk : ∀ (H1 : Heap) (locs1 : List Loc), e_P X h1 H1 → va_S (e_A X) s.heap H1 locs1 → W p X.1.1 e R s m args below meth c H1 locs1 (cells + mc) (slots + ms) Q (F0 m (pc + 3) l ((r.map (e_tr X)).toList ++ rest))) : W p X.1.1 e R s m args below meth c H locs cells slots Q (F0 m pc l st0) := by
  intro T0 hT Xs
  obtain ⟨v, st₀, t, T', L, h0, X', hL, e1, e2, ⟨hv, hP1, hz, hk⟩, stp⟩ := hr T0 hT Xs
  cases hv
  rw [h0] at hz hk
  obtain ⟨t2, a1, b1⟩ := kk T'.heap (locs ++ L) (by rw [e1]; exact hP1) ⟨Nat.le_trans hS.1 (by rw [e1]; exact hz), fun q g1 g2 => by rw [e1, hk q (Nat.lt_of_lt_of_le g1 hS.1) g2]; exact hS.2.1 q g1 g2, fun q hq => by
      rcases List.mem_append.mp hq with g | g
      · exact hS.2.2 q g
      · exact hL q g⟩ T' rfl X'
  exact ⟨t2, stp t2 a1, b1⟩
/-- one step that is a call -/
theorem T_callG {M' : Mt} {av : List Value} {rest : List Value} {Q1 : Option Value → AH → Prop} (hc : C X d M' av h Q1)
    (hw : ∀ (r : Option Value) (h1 : AH), e_M X d M' av h r h1 → ∀ (p : Program) (e : Env) (R : Room) (s : State) (m : MethodId) (args : Array Value) (below : List Frame) (meth : Method) (c : Code) (H : Heap) (locs : List Loc) (cells slots : Nat) (l : Array Slot), e_C X M p s m args meth c → d + 1 ≤ R.frames → 60 * (d + 1) ≤ R.locals → cells + (h1.1.1 - h.1.1) ≤ R.cells → slots + (h1.1.2 - h.1.2) ≤ R.slots → e_P X h H → va_S (e_A X) s.heap H locs → e_L X M.2.2.1 ls l → va_Run p X.1.1 e R s m args below meth c H locs cells slots (h1.1.1 - h.1.1) (h1.1.2 - h.1.2) (F0 m pc l (st.map (e_tr X))) (rest.map (e_tr X)) (e_Qc X r h1 (av.map (e_tr X)).toArray) (e_A X))
    (hn : pc + 3 = pc') (kk : ∀ (r : Option Value) (h1 : AH), Q1 r h1 → T X (d + 1) M pc' ls (r.toList ++ rest) h1 Q) : T X (d + 1) M pc ls st h Q := by
  obtain ⟨r, h1, q1, hM⟩ := hc
  obtain ⟨r2, h2, q2, mono2, w2⟩ := kk r h1 q1
  obtain ⟨m1, m2⟩ := hM.1
  refine ⟨r2, h2, q2, ⟨Nat.le_trans m1 mono2.1, Nat.le_trans m2 mono2.2⟩, fun p e R s m args below meth c H locs cells slots Q n0 s0 l hC g1 g2 g3 g4 hP hS hcc hss hL hF => ?_⟩
  have hrun := hw r h1 hM p e R s m args below meth c H locs cells slots l hC g1 g2 (by omega) (by omega) hP hS hL
  refine e_after hrun hS (fun H1 locs1 hP1 hS1 => ?_)
  rw [hn]
  have := w2 p e R s m args below meth c H1 locs1 (cells + (h1.1.1 - h.1.1)) (slots + (h1.1.2 - h.1.2)) Q n0 s0 l hC g1 g2 g3 g4 hP1 hS1 (by omega) (by omega) hL hF
  have e1 : (r.toList ++ rest).map (e_tr X) = (r.map (e_tr X)).toList ++ rest.map (e_tr X) := by cases r <;> simp
  rw [e1] at this
  exact this
theorem e_pre {M' : Mt} {av : List Value} {s : State} {H : Heap} {locs : List Loc} (hE : e_E X s s.heap) (hP : e_P X h H) (hS : va_S (e_A X) s.heap H locs) : ∀ U : State, U.heap = H → s.WarmedH U.vm → e_Pc X av h (av.map (e_tr X)).toArray U :=
  fun U hU hW => ⟨rfl, by rw [hU]; exact hP, by rw [hU]; exact e_E_mv hE hW.alike (e_N_warm hW hE.2.1) hS.1 hS.2.1⟩
theorem T_callV {M' : Mt} {idx n b ci : Nat} {As rest fs : List Value} {Q1 : Option Value → AH → Prop} (hd : decode M.2.1 pc = .ok (.invokevirtual idx, 3)) (hn : pc + 3 = pc') (hl : CL M.1.cls idx M') (hm : MK M' n) (hi : Cond.instanceMethod M'.1 ∈ e_gw) (hse : Cond.selects M'.1.cls M'.1 M'.1 ∈ e_gw) (hcl : (e_cl[ci]?).map (fun r => r.1) = some M'.1.cls) (hb0 : h.2 b = some (.inr (.inr (ci, fs)))) (hnn : As.length = n) (hW : (rest.map fun v => v.category).sum ≤ 8) (hst : st = As.reverse ++ .ref b :: rest) (hc : C X d M' (.ref b :: As) h Q1) (kk : ∀ (r : Option Value) (h1 : AH), Q1 r h1 → T X (d + 1) M pc' ls (r.toList ++ rest) h1 Q) : T X (d + 1) M pc ls st h Q := by
  refine T_callG (rest := rest) hc (fun r h1 hM p e R s m args below meth c H locs cells slots l hC g1 g2 g3 g4 hP hS hL => ?_) hn kk
  obtain ⟨hx, hb, hml, hown, hts, -, -, -, hE⟩ := hC
  obtain ⟨hlt, r0, hr0, cell, q1, q2, q3, -⟩ := hP.2 b _ hb0
  obtain ⟨-, hM⟩ := hM
  obtain ⟨m1, m2, m3, m4⟩ := hm
  have hcC : s.vm.findClass M'.1.cls = some cell.cls := by
    rw [hr0] at hcl
    have h9 := (hE.1.1 ci r0 hr0).2.1
    rw [q2, ← Option.some.inj hcl]
    exact h9
  have hrec : ∃ cellB : Cell, H[e_am X b]? = some cellB ∧ cellB.vm.isStatics = false ∧ s.vm.findClass M'.1.cls = some cellB.cls := ⟨cell, by rw [e_am_lt hlt]; exact q1, by rw [q3]; rfl, hcC⟩
  have hstk : st.map (e_tr X) = (As.map (e_tr X)).reverse ++ .ref (e_am X b) :: rest.map (e_tr X) := by
    rw [hst, List.map_append, List.map_reverse]; rfl
  have hWr : 2 * (F0 m pc l (st.map (e_tr X))).monitorRoom + ((rest.map (e_tr X)).map fun v => v.category).sum ≤ 8 := by
    have : ((rest.map (e_tr X)).map fun v => v.category) = rest.map fun v => v.category := by rw [List.map_map]; exact List.map_congr_left (fun v _ => e_cat v)
    rw [this]
    show 2 * 0 + _ ≤ 8
    omega
  have hpr := e_pre (M' := M') (av := .ref b :: As) hE hP hS
  rcases hl with hl | ⟨host, hl⟩
  · exact va_runV (Ts := e_gw) (n := n) (As := As.map (e_tr X)) (b := e_am X b) (bytes := M'.2.1) (maxL := M'.2.2.1) (ret := M'.2.2.2) ⟨hx, hb, hml, hown, hts⟩ hM
      ⟨callB_of n hts (e_good M M' m1) rfl rfl rfl (hts _ m2) (hts _ hl) m3 ⟨g1, by show 8 + (M'.2.2.1 + 11) + 60 * d ≤ R.locals; omega⟩, hts _ hi, hts _ hse⟩
      ⟨e_blind _, hrec, hpr⟩ rfl (by simpa using hnn) hL.2.1 hstk hWr hd ⟨g3, g4⟩
  · exact va_runVN (Ts := e_gw) (n := n) (C := M'.1.cls) (As := As.map (e_tr X)) (b := e_am X b) (bytes := M'.2.1) (maxL := M'.2.2.1) (ret := M'.2.2.2) ⟨hx, hb, hml, hown, hts⟩ hM
      ⟨va_cnB n hts (e_good M M' m1) rfl rfl rfl (hE.2.1 _ hl) (hts _ m2) m3 ⟨g1, by show 8 + (M'.2.2.1 + 11) + 60 * d ≤ R.locals; omega⟩, hts _ hi, hts _ hse⟩
      ⟨e_blind _, hrec, hpr⟩ rfl (by simpa using hnn) hL.2.1 hstk hWr hd ⟨g3, g4⟩
theorem T_callS {M' : Mt} {idx n : Nat} {As rest : List Value} {Q1 : Option Value → AH → Prop} (hd : decode M.2.1 pc = .ok (.invokestatic idx, 3)) (hn : pc + 3 = pc') (hl : CL M.1.cls idx M') (hm : MK M' n) (hi : Cond.static M'.1 ∈ e_gw) (hnn : As.length = n) (hW : (rest.map fun v => v.category).sum ≤ 8) (hst : st = As.reverse ++ rest) (hc : C X d M' As h Q1) (kk : ∀ (r : Option Value) (h1 : AH), Q1 r h1 → T X (d + 1) M pc' ls (r.toList ++ rest) h1 Q) : T X (d + 1) M pc ls st h Q := by
  refine T_callG (rest := rest) hc (fun r h1 hM p e R s m args below meth c H locs cells slots l hC g1 g2 g3 g4 hP hS hL => ?_) hn kk
  obtain ⟨hx, hb, hml, hown, hts, -, -, -, hE⟩ := hC
  obtain ⟨-, hM⟩ := hM
  obtain ⟨m1, m2, m3, m4⟩ := hm
  have hstk : st.map (e_tr X) = (As.map (e_tr X)).reverse ++ rest.map (e_tr X) := by
    rw [hst, List.map_append, List.map_reverse]
  have hWr : 2 * (F0 m pc l (st.map (e_tr X))).monitorRoom + ((rest.map (e_tr X)).map fun v => v.category).sum ≤ 8 := by
    have : ((rest.map (e_tr X)).map fun v => v.category) = rest.map fun v => v.category := by rw [List.map_map]; exact List.map_congr_left (fun v _ => e_cat v)
    rw [this]
    show 2 * 0 + _ ≤ 8
    omega
  have hpr := e_pre (M' := M') (av := As) hE hP hS
  rcases hl with hl | ⟨host, hl⟩
  · exact va_runS (Ts := e_gw) (n := n) (As := As.map (e_tr X)) (bytes := M'.2.1) (maxL := M'.2.2.1) (ret := M'.2.2.2) ⟨hx, hb, hml, hown, hts⟩ hM
      ⟨callB_of n hts (e_good M M' m1) rfl rfl rfl (hts _ m2) (hts _ hl) m3 ⟨g1, by show 8 + (M'.2.2.1 + 11) + 60 * d ≤ R.locals; omega⟩, hts _ hi⟩
      ⟨e_blind _, hpr⟩ rfl (by simpa using hnn) hL.2.1 hstk hWr hd ⟨g3, g4⟩
  · exact va_runSN (Ts := e_gw) (n := n) (As := As.map (e_tr X)) (bytes := M'.2.1) (maxL := M'.2.2.1) (ret := M'.2.2.2) ⟨hx, hb, hml, hown, hts⟩ hM
      ⟨va_cnB n hts (e_good M M' m1) rfl rfl rfl (hE.2.1 _ hl) (hts _ m2) m3 ⟨g1, by show 8 + (M'.2.2.1 + 11) + 60 * d ≤ R.locals; omega⟩, hts _ hi, trivial⟩
      ⟨e_blind _, hpr⟩ rfl (by simpa using hnn) hL.2.1 hstk hWr hd ⟨g3, g4⟩
theorem T_callI {M' : Mt} {idx n b : Nat} {As rest : List Value} {Q1 : Option Value → AH → Prop} (hd : decode M.2.1 pc = .ok (.invokespecial idx, 3)) (hn : pc + 3 = pc') (hl : CL M.1.cls idx M') (hm : MK M' n) (hi : Cond.instanceMethod M'.1 ∈ e_gw) (hnm : M'.1.name = "<init>" ∧ M'.2.2.2 = none) (hnn : As.length = n) (hW : (rest.map fun v => v.category).sum ≤ 8) (hst : st = As.reverse ++ .ref b :: rest) (hc : C X d M' (.ref b :: As) h Q1) (kk : ∀ (r : Option Value) (h1 : AH), Q1 r h1 → T X (d + 1) M pc' ls (r.toList ++ rest) h1 Q) : T X (d + 1) M pc ls st h Q := by
  refine T_callG (rest := rest) hc (fun r h1 hM p e R s m args below meth c H locs cells slots l hC g1 g2 g3 g4 hP hS hL => ?_) hn kk
  obtain ⟨hx, hb, hml, hown, hts, -, -, -, hE⟩ := hC
  obtain ⟨-, hM⟩ := hM
  obtain ⟨m1, m2, m3, m4⟩ := hm
  obtain ⟨hnm, hrt⟩ := hnm
  have hws : e_ws M' = Cond.code M'.1 M'.2.1 M'.2.2.1 none :: e_gw := by unfold e_ws; rw [hrt]
  have hstk : st.map (e_tr X) = (As.map (e_tr X)).reverse ++ .ref (e_am X b) :: rest.map (e_tr X) := by
    rw [hst, List.map_append, List.map_reverse]; rfl
  have hWr : 2 * (F0 m pc l (st.map (e_tr X))).monitorRoom + ((rest.map (e_tr X)).map fun v => v.category).sum ≤ 8 := by
    have : ((rest.map (e_tr X)).map fun v => v.category) = rest.map fun v => v.category := by rw [List.map_map]; exact List.map_congr_left (fun v _ => e_cat v)
    rw [this]
    show 2 * 0 + _ ≤ 8
    omega
  have hpr := e_pre (M' := M') (av := .ref b :: As) hE hP hS
  rcases hl with hl | ⟨host, hl⟩
  · exact va_runI (Ts := e_gw) (n := n) (As := As.map (e_tr X)) (b := e_am X b) (bytes := M'.2.1) (maxL := M'.2.2.1) ⟨hx, hb, hml, hown, hts⟩ hM
      ⟨callB_of n hts (e_good M M' m1) hws rfl rfl (hts _ m2) (hts _ hl) m3 ⟨g1, by show 8 + (M'.2.2.1 + 11) + 60 * d ≤ R.locals; omega⟩, hnm, hts _ hi⟩
      ⟨e_blind _, hpr⟩ rfl (by simpa using hnn) hL.2.1 hstk hWr hd ⟨g3, g4⟩
  · exact va_runIN (Ts := e_gw) (n := n) (As := As.map (e_tr X)) (b := e_am X b) (bytes := M'.2.1) (maxL := M'.2.2.1) ⟨hx, hb, hml, hown, hts⟩ hM
      ⟨va_cnB n hts (e_good M M' m1) hws rfl rfl (hE.2.1 _ hl) (hts _ m2) m3 ⟨g1, by show 8 + (M'.2.2.1 + 11) + 60 * d ≤ R.locals; omega⟩, hnm, hts _ hi⟩
      ⟨e_blind _, hpr⟩ rfl (by simpa using hnn) hL.2.1 hstk hWr hd ⟨g3, g4⟩
theorem T_objInit {idx a : Nat} (hd : decode M.2.1 pc = .ok (.invokespecial idx, 3)) (hn : pc + 3 = pc') (hl : Cond.methodLink M.1.cls idx Lib.objectInit ∈ e_gw) (hi : Cond.instanceMethod Lib.objectInit ∈ e_gw) (hc : Cond.code Lib.objectInit ⟨#[0xb1]⟩ 1 none ∈ e_gw) (kk : T X (d + 1) M pc' ls [] h Q) : T X (d + 1) M pc ls [.ref a] h Q := by
  refine T_pure (fun p e R s m args below meth c H locs cells slots Q l hC g1 g2 _ _ hP hS hL hq => ?_) kk
  obtain ⟨hx, hb, hml, hown, hts, -, -, -, hE⟩ := hC
  exact W.objInit hx hb hown (hts _ hl) (hts _ hi) (hts _ hc) rfl (by rw [hml]; exact hL.2.1) rfl hd (by omega) (by show 2 * 0 + 0 + 12 ≤ R.locals; omega) (by rw [← hn] at hq; exact hq l hL)
end ENG5
