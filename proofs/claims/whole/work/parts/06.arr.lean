section ENG4
variable {X : EX} {d : Nat} {M : Mt} {pc pc' : Nat} {ls ls' st st' : List Value} {h : AH} {Q : Option Value → AH → Prop}
theorem e_ty {U : State} (hK : e_K X U) {t : Nat} (ht : t < 6) : ArrOfT U (X.1.2.2 t) (e_tys.getD t .int) ∧ va_RA U (X.1.2.2 t) (e_tys.getD t .int) :=
  hK.2 t (X.1.2.2 t, e_tys.getD t .int) (by rw [List.getElem?_map, List.getElem?_range ht]; rfl)
theorem e_in {i : Int32} {n : Nat} (hi : vp_in i n) : ¬ i < 0 ∧ i.toNatClampNeg < n := ⟨fun q => hi (Or.inl q), Nat.not_le.mp fun q => hi (Or.inr q)⟩
theorem e_am_ro (X : EX) (j : Nat) : e_am X (1000000 + j) = X.2.2.1 j := by
  rw [e_am, if_neg (by omega), Nat.add_sub_cancel_left]
theorem T_iaload {a n : Nat} {f : Nat → Int32} {i : Int32} (hd : decode M.2.1 pc = .ok (.iaload, 1)) (hn : pc + 1 = pc') (ha : h.2 a = some (.inl (0, n, f))) (hi : vp_in i n) (kk : T X d M pc' ls (.int (f i.toNatClampNeg) :: st) h Q) : T X d M pc ls (.int i :: .ref a :: st) h Q := by
  refine T_pure (fun p e R s m args below meth c H locs cells slots Q l hC _ _ _ _ hP hS hL hq => ?_) kk
  obtain ⟨hlt, hat⟩ := hP.2 a _ ha
  obtain ⟨hx, hb, -, -, -, -, -, -, hE⟩ := hC
  show W p X.1.1 e R s m args below meth c H locs cells slots Q (F0 m pc l (.int i :: .ref (e_am X a) :: st.map (e_tr X)))
  rw [e_am_lt hlt]
  exact W.iald (v := .int (f i.toNatClampNeg)) hx hb hat ((e_ty hE.1 (t := 0) (by decide)).1 n (fun j => .int (f j))) (fun q => by cases q) (by rw [arrV_size]; exact hi) (by rw [arrV_read _ _ (e_in hi).2]) rfl rfl hd (by rw [hn]; exact hq l hL)
theorem T_baload {a n : Nat} {f : Nat → Int32} {i : Int32} (hd : decode M.2.1 pc = .ok (.baload, 1)) (hn : pc + 1 = pc') (ha : h.2 a = some (.inl (1, n, f))) (hi : vp_in i n) (kk : T X d M pc' ls (.int (f i.toNatClampNeg) :: st) h Q) : T X d M pc ls (.int i :: .ref a :: st) h Q := by
  refine T_pure (fun p e R s m args below meth c H locs cells slots Q l hC _ _ _ _ hP hS hL hq => ?_) kk
  obtain ⟨hlt, hat⟩ := hP.2 a _ ha
  obtain ⟨hx, hb, -, -, -, -, -, -, hE⟩ := hC
  show W p X.1.1 e R s m args below meth c H locs cells slots Q (F0 m pc l (.int i :: .ref (e_am X a) :: st.map (e_tr X)))
  rw [e_am_lt hlt]
  exact W.bald (v := .int (f i.toNatClampNeg)) hx hb hat ((e_ty hE.1 (t := 1) (by decide)).1 n (fun j => .int (f j))) (fun q => by cases q) (by rw [arrV_size]; exact hi) (by rw [arrV_read _ _ (e_in hi).2]) rfl rfl hd (by rw [hn]; exact hq l hL)
theorem T_zaload {a n : Nat} {f : Nat → Int32} {i : Int32} (hd : decode M.2.1 pc = .ok (.baload, 1)) (hn : pc + 1 = pc') (ha : h.2 a = some (.inl (2, n, f))) (hi : vp_in i n) (kk : T X d M pc' ls (.int (f i.toNatClampNeg) :: st) h Q) : T X d M pc ls (.int i :: .ref a :: st) h Q := by
  refine T_pure (fun p e R s m args below meth c H locs cells slots Q l hC _ _ _ _ hP hS hL hq => ?_) kk
  obtain ⟨hlt, hat⟩ := hP.2 a _ ha
  obtain ⟨hx, hb, -, -, -, -, -, -, hE⟩ := hC
  show W p X.1.1 e R s m args below meth c H locs cells slots Q (F0 m pc l (.int i :: .ref (e_am X a) :: st.map (e_tr X)))
  rw [e_am_lt hlt]
  exact W.zald (v := .int (f i.toNatClampNeg)) hx hb hat ((e_ty hE.1 (t := 2) (by decide)).1 n (fun j => .int (f j))) (fun q => by cases q) (by rw [arrV_size]; exact hi) (by rw [arrV_read _ _ (e_in hi).2]) rfl rfl hd (by rw [hn]; exact hq l hL)
/-- f, but x at k -/
def e_up (f : Nat → Int32) (k : Nat) (x : Int32) : Nat → Int32 := fun j => if j = k then x else f j
theorem e_stored (cA : ClassId) (n k : Nat) (f : Nat → Int32) (x : Int32) : (arrV cA n (fun j => .int (f j))).setSlot k (.int x) = arrV cA n (fun j => .int (e_up f k x j)) := by
  rw [arrV_store]
  congr 1
  funext q
  by_cases hq : q = k
  · subst hq; simp [updV, e_up]
  · simp [updV, e_up, hq]
theorem T_iastore {a n : Nat} {f : Nat → Int32} {i x : Int32} (hd : decode M.2.1 pc = .ok (.iastore, 1)) (hn : pc + 1 = pc') (ha : h.2 a = some (.inl (0, n, f))) (hi : vp_in i n) (kk : T X d M pc' ls st (e_put h a (.inl (0, n, e_up f i.toNatClampNeg x))) Q) : T X d M pc ls (.int x :: .int i :: .ref a :: st) h Q := by
  refine T_set ha (fun p e R s m args below meth c H locs cells slots Q l hC _ _ hP hS hL hq => ?_) kk
  obtain ⟨hlt, hat⟩ := hP.2 a _ ha
  obtain ⟨hx, hb, -, -, -, -, -, -, hE⟩ := hC
  show W p X.1.1 e R s m args below meth c H locs cells slots Q (F0 m pc l (.int x :: .int i :: .ref (e_am X a) :: st.map (e_tr X)))
  rw [e_am_lt hlt]
  refine W.iast hx hb hat ((e_ty hE.1 (t := 0) (by decide)).1 n (fun j => .int (f j))) (fun q => by cases q) (by rw [arrV_size]; exact hi) rfl rfl hd fun H1 e1 e2 e3 => ?_
  show W p X.1.1 e R s m args below meth c H1 _ cells slots Q (F0 m (pc + 1) l (st.map (e_tr X)))
  rw [hn]
  exact hq H1 _ (e1.trans (congrArg some (e_stored _ n _ f x))) e2 e3 (e_S_put hS e2 e3)
theorem T_bastore {a n : Nat} {f : Nat → Int32} {i x : Int32} (hd : decode M.2.1 pc = .ok (.bastore, 1)) (hn : pc + 1 = pc') (ha : h.2 a = some (.inl (1, n, f))) (hi : vp_in i n) (kk : T X d M pc' ls st (e_put h a (.inl (1, n, e_up f i.toNatClampNeg x.toInt8.toInt32))) Q) : T X d M pc ls (.int x :: .int i :: .ref a :: st) h Q := by
  refine T_set ha (fun p e R s m args below meth c H locs cells slots Q l hC _ _ hP hS hL hq => ?_) kk
  obtain ⟨hlt, hat⟩ := hP.2 a _ ha
  obtain ⟨hx, hb, -, -, -, -, -, -, hE⟩ := hC
  show W p X.1.1 e R s m args below meth c H locs cells slots Q (F0 m pc l (.int x :: .int i :: .ref (e_am X a) :: st.map (e_tr X)))
  rw [e_am_lt hlt]
  refine W.bast hx hb hat ((e_ty hE.1 (t := 1) (by decide)).1 n (fun j => .int (f j))) (fun q => by cases q) (by rw [arrV_size]; exact hi) rfl rfl hd fun H1 e1 e2 e3 => ?_
  show W p X.1.1 e R s m args below meth c H1 _ cells slots Q (F0 m (pc + 1) l (st.map (e_tr X)))
  rw [hn]
  exact hq H1 _ (e1.trans (congrArg some (e_stored _ n _ f x.toInt8.toInt32))) e2 e3 (e_S_put hS e2 e3)
theorem T_zastore {a n : Nat} {f : Nat → Int32} {i x : Int32} (hd : decode M.2.1 pc = .ok (.bastore, 1)) (hn : pc + 1 = pc') (ha : h.2 a = some (.inl (2, n, f))) (hi : vp_in i n) (kk : T X d M pc' ls st (e_put h a (.inl (2, n, e_up f i.toNatClampNeg (x &&& 1)))) Q) : T X d M pc ls (.int x :: .int i :: .ref a :: st) h Q := by
  refine T_set ha (fun p e R s m args below meth c H locs cells slots Q l hC _ _ hP hS hL hq => ?_) kk
  obtain ⟨hlt, hat⟩ := hP.2 a _ ha
  obtain ⟨hx, hb, -, -, -, -, -, -, hE⟩ := hC
  show W p X.1.1 e R s m args below meth c H locs cells slots Q (F0 m pc l (.int x :: .int i :: .ref (e_am X a) :: st.map (e_tr X)))
  rw [e_am_lt hlt]
  refine W.zast hx hb hat ((e_ty hE.1 (t := 2) (by decide)).1 n (fun j => .int (f j))) (fun q => by cases q) (by rw [arrV_size]; exact hi) rfl rfl hd fun H1 e1 e2 e3 => ?_
  show W p X.1.1 e R s m args below meth c H1 _ cells slots Q (F0 m (pc + 1) l (st.map (e_tr X)))
  rw [hn]
  exact hq H1 _ (e1.trans (congrArg some (e_stored _ n _ f (x &&& 1)))) e2 e3 (e_S_put hS e2 e3)
theorem T_alen {a n : Nat} {f : Nat → Int32} (hd : decode M.2.1 pc = .ok (.arraylength, 1)) (hn : pc + 1 = pc') (ha : h.2 a = some (.inl (0, n, f))) (kk : T X d M pc' ls (.int (Int32.ofNat n) :: st) h Q) : T X d M pc ls (.ref a :: st) h Q := by
  refine T_pure (fun p e R s m args below meth c H locs cells slots Q l hC _ _ _ _ hP hS hL hq => ?_) kk
  obtain ⟨hlt, hat⟩ := hP.2 a _ ha
  obtain ⟨hx, hb, -, -, -, -, -, -, hE⟩ := hC
  show W p X.1.1 e R s m args below meth c H locs cells slots Q (F0 m pc l (.ref (e_am X a) :: st.map (e_tr X)))
  rw [e_am_lt hlt]
  exact W.alen hx hb hat ((e_ty hE.1 (t := 0) (by decide)).1 n (fun j => .int (f j))) (n := Int32.ofNat n) (by rw [arrV_size]) rfl rfl hd (by rw [hn]; exact hq l hL)
theorem T_aaload {a n t b : Nat} {g : Nat → Option Nat} {i : Int32} (hd : decode M.2.1 pc = .ok (.aaload, 1)) (hn : pc + 1 = pc') (ha : h.2 a = some (.inr (.inl (t, n, g)))) (ht : t < 6 ∧ 3 ≤ t) (hi : vp_in i n) (hg : g i.toNatClampNeg = some b) (kk : T X d M pc' ls (.ref b :: st) h Q) : T X d M pc ls (.int i :: .ref a :: st) h Q := by
  refine T_pure (fun p e R s m args below meth c H locs cells slots Q l hC _ _ _ _ hP hS hL hq => ?_) kk
  obtain ⟨hlt, hat⟩ := hP.2 a _ ha
  obtain ⟨hx, hb, -, -, -, -, -, -, hE⟩ := hC
  show W p X.1.1 e R s m args below meth c H locs cells slots Q (F0 m pc l (.int i :: .ref (e_am X a) :: st.map (e_tr X)))
  rw [e_am_lt hlt]
  have hr : (e_tys.getD t .int).isReference = true := by
    obtain ⟨t1, t2⟩ := ht
    have : t = 3 ∨ t = 4 ∨ t = 5 := by omega
    rcases this with rfl | rfl | rfl <;> rfl
  exact W.aald (v := .ref (e_am X b)) hx hb hat ((e_ty hE.1 ht.1).1 n (fun j => e_rf X (g j))) hr (fun q => by cases q) (by rw [arrV_size]; exact hi) (by rw [arrV_read _ _ (e_in hi).2]; show some (e_rf X (g i.toNatClampNeg)) = _; rw [hg]; rfl) rfl rfl hd (by rw [hn]; exact hq l hL)
/-- g, but b at k -/
def e_upr (g : Nat → Option Nat) (k : Nat) (b : Nat) : Nat → Option Nat := fun j => if j = k then some b else g j
theorem T_aastore {a n t b ci : Nat} {g : Nat → Option Nat} {vs : List Value} {i : Int32} (hd : decode M.2.1 pc = .ok (.aastore, 1)) (hn : pc + 1 = pc') (ha : h.2 a = some (.inr (.inl (t, n, g)))) (ht : (t = 3 ∧ ci = 0) ∨ (t = 4 ∧ ci = 2)) (hi : vp_in i n) (hbv : h.2 b = some (.inr (.inr (ci, vs)))) (kk : T X d M pc' ls st (e_put h a (.inr (.inl (t, n, e_upr g i.toNatClampNeg b)))) Q) : T X d M pc ls (.ref b :: .int i :: .ref a :: st) h Q := by
  refine T_set ha (fun p e R s m args below meth c H locs cells slots Q l hC _ _ hP hS hL hq => ?_) kk
  obtain ⟨hlt, hat⟩ := hP.2 a _ ha
  obtain ⟨hltb, r, hr, hob⟩ := hP.2 b _ hbv
  obtain ⟨hx, hb, -, -, -, -, -, -, hE⟩ := hC
  show W p X.1.1 e R s m args below meth c H locs cells slots Q (F0 m pc l (.ref (e_am X b) :: .int i :: .ref (e_am X a) :: st.map (e_tr X)))
  rw [e_am_lt hlt, e_am_lt hltb]
  obtain ⟨cellV, g1, g2, g3, -⟩ := hob
  have hcls := (hE.1.1 ci r hr).2
  have key : ∃ (kA : Class) (comp : ClassId), s.vm.classes[X.1.2.2 t]? = some kA ∧ kA.kind = .array comp (.object r.1) ∧ s.vm.findClass r.1 = some comp ∧ s.vm.findClass ("[" ++ (FieldType.object r.1).toString) = some (X.1.2.2 t) := by
    rcases ht with ⟨rfl, rfl⟩ | ⟨rfl, rfl⟩
    · cases hr; exact (e_ty hE.1 (t := 3) (by decide)).2
    · cases hr; exact (e_ty hE.1 (t := 4) (by decide)).2
  obtain ⟨kA, comp, k1, k2, k3, -⟩ := key
  have hcomp : comp = X.1.2.1.1 ci := Option.some.inj (k3.symm.trans hcls.1)
  subst hcomp
  obtain ⟨kC, hkC, -⟩ := hcls.2
  refine W.aast hx hb hat (fun q z => by cases z) (fun z => by cases z) k1 k2 rfl hkC ⟨(e_in hi).1, by rw [arrV_size]; exact (e_in hi).2⟩ g1 (fun q z => by rw [g3] at z; cases z) (by rw [g2]; exact hkC) (by rw [g2]; exact va_assign hcls) rfl rfl hd fun H1 e1 e2 e3 => ?_
  show W p X.1.1 e R s m args below meth c H1 _ cells slots Q (F0 m (pc + 1) l (st.map (e_tr X)))
  rw [hn]
  refine hq H1 _ (e1.trans (congrArg some ?_)) e2 e3 (e_S_put hS e2 e3)
  rw [arrV_store]
  congr 1
  funext q
  by_cases hqq : q = i.toNatClampNeg
  · subst hqq; simp [updV, e_upr, e_rf, e_am_lt hltb]
  · simp [updV, e_upr, hqq]
theorem T_roald {j : Nat} {i : Int32} (hd : decode M.2.1 pc = .ok (.iaload, 1)) (hn : pc + 1 = pc') (hj : j < 4) (hi : vp_in i (X.2.2.2 j).1) (kk : T X d M pc' ls (.int ((X.2.2.2 j).2 i.toNatClampNeg) :: st) h Q) : T X d M pc ls (.int i :: .ref (1000000 + j) :: st) h Q := by
  refine T_pure (fun p e R s m args below meth c H locs cells slots Q l hC _ _ _ _ hP hS hL hq => ?_) kk
  obtain ⟨hx, hb, -, -, -, -, -, -, hE⟩ := hC
  obtain ⟨cell, c1, c2, c3, c4, c5, c6⟩ := hE.2.2.2.1 j hj
  show W p X.1.1 e R s m args below meth c H locs cells slots Q (F0 m pc l (.int i :: .ref (e_am X (1000000 + j)) :: st.map (e_tr X)))
  have ham : e_am X (1000000 + j) = X.2.2.1 j := e_am_ro X j
  rw [ham]
  have hH : H[X.2.2.1 j]? = some cell := by
    rw [hS.2.1 _ (Array.getElem?_eq_some_iff.mp c1).1 (by show ¬ X.2.1 ≤ X.2.2.1 j; omega)]
    exact c1
  exact W.iald hx hb hH c2 c3 (by rw [c4]; exact hi) (c5 _ (e_in hi).2) rfl rfl hd (by rw [hn]; exact hq l hL)
theorem T_rolen {j : Nat} (hd : decode M.2.1 pc = .ok (.arraylength, 1)) (hn : pc + 1 = pc') (hj : j < 4) (kk : T X d M pc' ls (.int (Int32.ofNat (X.2.2.2 j).1) :: st) h Q) : T X d M pc ls (.ref (1000000 + j) :: st) h Q := by
  refine T_pure (fun p e R s m args below meth c H locs cells slots Q l hC _ _ _ _ hP hS hL hq => ?_) kk
  obtain ⟨hx, hb, -, -, -, -, -, -, hE⟩ := hC
  obtain ⟨cell, c1, c2, c3, c4, c5, c6⟩ := hE.2.2.2.1 j hj
  show W p X.1.1 e R s m args below meth c H locs cells slots Q (F0 m pc l (.ref (e_am X (1000000 + j)) :: st.map (e_tr X)))
  have ham : e_am X (1000000 + j) = X.2.2.1 j := e_am_ro X j
  rw [ham]
  have hH : H[X.2.2.1 j]? = some cell := by
    rw [hS.2.1 _ (Array.getElem?_eq_some_iff.mp c1).1 (by show ¬ X.2.1 ≤ X.2.2.1 j; omega)]
    exact c1
  exact W.alen hx hb hH c2 (n := Int32.ofNat (X.2.2.2 j).1) (by rw [c4]) rfl rfl hd (by rw [hn]; exact hq l hL)
theorem T_gets {idx j : Nat} {n : String} (hd : decode M.2.1 pc = .ok (.getstatic idx, 3)) (hn : pc + 3 = pc') (hj : (j = 0 ∧ n = "NUMBERS") ∨ (j = 1 ∧ n = "LEAST") ∨ (j = 2 ∧ n = "MOST")) (hl : Cond.fieldLink M.1.cls idx R_Tx n "[I" ∈ e_gw) (kk : T X d M pc' ls (.ref (1000000 + j) :: st) h Q) : T X d M pc ls st h Q := by
  refine T_pure (fun p e R s m args below meth c H locs cells slots Q l hC _ _ _ _ hP hS hL hq => ?_) kk
  obtain ⟨hx, hb, -, hown, hts, -, -, -, hE⟩ := hC
  have ham : e_am X (1000000 + j) = X.2.2.1 j := e_am_ro X j
  have hk := hq l hL
  have hk2 : W p X.1.1 e R s m args below meth c H locs cells slots Q (F0 m (pc + 3) l (.ref (X.2.2.1 j) :: st.map (e_tr X))) := by
    rw [hn, ← ham]; exact hk
  have hz : va_Z R_Tx n "[I" (.ref (X.2.2.1 j)) (e_A X) s s.heap := by
    rcases hj with ⟨rfl, rfl⟩ | ⟨rfl, rfl⟩ | ⟨rfl, rfl⟩
    · exact hE.2.2.2.2.1.1
    · exact hE.2.2.2.2.1.2.1
    · exact hE.2.2.2.2.1.2.2
  exact va_gets hx hb hz hS hown (hts _ hl) (fun _ z => z) hd hk2
end ENG4
