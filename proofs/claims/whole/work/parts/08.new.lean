section ENG6
variable {X : EX} {d : Nat} {M : Mt} {pc pc' : Nat} {ls ls' st st' : List Value} {h : AH} {Q : Option Value → AH → Prop}
theorem e_P_new {c1 : AC} {n : Nat} {H H1 : Heap} (hP : e_P X h H) (hlt : h.1.1 < 1000000) (hc : e_at X h.1.1 c1 H1) (hz : H1.size = H.size + 1) (ho : ∀ q : Nat, q < H.size → H1[q]? = H[q]?) : e_P X (e_new h c1 n) H1 := by
  refine ⟨by rw [hz, hP.1]; show _ = X.2.1 + (h.1.1 + 1); omega, fun k c hk => ?_⟩
  by_cases hka : k = h.1.1
  · subst hka
    have hk' : c1 = c := by simpa [e_new] using hk
    subst hk'
    exact ⟨hlt, hc⟩
  · have hk' : h.2 k = some c := by simpa [e_new, hka] using hk
    obtain ⟨g1, g2⟩ := hP.2 k c hk'
    refine ⟨g1, ?_⟩
    match c, g2 with
    | .inl x, g2 => exact (ho _ (Array.getElem?_eq_some_iff.mp g2).1).trans g2
    | .inr (.inl x), g2 => exact (ho _ (Array.getElem?_eq_some_iff.mp g2).1).trans g2
    | .inr (.inr o), ⟨r, r1, r2⟩ =>
      obtain ⟨cell, r3, r4⟩ := r2
      exact ⟨r, r1, t_OB.kept ⟨cell, r3, r4⟩ (ho _ (Array.getElem?_eq_some_iff.mp r3).1)⟩
theorem e_S_new {H0 H H1 : Heap} {locs : List Loc} (hS : va_S (e_A X) H0 H locs) (hz : H1.size = H.size + 1) (ho : ∀ q : Nat, q < H.size → H1[q]? = H[q]?) : va_S (e_A X) H0 H1 locs :=
  ⟨Nat.le_trans hS.1 (by omega), fun q g1 g2 => (ho q (Nat.lt_of_lt_of_le g1 hS.1)).trans (hS.2.1 q g1 g2), hS.2.2⟩
/-- one step that makes one cell -/
theorem T_mk {c1 : AC} {n : Nat} (hlt : h.1.1 < 1000000)
    (hw : ∀ (p : Program) (e : Env) (R : Room) (s : State) (m : MethodId) (args : Array Value) (below : List Frame) (meth : Method) (c : Code) (H : Heap) (locs : List Loc) (cells slots : Nat) (Q : State → Prop) (l : Array Slot), e_C X M p s m args meth c → cells + 1 ≤ R.cells → slots + n ≤ R.slots → e_P X h H → va_S (e_A X) s.heap H locs → e_L X M.2.2.1 ls l → (∀ (H1 : Heap), e_at X h.1.1 c1 H1 → H1.size = H.size + 1 → (∀ q : Nat, q < H.size → H1[q]? = H[q]?) → W p X.1.1 e R s m args below meth c H1 locs (cells + 1) (slots + n) Q (F0 m pc' l (.ref (X.2.1 + h.1.1) :: st'.map (e_tr X)))) → W p X.1.1 e R s m args below meth c H locs cells slots Q (F0 m pc l (st.map (e_tr X))))
    (k : T X d M pc' ls (.ref h.1.1 :: st') (e_new h c1 n) Q) : T X d M pc ls st h Q := by
  obtain ⟨r, h', q, mono, w⟩ := k
  have m1 : h.1.1 + 1 ≤ h'.1.1 := mono.1
  have m2 : h.1.2 + n ≤ h'.1.2 := mono.2
  refine ⟨r, h', q, ⟨by omega, by omega⟩, fun p e R s m args below meth c H locs cells slots Q n0 s0 l hC h1 h2 h3 h4 hP hS hc hs hL hF => ?_⟩
  refine hw p e R s m args below meth c H locs cells slots Q l hC (by omega) (by omega) hP hS hL (fun H1 g1 g2 g3 => ?_)
  have := w p e R s m args below meth c H1 locs (cells + 1) (slots + n) Q n0 s0 l hC h1 h2 h3 h4 (e_P_new hP hlt g1 g2 g3) (e_S_new hS g2 g3) (by show cells + 1 + n0 = h.1.1 + 1; omega) (by show slots + n + s0 = h.1.2 + n; omega) hL hF
  have e1 : e_am X h.1.1 = X.2.1 + h.1.1 := e_am_lt hlt
  rw [List.map_cons] at this
  rw [show e_tr X (.ref h.1.1) = .ref (X.2.1 + h.1.1) by rw [← e1]; rfl] at this
  exact this
theorem T_new {idx ci : Nat} {r : vw_C} {tys : Nat → FieldType} {fs : List Value} (hd : decode M.2.1 pc = .ok (.new idx, 3)) (hn : pc + 3 = pc') (hkc : KC ci r tys) (hcl : Cond.classLink M.1.cls idx r.1 ∈ e_gw) (hins : Cond.instantiable r.1 r.2.2 ∈ e_gw) (hini : Cond.initialized r.1 ∈ e_gw) (hfs : fs.length = r.2.2 ∧ ∀ k, k < r.2.2 → fs[k]? = some (defaultValue (tys k))) (hlt : h.1.1 < 1000000) (kk : T X d M pc' ls (.ref h.1.1 :: st) (e_new h (.inr (.inr (ci, fs))) r.2.2) Q) : T X d M pc ls st h Q := by
  refine T_mk hlt (fun p e R s m args below meth c H locs cells slots Q l hC g1 g2 hP hS hL hq => ?_) kk
  obtain ⟨hx, hb, hml, hown, hts, -, -, -, hE⟩ := hC
  obtain ⟨k1, k2, k3, k4⟩ := hkc
  have hK := hE.1.1 ci _ k1
  refine W.newcK hx hb hown (hts _ hcl) (hts _ hins) (hts _ hini) rfl hd g1 g2 (cC := X.1.2.1.1 ci) hK.2.1 hP.1 (fun H1 kC hkC e1 e2 e3 => ?_)
  show W p X.1.1 e R s m args below meth c H1 locs (cells + 1) (slots + r.2.2) Q (F0 m (pc + 3) l (.ref (X.2.1 + h.1.1) :: st.map (e_tr X)))
  rw [hn]
  refine hq H1 ⟨r, k1, ?_⟩ (by rw [e2, hP.1]) (fun q hq' => e3 q (by rw [← hP.1]; exact hq'))
  have hob := u_born (H := H1) (o := X.2.1 + h.1.1) tys hts k2 hK hkC e1 k3
  refine t_OB.to hob (fun k hk => ?_)
  obtain ⟨-, hf⟩ := hfs
  rw [e_V fs k (hf k hk)]
  cases hty : tys k <;> rfl
theorem T_newi {n : Int32} {N : Nat} {at_ : ArrayType} {t : Nat} (hd : decode M.2.1 pc = .ok (.newarray at_, 2)) (hn : pc + 2 = pc') (hat : (at_ = .int ∧ t = 0) ∨ (at_ = .byte ∧ t = 1) ∨ (at_ = .boolean ∧ t = 2)) (harr : Cond.arrayClass (newarray.typeOf at_) ∈ e_gw) (hn0 : ¬ n < 0) (hN : n.toNatClampNeg = N) (hNs : N ≤ 100000) (hlt : h.1.1 < 1000000) (kk : T X d M pc' ls (.ref h.1.1 :: st) (e_new h (.inl (t, N, fun _ => 0)) N) Q) : T X d M pc ls (.int n :: st) h Q := by
  refine T_mk hlt (fun p e R s m args below meth c H locs cells slots Q l hC g1 g2 hP hS hL hq => ?_) kk
  obtain ⟨hx, hb, hml, hown, hts, -, -, -, hE⟩ := hC
  have hbytes : N * componentBytes (newarray.typeOf at_) ≤ 536870912 := by
    rcases hat with ⟨rfl, -⟩ | ⟨rfl, -⟩ | ⟨rfl, -⟩
    · show N * 4 ≤ _; omega
    · show N * 1 ≤ _; omega
    · show N * 1 ≤ _; omega
  subst hN
  refine W.newa hx hb (hts _ harr) rfl hd rfl hn0 hbytes g1 g2 (fun cA kA comp f1 f2 f3 => ?_)
  have hcA : cA = X.1.2.2 t := by
    have hra : s.vm.findClass ("[" ++ (newarray.typeOf at_).toString) = some (X.1.2.2 t) := by
      rcases hat with ⟨rfl, rfl⟩ | ⟨rfl, rfl⟩ | ⟨rfl, rfl⟩
      · exact (e_ty hE.1 (t := 0) (by decide)).2
      · exact (e_ty hE.1 (t := 1) (by decide)).2
      · exact (e_ty hE.1 (t := 2) (by decide)).2
    exact Option.some.inj (f1.symm.trans hra)
  subst hcA
  have hdv : defaultValue (newarray.typeOf at_) = .int 0 := by
    rcases hat with ⟨rfl, -⟩ | ⟨rfl, -⟩ | ⟨rfl, -⟩ <;> rfl
  rw [hdv]
  show W p X.1.1 e R s m args below meth c (H.push _) locs (cells + 1) (slots + n.toNatClampNeg) Q (F0 m (pc + 2) l (.ref H.size :: st.map (e_tr X)))
  rw [hn, hP.1]
  refine hq _ ?_ (by rw [Array.size_push]) (fun q hq' => by rw [Array.getElem?_push, if_neg (Nat.ne_of_lt hq')])
  show (H.push _)[X.2.1 + h.1.1]? = some (arrV (X.1.2.2 t) n.toNatClampNeg (fun _ => .int 0))
  rw [← hP.1, Array.getElem?_push_size, ← arrV_new]
theorem T_newr {n : Int32} {N idx t : Nat} {K : String} (hd : decode M.2.1 pc = .ok (.anewarray idx, 3)) (hn : pc + 3 = pc') (hat : (K = R_Fl ∧ t = 3) ∨ (K = R_Im ∧ t = 4)) (hcl : Cond.classLink M.1.cls idx K ∈ e_gw) (hn0 : ¬ n < 0) (hN : n.toNatClampNeg = N) (hNs : N ≤ 100000) (hlt : h.1.1 < 1000000) (kk : T X d M pc' ls (.ref h.1.1 :: st) (e_new h (.inr (.inl (t, N, fun _ => none))) N) Q) : T X d M pc ls (.int n :: st) h Q := by
  refine T_mk hlt (fun p e R s m args below meth c H locs cells slots Q l hC g1 g2 hP hS hL hq => ?_) kk
  obtain ⟨hx, hb, hml, hown, hts, -, -, -, hE⟩ := hC
  subst hN
  have hao : va_AO K s := by
    rcases hat with ⟨rfl, -⟩ | ⟨rfl, -⟩
    · exact hE.2.2.1.1
    · exact hE.2.2.1.2.1
  refine W.anew hx hb hown (hts _ hcl) (va_AO.use hao) rfl hd rfl hn0 (by omega) g1 g2 (fun cA kA comp f1 f2 f3 f4 => ?_)
  have hcA : cA = X.1.2.2 t := by
    have hra : s.vm.findClass ("[" ++ (FieldType.object K).toString) = some (X.1.2.2 t) := by
      rcases hat with ⟨rfl, rfl⟩ | ⟨rfl, rfl⟩
      · obtain ⟨_, _, -, -, -, z⟩ := (e_ty hE.1 (t := 3) (by decide)).2
        exact z
      · obtain ⟨_, _, -, -, -, z⟩ := (e_ty hE.1 (t := 4) (by decide)).2
        exact z
    exact Option.some.inj (f1.symm.trans hra)
  subst hcA
  show W p X.1.1 e R s m args below meth c (H.push _) locs (cells + 1) (slots + n.toNatClampNeg) Q (F0 m (pc + 3) l (.ref H.size :: st.map (e_tr X)))
  rw [hn, hP.1]
  refine hq _ ?_ (by rw [Array.size_push]) (fun q hq' => by rw [Array.getElem?_push, if_neg (Nat.ne_of_lt hq')])
  show (H.push _)[X.2.1 + h.1.1]? = some (arrV (X.1.2.2 t) n.toNatClampNeg (fun _ => .null))
  rw [← hP.1, Array.getElem?_push_size, ← arrV_new]
/-- System.arraycopy between two different rows of ints -/
theorem T_copyi {idx a0 a n0 n1 : Nat} {f g : Nat → Int32} {sp dp n : Int32} (hd : decode M.2.1 pc = .ok (.invokestatic idx, 3)) (hn : pc + 3 = pc') (hl : Cond.methodLink M.1.cls idx arraycopyName ∈ e_gw) (hw3 : Cond.native arraycopyName ∈ e_gw ∧ Cond.static arraycopyName ∈ e_gw ∧ Cond.initialized "java/lang/System" ∈ e_gw) (ha0 : h.2 a0 = some (.inl (0, n0, f))) (ha : h.2 a = some (.inl (0, n1, g))) (h1 : ¬ sp < 0) (h2 : ¬ dp < 0) (h3 : ¬ n < 0) (h4 : sp.toNatClampNeg + n.toNatClampNeg ≤ n0) (h5 : dp.toNatClampNeg + n.toNatClampNeg ≤ n1) (kk : T X (d + 1) M pc' ls [] (e_put h a (.inl (0, n1, va_cpy f g sp.toNatClampNeg dp.toNatClampNeg n.toNatClampNeg))) Q) : T X (d + 1) M pc ls [.int n, .int dp, .ref a, .int sp, .ref a0] h Q := by
  refine T_set ha (fun p e R s m args below meth c H locs cells slots Q l hC g1 g2 hP hS hL hq => ?_) kk
  obtain ⟨hx, hb, hml, hown, hts, -, -, -, hE⟩ := hC
  obtain ⟨hlt0, hc0⟩ := hP.2 a0 _ ha0
  obtain ⟨hlt, hc1⟩ := hP.2 a _ ha
  show W p X.1.1 e R s m args below meth c H locs cells slots Q (F0 m pc l [.int n, .int dp, .ref (e_am X a), .int sp, .ref (e_am X a0)])
  rw [e_am_lt hlt0, e_am_lt hlt]
  have nn : ∀ z : Int32, ¬ z < 0 → z.toInt = (z.toNatClampNeg : Int) := by
    intro z hz
    have hz0 : (0 : Int) ≤ z.toInt := by
      have := Int32.not_lt.mp hz
      simpa using Int32.le_iff_toInt_le.mp this
    show z.toInt = ((z.toInt.toNat : Nat) : Int)
    omega
  have hnf : nativeFrameWords "java/lang/System" "arraycopy" 5 + 11 ≤ 60 := by decide +kernel
  intro T0 hT Xs
  obtain ⟨-, k0, hk0, cm0, hkk0⟩ := (e_ty hE.1 (t := 0) (by decide)).1 n0 (fun j => .int (f j))
  obtain ⟨-, k1, hk1, cm1, hkk1⟩ := (e_ty hE.1 (t := 0) (by decide)).1 n1 (fun j => .int (g j))
  obtain ⟨vm', X', stp⟩ := Xs.arraycopy hx hown (hts _ hl) (hts _ hw3.1) (hts _ hw3.2.1) (hts _ hw3.2.2) (src := X.2.1 + a0) (dst := X.2.1 + a) (cs := arrV (X.1.2.2 0) n0 (fun j => .int (f j))) (cd := arrV (X.1.2.2 0) n1 (fun j => .int (g j))) (srcPos := sp) (destPos := dp) (n := n) (by rw [hT]; exact hc0) (by rw [hT]; exact hc1)
    (fun _ z => by cases z) (fun _ z => by cases z) (fun z => by cases z) (fun z => by cases z) hk0 hk1 hkk0 hkk1 (by decide) h1 h2 h3
    (by rw [nn sp h1, nn n h3, arrV_size]; omega)
    (by rw [nn dp h2, nn n h3, arrV_size]; omega)
    (fun vm₁ _ i hi => by
      have e9 : (arrV (X.1.2.2 0) n0 (fun j => .int (f j))).slots.getD (sp.toNatClampNeg + i) .null = .int (f (sp.toNatClampNeg + i)) := by
        rw [Array.getD_eq_getD_getElem?, arrV_read _ _ (by omega)]
        rfl
      refine ⟨?_, ?_⟩
      · rw [e9]; rfl
      · rw [e9]; exact trivial)
    (g := F0 m pc l [.int n, .int dp, .ref (X.2.1 + a), .int sp, .ref (X.2.1 + a0)]) rfl (by rw [hml]; exact hL.2.1) (rest := []) rfl (by rw [hb]; exact hd) (by omega) (by show 2 * 0 + (List.map (fun v => Value.category v) []).sum + (nativeFrameWords "java/lang/System" "arraycopy" 5 + 11) ≤ R.locals; rw [List.map_nil, List.sum_nil]; omega)
  have e1 : copied (arrV (X.1.2.2 0) n0 (fun j => .int (f j))) (arrV (X.1.2.2 0) n1 (fun j => .int (g j))) sp dp n = arrV (X.1.2.2 0) n1 (fun j => .int (va_cpy f g sp.toNatClampNeg dp.toNatClampNeg n.toNatClampNeg j)) := va_copied (fun z => .int z) _ _ f g h4
  rw [e1] at X' stp
  have hla : X.2.1 + a < H.size := (Array.getElem?_eq_some_iff.mp hc1).1
  have hheap : ((T0.setVm vm').setCell (X.2.1 + a) (arrV (X.1.2.2 0) n1 (fun j => .int (va_cpy f g sp.toNatClampNeg dp.toNatClampNeg n.toNatClampNeg j)))).heap = H.setIfInBounds (X.2.1 + a) (arrV (X.1.2.2 0) n1 (fun j => .int (va_cpy f g sp.toNatClampNeg dp.toNatClampNeg n.toNatClampNeg j))) := by rw [← hT]; rfl
  have oq : ∀ q : Nat, q ≠ X.2.1 + a → (H.setIfInBounds (X.2.1 + a) (arrV (X.1.2.2 0) n1 (fun j => .int (va_cpy f g sp.toNatClampNeg dp.toNatClampNeg n.toNatClampNeg j))))[q]? = H[q]? := fun q hq => by simp [Array.getElem?_setIfInBounds, Ne.symm hq]
  obtain ⟨t, a1, b1⟩ := hq _ _ (show (H.setIfInBounds (X.2.1 + a) _)[X.2.1 + a]? = some _ by simp [Array.getElem?_setIfInBounds, hla]) (by simp) oq ⟨by simp; exact hS.1, fun q g1 g2 => by
      rw [oq q (fun e9 => g2 (by rw [e9]; exact Nat.le_add_right _ _))]
      exact hS.2.1 q g1 g2, fun q hq => by
      rcases List.mem_append.mp hq with g | g
      · exact hS.2.2 q g
      · obtain ⟨z, -, hz⟩ := List.mem_map.mp g
        rw [← hz]
        exact Nat.le_add_right _ _⟩ _ hheap X'
  exact ⟨t, stp t (by rw [← hn] at a1; exact a1), b1⟩
end ENG6
