/-! fields, arrays, new cells -/
def KC (ci : Nat) (r : vw_C) (ty : Nat → FieldType) : Prop := e_cl[ci]? = some r ∧ (∀ w ∈ u_ws r.1 r.2.1 r.2.2, w ∈ e_gw) ∧ (∀ k, k < r.2.2 → parseFieldDescriptor (r.2.1 k).2.2.1 = some (ty k)) ∧ (∀ a, a < r.2.2 → ∀ b, b < r.2.2 → a ≠ b → (r.2.1 a).2.1 ≠ (r.2.1 b).2.1)
/-- entry idx of the class own names field k of class ci: its type, whether it is final -/
def FL (own : String) (idx ci k : Nat) (ty : FieldType) (fin : Bool) : Prop := ∃ (r : vw_C) (tys : Nat → FieldType), KC ci r tys ∧ k < r.2.2 ∧ (Cond.fieldLink own idx r.1 (r.2.1 k).2.1 (r.2.1 k).2.2.1 ∈ e_gw ∨ ∃ host, Cond.fieldLinkNest own idx r.1 (r.2.1 k).2.1 (r.2.1 k).2.2.1 host ∈ e_nw ∧ fin = false) ∧ tys k = ty ∧ (r.2.1 k).2.2.2 = fin ∧ (r.2.1 k).1 = r.1 ∧ (fin = true → own = r.1)
/-- entry idx of the class own names field k of class ci: to be read -/
def FG (own : String) (idx ci k : Nat) : Prop := ∃ (r : vw_C) (tys : Nat → FieldType), KC ci r tys ∧ k < r.2.2 ∧ (Cond.fieldLink own idx r.1 (r.2.1 k).2.1 (r.2.1 k).2.2.1 ∈ e_gw ∨ ∃ host, Cond.fieldLinkNest own idx r.1 (r.2.1 k).2.1 (r.2.1 k).2.2.1 host ∈ e_nw) ∧ (r.2.1 k).1 = r.1
theorem FL.g {own : String} {idx ci k : Nat} {ty : FieldType} {fin : Bool} (h : FL own idx ci k ty fin) : FG own idx ci k := by
  obtain ⟨r, tys, h1, h2, h3, -, -, h4, -⟩ := h
  exact ⟨r, tys, h1, h2, h3.imp id (fun ⟨host, q, _⟩ => ⟨host, q⟩), h4⟩
section ENG3
variable {X : EX} {d : Nat} {M : Mt} {pc pc' : Nat} {ls ls' st st' : List Value} {h : AH} {Q : Option Value → AH → Prop}
theorem e_am_lt {k : Nat} (hk : k < 1000000) : e_am X k = X.2.1 + k := by rw [e_am, if_pos hk]
theorem e_V (fs : List Value) (k : Nat) {v : Value} (hv : fs[k]? = some v) : vp_V (fs.map (e_tr X)) k = e_tr X v := by
  simp [vp_V, hv]
theorem T_get {idx ci k a : Nat} {fs : List Value} {v : Value} (hd : decode M.2.1 pc = .ok (.getfield idx, 3)) (hn : pc + 3 = pc') (hf : FG M.1.cls idx ci k) (ha : h.2 a = some (.inr (.inr (ci, fs)))) (hv : fs[k]? = some v) (kk : T X d M pc' ls (v :: st) h Q) : T X d M pc ls (.ref a :: st) h Q := by
  refine T_pure (fun p e R s m args below meth c H locs cells slots Q l hC _ _ _ _ hP hS hL hq => ?_) kk
  obtain ⟨r, tys, ⟨k1, k2, k3, k4⟩, hk, hl, hr⟩ := hf
  obtain ⟨hlt, r', k1', hob⟩ := hP.2 a _ ha
  cases k1.symm.trans k1'
  obtain ⟨hx, hb, hml, hown, hts, -, -, -, hE⟩ := hC
  show W p X.1.1 e R s m args below meth c H locs cells slots Q (F0 m pc l (.ref (e_am X a) :: st.map (e_tr X)))
  rw [e_am_lt hlt]
  obtain ⟨cell, q1, q2, q3, q4⟩ := hob
  obtain ⟨hSl, hfc, kC, hkC, hkind⟩ := hE.1.1 ci _ k1
  obtain ⟨cf, kf, fi, f, hi, hsl⟩ := hSl k hk
  have hst := (u_facts hfc hkC (u_lays hts k2 hk) hi).1
  have hval : cell.slots[f.slot]? = some (e_tr X v) := by rw [hsl, q4 k hk, e_V fs k hv]
  rw [hr] at hi
  have fin9 : W p X.1.1 e R s m args below meth c H locs cells slots Q (F0 m (pc + 3) l (e_tr X v :: st.map (e_tr X))) := by rw [hn]; exact hq l hL
  rcases hl with hl | ⟨host, hl⟩
  · exact W.getf hx hb hown (hts _ hl) hi hst q1 (by rw [q3]; exact fun z => by cases z) hval rfl rfl hd fin9
  · exact va_Wgetf hx hb hown (va_Nw.use rfl (hE.2.1 _ hl)) hi hst q1 (by rw [q3]; exact fun z => by cases z) hval rfl rfl hd fin9
theorem e_P_put {a : Nat} {c0 c1 : AC} {H H1 : Heap} (hP : e_P X h H) (ha : h.2 a = some c0) (hc : e_at X a c1 H1) (hz : H1.size = H.size) (ho : ∀ q : Nat, q ≠ X.2.1 + a → H1[q]? = H[q]?) : e_P X (e_put h a c1) H1 := by
  refine ⟨hz.trans hP.1, fun k c hk => ?_⟩
  by_cases hka : k = a
  · subst hka
    have hk' : c1 = c := by simpa [e_put] using hk
    subst hk'
    exact ⟨(hP.2 k _ ha).1, hc⟩
  · have hk' : h.2 k = some c := by simpa [e_put, hka] using hk
    obtain ⟨g1, g2⟩ := hP.2 k c hk'
    refine ⟨g1, ?_⟩
    have hq := ho (X.2.1 + k) (by omega)
    match c, g2 with
    | .inl x, g2 => exact hq.trans g2
    | .inr (.inl x), g2 => exact hq.trans g2
    | .inr (.inr o), ⟨r, r1, r2⟩ => exact ⟨r, r1, r2.kept hq⟩
theorem e_S_put {a k : Nat} {H0 H H1 : Heap} {locs : List Loc} (hS : va_S (e_A X) H0 H locs) (hz : H1.size = H.size) (ho : ∀ q : Nat, q ≠ X.2.1 + a → H1[q]? = H[q]?) : va_S (e_A X) H0 H1 (locs ++ [⟨X.2.1 + a, k⟩]) :=
  hS.put hz ho (Nat.le_add_right _ _)
/-- one step that changes one cell -/
theorem T_set {a : Nat} {c0 c1 : AC} (ha : h.2 a = some c0)
    (hw : ∀ (p : Program) (e : Env) (R : Room) (s : State) (m : MethodId) (args : Array Value) (below : List Frame) (meth : Method) (c : Code) (H : Heap) (locs : List Loc) (cells slots : Nat) (Q : State → Prop) (l : Array Slot), e_C X M p s m args meth c → d ≤ R.frames → 60 * d ≤ R.locals → e_P X h H → va_S (e_A X) s.heap H locs → e_L X M.2.2.1 ls l → (∀ (H1 : Heap) (locs1 : List Loc), e_at X a c1 H1 → H1.size = H.size → (∀ q : Nat, q ≠ X.2.1 + a → H1[q]? = H[q]?) → va_S (e_A X) s.heap H1 locs1 → W p X.1.1 e R s m args below meth c H1 locs1 cells slots Q (F0 m pc' l (st'.map (e_tr X)))) → W p X.1.1 e R s m args below meth c H locs cells slots Q (F0 m pc l (st.map (e_tr X))))
    (k : T X d M pc' ls st' (e_put h a c1) Q) : T X d M pc ls st h Q := by
  obtain ⟨r, h', q, mono, w⟩ := k
  refine ⟨r, h', q, mono, fun p e R s m args below meth c H locs cells slots Q n0 s0 l hC h1 h2 h3 h4 hP hS hc hs hL hF => ?_⟩
  exact hw p e R s m args below meth c H locs cells slots Q l hC h1 h2 hP hS hL (fun H1 locs1 g1 g2 g3 g4 => w p e R s m args below meth c H1 locs1 cells slots Q n0 s0 l hC h1 h2 h3 h4 (e_P_put hP ha g1 g2 g3) g4 hc hs hL hF)
theorem e_upd (fs : List Value) {k : Nat} (hk : k < fs.length) (v : Value) (j : Nat) : updV (vp_V (fs.map (e_tr X))) k (e_tr X v) j = vp_V ((fs.set k v).map (e_tr X)) j := by
  rw [List.map_set]
  exact vp_updV_set (by simpa using hk) _ j
theorem T_put {idx ci k a : Nat} {ty : FieldType} {fin : Bool} {fs fs' : List Value} {v : Value} (hd : decode M.2.1 pc = .ok (.putfield idx, 3)) (hn : pc + 3 = pc') (hf : FL M.1.cls idx ci k ty fin) (hfi : fin = true → M.1.name = "<init>") (ha : h.2 a = some (.inr (.inr (ci, fs)))) (hl0 : k < fs.length) (hnv : narrow ty (e_tr X v) = e_tr X v) (hfv : fits ty (e_tr X v) = true) (hfs : fs.set k v = fs') (kk : T X d M pc' ls st (e_put h a (.inr (.inr (ci, fs')))) Q) : T X d M pc ls (v :: .ref a :: st) h Q := by
  subst hfs
  refine T_set ha (fun p e R s m args below meth c H locs cells slots Q l hC _ _ hP hS hL hq => ?_) kk
  obtain ⟨r, tys, ⟨k1, k2, k3, k4⟩, hk, hl, hty, hfin, hr, hofin⟩ := hf
  obtain ⟨hlt, r', k1', hob⟩ := hP.2 a _ ha
  cases k1.symm.trans k1'
  obtain ⟨hx, hb, hml, hown, hts, -, -, hin, hE⟩ := hC
  show W p X.1.1 e R s m args below meth c H locs cells slots Q (F0 m pc l (e_tr X v :: .ref (e_am X a) :: st.map (e_tr X)))
  rw [e_am_lt hlt]
  have hap := va_apart (own := M.1.cls) hts k2 tys k3 k4 hE.1 k1
  obtain ⟨cell, q1, q2, q3, q4⟩ := hob
  obtain ⟨hSl, hfc, kC, hkC, hkind⟩ := hE.1.1 ci _ k1
  obtain ⟨cf, kf, fi, f, hi, hsl⟩ := hSl k hk
  have hst := (u_facts hfc hkC (u_lays hts k2 hk) hi).1
  have hlay := hts _ (k2 _ (u_in_lay hk))
  have hdesc := k3 k hk
  rw [hty] at hdesc
  unfold u_lay at hlay
  have hout : ∀ H1 : Heap, H1[X.2.1 + a]? = some (cell.setSlot f.slot (e_tr X v)) → H1.size = H.size → (∀ q, q ≠ X.2.1 + a → H1[q]? = H[q]?) → W p X.1.1 e R s m args below meth c H1 (locs ++ [⟨X.2.1 + a, f.slot⟩]) cells slots Q (F0 m (pc + 3) l (st.map (e_tr X))) := by
    intro H1 e1 e2 e3
    rw [hn]
    rw [hsl] at e1
    refine hq H1 _ ⟨r, k1, t_OB.to (V := updV (vp_V (fs.map (e_tr X))) k (e_tr X v)) ⟨_, e1, q2, q3, t_set q4 hap hk (e_tr X v)⟩ (fun j _ => e_upd fs hl0 v j)⟩ e2 e3 (e_S_put hS e2 e3)
  have hslot : f.slot < cell.slots.size := by rw [hsl]; exact k2_hasslot (q4 k hk)
  cases fin with
  | false =>
    rw [if_neg (by rw [hfin]; decide)] at hlay
    have h6 := u_store hfc hkC hkind hlay hi hdesc hnv hfv
    rw [hr] at hi
    rcases hl with hl | ⟨host, hl, -⟩
    · exact W.putK hx hb (f := f) ⟨hown, hts _ hl, ⟨_, _, _, hi⟩, hst⟩ (by rw [q2]; exact h6) q1 q3 hslot rfl rfl hd hout
    · exact va_WputK hx hb (f := f) hown (va_Nw.use rfl (hE.2.1 _ hl)) hi hst (by rw [q2]; exact h6) q1 q3 hslot rfl rfl hd hout
  | true =>
    rw [if_pos hfin] at hlay
    have h6 := u_fits hfc hkC hkind (Or.inr hlay) hi hdesc hnv hfv
    have hcf : m.cls = cf := by
      obtain ⟨_, _, c', _, _, _, -, -, hf', -, -, -, hown2, -⟩ := Cond.laysFinal_spec hlay
      have e1 : c' = cf := by have := hi.symm.trans hf'; simp at this; exact this.1.symm
      rw [hr, ← hofin rfl] at hown2
      rw [← e1]; exact Option.some.inj (hown.symm.trans hown2)
    rw [hr] at hi
    rcases hl with hl | ⟨host, hl, hz⟩
    · exact W.putFinK hx hb hown (hts _ hl) hi hst hcf (hin (hfi rfl)) (by rw [q2]; exact h6) q1 q3 hslot rfl rfl hd hout
    · exact absurd hz (by decide)
end ENG3
