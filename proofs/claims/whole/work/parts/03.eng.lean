/-! THE ENGINE. A heap is a function from numbers to cells; a method's run is said over it, and carried to the machine once and for all. -/
/-- a cell: ints (type, length, contents), references (type, length, contents), an object (class, fields) -/
abbrev AC : Type := (Nat × Nat × (Nat → Int32)) ⊕ (Nat × Nat × (Nat → Option Nat)) ⊕ (Nat × List Value)
/-- a heap: how many cells and slots have been made; the cells -/
abbrev AH : Type := (Nat × Nat) × (Nat → Option AC)
/-- what a run is over: the launch, the classes' numbers and slots, the array classes; where new cells begin, where the read-only rows lie, what they hold -/
abbrev EX : Type := (Launch × va_G × (Nat → ClassId)) × (Nat × (Nat → Nat) × (Nat → Nat × (Nat → Int32)))
def e_am (X : EX) (k : Nat) : Nat := if k < 1000000 then X.2.1 + k else X.2.2.1 (k - 1000000)
def e_tr (X : EX) : Value → Value
  | .ref k => .ref (e_am X k)
  | v => v
def e_rf (X : EX) : Option Nat → Value
  | none => .null
  | some k => .ref (e_am X k)
def e_A (X : EX) : Nat → Prop := fun q => X.2.1 ≤ q
def e_tys : List FieldType := [.int, .byte, .boolean, .object R_Fl, .object R_Im, .array .int]
def e_at (X : EX) (k : Nat) (c : AC) (H : Heap) : Prop := match c with
  | .inl a => H[X.2.1 + k]? = some (arrV (X.1.2.2 a.1) a.2.1 (fun j => .int (a.2.2 j)))
  | .inr (.inl a) => H[X.2.1 + k]? = some (arrV (X.1.2.2 a.1) a.2.1 (fun j => e_rf X (a.2.2 j)))
  | .inr (.inr o) => ∃ r : vw_C, e_cl[o.1]? = some r ∧ t_OB (X.2.1 + k) (X.1.2.1.1 o.1) r.2.2 (X.1.2.1.2 o.1) H (vp_V (o.2.map (e_tr X)))
def e_P (X : EX) (h : AH) (H : Heap) : Prop := H.size = X.2.1 + h.1.1 ∧ ∀ (k : Nat) (c : AC), h.2 k = some c → k < 1000000 ∧ e_at X k c H
def e_put (h : AH) (a : Nat) (c : AC) : AH := (h.1, fun k => if k = a then some c else h.2 k)
def e_new (h : AH) (c : AC) (n : Nat) : AH := ((h.1.1 + 1, h.1.2 + n), fun k => if k = h.1.1 then some c else h.2 k)
def e_K (X : EX) (U : State) : Prop := va_K X.1.2.1 e_cl ((List.range 6).map (fun t => (X.1.2.2 t, e_tys.getD t .int))) U
def e_N (U : State) : Prop := ∀ w ∈ e_nw, va_Nw w U
def e_AOA (U : State) : Prop := (Cond.arrayOver (.array .int)).before #[] U = true
theorem e_AOA_moved {u U : State} (hvm : u.vm.Alike U.vm) (h : e_AOA u) : e_AOA U := by
  obtain ⟨comp, c, k, h1, h2, h3, h4, h5⟩ := arrayOverA_spec h
  obtain ⟨k', hk', he⟩ := hvm.2.2 _ _ h3
  have hi : (U.vm.classes.findIdx? fun (x : Class) => match x.kind with | .array component _ => component == comp | _ => false) = some c := by
    rw [hvm.findIdx?_eq _ (fun _ => rfl)]; exact h2
  have hkind : k'.kind = .array comp (.array .int) := by rw [he]; exact h4
  have f1 : U.vm.findClass (FieldType.array .int).toString = some comp := by rw [hvm.findClass]; exact h1
  have f2 : U.vm.findClass ("[" ++ (FieldType.array .int).toString) = some c := by rw [hvm.findClass]; exact h5
  unfold e_AOA Cond.before Cond.holds
  simp only [Cond.value]
  rw [f1, Option.bind_some]
  refine (congrArg (fun o : Option Nat => (o.bind (fun c => (U.vm.classes[c]?).map fun (k : Class) => match k.kind with | .array _ ty => decide (ty = FieldType.array .int) && decide (U.vm.findClass ("[" ++ (FieldType.array .int).toString) = some c) | _ => false) == some true)) hi).trans ?_
  simp [hk', hkind, f2]
def e_O (U : State) : Prop := va_AO R_Fl U ∧ va_AO R_Im U ∧ e_AOA U
def e_RO (X : EX) (U : State) (H : Heap) : Prop := ∀ j : Nat, j < 4 → ∃ cell : Cell, H[X.2.2.1 j]? = some cell ∧ U.isArrayOf cell .int ∧ cell.vm ≠ .unknown ∧ cell.slots.size = (X.2.2.2 j).1 ∧ (∀ i : Nat, i < (X.2.2.2 j).1 → cell.slots[i]? = some (.int ((X.2.2.2 j).2 i))) ∧ X.2.2.1 j < X.2.1
def e_Z (X : EX) (U : State) (H : Heap) : Prop := va_Z R_Tx "NUMBERS" "[I" (.ref (X.2.2.1 0)) (e_A X) U H ∧ va_Z R_Tx "LEAST" "[I" (.ref (X.2.2.1 1)) (e_A X) U H ∧ va_Z R_Tx "MOST" "[I" (.ref (X.2.2.1 2)) (e_A X) U H
def e_E (X : EX) (U : State) (H : Heap) : Prop := e_K X U ∧ e_N U ∧ e_O U ∧ e_RO X U H ∧ e_Z X U H ∧ X.2.1 ≤ H.size
def e_C (X : EX) (M : Mt) (p : Program) (s : State) (m : MethodId) (args : Array Value) (meth : Method) (c : Code) : Prop :=
  p.tables.exec = Jvm.exec ∧ c.code = M.2.1 ∧ c.maxLocals = M.2.2.1 ∧ s.vm.findClass M.1.cls = some m.cls ∧ (∀ w ∈ e_gw, w.before args s = true) ∧ meth.sig.returnType = M.2.2.2 ∧ meth.locks = false ∧ (M.1.name = "<init>" → meth.name = "<init>") ∧ e_E X s s.heap
def e_L (X : EX) (n : Nat) (ls : List Value) (l : Array Slot) : Prop := ls.length = n ∧ l.size = n ∧ lv_wf l ∧ ∀ (i : Nat) (v : Value), ls[i]? = some v → v ≠ .null → l[i]? = some (.val (e_tr X v))
def e_F (X : EX) (M : Mt) (p : Program) (e : Env) (R : Room) (s : State) (m : MethodId) (args : Array Value) (below : List Frame) (meth : Method) (c : Code) (n0 s0 : Nat) (Q : State → Prop) (r : Option Value) (h' : AH) : Prop :=
  ∀ (H : Heap) (locs : List Loc) (l : Array Slot) (pc cells slots : Nat), e_P X h' H → va_S (e_A X) s.heap H locs → cells + n0 = h'.1.1 → slots + s0 = h'.1.2 →
    (r = none → M.2.2.2 = none → decode M.2.1 pc = .ok (.return_, 1) → W p X.1.1 e R s m args below meth c H locs cells slots Q (F0 m pc l [])) ∧
    (∀ (v : Int32) (ty : FieldType), r = some (.int v) → M.2.2.2 = some ty → narrow ty (.int v) = .int v → decode M.2.1 pc = .ok (.ireturn, 1) → W p X.1.1 e R s m args below meth c H locs cells slots Q (F0 m pc l [.int v])) ∧
    (∀ v : Int64, r = some (.long v) → M.2.2.2 = some .long → decode M.2.1 pc = .ok (.lreturn, 1) → W p X.1.1 e R s m args below meth c H locs cells slots Q (F0 m pc l [.long v]))
def e_W (X : EX) (d : Nat) (M : Mt) (pc : Nat) (ls st : List Value) (h : AH) (r : Option Value) (h' : AH) : Prop :=
  (h.1.1 ≤ h'.1.1 ∧ h.1.2 ≤ h'.1.2) ∧ ∀ (p : Program) (e : Env) (R : Room) (s : State) (m : MethodId) (args : Array Value) (below : List Frame) (meth : Method) (c : Code) (H : Heap) (locs : List Loc) (cells slots : Nat) (Q : State → Prop) (n0 s0 : Nat) (l : Array Slot),
    e_C X M p s m args meth c → d ≤ R.frames → 60 * d ≤ R.locals → h'.1.1 ≤ R.cells + n0 → h'.1.2 ≤ R.slots + s0 → e_P X h H → va_S (e_A X) s.heap H locs → cells + n0 = h.1.1 → slots + s0 = h.1.2 → e_L X M.2.2.1 ls l → e_F X M p e R s m args below meth c n0 s0 Q r h' →
    W p X.1.1 e R s m args below meth c H locs cells slots Q (F0 m pc l (st.map (e_tr X)))
/-- from this point of the method it comes to its end, and Q of its answer and the heap -/
def T (X : EX) (d : Nat) (M : Mt) (pc : Nat) (ls st : List Value) (h : AH) (Q : Option Value → AH → Prop) : Prop := ∃ (r : Option Value) (h' : AH), Q r h' ∧ e_W X d M pc ls st h r h'
def e_Pc (X : EX) (av : List Value) (h : AH) : Array Value → State → Prop := fun v U => v = (av.map (e_tr X)).toArray ∧ e_P X h U.heap ∧ e_E X U U.heap
def e_Qc (X : EX) (r : Option Value) (h' : AH) : Array Value → State → Outcome → State → Prop := fun _ st oc t => oc = .returned (r.map (e_tr X)) ∧ e_P X h' t.heap ∧ va_F (e_A X) st t
def e_ws (M : Mt) : List Cond := .code M.1 M.2.1 M.2.2.1 M.2.2.2 :: e_gw
def e_M (X : EX) (d : Nat) (M : Mt) (av : List Value) (h : AH) (r : Option Value) (h' : AH) : Prop :=
  (h.1.1 ≤ h'.1.1 ∧ h.1.2 ≤ h'.1.2) ∧ Met X.1.1 M.1 (e_ws M) ({ frames := d, cells := h'.1.1 - h.1.1, slots := h'.1.2 - h.1.2, locals := 60 * d }) (e_Pc X av h) (e_Qc X r h') (h'.1.1 - h.1.1) (h'.1.2 - h.1.2) (e_A X)
/-- a method's contract: called so, it ends, and Q of its answer and the heap -/
def C (X : EX) (d : Nat) (M : Mt) (av : List Value) (h : AH) (Q : Option Value → AH → Prop) : Prop := ∃ (r : Option Value) (h' : AH), Q r h' ∧ e_M X d M av h r h'
section ENG
variable {X : EX} {d : Nat} {M : Mt} {pc pc' : Nat} {ls ls' st st' : List Value} {h : AH} {Q : Option Value → AH → Prop}
/-- one step that leaves the heap as it is -/
theorem T_pure (hw : ∀ (p : Program) (e : Env) (R : Room) (s : State) (m : MethodId) (args : Array Value) (below : List Frame) (meth : Method) (c : Code) (H : Heap) (locs : List Loc) (cells slots : Nat) (Q : State → Prop) (l : Array Slot), e_C X M p s m args meth c → d ≤ R.frames → 60 * d ≤ R.locals → cells ≤ R.cells → slots ≤ R.slots → e_P X h H → va_S (e_A X) s.heap H locs → e_L X M.2.2.1 ls l → (∀ l' : Array Slot, e_L X M.2.2.1 ls' l' → W p X.1.1 e R s m args below meth c H locs cells slots Q (F0 m pc' l' (st'.map (e_tr X)))) → W p X.1.1 e R s m args below meth c H locs cells slots Q (F0 m pc l (st.map (e_tr X))))
    (k : T X d M pc' ls' st' h Q) : T X d M pc ls st h Q := by
  obtain ⟨r, h', q, mono, w⟩ := k
  refine ⟨r, h', q, mono, fun p e R s m args below meth c H locs cells slots Q n0 s0 l hC h1 h2 h3 h4 hP hS hc hs hL hF => ?_⟩
  exact hw p e R s m args below meth c H locs cells slots Q l hC h1 h2 (by omega) (by omega) hP hS hL (fun l' hL' => w p e R s m args below meth c H locs cells slots Q n0 s0 l' hC h1 h2 h3 h4 hP hS hc hs hL' hF)
theorem T_iconst {n : Int} {v : Int32} (hd : decode M.2.1 pc = .ok (.iconst n, 1)) (hn : pc + 1 = pc') (hv : Int32.ofInt n = v) (k : T X d M pc' ls (.int v :: st) h Q) : T X d M pc ls st h Q :=
  T_pure (fun p e R s m args below meth c H locs cells slots Q l hC _ _ _ _ _ _ hL hk => lv_iconst hC.1 hC.2.1 hd hv (by rw [hn]; exact hk l hL)) k
theorem T_bipush {n : Int} {v : Int32} (hd : decode M.2.1 pc = .ok (.bipush n, 2)) (hn : pc + 2 = pc') (hv : (Int8.ofInt n).toInt32 = v) (k : T X d M pc' ls (.int v :: st) h Q) : T X d M pc ls st h Q :=
  T_pure (fun p e R s m args below meth c H locs cells slots Q l hC _ _ _ _ _ _ hL hk => lv_bipush hC.1 hC.2.1 hd hv (by rw [hn]; exact hk l hL)) k
theorem T_sipush {n : Int} {v : Int32} (hd : decode M.2.1 pc = .ok (.sipush n, 3)) (hn : pc + 3 = pc') (hv : (Int16.ofInt n).toInt32 = v) (k : T X d M pc' ls (.int v :: st) h Q) : T X d M pc ls st h Q :=
  T_pure (fun p e R s m args below meth c H locs cells slots Q l hC _ _ _ _ _ _ hL hk => lv_sipush hC.1 hC.2.1 hd hv (by rw [hn]; exact hk l hL)) k
theorem T_lconst {n : Fin 2} {v : Int64} (hd : decode M.2.1 pc = .ok (.lconst n, 1)) (hn : pc + 1 = pc') (hv : Int64.ofNat (n : Nat) = v) (k : T X d M pc' ls (.long v :: st) h Q) : T X d M pc ls st h Q :=
  T_pure (fun p e R s m args below meth c H locs cells slots Q l hC _ _ _ _ _ _ hL hk => lv_lconst hC.1 hC.2.1 hd hv (by rw [hn]; exact hk l hL)) k
theorem T_ldc {index : Nat} {v : Int32} (hd : decode M.2.1 pc = .ok (.ldc index, 2)) (hn : pc + 2 = pc') (hv : Cond.constant M.1.cls index v ∈ e_gw) (k : T X d M pc' ls (.int v :: st) h Q) : T X d M pc ls st h Q :=
  T_pure (fun p e R s m args below meth c H locs cells slots Q l hC _ _ _ _ _ _ hL hk => lv_ldc hC.1 hC.2.1 hC.2.2.2.1 (hC.2.2.2.2.1 _ hv) hd (by rw [hn]; exact hk l hL)) k
theorem T_ldcw {index : Nat} {v : Int32} (hd : decode M.2.1 pc = .ok (.ldc_w index, 3)) (hn : pc + 3 = pc') (hv : Cond.constant M.1.cls index v ∈ e_gw) (k : T X d M pc' ls (.int v :: st) h Q) : T X d M pc ls st h Q :=
  T_pure (fun p e R s m args below meth c H locs cells slots Q l hC _ _ _ _ _ _ hL hk => lv_ldcw hC.1 hC.2.1 hC.2.2.2.1 (hC.2.2.2.2.1 _ hv) hd (by rw [hn]; exact hk l hL)) k
theorem T_ldc2 {index : Nat} {v : Int64} (hd : decode M.2.1 pc = .ok (.ldc2_w index, 3)) (hn : pc + 3 = pc') (hv : Cond.constantLong M.1.cls index v ∈ e_gw) (k : T X d M pc' ls (.long v :: st) h Q) : T X d M pc ls st h Q :=
  T_pure (fun p e R s m args below meth c H locs cells slots Q l hC _ _ _ _ _ _ hL hk => lv_ldc2 hC.1 hC.2.1 hC.2.2.2.1 (hC.2.2.2.2.1 _ hv) hd (by rw [hn]; exact hk l hL)) k
theorem e_Lat {n i : Nat} {l : Array Slot} {v : Value} (hL : e_L X n ls l) (hi : ls[i]? = some v) (hv : v ≠ .null) : l[i]? = some (.val (e_tr X v)) := hL.2.2.2 i v hi hv
theorem T_iload_n {k : Fin 4} {i : Nat} {x : Int32} (hd : decode M.2.1 pc = .ok (.iload_n k, 1)) (hn : pc + 1 = pc') (hk : (k : Nat) = i) (hl : ls[i]? = some (.int x)) (kk : T X d M pc' ls (.int x :: st) h Q) : T X d M pc ls st h Q :=
  T_pure (fun p e R s m args below meth c H locs cells slots Q l hC _ _ _ _ _ _ hL hq => lv_iload_n hC.1 hC.2.1 hd hk (e_Lat hL hl (fun z => by cases z)) (by rw [hn]; exact hq l hL)) kk
theorem T_iload {i : Nat} {x : Int32} (hd : decode M.2.1 pc = .ok (.iload i, 2)) (hn : pc + 2 = pc') (hl : ls[i]? = some (.int x)) (kk : T X d M pc' ls (.int x :: st) h Q) : T X d M pc ls st h Q :=
  T_pure (fun p e R s m args below meth c H locs cells slots Q l hC _ _ _ _ _ _ hL hq => lv_iload hC.1 hC.2.1 hd (e_Lat hL hl (fun z => by cases z)) (by rw [hn]; exact hq l hL)) kk
theorem T_lload {i : Nat} {x : Int64} (hd : decode M.2.1 pc = .ok (.lload i, 2)) (hn : pc + 2 = pc') (hl : ls[i]? = some (.long x)) (kk : T X d M pc' ls (.long x :: st) h Q) : T X d M pc ls st h Q :=
  T_pure (fun p e R s m args below meth c H locs cells slots Q l hC _ _ _ _ _ _ hL hq => lv_lload hC.1 hC.2.1 hd (e_Lat hL hl (fun z => by cases z)) (by rw [hn]; exact hq l hL)) kk
theorem T_aload_n {k : Fin 4} {i : Nat} {x : Nat} (hd : decode M.2.1 pc = .ok (.aload_n k, 1)) (hn : pc + 1 = pc') (hk : (k : Nat) = i) (hl : ls[i]? = some (.ref x)) (kk : T X d M pc' ls (.ref x :: st) h Q) : T X d M pc ls st h Q :=
  T_pure (fun p e R s m args below meth c H locs cells slots Q l hC _ _ _ _ _ _ hL hq => lv_aload_n hC.1 hC.2.1 hd hk (e_Lat hL hl (fun z => by cases z)) (by rw [hn]; exact hq l hL)) kk
theorem T_aload {i : Nat} {x : Nat} (hd : decode M.2.1 pc = .ok (.aload i, 2)) (hn : pc + 2 = pc') (hl : ls[i]? = some (.ref x)) (kk : T X d M pc' ls (.ref x :: st) h Q) : T X d M pc ls st h Q :=
  T_pure (fun p e R s m args below meth c H locs cells slots Q l hC _ _ _ _ _ _ hL hq => lv_aload hC.1 hC.2.1 hd (e_Lat hL hl (fun z => by cases z)) (by rw [hn]; exact hq l hL)) kk
theorem T_iadd {x y : Int32} (hd : decode M.2.1 pc = .ok (.iadd, 1)) (hn : pc + 1 = pc') (k : T X d M pc' ls (.int (x + y) :: st) h Q) : T X d M pc ls (.int y :: .int x :: st) h Q :=
  T_pure (fun p e R s m args below meth c H locs cells slots Q l hC _ _ _ _ _ _ hL hk => lv_iadd hC.1 hC.2.1 hd (by rw [hn]; exact hk l hL)) k
theorem T_isub {x y : Int32} (hd : decode M.2.1 pc = .ok (.isub, 1)) (hn : pc + 1 = pc') (k : T X d M pc' ls (.int (x - y) :: st) h Q) : T X d M pc ls (.int y :: .int x :: st) h Q :=
  T_pure (fun p e R s m args below meth c H locs cells slots Q l hC _ _ _ _ _ _ hL hk => lv_isub hC.1 hC.2.1 hd (by rw [hn]; exact hk l hL)) k
theorem T_imul {x y : Int32} (hd : decode M.2.1 pc = .ok (.imul, 1)) (hn : pc + 1 = pc') (k : T X d M pc' ls (.int (x * y) :: st) h Q) : T X d M pc ls (.int y :: .int x :: st) h Q :=
  T_pure (fun p e R s m args below meth c H locs cells slots Q l hC _ _ _ _ _ _ hL hk => lv_imul hC.1 hC.2.1 hd (by rw [hn]; exact hk l hL)) k
theorem T_idiv {x y : Int32} (hd : decode M.2.1 pc = .ok (.idiv, 1)) (hn : pc + 1 = pc') (hy : ¬ y = 0) (k : T X d M pc' ls (.int (x / y) :: st) h Q) : T X d M pc ls (.int y :: .int x :: st) h Q :=
  T_pure (fun p e R s m args below meth c H locs cells slots Q l hC _ _ _ _ _ _ hL hk => lv_idiv hC.1 hC.2.1 hd hy (by rw [hn]; exact hk l hL)) k
theorem T_irem {x y : Int32} (hd : decode M.2.1 pc = .ok (.irem, 1)) (hn : pc + 1 = pc') (hy : ¬ y = 0) (k : T X d M pc' ls (.int (x - x / y * y) :: st) h Q) : T X d M pc ls (.int y :: .int x :: st) h Q :=
  T_pure (fun p e R s m args below meth c H locs cells slots Q l hC _ _ _ _ _ _ hL hk => lv_irem hC.1 hC.2.1 hd hy (by rw [hn]; exact hk l hL)) k
theorem T_ineg {x : Int32} (hd : decode M.2.1 pc = .ok (.ineg, 1)) (hn : pc + 1 = pc') (k : T X d M pc' ls (.int (-x) :: st) h Q) : T X d M pc ls (.int x :: st) h Q :=
  T_pure (fun p e R s m args below meth c H locs cells slots Q l hC _ _ _ _ _ _ hL hk => lv_ineg hC.1 hC.2.1 hd (by rw [hn]; exact hk l hL)) k
theorem T_iand {x y : Int32} (hd : decode M.2.1 pc = .ok (.iand, 1)) (hn : pc + 1 = pc') (k : T X d M pc' ls (.int (x &&& y) :: st) h Q) : T X d M pc ls (.int y :: .int x :: st) h Q :=
  T_pure (fun p e R s m args below meth c H locs cells slots Q l hC _ _ _ _ _ _ hL hk => lv_iand hC.1 hC.2.1 hd (by rw [hn]; exact hk l hL)) k
theorem T_ior {x y : Int32} (hd : decode M.2.1 pc = .ok (.ior, 1)) (hn : pc + 1 = pc') (k : T X d M pc' ls (.int (x ||| y) :: st) h Q) : T X d M pc ls (.int y :: .int x :: st) h Q :=
  T_pure (fun p e R s m args below meth c H locs cells slots Q l hC _ _ _ _ _ _ hL hk => lv_ior hC.1 hC.2.1 hd (by rw [hn]; exact hk l hL)) k
theorem T_ixor {x y : Int32} (hd : decode M.2.1 pc = .ok (.ixor, 1)) (hn : pc + 1 = pc') (k : T X d M pc' ls (.int (x ^^^ y) :: st) h Q) : T X d M pc ls (.int y :: .int x :: st) h Q :=
  T_pure (fun p e R s m args below meth c H locs cells slots Q l hC _ _ _ _ _ _ hL hk => lv_ixor hC.1 hC.2.1 hd (by rw [hn]; exact hk l hL)) k
theorem T_ishl {x y : Int32} (hd : decode M.2.1 pc = .ok (.ishl, 1)) (hn : pc + 1 = pc') (k : T X d M pc' ls (.int (x <<< (y &&& 31)) :: st) h Q) : T X d M pc ls (.int y :: .int x :: st) h Q :=
  T_pure (fun p e R s m args below meth c H locs cells slots Q l hC _ _ _ _ _ _ hL hk => lv_ishl hC.1 hC.2.1 hd (by rw [hn]; exact hk l hL)) k
theorem T_ishr {x y : Int32} (hd : decode M.2.1 pc = .ok (.ishr, 1)) (hn : pc + 1 = pc') (k : T X d M pc' ls (.int (x >>> (y &&& 31)) :: st) h Q) : T X d M pc ls (.int y :: .int x :: st) h Q :=
  T_pure (fun p e R s m args below meth c H locs cells slots Q l hC _ _ _ _ _ _ hL hk => lv_ishr hC.1 hC.2.1 hd (by rw [hn]; exact hk l hL)) k
theorem T_iushr {x y : Int32} (hd : decode M.2.1 pc = .ok (.iushr, 1)) (hn : pc + 1 = pc') (k : T X d M pc' ls (.int ((x.toUInt32 >>> (y.toUInt32 &&& Int32.toUInt32 31)).toInt32) :: st) h Q) : T X d M pc ls (.int y :: .int x :: st) h Q :=
  T_pure (fun p e R s m args below meth c H locs cells slots Q l hC _ _ _ _ _ _ hL hk => lv_iushr hC.1 hC.2.1 hd rfl (by rw [hn]; exact hk l hL)) k
theorem T_i2b {x : Int32} (hd : decode M.2.1 pc = .ok (.i2b, 1)) (hn : pc + 1 = pc') (k : T X d M pc' ls (.int x.toInt8.toInt32 :: st) h Q) : T X d M pc ls (.int x :: st) h Q :=
  T_pure (fun p e R s m args below meth c H locs cells slots Q l hC _ _ _ _ _ _ hL hk => lv_i2b hC.1 hC.2.1 hd rfl (by rw [hn]; exact hk l hL)) k
theorem T_ladd {x y : Int64} (hd : decode M.2.1 pc = .ok (.ladd, 1)) (hn : pc + 1 = pc') (k : T X d M pc' ls (.long (x + y) :: st) h Q) : T X d M pc ls (.long y :: .long x :: st) h Q :=
  T_pure (fun p e R s m args below meth c H locs cells slots Q l hC _ _ _ _ _ _ hL hk => lv_ladd hC.1 hC.2.1 hd (by rw [hn]; exact hk l hL)) k
theorem T_lmul {x y : Int64} (hd : decode M.2.1 pc = .ok (.lmul, 1)) (hn : pc + 1 = pc') (k : T X d M pc' ls (.long (x * y) :: st) h Q) : T X d M pc ls (.long y :: .long x :: st) h Q :=
  T_pure (fun p e R s m args below meth c H locs cells slots Q l hC _ _ _ _ _ _ hL hk => lv_lmul hC.1 hC.2.1 hd (by rw [hn]; exact hk l hL)) k
theorem T_lcmp {x y : Int64} (hd : decode M.2.1 pc = .ok (.lcmp, 1)) (hn : pc + 1 = pc') (k : T X d M pc' ls (.int (lg_cmp x y) :: st) h Q) : T X d M pc ls (.long y :: .long x :: st) h Q :=
  T_pure (fun p e R s m args below meth c H locs cells slots Q l hC _ _ _ _ _ _ hL hk => W.lcmp hC.1 hC.2.1 hd (by rw [hn]; exact hk l hL)) k
theorem e_cat (v : Value) : (e_tr X v).category = v.category := by cases v <;> rfl
theorem T_dup {v : Value} (hd : decode M.2.1 pc = .ok (.dup, 1)) (hn : pc + 1 = pc') (hv : v.category = 1) (k : T X d M pc' ls (v :: v :: st) h Q) : T X d M pc ls (v :: st) h Q :=
  T_pure (fun p e R s m args below meth c H locs cells slots Q l hC _ _ _ _ _ _ hL hk => lv_dup hC.1 hC.2.1 hd ((e_cat v).trans hv) (by rw [hn]; exact hk l hL)) k
theorem T_pop {v : Value} (hd : decode M.2.1 pc = .ok (.pop, 1)) (hn : pc + 1 = pc') (hv : v.category = 1) (k : T X d M pc' ls st h Q) : T X d M pc ls (v :: st) h Q :=
  T_pure (fun p e R s m args below meth c H locs cells slots Q l hC _ _ _ _ _ _ hL hk => lv_pop hC.1 hC.2.1 hd ((e_cat v).trans hv) (by rw [hn]; exact hk l hL)) k
theorem T_dup2 {v w : Value} (hd : decode M.2.1 pc = .ok (.dup2, 1)) (hn : pc + 1 = pc') (hv : v.category = 1) (hw : w.category = 1) (k : T X d M pc' ls (v :: w :: v :: w :: st) h Q) : T X d M pc ls (v :: w :: st) h Q :=
  T_pure (fun p e R s m args below meth c H locs cells slots Q l hC _ _ _ _ _ _ hL hk => lv_dup2_11 hC.1 hC.2.1 hd ((e_cat v).trans hv) ((e_cat w).trans hw) (by rw [hn]; exact hk l hL)) k
theorem T_goto {off : Int} (hd : decode M.2.1 pc = .ok (.goto off, 3)) (hn : (pc : Int) + off = (pc' : Int)) (k : T X d M pc' ls st h Q) : T X d M pc ls st h Q :=
  T_pure (fun p e R s m args below meth c H locs cells slots Q l hC _ _ _ _ _ _ hL hk => lv_goto hC.1 hC.2.1 hd hn (hk l hL)) k
end ENG
