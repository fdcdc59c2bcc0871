/-! calls by the number of arguments; small rules -/
def Ci (X : EX) (d : Nat) (M : Mt) (av : List Value) (h : AH) (Q : Int32 → AH → Prop) : Prop := C X d M av h (fun r h1 => ∃ v : Int32, r = some (.int v) ∧ Q v h1)
def Cl (X : EX) (d : Nat) (M : Mt) (av : List Value) (h : AH) (Q : Int64 → AH → Prop) : Prop := C X d M av h (fun r h1 => ∃ v : Int64, r = some (.long v) ∧ Q v h1)
def Cv (X : EX) (d : Nat) (M : Mt) (av : List Value) (h : AH) (Q : AH → Prop) : Prop := C X d M av h (fun r h1 => r = none ∧ Q h1)
def VK (M' : Mt) (n ci : Nat) : Prop := MK M' n ∧ Cond.instanceMethod M'.1 ∈ e_gw ∧ Cond.selects M'.1.cls M'.1 M'.1 ∈ e_gw ∧ (e_cl[ci]?).map (fun r => r.1) = some M'.1.cls
def SK (M' : Mt) (n : Nat) : Prop := MK M' n ∧ Cond.static M'.1 ∈ e_gw
def IK (M' : Mt) (n : Nat) : Prop := MK M' n ∧ Cond.instanceMethod M'.1 ∈ e_gw ∧ M'.1.name = "<init>" ∧ M'.2.2.2 = none
section ENG8
variable {X : EX} {d : Nat} {M M' : Mt} {pc pc' idx b ci : Nat} {ls st fs rest : List Value} {a1 a2 a3 a4 a5 : Value} {h : AH} {Q : Option Value → AH → Prop} {Q1 : Int32 → AH → Prop} {Q2 : AH → Prop} {Q3 : Int64 → AH → Prop}
theorem T_V0i (hd : decode M.2.1 pc = .ok (.invokevirtual idx, 3)) (hn : pc + 3 = pc') (hl : CL M.1.cls idx M') (hv : VK M' 0 ci) (hb : h.2 b = some (.inr (.inr (ci, fs)))) (hW : (rest.map fun v => v.category).sum ≤ 8) (hc : Ci X d M' (.ref b :: []) h Q1) (kk : ∀ (v : Int32) (h1 : AH), Q1 v h1 → T X (d + 1) M pc' ls (.int v :: rest) h1 Q) : T X (d + 1) M pc ls (.ref b :: rest) h Q :=
  T_callV (As := []) hd hn hl hv.1 hv.2.1 hv.2.2.1 hv.2.2.2 hb rfl hW rfl hc (fun r h1 q => by obtain ⟨v, rfl, q⟩ := q; exact kk v h1 q)
theorem T_V0v (hd : decode M.2.1 pc = .ok (.invokevirtual idx, 3)) (hn : pc + 3 = pc') (hl : CL M.1.cls idx M') (hv : VK M' 0 ci) (hb : h.2 b = some (.inr (.inr (ci, fs)))) (hW : (rest.map fun v => v.category).sum ≤ 8) (hc : Cv X d M' (.ref b :: []) h Q2) (kk : ∀ (h1 : AH), Q2 h1 → T X (d + 1) M pc' ls (rest) h1 Q) : T X (d + 1) M pc ls (.ref b :: rest) h Q :=
  T_callV (As := []) hd hn hl hv.1 hv.2.1 hv.2.2.1 hv.2.2.2 hb rfl hW rfl hc (fun r h1 q => by obtain ⟨rfl, q⟩ := q; exact kk h1 q)
theorem T_V0l (hd : decode M.2.1 pc = .ok (.invokevirtual idx, 3)) (hn : pc + 3 = pc') (hl : CL M.1.cls idx M') (hv : VK M' 0 ci) (hb : h.2 b = some (.inr (.inr (ci, fs)))) (hW : (rest.map fun v => v.category).sum ≤ 8) (hc : Cl X d M' (.ref b :: []) h Q3) (kk : ∀ (v : Int64) (h1 : AH), Q3 v h1 → T X (d + 1) M pc' ls (.long v :: rest) h1 Q) : T X (d + 1) M pc ls (.ref b :: rest) h Q :=
  T_callV (As := []) hd hn hl hv.1 hv.2.1 hv.2.2.1 hv.2.2.2 hb rfl hW rfl hc (fun r h1 q => by obtain ⟨v, rfl, q⟩ := q; exact kk v h1 q)
theorem T_I0v (hd : decode M.2.1 pc = .ok (.invokespecial idx, 3)) (hn : pc + 3 = pc') (hl : CL M.1.cls idx M') (hv : IK M' 0) (hW : (rest.map fun v => v.category).sum ≤ 8) (hc : Cv X d M' (.ref b :: []) h Q2) (kk : ∀ (h1 : AH), Q2 h1 → T X (d + 1) M pc' ls rest h1 Q) : T X (d + 1) M pc ls (.ref b :: rest) h Q :=
  T_callI (As := []) hd hn hl hv.1 hv.2.1 hv.2.2 rfl hW rfl hc (fun r h1 q => by obtain ⟨rfl, q⟩ := q; exact kk h1 q)
theorem T_V1i (hd : decode M.2.1 pc = .ok (.invokevirtual idx, 3)) (hn : pc + 3 = pc') (hl : CL M.1.cls idx M') (hv : VK M' 1 ci) (hb : h.2 b = some (.inr (.inr (ci, fs)))) (hW : (rest.map fun v => v.category).sum ≤ 8) (hc : Ci X d M' (.ref b :: [a1]) h Q1) (kk : ∀ (v : Int32) (h1 : AH), Q1 v h1 → T X (d + 1) M pc' ls (.int v :: rest) h1 Q) : T X (d + 1) M pc ls (a1 :: .ref b :: rest) h Q :=
  T_callV (As := [a1]) hd hn hl hv.1 hv.2.1 hv.2.2.1 hv.2.2.2 hb rfl hW rfl hc (fun r h1 q => by obtain ⟨v, rfl, q⟩ := q; exact kk v h1 q)
theorem T_V1v (hd : decode M.2.1 pc = .ok (.invokevirtual idx, 3)) (hn : pc + 3 = pc') (hl : CL M.1.cls idx M') (hv : VK M' 1 ci) (hb : h.2 b = some (.inr (.inr (ci, fs)))) (hW : (rest.map fun v => v.category).sum ≤ 8) (hc : Cv X d M' (.ref b :: [a1]) h Q2) (kk : ∀ (h1 : AH), Q2 h1 → T X (d + 1) M pc' ls (rest) h1 Q) : T X (d + 1) M pc ls (a1 :: .ref b :: rest) h Q :=
  T_callV (As := [a1]) hd hn hl hv.1 hv.2.1 hv.2.2.1 hv.2.2.2 hb rfl hW rfl hc (fun r h1 q => by obtain ⟨rfl, q⟩ := q; exact kk h1 q)
theorem T_S1i (hd : decode M.2.1 pc = .ok (.invokestatic idx, 3)) (hn : pc + 3 = pc') (hl : CL M.1.cls idx M') (hv : SK M' 1) (hW : (rest.map fun v => v.category).sum ≤ 8) (hc : Ci X d M' [a1] h Q1) (kk : ∀ (v : Int32) (h1 : AH), Q1 v h1 → T X (d + 1) M pc' ls (.int v :: rest) h1 Q) : T X (d + 1) M pc ls (a1 :: rest) h Q :=
  T_callS (As := [a1]) hd hn hl hv.1 hv.2 rfl hW rfl hc (fun r h1 q => by obtain ⟨v, rfl, q⟩ := q; exact kk v h1 q)
theorem T_S1v (hd : decode M.2.1 pc = .ok (.invokestatic idx, 3)) (hn : pc + 3 = pc') (hl : CL M.1.cls idx M') (hv : SK M' 1) (hW : (rest.map fun v => v.category).sum ≤ 8) (hc : Cv X d M' [a1] h Q2) (kk : ∀ (h1 : AH), Q2 h1 → T X (d + 1) M pc' ls (rest) h1 Q) : T X (d + 1) M pc ls (a1 :: rest) h Q :=
  T_callS (As := [a1]) hd hn hl hv.1 hv.2 rfl hW rfl hc (fun r h1 q => by obtain ⟨rfl, q⟩ := q; exact kk h1 q)
theorem T_I1v (hd : decode M.2.1 pc = .ok (.invokespecial idx, 3)) (hn : pc + 3 = pc') (hl : CL M.1.cls idx M') (hv : IK M' 1) (hW : (rest.map fun v => v.category).sum ≤ 8) (hc : Cv X d M' (.ref b :: [a1]) h Q2) (kk : ∀ (h1 : AH), Q2 h1 → T X (d + 1) M pc' ls rest h1 Q) : T X (d + 1) M pc ls (a1 :: .ref b :: rest) h Q :=
  T_callI (As := [a1]) hd hn hl hv.1 hv.2.1 hv.2.2 rfl hW rfl hc (fun r h1 q => by obtain ⟨rfl, q⟩ := q; exact kk h1 q)
theorem T_V2i (hd : decode M.2.1 pc = .ok (.invokevirtual idx, 3)) (hn : pc + 3 = pc') (hl : CL M.1.cls idx M') (hv : VK M' 2 ci) (hb : h.2 b = some (.inr (.inr (ci, fs)))) (hW : (rest.map fun v => v.category).sum ≤ 8) (hc : Ci X d M' (.ref b :: [a1, a2]) h Q1) (kk : ∀ (v : Int32) (h1 : AH), Q1 v h1 → T X (d + 1) M pc' ls (.int v :: rest) h1 Q) : T X (d + 1) M pc ls (a2 :: a1 :: .ref b :: rest) h Q :=
  T_callV (As := [a1, a2]) hd hn hl hv.1 hv.2.1 hv.2.2.1 hv.2.2.2 hb rfl hW rfl hc (fun r h1 q => by obtain ⟨v, rfl, q⟩ := q; exact kk v h1 q)
theorem T_V2v (hd : decode M.2.1 pc = .ok (.invokevirtual idx, 3)) (hn : pc + 3 = pc') (hl : CL M.1.cls idx M') (hv : VK M' 2 ci) (hb : h.2 b = some (.inr (.inr (ci, fs)))) (hW : (rest.map fun v => v.category).sum ≤ 8) (hc : Cv X d M' (.ref b :: [a1, a2]) h Q2) (kk : ∀ (h1 : AH), Q2 h1 → T X (d + 1) M pc' ls (rest) h1 Q) : T X (d + 1) M pc ls (a2 :: a1 :: .ref b :: rest) h Q :=
  T_callV (As := [a1, a2]) hd hn hl hv.1 hv.2.1 hv.2.2.1 hv.2.2.2 hb rfl hW rfl hc (fun r h1 q => by obtain ⟨rfl, q⟩ := q; exact kk h1 q)
theorem T_S2i (hd : decode M.2.1 pc = .ok (.invokestatic idx, 3)) (hn : pc + 3 = pc') (hl : CL M.1.cls idx M') (hv : SK M' 2) (hW : (rest.map fun v => v.category).sum ≤ 8) (hc : Ci X d M' [a1, a2] h Q1) (kk : ∀ (v : Int32) (h1 : AH), Q1 v h1 → T X (d + 1) M pc' ls (.int v :: rest) h1 Q) : T X (d + 1) M pc ls (a2 :: a1 :: rest) h Q :=
  T_callS (As := [a1, a2]) hd hn hl hv.1 hv.2 rfl hW rfl hc (fun r h1 q => by obtain ⟨v, rfl, q⟩ := q; exact kk v h1 q)
theorem T_S2v (hd : decode M.2.1 pc = .ok (.invokestatic idx, 3)) (hn : pc + 3 = pc') (hl : CL M.1.cls idx M') (hv : SK M' 2) (hW : (rest.map fun v => v.category).sum ≤ 8) (hc : Cv X d M' [a1, a2] h Q2) (kk : ∀ (h1 : AH), Q2 h1 → T X (d + 1) M pc' ls (rest) h1 Q) : T X (d + 1) M pc ls (a2 :: a1 :: rest) h Q :=
  T_callS (As := [a1, a2]) hd hn hl hv.1 hv.2 rfl hW rfl hc (fun r h1 q => by obtain ⟨rfl, q⟩ := q; exact kk h1 q)
theorem T_V3i (hd : decode M.2.1 pc = .ok (.invokevirtual idx, 3)) (hn : pc + 3 = pc') (hl : CL M.1.cls idx M') (hv : VK M' 3 ci) (hb : h.2 b = some (.inr (.inr (ci, fs)))) (hW : (rest.map fun v => v.category).sum ≤ 8) (hc : Ci X d M' (.ref b :: [a1, a2, a3]) h Q1) (kk : ∀ (v : Int32) (h1 : AH), Q1 v h1 → T X (d + 1) M pc' ls (.int v :: rest) h1 Q) : T X (d + 1) M pc ls (a3 :: a2 :: a1 :: .ref b :: rest) h Q :=
  T_callV (As := [a1, a2, a3]) hd hn hl hv.1 hv.2.1 hv.2.2.1 hv.2.2.2 hb rfl hW rfl hc (fun r h1 q => by obtain ⟨v, rfl, q⟩ := q; exact kk v h1 q)
theorem T_V3v (hd : decode M.2.1 pc = .ok (.invokevirtual idx, 3)) (hn : pc + 3 = pc') (hl : CL M.1.cls idx M') (hv : VK M' 3 ci) (hb : h.2 b = some (.inr (.inr (ci, fs)))) (hW : (rest.map fun v => v.category).sum ≤ 8) (hc : Cv X d M' (.ref b :: [a1, a2, a3]) h Q2) (kk : ∀ (h1 : AH), Q2 h1 → T X (d + 1) M pc' ls (rest) h1 Q) : T X (d + 1) M pc ls (a3 :: a2 :: a1 :: .ref b :: rest) h Q :=
  T_callV (As := [a1, a2, a3]) hd hn hl hv.1 hv.2.1 hv.2.2.1 hv.2.2.2 hb rfl hW rfl hc (fun r h1 q => by obtain ⟨rfl, q⟩ := q; exact kk h1 q)
theorem T_S3i (hd : decode M.2.1 pc = .ok (.invokestatic idx, 3)) (hn : pc + 3 = pc') (hl : CL M.1.cls idx M') (hv : SK M' 3) (hW : (rest.map fun v => v.category).sum ≤ 8) (hc : Ci X d M' [a1, a2, a3] h Q1) (kk : ∀ (v : Int32) (h1 : AH), Q1 v h1 → T X (d + 1) M pc' ls (.int v :: rest) h1 Q) : T X (d + 1) M pc ls (a3 :: a2 :: a1 :: rest) h Q :=
  T_callS (As := [a1, a2, a3]) hd hn hl hv.1 hv.2 rfl hW rfl hc (fun r h1 q => by obtain ⟨v, rfl, q⟩ := q; exact kk v h1 q)
theorem T_S3v (hd : decode M.2.1 pc = .ok (.invokestatic idx, 3)) (hn : pc + 3 = pc') (hl : CL M.1.cls idx M') (hv : SK M' 3) (hW : (rest.map fun v => v.category).sum ≤ 8) (hc : Cv X d M' [a1, a2, a3] h Q2) (kk : ∀ (h1 : AH), Q2 h1 → T X (d + 1) M pc' ls (rest) h1 Q) : T X (d + 1) M pc ls (a3 :: a2 :: a1 :: rest) h Q :=
  T_callS (As := [a1, a2, a3]) hd hn hl hv.1 hv.2 rfl hW rfl hc (fun r h1 q => by obtain ⟨rfl, q⟩ := q; exact kk h1 q)
theorem T_V4v (hd : decode M.2.1 pc = .ok (.invokevirtual idx, 3)) (hn : pc + 3 = pc') (hl : CL M.1.cls idx M') (hv : VK M' 4 ci) (hb : h.2 b = some (.inr (.inr (ci, fs)))) (hW : (rest.map fun v => v.category).sum ≤ 8) (hc : Cv X d M' (.ref b :: [a1, a2, a3, a4]) h Q2) (kk : ∀ (h1 : AH), Q2 h1 → T X (d + 1) M pc' ls (rest) h1 Q) : T X (d + 1) M pc ls (a4 :: a3 :: a2 :: a1 :: .ref b :: rest) h Q :=
  T_callV (As := [a1, a2, a3, a4]) hd hn hl hv.1 hv.2.1 hv.2.2.1 hv.2.2.2 hb rfl hW rfl hc (fun r h1 q => by obtain ⟨rfl, q⟩ := q; exact kk h1 q)
theorem T_V5i (hd : decode M.2.1 pc = .ok (.invokevirtual idx, 3)) (hn : pc + 3 = pc') (hl : CL M.1.cls idx M') (hv : VK M' 5 ci) (hb : h.2 b = some (.inr (.inr (ci, fs)))) (hW : (rest.map fun v => v.category).sum ≤ 8) (hc : Ci X d M' (.ref b :: [a1, a2, a3, a4, a5]) h Q1) (kk : ∀ (v : Int32) (h1 : AH), Q1 v h1 → T X (d + 1) M pc' ls (.int v :: rest) h1 Q) : T X (d + 1) M pc ls (a5 :: a4 :: a3 :: a2 :: a1 :: .ref b :: rest) h Q :=
  T_callV (As := [a1, a2, a3, a4, a5]) hd hn hl hv.1 hv.2.1 hv.2.2.1 hv.2.2.2 hb rfl hW rfl hc (fun r h1 q => by obtain ⟨v, rfl, q⟩ := q; exact kk v h1 q)
theorem T_puti {k a : Nat} {fin : Bool} {fs' : List Value} {x : Int32} (hd : decode M.2.1 pc = .ok (.putfield idx, 3)) (hn : pc + 3 = pc') (hf : FL M.1.cls idx ci k .int fin) (hfi : fin = true → M.1.name = "<init>") (ha : h.2 a = some (.inr (.inr (ci, fs)))) (hl0 : k < fs.length) (hfs : fs.set k (.int x) = fs') (kk : T X d M pc' ls st (e_put h a (.inr (.inr (ci, fs')))) Q) : T X d M pc ls (.int x :: .ref a :: st) h Q :=
  T_put hd hn hf hfi ha hl0 rfl rfl hfs kk
theorem T_putz {k a : Nat} {fin : Bool} {fs' : List Value} {x : Int32} (hd : decode M.2.1 pc = .ok (.putfield idx, 3)) (hn : pc + 3 = pc') (hf : FL M.1.cls idx ci k .boolean fin) (hfi : fin = true → M.1.name = "<init>") (ha : h.2 a = some (.inr (.inr (ci, fs)))) (hl0 : k < fs.length) (hx : x = 0 ∨ x = 1) (hfs : fs.set k (.int x) = fs') (kk : T X d M pc' ls st (e_put h a (.inr (.inr (ci, fs')))) Q) : T X d M pc ls (.int x :: .ref a :: st) h Q :=
  T_put hd hn hf hfi ha hl0 (by rcases hx with rfl | rfl <;> rfl) (by rcases hx with rfl | rfl <;> rfl) hfs kk
theorem T_putl {k a : Nat} {fin : Bool} {fs' : List Value} {x : Int64} (hd : decode M.2.1 pc = .ok (.putfield idx, 3)) (hn : pc + 3 = pc') (hf : FL M.1.cls idx ci k .long fin) (hfi : fin = true → M.1.name = "<init>") (ha : h.2 a = some (.inr (.inr (ci, fs)))) (hl0 : k < fs.length) (hfs : fs.set k (.long x) = fs') (kk : T X d M pc' ls st (e_put h a (.inr (.inr (ci, fs')))) Q) : T X d M pc ls (.long x :: .ref a :: st) h Q :=
  T_put hd hn hf hfi ha hl0 rfl rfl hfs kk
theorem T_puto {k a x : Nat} {fin : Bool} {fs' : List Value} {o : String} (hd : decode M.2.1 pc = .ok (.putfield idx, 3)) (hn : pc + 3 = pc') (hf : FL M.1.cls idx ci k (.object o) fin) (hfi : fin = true → M.1.name = "<init>") (ha : h.2 a = some (.inr (.inr (ci, fs)))) (hl0 : k < fs.length) (hfs : fs.set k (.ref x) = fs') (kk : T X d M pc' ls st (e_put h a (.inr (.inr (ci, fs')))) Q) : T X d M pc ls (.ref x :: .ref a :: st) h Q :=
  T_put hd hn hf hfi ha hl0 rfl rfl hfs kk
theorem T_puta {k a x : Nat} {fin : Bool} {fs' : List Value} {t : FieldType} (hd : decode M.2.1 pc = .ok (.putfield idx, 3)) (hn : pc + 3 = pc') (hf : FL M.1.cls idx ci k (.array t) fin) (hfi : fin = true → M.1.name = "<init>") (ha : h.2 a = some (.inr (.inr (ci, fs)))) (hl0 : k < fs.length) (hfs : fs.set k (.ref x) = fs') (kk : T X d M pc' ls st (e_put h a (.inr (.inr (ci, fs')))) Q) : T X d M pc ls (.ref x :: .ref a :: st) h Q :=
  T_put hd hn hf hfi ha hl0 rfl rfl hfs kk
theorem e_put_s {a : Nat} {c : AC} : (e_put h a c).2 a = some c := if_pos rfl
theorem e_put_n {a k : Nat} {c : AC} (hk : k ≠ a) : (e_put h a c).2 k = h.2 k := if_neg hk
theorem in_dec {i : Int32} {n : Nat} (hz : decide (¬ (i < 0 ∨ n ≤ i.toNatClampNeg)) = true) : vp_in i n := by
  have hz := of_decide_eq_true hz
  exact hz
theorem C_mono {av : List Value} {Q Q' : Option Value → AH → Prop} (hc : C X d M av h Q) (hq : ∀ r h1, Q r h1 → Q' r h1) : C X d M av h Q' := by
  obtain ⟨r, h1, q, w⟩ := hc
  exact ⟨r, h1, hq r h1 q, w⟩
theorem T_mono {Q' : Option Value → AH → Prop} (hc : T X d M pc ls st h Q) (hq : ∀ r h1, Q r h1 → Q' r h1) : T X d M pc ls st h Q' := by
  obtain ⟨r, h1, q, w⟩ := hc
  exact ⟨r, h1, hq r h1 q, w⟩
end ENG8
theorem v_Tb_init : IK M_Tb_init 0 := ⟨k_Tb_init, i_Tb_init, rfl, rfl⟩
theorem v_Tx_init : IK M_Tx_init 0 := ⟨k_Tx_init, i_Tx_init, rfl, rfl⟩
theorem v_To_init : IK M_To_init 0 := ⟨k_To_init, i_To_init, rfl, rfl⟩
theorem v_Fl_init : IK M_Fl_init 0 := ⟨k_Fl_init, i_Fl_init, rfl, rfl⟩
theorem v_Hi_init : IK M_Hi_init 0 := ⟨k_Hi_init, i_Hi_init, rfl, rfl⟩
theorem v_Se_init : IK M_Se_init 0 := ⟨k_Se_init, i_Se_init, rfl, rfl⟩
theorem v_Od_init : IK M_Od_init 0 := ⟨k_Od_init, i_Od_init, rfl, rfl⟩
theorem v_Re_init : IK M_Re_init 0 := ⟨k_Re_init, i_Re_init, rfl, rfl⟩
theorem v_Im_init : IK M_Im_init 0 := ⟨k_Im_init, i_Im_init, rfl, rfl⟩
theorem v_Tb_startAnew : VK M_Tb_startAnew 0 8 := ⟨k_Tb_startAnew, i_Tb_startAnew, s_Tb_startAnew, rfl⟩
theorem v_Fl_start : VK M_Fl_start 2 0 := ⟨k_Fl_start, i_Fl_start, s_Fl_start, rfl⟩
theorem v_Fl_thinkNothing : VK M_Fl_thinkNothing 0 0 := ⟨k_Fl_thinkNothing, i_Fl_thinkNothing, s_Fl_thinkNothing, rfl⟩
theorem v_Re_drop : VK M_Re_drop 0 4 := ⟨k_Re_drop, i_Re_drop, s_Re_drop, rfl⟩
theorem v_Tb_type : VK M_Tb_type 1 8 := ⟨k_Tb_type, i_Tb_type, s_Tb_type, rfl⟩
theorem v_Tb_within : SK M_Tb_within 3 := ⟨k_Tb_within, i_Tb_within⟩
theorem v_Tx_add : VK M_Tx_add 1 6 := ⟨k_Tx_add, i_Tx_add, s_Tx_add, rfl⟩
theorem v_Tb_clear : VK M_Tb_clear 0 8 := ⟨k_Tb_clear, i_Tb_clear, s_Tb_clear, rfl⟩
theorem v_Tx_drop : VK M_Tx_drop 0 6 := ⟨k_Tx_drop, i_Tx_drop, s_Tx_drop, rfl⟩
theorem v_Tb_sheds : VK M_Tb_sheds 0 8 := ⟨k_Tb_sheds, i_Tb_sheds, s_Tb_sheds, rfl⟩
theorem v_Tx_readInto : VK M_Tx_readInto 1 6 := ⟨k_Tx_readInto, i_Tx_readInto, s_Tx_readInto, rfl⟩
theorem v_To_tellNothing : VK M_To_tellNothing 0 7 := ⟨k_To_tellNothing, i_To_tellNothing, s_To_tellNothing, rfl⟩
theorem v_Ar_fill : SK M_Ar_fill 2 := ⟨k_Ar_fill, i_Ar_fill⟩
theorem v_Tx_readToken : VK M_Tx_readToken 0 6 := ⟨k_Tx_readToken, i_Tx_readToken, s_Tx_readToken, rfl⟩
theorem v_Tx_isLetter : SK M_Tx_isLetter 1 := ⟨k_Tx_isLetter, i_Tx_isLetter⟩
theorem v_Tx_readLetters : VK M_Tx_readLetters 0 6 := ⟨k_Tx_readLetters, i_Tx_readLetters, s_Tx_readLetters, rfl⟩
theorem v_Tx_isDigit : SK M_Tx_isDigit 1 := ⟨k_Tx_isDigit, i_Tx_isDigit⟩
theorem v_Tx_readNumber : VK M_Tx_readNumber 0 6 := ⟨k_Tx_readNumber, i_Tx_readNumber, s_Tx_readNumber, rfl⟩
theorem v_Ma_min : SK M_Ma_min 2 := ⟨k_Ma_min, i_Ma_min⟩
theorem v_Tx_readItem : VK M_Tx_readItem 1 6 := ⟨k_Tx_readItem, i_Tx_readItem, s_Tx_readItem, rfl⟩
theorem v_Tx_itemBegun : VK M_Tx_itemBegun 1 6 := ⟨k_Tx_itemBegun, i_Tx_itemBegun, s_Tx_itemBegun, rfl⟩
theorem v_Tx_tell : VK M_Tx_tell 2 6 := ⟨k_Tx_tell, i_Tx_tell, s_Tx_tell, rfl⟩
theorem v_To_tellWind : VK M_To_tellWind 2 7 := ⟨k_To_tellWind, i_To_tellWind, s_To_tellWind, rfl⟩
theorem v_To_tellPerson : VK M_To_tellPerson 3 7 := ⟨k_To_tellPerson, i_To_tellPerson, s_To_tellPerson, rfl⟩
theorem v_To_tellThought : VK M_To_tellThought 2 7 := ⟨k_To_tellThought, i_To_tellThought, s_To_tellThought, rfl⟩
theorem v_To_copyFrom : VK M_To_copyFrom 1 7 := ⟨k_To_copyFrom, i_To_copyFrom, s_To_copyFrom, rfl⟩
theorem v_Tb_wind : VK M_Tb_wind 1 8 := ⟨k_Tb_wind, i_Tb_wind, s_Tb_wind, rfl⟩
theorem v_To_windAt : VK M_To_windAt 1 7 := ⟨k_To_windAt, i_To_windAt, s_To_windAt, rfl⟩
theorem v_Tb_one : VK M_Tb_one 2 8 := ⟨k_Tb_one, i_Tb_one, s_Tb_one, rfl⟩
theorem v_To_hasPerson : VK M_To_hasPerson 1 7 := ⟨k_To_hasPerson, i_To_hasPerson, s_To_hasPerson, rfl⟩
theorem v_Fl_hasAboard : VK M_Fl_hasAboard 1 0 := ⟨k_Fl_hasAboard, i_Fl_hasAboard, s_Fl_hasAboard, rfl⟩
theorem v_Fl_usedBy : VK M_Fl_usedBy 1 0 := ⟨k_Fl_usedBy, i_Fl_usedBy, s_Fl_usedBy, rfl⟩
theorem v_To_liftsOf : VK M_To_liftsOf 1 7 := ⟨k_To_liftsOf, i_To_liftsOf, s_To_liftsOf, rfl⟩
theorem v_To_canLift : VK M_To_canLift 2 7 := ⟨k_To_canLift, i_To_canLift, s_To_canLift, rfl⟩
theorem v_Tb_thought : VK M_Tb_thought 2 8 := ⟨k_Tb_thought, i_Tb_thought, s_Tb_thought, rfl⟩
theorem v_To_hasThought : VK M_To_hasThought 1 7 := ⟨k_To_hasThought, i_To_hasThought, s_To_hasThought, rfl⟩
theorem v_Tb_begins : VK M_Tb_begins 2 8 := ⟨k_Tb_begins, i_Tb_begins, s_Tb_begins, rfl⟩
theorem v_Fl_mayBegin : VK M_Fl_mayBegin 2 0 := ⟨k_Fl_mayBegin, i_Fl_mayBegin, s_Fl_mayBegin, rfl⟩
theorem v_Hi_push : VK M_Hi_push 1 1 := ⟨k_Hi_push, i_Hi_push, s_Hi_push, rfl⟩
theorem v_Hi_dropOldest : VK M_Hi_dropOldest 0 1 := ⟨k_Hi_dropOldest, i_Hi_dropOldest, s_Hi_dropOldest, rfl⟩
theorem v_Fl_copyFrom : VK M_Fl_copyFrom 1 0 := ⟨k_Fl_copyFrom, i_Fl_copyFrom, s_Fl_copyFrom, rfl⟩
theorem v_Fl_begin : VK M_Fl_begin 2 0 := ⟨k_Fl_begin, i_Fl_begin, s_Fl_begin, rfl⟩
theorem v_Fl_think : VK M_Fl_think 2 0 := ⟨k_Fl_think, i_Fl_think, s_Fl_think, rfl⟩
theorem v_To_hold : VK M_To_hold 1 7 := ⟨k_To_hold, i_To_hold, s_To_hold, rfl⟩
theorem v_To_faded : SK M_To_faded 3 := ⟨k_To_faded, i_To_faded⟩
theorem v_Ma_max : SK M_Ma_max 2 := ⟨k_Ma_max, i_Ma_max⟩
theorem v_Tb_minutes : VK M_Tb_minutes 1 8 := ⟨k_Tb_minutes, i_Tb_minutes, s_Tb_minutes, rfl⟩
theorem v_To_passMinutes : VK M_To_passMinutes 2 7 := ⟨k_To_passMinutes, i_To_passMinutes, s_To_passMinutes, rfl⟩
theorem v_To_passMinute : VK M_To_passMinute 1 7 := ⟨k_To_passMinute, i_To_passMinute, s_To_passMinute, rfl⟩
theorem v_To_load : VK M_To_load 1 7 := ⟨k_To_load, i_To_load, s_To_load, rfl⟩
theorem v_Fl_climb : VK M_Fl_climb 1 0 := ⟨k_Fl_climb, i_Fl_climb, s_Fl_climb, rfl⟩
theorem v_Fl_drift : VK M_Fl_drift 1 0 := ⟨k_Fl_drift, i_Fl_drift, s_Fl_drift, rfl⟩
theorem v_Tb_enters : VK M_Tb_enters 1 8 := ⟨k_Tb_enters, i_Tb_enters, s_Tb_enters, rfl⟩
theorem v_Fl_mayBeBoarded : VK M_Fl_mayBeBoarded 0 0 := ⟨k_Fl_mayBeBoarded, i_Fl_mayBeBoarded, s_Fl_mayBeBoarded, rfl⟩
theorem v_Fl_takeIn : VK M_Fl_takeIn 1 0 := ⟨k_Fl_takeIn, i_Fl_takeIn, s_Fl_takeIn, rfl⟩
theorem v_In_bitCount : SK M_In_bitCount 1 := ⟨k_In_bitCount, i_In_bitCount⟩
theorem v_Tb_leaves : VK M_Tb_leaves 1 8 := ⟨k_Tb_leaves, i_Tb_leaves, s_Tb_leaves, rfl⟩
theorem v_Fl_letOut : VK M_Fl_letOut 1 0 := ⟨k_Fl_letOut, i_Fl_letOut, s_Fl_letOut, rfl⟩
theorem v_Tb_undo : VK M_Tb_undo 0 8 := ⟨k_Tb_undo, i_Tb_undo, s_Tb_undo, rfl⟩
theorem v_Hi_pop : VK M_Hi_pop 1 1 := ⟨k_Hi_pop, i_Hi_pop, s_Hi_pop, rfl⟩
theorem v_Tb_now : VK M_Tb_now 1 8 := ⟨k_Tb_now, i_Tb_now, s_Tb_now, rfl⟩
theorem v_To_cover : VK M_To_cover 0 7 := ⟨k_To_cover, i_To_cover, s_To_cover, rfl⟩
theorem v_To_covers : VK M_To_covers 1 7 := ⟨k_To_covers, i_To_covers, s_To_covers, rfl⟩
theorem v_Tb_after : VK M_Tb_after 2 8 := ⟨k_Tb_after, i_Tb_after, s_Tb_after, rfl⟩
theorem v_Tb_down : VK M_Tb_down 0 8 := ⟨k_Tb_down, i_Tb_down, s_Tb_down, rfl⟩
theorem v_Tb_best : VK M_Tb_best 3 8 := ⟨k_Tb_best, i_Tb_best, s_Tb_best, rfl⟩
theorem v_Se_run : VK M_Se_run 4 5 := ⟨k_Se_run, i_Se_run, s_Se_run, rfl⟩
theorem v_Se_fillReach : VK M_Se_fillReach 1 5 := ⟨k_Se_fillReach, i_Se_fillReach, s_Se_fillReach, rfl⟩
theorem v_Se_tryTurns : VK M_Se_tryTurns 2 5 := ⟨k_Se_tryTurns, i_Se_tryTurns, s_Se_tryTurns, rfl⟩
theorem v_Se_bound : VK M_Se_bound 1 5 := ⟨k_Se_bound, i_Se_bound, s_Se_bound, rfl⟩
theorem v_Se_tryTurn : VK M_Se_tryTurn 4 5 := ⟨k_Se_tryTurn, i_Se_tryTurn, s_Se_tryTurn, rfl⟩
theorem v_Tb_own : VK M_Tb_own 1 8 := ⟨k_Tb_own, i_Tb_own, s_Tb_own, rfl⟩
theorem v_To_firstOwnWay : VK M_To_firstOwnWay 0 7 := ⟨k_To_firstOwnWay, i_To_firstOwnWay, s_To_firstOwnWay, rfl⟩
theorem v_To_countOwn : VK M_To_countOwn 1 7 := ⟨k_To_countOwn, i_To_countOwn, s_To_countOwn, rfl⟩
theorem v_To_ownIn : VK M_To_ownIn 2 7 := ⟨k_To_ownIn, i_To_ownIn, s_To_ownIn, rfl⟩
theorem v_Tb_odds : VK M_Tb_odds 5 8 := ⟨k_Tb_odds, i_Tb_odds, s_Tb_odds, rfl⟩
theorem v_Od_startAt : VK M_Od_startAt 1 3 := ⟨k_Od_startAt, i_Od_startAt, s_Od_startAt, rfl⟩
theorem v_Od_spread : VK M_Od_spread 2 3 := ⟨k_Od_spread, i_Od_spread, s_Od_spread, rfl⟩
theorem v_Od_carry : VK M_Od_carry 2 3 := ⟨k_Od_carry, i_Od_carry, s_Od_carry, rfl⟩
theorem v_Od_upper : VK M_Od_upper 1 3 := ⟨k_Od_upper, i_Od_upper, s_Od_upper, rfl⟩
theorem v_Od_common : VK M_Od_common 1 3 := ⟨k_Od_common, i_Od_common, s_Od_common, rfl⟩
theorem v_Od_lower : VK M_Od_lower 1 3 := ⟨k_Od_lower, i_Od_lower, s_Od_lower, rfl⟩
theorem v_Tb_saw : VK M_Tb_saw 3 8 := ⟨k_Tb_saw, i_Tb_saw, s_Tb_saw, rfl⟩
theorem v_Re_add : VK M_Re_add 3 4 := ⟨k_Re_add, i_Re_add, s_Re_add, rfl⟩
theorem v_Tb_which : VK M_Tb_which 1 8 := ⟨k_Tb_which, i_Tb_which, s_Tb_which, rfl⟩
theorem v_Tb_fitting : VK M_Tb_fitting 1 8 := ⟨k_Tb_fitting, i_Tb_fitting, s_Tb_fitting, rfl⟩
theorem v_Tb_fits : VK M_Tb_fits 2 8 := ⟨k_Tb_fits, i_Tb_fits, s_Tb_fits, rfl⟩
theorem v_Tb_heightLater : VK M_Tb_heightLater 3 8 := ⟨k_Tb_heightLater, i_Tb_heightLater, s_Tb_heightLater, rfl⟩
theorem v_Tb_look : VK M_Tb_look 1 8 := ⟨k_Tb_look, i_Tb_look, s_Tb_look, rfl⟩
theorem v_Tb_greatestAlike : VK M_Tb_greatestAlike 3 8 := ⟨k_Tb_greatestAlike, i_Tb_greatestAlike, s_Tb_greatestAlike, rfl⟩
theorem v_Tb_hears : VK M_Tb_hears 2 8 := ⟨k_Tb_hears, i_Tb_hears, s_Tb_hears, rfl⟩
theorem v_Tb_laws : VK M_Tb_laws 1 8 := ⟨k_Tb_laws, i_Tb_laws, s_Tb_laws, rfl⟩
theorem v_Tb_isLaw : VK M_Tb_isLaw 2 8 := ⟨k_Tb_isLaw, i_Tb_isLaw, s_Tb_isLaw, rfl⟩
theorem v_Tb_forget : VK M_Tb_forget 0 8 := ⟨k_Tb_forget, i_Tb_forget, s_Tb_forget, rfl⟩
theorem v_Tb_mark : VK M_Tb_mark 2 8 := ⟨k_Tb_mark, i_Tb_mark, s_Tb_mark, rfl⟩
theorem v_Tb_markLover : VK M_Tb_markLover 1 8 := ⟨k_Tb_markLover, i_Tb_markLover, s_Tb_markLover, rfl⟩
theorem v_Tb_markOne : VK M_Tb_markOne 1 8 := ⟨k_Tb_markOne, i_Tb_markOne, s_Tb_markOne, rfl⟩
theorem v_Tb_markGrudge : VK M_Tb_markGrudge 1 8 := ⟨k_Tb_markGrudge, i_Tb_markGrudge, s_Tb_markGrudge, rfl⟩
theorem v_Tb_markPoet : VK M_Tb_markPoet 1 8 := ⟨k_Tb_markPoet, i_Tb_markPoet, s_Tb_markPoet, rfl⟩
theorem v_Tb_markMiser : VK M_Tb_markMiser 1 8 := ⟨k_Tb_markMiser, i_Tb_markMiser, s_Tb_markMiser, rfl⟩
theorem v_Tb_markWife : VK M_Tb_markWife 1 8 := ⟨k_Tb_markWife, i_Tb_markWife, s_Tb_markWife, rfl⟩
theorem v_Tb_keep : VK M_Tb_keep 1 8 := ⟨k_Tb_keep, i_Tb_keep, s_Tb_keep, rfl⟩
theorem v_Im_take : VK M_Im_take 2 2 := ⟨k_Im_take, i_Im_take, s_Im_take, rfl⟩
theorem v_Hi_copyFrom : VK M_Hi_copyFrom 1 1 := ⟨k_Hi_copyFrom, i_Hi_copyFrom, s_Hi_copyFrom, rfl⟩
theorem v_Tb_back : VK M_Tb_back 1 8 := ⟨k_Tb_back, i_Tb_back, s_Tb_back, rfl⟩
theorem v_Im_give : VK M_Im_give 2 2 := ⟨k_Im_give, i_Im_give, s_Im_give, rfl⟩
theorem v_Tb_count : VK M_Tb_count 1 8 := ⟨k_Tb_count, i_Tb_count, s_Tb_count, rfl⟩
theorem v_Tb_trace : VK M_Tb_trace 0 8 := ⟨k_Tb_trace, i_Tb_trace, s_Tb_trace, rfl⟩
theorem v_Mo_init : IK M_Mo_init 0 := ⟨k_Mo_init, i_Mo_init, rfl, rfl⟩
theorem v_Mo_type : VK M_Mo_type 1 9 := ⟨k_Mo_type, i_Mo_type, s_Mo_type, rfl⟩
theorem v_Mo_in : SK M_Mo_in 3 := ⟨k_Mo_in, i_Mo_in⟩
theorem v_Mo_clear : VK M_Mo_clear 0 9 := ⟨k_Mo_clear, i_Mo_clear, s_Mo_clear, rfl⟩
theorem v_Mo_sheds : VK M_Mo_sheds 0 9 := ⟨k_Mo_sheds, i_Mo_sheds, s_Mo_sheds, rfl⟩
theorem v_Mo_read : VK M_Mo_read 0 9 := ⟨k_Mo_read, i_Mo_read, s_Mo_read, rfl⟩
theorem v_Mo_step : VK M_Mo_step 0 9 := ⟨k_Mo_step, i_Mo_step, s_Mo_step, rfl⟩
theorem v_Mo_here : VK M_Mo_here 0 9 := ⟨k_Mo_here, i_Mo_here, s_Mo_here, rfl⟩
theorem v_Mo_may : VK M_Mo_may 1 9 := ⟨k_Mo_may, i_Mo_may, s_Mo_may, rfl⟩
theorem v_Mo_due : VK M_Mo_due 1 9 := ⟨k_Mo_due, i_Mo_due, s_Mo_due, rfl⟩
theorem v_Mo_item : VK M_Mo_item 1 9 := ⟨k_Mo_item, i_Mo_item, s_Mo_item, rfl⟩
theorem v_Mo_number : VK M_Mo_number 2 9 := ⟨k_Mo_number, i_Mo_number, s_Mo_number, rfl⟩
theorem v_Mo_wind : VK M_Mo_wind 1 9 := ⟨k_Mo_wind, i_Mo_wind, s_Mo_wind, rfl⟩
theorem v_Mo_one : VK M_Mo_one 2 9 := ⟨k_Mo_one, i_Mo_one, s_Mo_one, rfl⟩
theorem v_Mo_isOne : VK M_Mo_isOne 1 9 := ⟨k_Mo_isOne, i_Mo_isOne, s_Mo_isOne, rfl⟩
theorem v_Mo_has : SK M_Mo_has 2 := ⟨k_Mo_has, i_Mo_has⟩
theorem v_Mo_liftsOf : VK M_Mo_liftsOf 1 9 := ⟨k_Mo_liftsOf, i_Mo_liftsOf, s_Mo_liftsOf, rfl⟩
theorem v_Mo_thought : VK M_Mo_thought 2 9 := ⟨k_Mo_thought, i_Mo_thought, s_Mo_thought, rfl⟩
theorem v_Mo_isThought : VK M_Mo_isThought 1 9 := ⟨k_Mo_isThought, i_Mo_isThought, s_Mo_isThought, rfl⟩
theorem v_Mo_begins : VK M_Mo_begins 2 9 := ⟨k_Mo_begins, i_Mo_begins, s_Mo_begins, rfl⟩
theorem v_Mo_canBegin : SK M_Mo_canBegin 3 := ⟨k_Mo_canBegin, i_Mo_canBegin⟩
theorem v_Mo_know : VK M_Mo_know 0 9 := ⟨k_Mo_know, i_Mo_know, s_Mo_know, rfl⟩
theorem v_Mo_begin : SK M_Mo_begin 3 := ⟨k_Mo_begin, i_Mo_begin⟩
theorem v_Mo_hold : VK M_Mo_hold 1 9 := ⟨k_Mo_hold, i_Mo_hold, s_Mo_hold, rfl⟩
theorem v_Mo_minutes : VK M_Mo_minutes 1 9 := ⟨k_Mo_minutes, i_Mo_minutes, s_Mo_minutes, rfl⟩
theorem v_Mo_passOn : VK M_Mo_passOn 1 9 := ⟨k_Mo_passOn, i_Mo_passOn, s_Mo_passOn, rfl⟩
theorem v_Mo_weights : VK M_Mo_weights 1 9 := ⟨k_Mo_weights, i_Mo_weights, s_Mo_weights, rfl⟩
theorem v_Mo_enters : VK M_Mo_enters 1 9 := ⟨k_Mo_enters, i_Mo_enters, s_Mo_enters, rfl⟩
theorem v_Mo_isAtRest : VK M_Mo_isAtRest 0 9 := ⟨k_Mo_isAtRest, i_Mo_isAtRest, s_Mo_isAtRest, rfl⟩
theorem v_Mo_bitsOf : SK M_Mo_bitsOf 1 := ⟨k_Mo_bitsOf, i_Mo_bitsOf⟩
theorem v_Mo_leaves : VK M_Mo_leaves 1 9 := ⟨k_Mo_leaves, i_Mo_leaves, s_Mo_leaves, rfl⟩
theorem v_Mo_undo : VK M_Mo_undo 0 9 := ⟨k_Mo_undo, i_Mo_undo, s_Mo_undo, rfl⟩
theorem v_Mo_now : VK M_Mo_now 1 9 := ⟨k_Mo_now, i_Mo_now, s_Mo_now, rfl⟩
theorem v_Mo_cover : VK M_Mo_cover 0 9 := ⟨k_Mo_cover, i_Mo_cover, s_Mo_cover, rfl⟩
theorem v_Mo_after : VK M_Mo_after 2 9 := ⟨k_Mo_after, i_Mo_after, s_Mo_after, rfl⟩
theorem v_Mo_take : VK M_Mo_take 0 9 := ⟨k_Mo_take, i_Mo_take, s_Mo_take, rfl⟩
theorem v_Mo_down : VK M_Mo_down 0 9 := ⟨k_Mo_down, i_Mo_down, s_Mo_down, rfl⟩
theorem v_Mo_best : VK M_Mo_best 3 9 := ⟨k_Mo_best, i_Mo_best, s_Mo_best, rfl⟩
theorem v_Mo_goBy : VK M_Mo_goBy 4 9 := ⟨k_Mo_goBy, i_Mo_goBy, s_Mo_goBy, rfl⟩
theorem v_Mo_own : VK M_Mo_own 1 9 := ⟨k_Mo_own, i_Mo_own, s_Mo_own, rfl⟩
theorem v_Mo_odds : VK M_Mo_odds 5 9 := ⟨k_Mo_odds, i_Mo_odds, s_Mo_odds, rfl⟩
theorem v_Mo_saw : VK M_Mo_saw 3 9 := ⟨k_Mo_saw, i_Mo_saw, s_Mo_saw, rfl⟩
theorem v_Mo_which : VK M_Mo_which 1 9 := ⟨k_Mo_which, i_Mo_which, s_Mo_which, rfl⟩
theorem v_Mo_whichBy : VK M_Mo_whichBy 1 9 := ⟨k_Mo_whichBy, i_Mo_whichBy, s_Mo_whichBy, rfl⟩
theorem v_Mo_heightBy : VK M_Mo_heightBy 3 9 := ⟨k_Mo_heightBy, i_Mo_heightBy, s_Mo_heightBy, rfl⟩
theorem v_Mo_look : VK M_Mo_look 1 9 := ⟨k_Mo_look, i_Mo_look, s_Mo_look, rfl⟩
theorem v_Mo_hears : VK M_Mo_hears 2 9 := ⟨k_Mo_hears, i_Mo_hears, s_Mo_hears, rfl⟩
theorem v_Mo_laws : VK M_Mo_laws 1 9 := ⟨k_Mo_laws, i_Mo_laws, s_Mo_laws, rfl⟩
theorem v_Mo_forget : VK M_Mo_forget 0 9 := ⟨k_Mo_forget, i_Mo_forget, s_Mo_forget, rfl⟩
theorem v_Mo_mark : VK M_Mo_mark 2 9 := ⟨k_Mo_mark, i_Mo_mark, s_Mo_mark, rfl⟩
theorem v_Mo_bodiesOf : SK M_Mo_bodiesOf 1 := ⟨k_Mo_bodiesOf, i_Mo_bodiesOf⟩
theorem v_Mo_trace : VK M_Mo_trace 0 9 := ⟨k_Mo_trace, i_Mo_trace, s_Mo_trace, rfl⟩
theorem v_Mo_keep : VK M_Mo_keep 1 9 := ⟨k_Mo_keep, i_Mo_keep, s_Mo_keep, rfl⟩
theorem v_Mo_back : VK M_Mo_back 1 9 := ⟨k_Mo_back, i_Mo_back, s_Mo_back, rfl⟩
theorem v_Mo_count : VK M_Mo_count 1 9 := ⟨k_Mo_count, i_Mo_count, s_Mo_count, rfl⟩
