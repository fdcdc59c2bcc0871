section ENG2
variable {X : EX} {d : Nat} {M : Mt} {pc pc' : Nat} {ls ls' st st' : List Value} {h : AH} {Q : Option Value → AH → Prop}
theorem T_icmp_eq {x y : Int32} {off : Int} {tgt : Nat} (hd : decode M.2.1 pc = .ok (.if_icmp .eq off, 3)) (hn : pc + 3 = pc') (ht : (pc : Int) + off = (tgt : Int)) (kt : x = y → T X d M tgt ls st h Q) (kf : ¬ x = y → T X d M pc' ls st h Q) : T X d M pc ls (.int y :: .int x :: st) h Q := by
  by_cases hc : x = y
  · exact T_pure (fun p e R s m args below meth c H locs cells slots Q l hC _ _ _ _ _ _ hL hk => lv_icmp_eq hC.1 hC.2.1 hd ht (fun _ => hk l hL) (fun q => absurd hc (by first | exact q | (intro z; exact absurd z q) | simpa using q))) (kt hc)
  · exact T_pure (fun p e R s m args below meth c H locs cells slots Q l hC _ _ _ _ _ _ hL hk => lv_icmp_eq hC.1 hC.2.1 hd ht (fun q => absurd q hc) (fun _ => by rw [hn]; exact hk l hL)) (kf (by first | exact hc | simpa using hc))
theorem T_if_eq {x : Int32} {off : Int} {tgt : Nat} (hd : decode M.2.1 pc = .ok (.ifCond .eq off, 3)) (hn : pc + 3 = pc') (ht : (pc : Int) + off = (tgt : Int)) (kt : x = 0 → T X d M tgt ls st h Q) (kf : ¬ x = 0 → T X d M pc' ls st h Q) : T X d M pc ls (.int x :: st) h Q := by
  by_cases hc : x = 0
  · exact T_pure (fun p e R s m args below meth c H locs cells slots Q l hC _ _ _ _ _ _ hL hk => lv_if_eq hC.1 hC.2.1 hd ht (fun _ => hk l hL) (fun q => absurd hc (by first | exact q | (intro z; exact absurd z q) | simpa using q))) (kt hc)
  · exact T_pure (fun p e R s m args below meth c H locs cells slots Q l hC _ _ _ _ _ _ hL hk => lv_if_eq hC.1 hC.2.1 hd ht (fun q => absurd q hc) (fun _ => by rw [hn]; exact hk l hL)) (kf (by first | exact hc | simpa using hc))
theorem T_icmp_ne {x y : Int32} {off : Int} {tgt : Nat} (hd : decode M.2.1 pc = .ok (.if_icmp .ne off, 3)) (hn : pc + 3 = pc') (ht : (pc : Int) + off = (tgt : Int)) (kt : ¬ x = y → T X d M tgt ls st h Q) (kf : x = y → T X d M pc' ls st h Q) : T X d M pc ls (.int y :: .int x :: st) h Q := by
  by_cases hc : ¬ x = y
  · exact T_pure (fun p e R s m args below meth c H locs cells slots Q l hC _ _ _ _ _ _ hL hk => lv_icmp_ne hC.1 hC.2.1 hd ht (fun _ => hk l hL) (fun q => absurd hc (by first | exact q | (intro z; exact absurd z q) | simpa using q))) (kt hc)
  · exact T_pure (fun p e R s m args below meth c H locs cells slots Q l hC _ _ _ _ _ _ hL hk => lv_icmp_ne hC.1 hC.2.1 hd ht (fun q => absurd q hc) (fun _ => by rw [hn]; exact hk l hL)) (kf (by first | exact hc | simpa using hc))
theorem T_if_ne {x : Int32} {off : Int} {tgt : Nat} (hd : decode M.2.1 pc = .ok (.ifCond .ne off, 3)) (hn : pc + 3 = pc') (ht : (pc : Int) + off = (tgt : Int)) (kt : ¬ x = 0 → T X d M tgt ls st h Q) (kf : x = 0 → T X d M pc' ls st h Q) : T X d M pc ls (.int x :: st) h Q := by
  by_cases hc : ¬ x = 0
  · exact T_pure (fun p e R s m args below meth c H locs cells slots Q l hC _ _ _ _ _ _ hL hk => lv_if_ne hC.1 hC.2.1 hd ht (fun _ => hk l hL) (fun q => absurd hc (by first | exact q | (intro z; exact absurd z q) | simpa using q))) (kt hc)
  · exact T_pure (fun p e R s m args below meth c H locs cells slots Q l hC _ _ _ _ _ _ hL hk => lv_if_ne hC.1 hC.2.1 hd ht (fun q => absurd q hc) (fun _ => by rw [hn]; exact hk l hL)) (kf (by first | exact hc | simpa using hc))
theorem T_icmp_lt {x y : Int32} {off : Int} {tgt : Nat} (hd : decode M.2.1 pc = .ok (.if_icmp .lt off, 3)) (hn : pc + 3 = pc') (ht : (pc : Int) + off = (tgt : Int)) (kt : x < y → T X d M tgt ls st h Q) (kf : ¬ x < y → T X d M pc' ls st h Q) : T X d M pc ls (.int y :: .int x :: st) h Q := by
  by_cases hc : x < y
  · exact T_pure (fun p e R s m args below meth c H locs cells slots Q l hC _ _ _ _ _ _ hL hk => lv_icmp_lt hC.1 hC.2.1 hd ht (fun _ => hk l hL) (fun q => absurd hc (by first | exact q | (intro z; exact absurd z q) | simpa using q))) (kt hc)
  · exact T_pure (fun p e R s m args below meth c H locs cells slots Q l hC _ _ _ _ _ _ hL hk => lv_icmp_lt hC.1 hC.2.1 hd ht (fun q => absurd q hc) (fun _ => by rw [hn]; exact hk l hL)) (kf (by first | exact hc | simpa using hc))
theorem T_if_lt {x : Int32} {off : Int} {tgt : Nat} (hd : decode M.2.1 pc = .ok (.ifCond .lt off, 3)) (hn : pc + 3 = pc') (ht : (pc : Int) + off = (tgt : Int)) (kt : x < 0 → T X d M tgt ls st h Q) (kf : ¬ x < 0 → T X d M pc' ls st h Q) : T X d M pc ls (.int x :: st) h Q := by
  by_cases hc : x < 0
  · exact T_pure (fun p e R s m args below meth c H locs cells slots Q l hC _ _ _ _ _ _ hL hk => lv_if_lt hC.1 hC.2.1 hd ht (fun _ => hk l hL) (fun q => absurd hc (by first | exact q | (intro z; exact absurd z q) | simpa using q))) (kt hc)
  · exact T_pure (fun p e R s m args below meth c H locs cells slots Q l hC _ _ _ _ _ _ hL hk => lv_if_lt hC.1 hC.2.1 hd ht (fun q => absurd q hc) (fun _ => by rw [hn]; exact hk l hL)) (kf (by first | exact hc | simpa using hc))
theorem T_icmp_ge {x y : Int32} {off : Int} {tgt : Nat} (hd : decode M.2.1 pc = .ok (.if_icmp .ge off, 3)) (hn : pc + 3 = pc') (ht : (pc : Int) + off = (tgt : Int)) (kt : y ≤ x → T X d M tgt ls st h Q) (kf : ¬ y ≤ x → T X d M pc' ls st h Q) : T X d M pc ls (.int y :: .int x :: st) h Q := by
  by_cases hc : y ≤ x
  · exact T_pure (fun p e R s m args below meth c H locs cells slots Q l hC _ _ _ _ _ _ hL hk => lv_icmp_ge hC.1 hC.2.1 hd ht (fun _ => hk l hL) (fun q => absurd hc (by first | exact q | (intro z; exact absurd z q) | simpa using q))) (kt hc)
  · exact T_pure (fun p e R s m args below meth c H locs cells slots Q l hC _ _ _ _ _ _ hL hk => lv_icmp_ge hC.1 hC.2.1 hd ht (fun q => absurd q hc) (fun _ => by rw [hn]; exact hk l hL)) (kf (by first | exact hc | simpa using hc))
theorem T_if_ge {x : Int32} {off : Int} {tgt : Nat} (hd : decode M.2.1 pc = .ok (.ifCond .ge off, 3)) (hn : pc + 3 = pc') (ht : (pc : Int) + off = (tgt : Int)) (kt : 0 ≤ x → T X d M tgt ls st h Q) (kf : ¬ 0 ≤ x → T X d M pc' ls st h Q) : T X d M pc ls (.int x :: st) h Q := by
  by_cases hc : 0 ≤ x
  · exact T_pure (fun p e R s m args below meth c H locs cells slots Q l hC _ _ _ _ _ _ hL hk => lv_if_ge hC.1 hC.2.1 hd ht (fun _ => hk l hL) (fun q => absurd hc (by first | exact q | (intro z; exact absurd z q) | simpa using q))) (kt hc)
  · exact T_pure (fun p e R s m args below meth c H locs cells slots Q l hC _ _ _ _ _ _ hL hk => lv_if_ge hC.1 hC.2.1 hd ht (fun q => absurd q hc) (fun _ => by rw [hn]; exact hk l hL)) (kf (by first | exact hc | simpa using hc))
theorem T_icmp_gt {x y : Int32} {off : Int} {tgt : Nat} (hd : decode M.2.1 pc = .ok (.if_icmp .gt off, 3)) (hn : pc + 3 = pc') (ht : (pc : Int) + off = (tgt : Int)) (kt : y < x → T X d M tgt ls st h Q) (kf : ¬ y < x → T X d M pc' ls st h Q) : T X d M pc ls (.int y :: .int x :: st) h Q := by
  by_cases hc : y < x
  · exact T_pure (fun p e R s m args below meth c H locs cells slots Q l hC _ _ _ _ _ _ hL hk => lv_icmp_gt hC.1 hC.2.1 hd ht (fun _ => hk l hL) (fun q => absurd hc (by first | exact q | (intro z; exact absurd z q) | simpa using q))) (kt hc)
  · exact T_pure (fun p e R s m args below meth c H locs cells slots Q l hC _ _ _ _ _ _ hL hk => lv_icmp_gt hC.1 hC.2.1 hd ht (fun q => absurd q hc) (fun _ => by rw [hn]; exact hk l hL)) (kf (by first | exact hc | simpa using hc))
theorem T_if_gt {x : Int32} {off : Int} {tgt : Nat} (hd : decode M.2.1 pc = .ok (.ifCond .gt off, 3)) (hn : pc + 3 = pc') (ht : (pc : Int) + off = (tgt : Int)) (kt : 0 < x → T X d M tgt ls st h Q) (kf : ¬ 0 < x → T X d M pc' ls st h Q) : T X d M pc ls (.int x :: st) h Q := by
  by_cases hc : 0 < x
  · exact T_pure (fun p e R s m args below meth c H locs cells slots Q l hC _ _ _ _ _ _ hL hk => lv_if_gt hC.1 hC.2.1 hd ht (fun _ => hk l hL) (fun q => absurd hc (by first | exact q | (intro z; exact absurd z q) | simpa using q))) (kt hc)
  · exact T_pure (fun p e R s m args below meth c H locs cells slots Q l hC _ _ _ _ _ _ hL hk => lv_if_gt hC.1 hC.2.1 hd ht (fun q => absurd q hc) (fun _ => by rw [hn]; exact hk l hL)) (kf (by first | exact hc | simpa using hc))
theorem T_icmp_le {x y : Int32} {off : Int} {tgt : Nat} (hd : decode M.2.1 pc = .ok (.if_icmp .le off, 3)) (hn : pc + 3 = pc') (ht : (pc : Int) + off = (tgt : Int)) (kt : x ≤ y → T X d M tgt ls st h Q) (kf : ¬ x ≤ y → T X d M pc' ls st h Q) : T X d M pc ls (.int y :: .int x :: st) h Q := by
  by_cases hc : x ≤ y
  · exact T_pure (fun p e R s m args below meth c H locs cells slots Q l hC _ _ _ _ _ _ hL hk => lv_icmp_le hC.1 hC.2.1 hd ht (fun _ => hk l hL) (fun q => absurd hc (by first | exact q | (intro z; exact absurd z q) | simpa using q))) (kt hc)
  · exact T_pure (fun p e R s m args below meth c H locs cells slots Q l hC _ _ _ _ _ _ hL hk => lv_icmp_le hC.1 hC.2.1 hd ht (fun q => absurd q hc) (fun _ => by rw [hn]; exact hk l hL)) (kf (by first | exact hc | simpa using hc))
theorem T_if_le {x : Int32} {off : Int} {tgt : Nat} (hd : decode M.2.1 pc = .ok (.ifCond .le off, 3)) (hn : pc + 3 = pc') (ht : (pc : Int) + off = (tgt : Int)) (kt : x ≤ 0 → T X d M tgt ls st h Q) (kf : ¬ x ≤ 0 → T X d M pc' ls st h Q) : T X d M pc ls (.int x :: st) h Q := by
  by_cases hc : x ≤ 0
  · exact T_pure (fun p e R s m args below meth c H locs cells slots Q l hC _ _ _ _ _ _ hL hk => lv_if_le hC.1 hC.2.1 hd ht (fun _ => hk l hL) (fun q => absurd hc (by first | exact q | (intro z; exact absurd z q) | simpa using q))) (kt hc)
  · exact T_pure (fun p e R s m args below meth c H locs cells slots Q l hC _ _ _ _ _ _ hL hk => lv_if_le hC.1 hC.2.1 hd ht (fun q => absurd q hc) (fun _ => by rw [hn]; exact hk l hL)) (kf (by first | exact hc | simpa using hc))
theorem T_tableIn {dflt lo hi : Int} {offs : Array Int} {len : Nat} {x : Int32} {off : Int} (hd : decode M.2.1 pc = .ok (.tableswitch dflt lo hi offs, len)) (h1 : ¬ x.toInt < lo) (h2 : ¬ hi < x.toInt) (ho : offs[(x.toInt - lo).toNat]? = some off) (ht : (pc : Int) + off = (pc' : Int)) (k : T X d M pc' ls st h Q) : T X d M pc ls (.int x :: st) h Q :=
  T_pure (fun p e R s m args below meth c H locs cells slots Q l hC _ _ _ _ _ _ hL hk => lv_tableIn hC.1 hC.2.1 hd h1 h2 ho ht (hk l hL)) k
theorem T_tableOut {dflt lo hi : Int} {offs : Array Int} {len : Nat} {x : Int32} (hd : decode M.2.1 pc = .ok (.tableswitch dflt lo hi offs, len)) (h1 : x.toInt < lo ∨ hi < x.toInt) (ht : (pc : Int) + dflt = (pc' : Int)) (k : T X d M pc' ls st h Q) : T X d M pc ls (.int x :: st) h Q :=
  T_pure (fun p e R s m args below meth c H locs cells slots Q l hC _ _ _ _ _ _ hL hk => lv_tableOut hC.1 hC.2.1 hd h1 ht (hk l hL)) k
theorem T_lookup {dflt : Int} {ps : Array (Int × Int)} {len : Nat} {x : Int32} {off : Int} (hd : decode M.2.1 pc = .ok (.lookupswitch dflt ps, len)) (hp : (ps.toList.zip (ps.toList.drop 1)).all (fun (a, next) => a.1 < next.1) = true) (ho : Op.lookupswitch.offset ps.toList dflt x.toInt = off) (ht : (pc : Int) + off = (pc' : Int)) (k : T X d M pc' ls st h Q) : T X d M pc ls (.int x :: st) h Q :=
  T_pure (fun p e R s m args below meth c H locs cells slots Q l hC _ _ _ _ _ _ hL hk => lv_lookup hC.1 hC.2.1 hd hp ho ht (hk l hL)) k
/-- the place ahead of i holds no long -/
def e_ok (ls : List Value) : Nat → Bool
  | 0 => true
  | j + 1 => match ls[j]? with
    | some v => v.category == 1
    | none => true
/-- the locals that are known, by their places -/
def e_kn (X : EX) (ls : List Value) : List (Nat × Value) := (ls.zipIdx.filter (fun q => !(q.1 == Value.null))).map (fun q => (q.2, e_tr X q.1))
theorem e_kn_mem {i : Nat} {w : Value} (hq : (i, w) ∈ e_kn X ls) : ∃ v, ls[i]? = some v ∧ v ≠ .null ∧ w = e_tr X v := by
  obtain ⟨⟨v, j⟩, h1, h2⟩ := List.mem_map.mp hq
  obtain ⟨h3, h4⟩ := List.mem_filter.mp h1
  cases h2
  refine ⟨v, ?_, ?_, rfl⟩
  · simpa using List.mem_zipIdx_iff_getElem?.mp h3
  · intro z; subst z; simp at h4
theorem e_kn_of {i : Nat} {v : Value} (hi : ls[i]? = some v) (hv : v ≠ .null) : (i, e_tr X v) ∈ e_kn X ls := by
  refine List.mem_map.mpr ⟨(v, i), List.mem_filter.mpr ⟨List.mem_zipIdx_iff_getElem?.mpr (by simpa using hi), ?_⟩, rfl⟩
  simp [hv]
theorem e_L_has {n : Nat} {l : Array Slot} (hL : e_L X n ls l) : lv_has l n (e_kn X ls) := by
  refine ⟨hL.2.1, hL.2.2.1, fun q hq => ?_⟩
  obtain ⟨v, h1, h2, h3⟩ := e_kn_mem (i := q.1) (w := q.2) hq
  rw [h3]
  exact hL.2.2.2 _ _ h1 h2
theorem e_L_set {n i : Nat} {l' : Array Slot} {v : Value} (hlen : ls.length = n) (hok : e_ok ls i = true) (h' : lv_has l' n ((i, e_tr X v) :: (e_kn X ls).filter (fun q => !(q.1 == i) && !(q.1 + 1 == i && q.2.category == 2)))) : e_L X n (ls.set i v) l' := by
  refine ⟨by simpa using hlen, h'.1, h'.2.1, fun j w hj hw => ?_⟩
  by_cases hji : j = i
  · subst hji
    have hlt : j < ls.length := by
      have := (List.getElem?_eq_some_iff.mp hj).1
      simpa using this
    rw [List.getElem?_set_self hlt] at hj
    cases hj
    exact h'.2.2 (j, e_tr X v) List.mem_cons_self
  · rw [List.getElem?_set_ne (Ne.symm hji)] at hj
    refine h'.2.2 (j, e_tr X w) (List.mem_cons_of_mem _ (List.mem_filter.mpr ⟨e_kn_of hj hw, ?_⟩))
    have h1 : (j == i) = false := by simpa using hji
    simp only [h1, Bool.not_false, Bool.true_and, Bool.not_eq_true', Bool.and_eq_false_iff]
    by_cases h2 : j + 1 = i
    · right
      subst h2
      simp only [e_ok, hj] at hok
      rw [e_cat]
      have : w.category = 1 := by simpa using hok
      rw [this]; rfl
    · left; simpa using h2
theorem T_istore_n {k : Fin 4} {i : Nat} {x : Int32} (hd : decode M.2.1 pc = .ok (.istore_n k, 1)) (hn : pc + 1 = pc') (hk : (k : Nat) = i) (hi : i < M.2.2.1) (hok : e_ok ls i = true) (hl : ls.set i (.int x) = ls') (kk : T X d M pc' ls' st h Q) : T X d M pc ls (.int x :: st) h Q := by
  subst hl
  exact T_pure (fun p e R s m args below meth c H locs cells slots Q l hC _ _ _ _ _ _ hL hq => lv_istore_n hC.1 hC.2.1 hd hk (e_L_has hL) hi rfl (fun l' h' => by rw [hn]; exact hq l' (e_L_set hL.1 hok h'))) kk
theorem T_istore {i : Nat} {x : Int32} (hd : decode M.2.1 pc = .ok (.istore i, 2)) (hn : pc + 2 = pc') (hi : i < M.2.2.1) (hok : e_ok ls i = true) (hl : ls.set i (.int x) = ls') (kk : T X d M pc' ls' st h Q) : T X d M pc ls (.int x :: st) h Q := by
  subst hl
  exact T_pure (fun p e R s m args below meth c H locs cells slots Q l hC _ _ _ _ _ _ hL hq => lv_istore hC.1 hC.2.1 hd (e_L_has hL) hi rfl (fun l' h' => by rw [hn]; exact hq l' (e_L_set hL.1 hok h'))) kk
theorem T_astore_n {k : Fin 4} {i : Nat} {x : Nat} (hd : decode M.2.1 pc = .ok (.astore_n k, 1)) (hn : pc + 1 = pc') (hk : (k : Nat) = i) (hi : i < M.2.2.1) (hok : e_ok ls i = true) (hl : ls.set i (.ref x) = ls') (kk : T X d M pc' ls' st h Q) : T X d M pc ls (.ref x :: st) h Q := by
  subst hl
  exact T_pure (fun p e R s m args below meth c H locs cells slots Q l hC _ _ _ _ _ _ hL hq => lv_astore_n hC.1 hC.2.1 hd hk (e_L_has hL) hi rfl (fun l' h' => by rw [hn]; exact hq l' (e_L_set hL.1 hok h'))) kk
theorem T_astore {i : Nat} {x : Nat} (hd : decode M.2.1 pc = .ok (.astore i, 2)) (hn : pc + 2 = pc') (hi : i < M.2.2.1) (hok : e_ok ls i = true) (hl : ls.set i (.ref x) = ls') (kk : T X d M pc' ls' st h Q) : T X d M pc ls (.ref x :: st) h Q := by
  subst hl
  exact T_pure (fun p e R s m args below meth c H locs cells slots Q l hC _ _ _ _ _ _ hL hq => lv_astore hC.1 hC.2.1 hd (e_L_has hL) hi rfl (fun l' h' => by rw [hn]; exact hq l' (e_L_set hL.1 hok h'))) kk
theorem T_iinc {i : Nat} {n : Int} {x v : Int32} (hd : decode M.2.1 pc = .ok (.iinc i n, 3)) (hn : pc + 3 = pc') (hx : ls[i]? = some (.int x)) (hv : x + Int32.ofInt n = v) (hi : i < M.2.2.1) (hok : e_ok ls i = true) (hl : ls.set i (.int v) = ls') (kk : T X d M pc' ls' st h Q) : T X d M pc ls st h Q := by
  subst hl
  refine T_pure (fun p e R s m args below meth c H locs cells slots Q l hC _ _ _ _ _ _ hL hq => ?_) kk
  obtain ⟨j, hj⟩ := List.getElem?_of_mem (e_kn_of (X := X) hx (fun z => by cases z))
  exact lv_iinc hC.1 hC.2.1 hd (e_L_has hL) hj hv hi rfl (fun l' h' => by rw [hn]; exact hq l' (e_L_set hL.1 hok h'))
theorem T_lstore {i : Nat} {x : Int64} (hd : decode M.2.1 pc = .ok (.lstore i, 2)) (hn : pc + 2 = pc') (hi : i + 1 < M.2.2.1) (hok : e_ok ls i = true) (hl : (ls.set i (.long x)).set (i + 1) .null = ls') (kk : T X d M pc' ls' st h Q) : T X d M pc ls (.long x :: st) h Q := by
  subst hl
  refine T_pure (fun p e R s m args below meth c H locs cells slots Q l hC _ _ _ _ _ _ hL hq => ?_) kk
  refine lv_lstore hC.1 hC.2.1 hd (e_L_has hL) hi rfl (fun l' h' => ?_)
  rw [hn]
  refine hq l' ?_
  refine ⟨by simpa using hL.1, h'.1, h'.2.1, fun j w hj hw => ?_⟩
  have hlen := hL.1
  by_cases hj1 : j = i + 1
  · subst hj1
    rw [List.getElem?_set_self (by rw [List.length_set]; omega)] at hj
    cases hj
    exact absurd rfl hw
  · rw [List.getElem?_set_ne (Ne.symm hj1)] at hj
    by_cases hji : j = i
    · subst hji
      rw [List.getElem?_set_self (by omega)] at hj
      cases hj
      exact h'.2.2 (j, .long x) List.mem_cons_self
    · rw [List.getElem?_set_ne (Ne.symm hji)] at hj
      refine h'.2.2 (j, e_tr X w) (List.mem_cons_of_mem _ (List.mem_filter.mpr ⟨e_kn_of hj hw, ?_⟩))
      have h1 : (j == i) = false := by simpa using hji
      have h1' : (j == i + 1) = false := by simpa using hj1
      simp only [h1, h1', Bool.not_false, Bool.true_and, Bool.not_eq_true', Bool.and_eq_false_iff]
      by_cases h2 : j + 1 = i
      · right
        subst h2
        simp only [e_ok, hj] at hok
        rw [e_cat]
        have : w.category = 1 := by simpa using hok
        rw [this]; rfl
      · left; simpa using h2
end ENG2
