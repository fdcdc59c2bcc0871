/-! what was seen: heights later, thoughts that fit, the minute to look at; laws -/
def sThink (g : Nat → Int32) (p t : Nat) : Nat → Int32 := fun k => if k = 3 then nI p else if k = 4 then nI t else if k = 5 then 0 else g k
theorem FC_think {g : Nat → Int32} {us : Int32} {p t : Nat} (hus : ∀ q, q < 3 → us >>> ((4 * nI q) &&& 31) &&& 15 = g (7 + q)) : FC (oFl (g 0) (g 1) (g 2) (nI p) (nI t) (g 0) (g 6) us (g 10)) (sThink g p t) := by
  refine ⟨g 0, us, rfl, fun _ => ?_, fun q hq => ?_⟩
  · show g 0 - g 0 = 0
    simp
  · rw [hus q hq, sThink, if_neg (by omega), if_neg (by omega), if_neg (by omega)]
theorem GI_think {n m : Nat} {g : Nat → Int32} {p t : Nat} (hg : GI n m g) (hp : p < n) (ht : t < m) : GI n m (sThink g p t) := by
  obtain ⟨h1, h2, h3, h4, h5, h6⟩ := hg
  refine ⟨h1, h2, Or.inr ⟨⟨p, hp, rfl⟩, ⟨t, ht, rfl⟩⟩, h4, h5, fun q hq => ?_⟩
  rw [sThink, if_neg (by omega), if_neg (by omega), if_neg (by omega)]
  exact h6 q hq
/-- alike in all but what is used -/
def FT (g g' : Nat → Int32) : Prop := ∀ k, k ≤ 6 ∨ k = 10 → g k = g' k
theorem FT_pass {n : Nat} {wi we br li fa g g' : Nat → Int32} (he : FT g g') : FT (sPass n wi we br li fa g) (sPass n wi we br li fa g') := by
  have e0 := he 0 (by omega)
  have e1 := he 1 (by omega)
  have e2 := he 2 (by omega)
  have e3 := he 3 (by omega)
  have e4 := he 4 (by omega)
  have e5 := he 5 (by omega)
  have e6 := he 6 (by omega)
  have e10 := he 10 (by omega)
  have hm : sMore n we br li fa g = sMore n we br li fa g' := by rw [sMore, sMore, e3, e4, e5, e6]
  have ht : sTo n wi we br li fa g = sTo n wi we br li fa g' := by rw [sTo, sTo, hm, e1, e2]
  intro k hk
  rw [sPass, sPass, e0, e5, e10, he k hk, hm, ht, e2]
theorem FT_passN {n : Nat} {wi we br li fa g g' : Nat → Int32} (he : FT g g') : ∀ i, FT (sPassN n wi we br li fa g i) (sPassN n wi we br li fa g' i)
  | 0 => he
  | i + 1 => FT_pass (FT_passN he i)
theorem FT_begin {g g' : Nat → Int32} (p t : Nat) (hp3 : p < 3) (he : FE g g') : FT (sBegin g p t) (sThink g' p t) := by
  intro k hk
  rw [sBegin, sThink]
  by_cases h3 : k = 3
  · rw [if_pos h3, if_pos h3]
  · rw [if_neg h3, if_neg h3]
    by_cases h4 : k = 4
    · rw [if_pos h4, if_pos h4]
    · rw [if_neg h4, if_neg h4]
      by_cases h5 : k = 5
      · rw [if_pos h5, if_pos h5]
      · rw [if_neg h5, if_neg h5]
        by_cases h7 : k = 7 + p
        · exact absurd h7 (by omega)
        · rw [if_neg h7]
          exact he k (by omega)
def sHL (σ : Sp) (p t m : Nat) : Int32 := pN σ (sThink (σ.2.1 6) p t) m 2
def sHN (σ : Sp) (p t m : Nat) : Nat := (sHL σ p t m).toNatClampNeg
theorem sHL_in {σ : Sp} (si : SI σ) {p t : Nat} (hp : p < σ.1 1) (ht : t < σ.1 2) (m : Nat) : sHN σ p t m ≤ 9 ∧ sHL σ p t m = nI (sHN σ p t m) := by
  obtain ⟨k, hk, e⟩ := (GI_passN (wi := σ.2.1 1) (we := σ.2.1 2) (br := σ.2.1 3) (li := σ.2.1 4) (fa := σ.2.1 5) (GI_think si.2.2.1 hp ht) m).2.1
  have e' : sHL σ p t m = nI k := e
  rw [sHN, e', nI_clamp (by omega)]
  exact ⟨hk, rfl⟩
abbrev sFit1 (σ : Sp) (p t k : Nat) : Prop := σ.2.1 7 k = nI p → sHL σ p t (σ.2.1 8 k).toNatClampNeg = σ.2.1 9 k
def sFitB (σ : Sp) (p t : Nat) : Nat → Bool
  | 0 => true
  | k + 1 => sFitB σ p t k && decide (sFit1 σ p t k)
theorem sFitB_iff (σ : Sp) (p t : Nat) : ∀ n, sFitB σ p t n = true ↔ ∀ k, k < n → sFit1 σ p t k
  | 0 => ⟨fun _ k hk => absurd hk (by omega), fun _ => rfl⟩
  | n + 1 => by
    rw [sFitB, Bool.and_eq_true, sFitB_iff σ p t n, decide_eq_true_iff]
    constructor
    · rintro ⟨a, b⟩ k hk
      by_cases e : k = n
      · rw [e]; exact b
      · exact a k (by omega)
    · intro a
      exact ⟨fun k hk => a k (by omega), a n (by omega)⟩
def sWh (σ : Sp) (p : Nat) : Nat → Int32
  | 0 => 0
  | t + 1 => sWh σ p t ||| (if sFitB σ p t (σ.1 4) = true then 1 <<< (nI t &&& 31) else 0)
def q_which (σ : Sp) (p : Int32) : Int32 := if okP (σ.1 1) p then sWh σ p.toNatClampNeg (σ.1 2) else -1
/-- how many of the first i that are in the set have this height -/
def sCnt (set : Int32) (H : Nat → Nat) (x : Nat) : Nat → Nat
  | 0 => 0
  | o + 1 => sCnt set H x o + (if sHas set (nI o) ∧ H o = x then 1 else 0)
def sGr (set : Int32) (H : Nat → Nat) : Nat → Nat
  | 0 => 0
  | t + 1 => if sHas set (nI t) then max (sGr set H t) (sCnt set H (H t) (t + 1)) else sGr set H t
def sMs (set : Int32) (H : Nat → Nat) (n : Nat) : Nat → Nat
  | 0 => 0
  | t + 1 => max (sMs set H n t) (if sHas set (nI t) then sCnt set H (H t) n else 0)
theorem sCnt_le (set : Int32) (H : Nat → Nat) (x : Nat) : ∀ n, sCnt set H x n ≤ n
  | 0 => Nat.le_refl _
  | n + 1 => by
    have := sCnt_le set H x n
    rw [sCnt]
    split <;> omega
theorem sCnt_mono (set : Int32) (H : Nat → Nat) (x i : Nat) : ∀ k, sCnt set H x i ≤ sCnt set H x (i + k)
  | 0 => Nat.le_refl _
  | k + 1 => by
    have := sCnt_mono set H x i k
    rw [← Nat.add_assoc, sCnt]
    omega
theorem sGr_ge (set : Int32) (H : Nat → Nat) (x : Nat) : ∀ i, sCnt set H x i ≤ sGr set H i
  | 0 => Nat.le_refl _
  | i + 1 => by
    have ih := sGr_ge set H x i
    rw [sGr]
    by_cases hs : sHas set (nI i)
    · rw [if_pos hs]
      by_cases hx : H i = x
      · rw [hx]; exact Nat.le_max_right _ _
      · rw [sCnt, if_neg (fun q => hx q.2)]
        have := Nat.le_max_left (sGr set H i) (sCnt set H (H i) (i + 1))
        omega
    · rw [if_neg hs, sCnt, if_neg (fun q => hs q.1)]
      exact ih
theorem sMs_le (set : Int32) (H : Nat → Nat) (n b : Nat) (hb : ∀ t, t < n → sHas set (nI t) → sCnt set H (H t) n ≤ b) : ∀ i, i ≤ n → sMs set H n i ≤ b
  | 0, _ => Nat.zero_le _
  | i + 1, hi => by
    have ih := sMs_le set H n b hb i (by omega)
    rw [sMs]
    by_cases hs : sHas set (nI i)
    · rw [if_pos hs]; exact Nat.max_le.mpr ⟨ih, hb i (by omega) hs⟩
    · rw [if_neg hs]; exact Nat.max_le.mpr ⟨ih, Nat.zero_le _⟩
theorem sGr_le (set : Int32) (H : Nat → Nat) (n : Nat) : ∀ i, i ≤ n → sGr set H i ≤ sMs set H n i
  | 0, _ => Nat.le_refl _
  | i + 1, hi => by
    have ih := sGr_le set H n i (by omega)
    rw [sGr, sMs]
    by_cases hs : sHas set (nI i)
    · rw [if_pos hs, if_pos hs]
      have := sCnt_mono set H (H i) (i + 1) (n - (i + 1))
      rw [show i + 1 + (n - (i + 1)) = n by omega] at this
      omega
    · rw [if_neg hs, if_neg hs]; omega
theorem sGr_ms (set : Int32) (H : Nat → Nat) (n : Nat) : sGr set H n = sMs set H n n :=
  Nat.le_antisymm (sGr_le set H n n (Nat.le_refl _)) (sMs_le set H n _ (fun t _ _ => sGr_ge set H (H t) n) n (Nat.le_refl _))
theorem sGr_bd (set : Int32) (H : Nat → Nat) : ∀ n, sGr set H n ≤ n
  | 0 => Nat.le_refl _
  | n + 1 => by
    have ih := sGr_bd set H n
    have := sCnt_le set H (H n) (n + 1)
    rw [sGr]
    split <;> omega
theorem sMs_bd (set : Int32) (H : Nat → Nat) (n : Nat) : ∀ i, sMs set H n i ≤ n
  | 0 => Nat.zero_le _
  | i + 1 => by
    have ih := sMs_bd set H n i
    have := sCnt_le set H (H i) n
    rw [sMs]
    split <;> omega
/-- which minute: behind minutes 1 .. k + 1, the first with the least, and the least -/
def sLk (A : Nat → Nat) : Nat → Nat × Nat
  | 0 => (1, A 1)
  | k + 1 => if A (k + 2) < (sLk A k).2 then (k + 2, A (k + 2)) else sLk A k
theorem sLk_bd (A : Nat → Nat) (hA : ∀ m, A m ≤ 4) : ∀ k, 1 ≤ (sLk A k).1 ∧ (sLk A k).1 ≤ k + 1 ∧ (sLk A k).2 ≤ 4
  | 0 => ⟨Nat.le_refl _, Nat.le_refl _, hA 1⟩
  | k + 1 => by
    have ih := sLk_bd A hA k
    have := hA (k + 2)
    rw [sLk]
    split
    · exact ⟨by omega, Nat.le_refl _, this⟩
    · exact ⟨ih.1, by omega, ih.2.2⟩
def sAl (σ : Sp) (p m : Nat) : Nat := sGr (sWh σ p (σ.1 2)) (fun t => sHN σ p t m) (σ.1 2)
def q_look (σ : Sp) (p : Int32) : Int32 := if okP (σ.1 1) p then (if sWh σ p.toNatClampNeg (σ.1 2) = 0 then -9 else nI (sLk (sAl σ p.toNatClampNeg) 8).1) else -1
/-! laws -/
abbrev sLaw1 (σ : Sp) (l f k : Nat) : Prop := sPos (nI l - σ.2.1 10 k * nI f) = σ.2.1 11 k
def sLawB (σ : Sp) (l f : Nat) : Nat → Bool
  | 0 => true
  | k + 1 => sLawB σ l f k && decide (sLaw1 σ l f k)
theorem sLawB_iff (σ : Sp) (l f : Nat) : ∀ n, sLawB σ l f n = true ↔ ∀ k, k < n → sLaw1 σ l f k
  | 0 => ⟨fun _ k hk => absurd hk (by omega), fun _ => rfl⟩
  | n + 1 => by
    rw [sLawB, Bool.and_eq_true, sLawB_iff σ l f n, decide_eq_true_iff]
    constructor
    · rintro ⟨a, b⟩ k hk
      by_cases e : k = n
      · rw [e]; exact b
      · exact a k (by omega)
    · intro a
      exact ⟨fun k hk => a k (by omega), a n (by omega)⟩
def sLs (σ : Sp) (l f : Nat) (s : Nat × Int32) : Nat × Int32 := if sLawB σ l f (σ.1 5) = true then (s.1 + 1, if s.1 = 0 then 10 * nI l + nI f else s.2) else s
def sLn (σ : Sp) (l : Nat) (s : Nat × Int32) : Nat → Nat × Int32
  | 0 => s
  | f + 1 => sLs σ l f (sLn σ l s f)
def sLo (σ : Sp) : Nat → Nat × Int32
  | 0 => (0, -9)
  | l + 1 => sLn σ (l + 1) (sLo σ l) 6
def LwI (b : Nat) (s : Nat × Int32) : Prop := (s.1 = 0 ∧ s.2 = -9) ∨ (0 < s.1 ∧ s.1 ≤ b ∧ ¬ s.2 = -9)
theorem s_lf : ∀ l, l < 31 → ∀ f, f < 6 → ¬ (10 : Int32) * nI l + nI f = -9 := by decide +kernel
theorem LwI_s (σ : Sp) {l f b : Nat} (hl : l < 31) (hf : f < 6) {s : Nat × Int32} (h : LwI b s) : LwI (b + 1) (sLs σ l f s) := by
  rw [sLs]
  split
  · right
    rcases h with ⟨h1, h2⟩ | ⟨h1, h2, h3⟩
    · refine ⟨by show 0 < s.1 + 1; omega, by show s.1 + 1 ≤ b + 1; omega, ?_⟩
      show ¬ (if s.1 = 0 then 10 * nI l + nI f else s.2) = -9
      rw [if_pos h1]; exact s_lf l hl f hf
    · refine ⟨by show 0 < s.1 + 1; omega, by show s.1 + 1 ≤ b + 1; omega, ?_⟩
      show ¬ (if s.1 = 0 then 10 * nI l + nI f else s.2) = -9
      rw [if_neg (by omega)]; exact h3
  · rcases h with ⟨h1, h2⟩ | ⟨h1, h2, h3⟩
    · exact Or.inl ⟨h1, h2⟩
    · exact Or.inr ⟨h1, by omega, h3⟩
theorem LwI_n (σ : Sp) {l b : Nat} (hl : l < 31) {s : Nat × Int32} (h : LwI b s) : ∀ f, f ≤ 6 → LwI (b + f) (sLn σ l s f)
  | 0, _ => h
  | f + 1, hf => LwI_s σ hl (by omega) (LwI_n σ hl h f (by omega))
theorem LwI_o (σ : Sp) : ∀ l, l ≤ 30 → LwI (6 * l) (sLo σ l)
  | 0, _ => Or.inl ⟨rfl, rfl⟩
  | l + 1, hl => LwI_n σ (by omega) (LwI_o σ l (by omega)) 6 (Nat.le_refl _)
def q_laws (σ : Sp) (w : Int32) : Int32 := if 0 ≤ w ∧ w ≤ 1 then (if w = 0 then nI (sLo σ 30).1 else (sLo σ 30).2) else -1
