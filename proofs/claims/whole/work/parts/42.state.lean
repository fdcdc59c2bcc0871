/-! THE STATE. Numbers: 0 bytes of the text, 1 people, 2 thoughts, 3 to be undone, 4 seen, 5 heard, 6 7 images kept, 8 9 theirs to be undone.
Rows: 0 text, 1 winds, 2 weights, 3 breaths, 4 lifts, 5 fades, 6 the flight, 7 8 9 seen, 10 11 heard, 12 start, 13 14 images' flights, 20 .. to be undone, 30 .., 40 .. the images'. The trace. -/
abbrev Sp : Type := (Nat → Nat) × (Nat → Nat → Int32) × Int64
def sI (σ : Sp) (k v : Nat) : Sp := (fun j => if j = k then v else σ.1 j, σ.2.1, σ.2.2)
def sF (σ : Sp) (k : Nat) (f : Nat → Int32) : Sp := (σ.1, fun j => if j = k then f else σ.2.1 j, σ.2.2)
def sT (σ : Sp) (t : Int64) : Sp := (σ.1, σ.2.1, t)
abbrev oTb (tc : Int64) : AC := .inr (.inr (8, [.ref 1, .ref 4, .ref 10, .ref 16, .ref 17, .ref 18, .ref 30, .ref 31, .ref 46, .ref 49, .ref 53, .ref 57, .long tc]))
abbrev oTx (le at_ tk pl va is_ : Int32) : AC := .inr (.inr (6, [.ref 2, .int le, .int at_, .int tk, .int pl, .int va, .ref 3, .int is_]))
abbrev oSe (tu wh gr : Int32) : AC := .inr (.inr (5, [.ref 32, .ref 33, .ref 34, .ref 35, .int tu, .int wh, .int gr]))
abbrev oOd (al : Int32) : AC := .inr (.inr (3, [.ref 47, .ref 48, .int al]))
def XR (h : AH) (tl : Nat) (tx : Nat → Int32) : Prop := (∃ at_ tk pl va is_, h.2 1 = some (oTx (nI tl) at_ tk pl va is_)) ∧ h.2 2 = some (.inl (0, 120, tx)) ∧ ∃ f, h.2 3 = some (.inl (0, 3, f))
def SR (h : AH) : Prop := (∃ tu wh gr, h.2 31 = some (oSe tu wh gr)) ∧ (∃ r, h.2 32 = some (.inr (.inl (3, 5, r))) ∧ ∀ i, i < 5 → r i = some (41 + i)) ∧ (∃ f, h.2 33 = some (.inl (0, 4, f))) ∧ (∃ f, h.2 34 = some (.inl (0, 4, f))) ∧ (∃ r, h.2 35 = some (.inr (.inl (5, 5, r))) ∧ ∀ i, i < 5 → r i = some (36 + i)) ∧ (∀ i, 36 ≤ i → i < 41 → ∃ f, h.2 i = some (.inl (0, 10, f))) ∧ ∀ i, 41 ≤ i → i < 46 → ∃ c, h.2 i = some c ∧ isFl c
def OR_ (h : AH) : Prop := (∃ al, h.2 46 = some (oOd al)) ∧ (∃ f, h.2 47 = some (.inl (0, 41, f))) ∧ ∃ f, h.2 48 = some (.inl (0, 41, f))
/-- the object holds the state -/
def CI (h : AH) (σ : Sp) : Prop :=
  h.2 0 = some (oTb σ.2.2) ∧ XR h (σ.1 0) (σ.2.1 0) ∧
  (∃ ab, TR h 4 (σ.1 1) (σ.1 2) (σ.2.1 1) (σ.2.1 2) (σ.2.1 3) (σ.2.1 4) (σ.2.1 5) (σ.2.1 12 0) ab) ∧
  (∃ n m wi we br li fa sta ab, TR h 10 n m wi we br li fa sta ab) ∧
  (∃ c, h.2 16 = some c ∧ FC c (σ.2.1 6)) ∧ (∃ c, h.2 17 = some c ∧ isFl c) ∧
  HR h 18 (σ.1 3) (fun i => σ.2.1 (20 + i)) ∧
  (∃ r, h.2 30 = some (.inr (.inl (4, 2, r))) ∧ r 0 = some 58 ∧ r 1 = some 72) ∧
  SR h ∧ OR_ h ∧ RR h 49 (σ.1 4) (σ.2.1 7) (σ.2.1 8) (σ.2.1 9) ∧ (∃ f, RR h 53 (σ.1 5) f (σ.2.1 10) (σ.2.1 11)) ∧
  (∃ f, h.2 57 = some (.inl (0, 10, f))) ∧
  IR h 58 (σ.1 6) (σ.1 8) (σ.2.1 13) (fun i => σ.2.1 (30 + i)) ∧ IR h 72 (σ.1 7) (σ.1 9) (σ.2.1 14) (fun i => σ.2.1 (40 + i))
/-- the model holds the state -/
def MI (h : AH) (σ : Sp) : Prop :=
  (∃ sc, h.2 86 = some (oMo sc σ.2.2) ∧ sc 0 = nI (σ.1 0) ∧ sc 8 = nI (σ.1 4) ∧ sc 9 = nI (σ.1 5)) ∧
  (∃ f, h.2 87 = some (.inl (1, 120, f)) ∧ ∀ i, i < σ.1 0 → f i = (σ.2.1 0 i).toInt8.toInt32) ∧
  MT h (σ.1 1) (σ.1 2) (σ.2.1 1) (σ.2.1 2) (σ.2.1 3) (σ.2.1 4) (σ.2.1 5) ∧
  (∃ f, h.2 92 = some (.inl (0, 6, f))) ∧ (∃ f, h.2 96 = some (.inl (0, 2, f)) ∧ f 0 = σ.2.1 12 0) ∧
  h.2 97 = some (.inl (0, 11, σ.2.1 6)) ∧
  (∃ f, h.2 98 = some (.inl (0, 3, f)) ∧ f 0 = nI (σ.1 3) ∧ (σ.1 6 = 1 → f 1 = nI (σ.1 8)) ∧ (σ.1 7 = 1 → f 2 = nI (σ.1 9))) ∧
  (∃ f, h.2 99 = some (.inl (0, 330, f)) ∧ (∀ i, i < σ.1 3 → ∀ k, k < 11 → f (11 * i + k) = σ.2.1 (20 + i) k) ∧ (σ.1 6 = 1 → ∀ i, i < σ.1 8 → ∀ k, k < 11 → f (110 + (11 * i + k)) = σ.2.1 (30 + i) k) ∧ (σ.1 7 = 1 → ∀ i, i < σ.1 9 → ∀ k, k < 11 → f (220 + (11 * i + k)) = σ.2.1 (40 + i) k)) ∧
  (∃ f, h.2 100 = some (.inl (0, 22, f)) ∧ (σ.1 6 = 1 → ∀ k, k < 11 → f k = σ.2.1 13 k) ∧ (σ.1 7 = 1 → ∀ k, k < 11 → f (11 + k) = σ.2.1 14 k)) ∧
  (∃ f, h.2 101 = some (.inl (2, 2, f)) ∧ f 0 = nI (σ.1 6) ∧ f 1 = nI (σ.1 7)) ∧
  (∃ f, h.2 102 = some (.inl (0, 11, f))) ∧ (∃ f, h.2 103 = some (.inl (0, 64, f))) ∧
  (∃ f, h.2 104 = some (.inl (0, 6, f)) ∧ ∀ i, i < σ.1 4 → f i = σ.2.1 7 i) ∧ (∃ f, h.2 105 = some (.inl (0, 6, f)) ∧ ∀ i, i < σ.1 4 → f i = σ.2.1 8 i) ∧ (∃ f, h.2 106 = some (.inl (0, 6, f)) ∧ ∀ i, i < σ.1 4 → f i = σ.2.1 9 i) ∧
  (∃ f, h.2 107 = some (.inl (0, 6, f)) ∧ ∀ i, i < σ.1 5 → f i = σ.2.1 10 i) ∧ (∃ f, h.2 108 = some (.inl (0, 6, f)) ∧ ∀ i, i < σ.1 5 → f i = σ.2.1 11 i)
/-- what always holds of the state -/
def SI (σ : Sp) : Prop :=
  (σ.1 0 ≤ 120 ∧ σ.1 1 ≤ 3 ∧ σ.1 2 ≤ 4 ∧ σ.1 3 ≤ 10 ∧ σ.1 4 ≤ 6 ∧ σ.1 5 ≤ 6 ∧ σ.1 6 ≤ 1 ∧ σ.1 7 ≤ 1 ∧ (σ.1 6 = 1 → σ.1 8 ≤ 10) ∧ (σ.1 7 = 1 → σ.1 9 ≤ 10)) ∧
  (σ.2.1 1 0 = 0 ∧ ∀ i, i < 10 → ∃ k, k ≤ 6 ∧ σ.2.1 1 i = nI k - 3) ∧
  GI (σ.1 1) (σ.1 2) (σ.2.1 6) ∧ (∀ i, i < σ.1 3 → GI (σ.1 1) (σ.1 2) (σ.2.1 (20 + i))) ∧
  (σ.1 6 = 1 → GI (σ.1 1) (σ.1 2) (σ.2.1 13) ∧ ∀ i, i < σ.1 8 → GI (σ.1 1) (σ.1 2) (σ.2.1 (30 + i))) ∧
  (σ.1 7 = 1 → GI (σ.1 1) (σ.1 2) (σ.2.1 14) ∧ ∀ i, i < σ.1 9 → GI (σ.1 1) (σ.1 2) (σ.2.1 (40 + i))) ∧
  (∀ i, i < σ.1 4 → ∃ j, 1 ≤ j ∧ j ≤ 9 ∧ σ.2.1 8 i = nI j) ∧ (∃ c, c ≤ 40 ∧ σ.2.1 12 0 = nI c) ∧ (∀ i, i < σ.1 0 → ∃ b, b < 256 ∧ σ.2.1 0 i = nI b)
theorem XR_fr {h h1 : AH} {tl lo hi : Nat} {tx : Nat → Int32} (fr : Fr lo hi h h1) (hd : 4 ≤ lo) (r : XR h tl tx) : XR h1 tl tx := by
  obtain ⟨⟨a1, a2, a3, a4, a5, r0⟩, r1, f, r2⟩ := r
  exact ⟨⟨a1, a2, a3, a4, a5, (fr.2 _ (by omega)).trans r0⟩, (fr.2 _ (by omega)).trans r1, f, (fr.2 _ (by omega)).trans r2⟩
theorem SR_fr {h h1 : AH} {lo hi : Nat} (fr : Fr lo hi h h1) (hd : 46 ≤ lo ∨ hi ≤ 31) (r : SR h) : SR h1 := by
  obtain ⟨⟨a1, a2, a3, r0⟩, ⟨r, r1, r2⟩, ⟨f1, r3⟩, ⟨f2, r4⟩, ⟨g, r5, r6⟩, r7, r8⟩ := r
  refine ⟨⟨a1, a2, a3, (fr.2 _ (by omega)).trans r0⟩, ⟨r, (fr.2 _ (by omega)).trans r1, r2⟩, ⟨f1, (fr.2 _ (by omega)).trans r3⟩, ⟨f2, (fr.2 _ (by omega)).trans r4⟩, ⟨g, (fr.2 _ (by omega)).trans r5, r6⟩, fun i g1 g2 => ?_, fun i g1 g2 => ?_⟩
  · obtain ⟨f, q⟩ := r7 i g1 g2
    exact ⟨f, (fr.2 _ (by omega)).trans q⟩
  · obtain ⟨c, q, q2⟩ := r8 i g1 g2
    exact ⟨c, (fr.2 _ (by omega)).trans q, q2⟩
theorem OR_fr {h h1 : AH} {lo hi : Nat} (fr : Fr lo hi h h1) (hd : 49 ≤ lo ∨ hi ≤ 46) (r : OR_ h) : OR_ h1 := by
  obtain ⟨⟨al, r0⟩, ⟨f1, r1⟩, f2, r2⟩ := r
  exact ⟨⟨al, (fr.2 _ (by omega)).trans r0⟩, ⟨f1, (fr.2 _ (by omega)).trans r1⟩, f2, (fr.2 _ (by omega)).trans r2⟩
theorem CI_fr {h h1 : AH} {σ : Sp} {lo hi : Nat} (fr : Fr lo hi h h1) (hd : 86 ≤ lo) (hkn : σ.1 3 ≤ 10) (r : CI h σ) : CI h1 σ := by
  obtain ⟨r0, r1, ⟨ab, r2⟩, ⟨n, m, wi, we, br, li, fa, sta, ab', r3⟩, ⟨c4, r4, q4⟩, ⟨c5, r5, q5⟩, r6, ⟨rr, r7, q7⟩, r8, r9, r10, ⟨f11, r11⟩, ⟨f12, r12⟩, r13, r14⟩ := r
  exact ⟨(fr.2 _ (by omega)).trans r0, XR_fr fr (by omega) r1, ⟨ab, TR_fr fr (by omega) r2⟩, ⟨n, m, wi, we, br, li, fa, sta, ab', TR_fr fr (by omega) r3⟩, ⟨c4, (fr.2 _ (by omega)).trans r4, q4⟩, ⟨c5, (fr.2 _ (by omega)).trans r5, q5⟩, HR_fr fr hkn (by omega) r6, ⟨rr, (fr.2 _ (by omega)).trans r7, q7⟩, SR_fr fr (by omega) r8, OR_fr fr (by omega) r9, RR_fr fr (by omega) r10, ⟨f11, RR_fr fr (by omega) r11⟩, ⟨f12, (fr.2 _ (by omega)).trans r12⟩, IR_fr fr (by omega) r13, IR_fr fr (by omega) r14⟩
theorem MT_fr {h h1 : AH} {n m lo hi : Nat} {wi we br li fa : Nat → Int32} (fr : Fr lo hi h h1) (hd : 96 ≤ lo ∨ hi ≤ 86) (mt : MT h n m wi we br li fa) : MT h1 n m wi we br li fa := by
  obtain ⟨⟨sc, tc, h0⟩, ⟨f1, h1, e1⟩, ⟨f2, h2, e2⟩, ⟨f3, h3, e3⟩, ⟨f4, h4, e4⟩, ⟨f5, h5, e5⟩, ⟨f6, h6, e6⟩, ⟨f7, h7, e7⟩⟩ := mt
  exact ⟨⟨sc, tc, (fr.2 _ (by omega)).trans h0⟩, ⟨f1, (fr.2 _ (by omega)).trans h1, e1⟩, ⟨f2, (fr.2 _ (by omega)).trans h2, e2⟩, ⟨f3, (fr.2 _ (by omega)).trans h3, e3⟩, ⟨f4, (fr.2 _ (by omega)).trans h4, e4⟩, ⟨f5, (fr.2 _ (by omega)).trans h5, e5⟩, ⟨f6, (fr.2 _ (by omega)).trans h6, e6⟩, ⟨f7, (fr.2 _ (by omega)).trans h7, e7⟩⟩
theorem MI_fr {h h1 : AH} {σ : Sp} {lo hi : Nat} (fr : Fr lo hi h h1) (hd : hi ≤ 86) (r : MI h σ) : MI h1 σ := by
  obtain ⟨⟨sc, r0, q0⟩, ⟨f1, r1, q1⟩, r2, ⟨f3, r3⟩, ⟨f4, r4, q4⟩, r5, ⟨f6, r6, q6⟩, ⟨f7, r7, q7⟩, ⟨f8, r8, q8⟩, ⟨f9, r9, q9⟩, ⟨f10, r10⟩, ⟨f11, r11⟩, ⟨f12, r12, q12⟩, ⟨f13, r13, q13⟩, ⟨f14, r14, q14⟩, ⟨f15, r15, q15⟩, ⟨f16, r16, q16⟩⟩ := r
  exact ⟨⟨sc, (fr.2 _ (by omega)).trans r0, q0⟩, ⟨f1, (fr.2 _ (by omega)).trans r1, q1⟩, MT_fr fr (by omega) r2, ⟨f3, (fr.2 _ (by omega)).trans r3⟩, ⟨f4, (fr.2 _ (by omega)).trans r4, q4⟩, (fr.2 _ (by omega)).trans r5, ⟨f6, (fr.2 _ (by omega)).trans r6, q6⟩, ⟨f7, (fr.2 _ (by omega)).trans r7, q7⟩, ⟨f8, (fr.2 _ (by omega)).trans r8, q8⟩, ⟨f9, (fr.2 _ (by omega)).trans r9, q9⟩, ⟨f10, (fr.2 _ (by omega)).trans r10⟩, ⟨f11, (fr.2 _ (by omega)).trans r11⟩, ⟨f12, (fr.2 _ (by omega)).trans r12, q12⟩, ⟨f13, (fr.2 _ (by omega)).trans r13, q13⟩, ⟨f14, (fr.2 _ (by omega)).trans r14, q14⟩, ⟨f15, (fr.2 _ (by omega)).trans r15, q15⟩, ⟨f16, (fr.2 _ (by omega)).trans r16, q16⟩⟩
