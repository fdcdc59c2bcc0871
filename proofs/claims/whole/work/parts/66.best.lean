/-! the best turns: rows of choices, by blocks; what no row can pass -/
abbrev sP (σ : Sp) (g : Nat → Int32) : Nat → Int32 := sPass (σ.1 1) (σ.2.1 1) (σ.2.1 2) (σ.2.1 3) (σ.2.1 4) (σ.2.1 5) g
abbrev bOk (σ : Sp) (g : Nat → Int32) (c : Nat) : Prop := c = 0 ∨ ((c - 1) / 4 < σ.1 1 ∧ (c - 1) % 4 < σ.1 2 ∧ sCan g ((c - 1) / 4) ((c - 1) % 4))
def bSt (σ : Sp) (g : Nat → Int32) (c : Nat) : Nat → Int32 := if c = 0 then sP σ g else sP σ (sBegin g ((c - 1) / 4) ((c - 1) % 4))
def vN (w : Int32) (g : Nat → Int32) : Nat := if w = 0 then (g 1).toNatClampNeg else (g 2).toNatClampNeg
def gW (σ : Sp) (w : Int32) : Nat → (Nat → Int32) → Nat → Nat
  | 0 => fun g _ => vN w g + 1
  | r + 1 => fun g row => if bOk σ g (row / 13 ^ r % 13) then gW σ w r (bSt σ g (row / 13 ^ r % 13)) row else 0
def am2 (f : Nat → Nat) (acc : Nat × Nat) (lo : Nat) : Nat → Nat × Nat
  | 0 => acc
  | k + 1 => if (am2 f acc lo k).2 < f (lo + k) then (lo + k, f (lo + k)) else am2 f acc lo k
theorem am2_0 (f : Nat → Nat) : ∀ K, am f K = am2 f (0, 0) 0 K
  | 0 => rfl
  | K + 1 => by rw [am, am2, am2_0 f K, Nat.zero_add]
theorem am2_add (f : Nat → Nat) (acc : Nat × Nat) (lo a : Nat) : ∀ b, am2 f acc lo (a + b) = am2 f (am2 f acc lo a) (lo + a) b
  | 0 => rfl
  | b + 1 => by rw [← Nat.add_assoc, am2, am2_add f acc lo a b, am2, Nat.add_assoc]
theorem am2_le (f : Nat → Nat) (acc : Nat × Nat) (lo : Nat) : ∀ k, (∀ j, j < k → f (lo + j) ≤ acc.2) → am2 f acc lo k = acc
  | 0, _ => rfl
  | k + 1, h => by
    rw [am2, am2_le f acc lo k (fun j hj => h j (by omega)), if_neg (by have := h k (by omega); omega)]
theorem am2_congr (f f' : Nat → Nat) (acc : Nat × Nat) (lo : Nat) : ∀ k, (∀ j, j < k → f (lo + j) = f' (lo + j)) → am2 f acc lo k = am2 f' acc lo k
  | 0, _ => rfl
  | k + 1, h => by
    rw [am2, am2, am2_congr f f' acc lo k (fun j hj => h j (by omega)), h k (by omega)]
def bB (σ : Sp) (w : Int32) (r : Nat) (g : Nat → Int32) (acc : Nat × Nat) (pre : Nat) : Nat × Nat := am2 (gW σ w r g) acc (pre * 13 ^ r) (13 ^ r)
def bF (σ : Sp) (w : Int32) (r : Nat) (g : Nat → Int32) (pre : Nat) (acc : Nat × Nat) : Nat → Nat × Nat
  | 0 => acc
  | c + 1 => if bOk σ g c then bB σ w r (bSt σ g c) (bF σ w r g pre acc c) (pre * 13 + c) else bF σ w r g pre acc c
theorem blk_dg {P pre c j : Nat} (hc : c < 13) (hj : j < P) : ((pre * 13 + c) * P + j) / P % 13 = c := by
  have hP : 0 < P := by omega
  rw [Nat.mul_comm, Nat.mul_add_div hP, Nat.div_eq_of_lt hj, Nat.add_zero, Nat.mul_comm, Nat.mul_add_mod, Nat.mod_eq_of_lt hc]
theorem bB_c (σ : Sp) (w : Int32) (r : Nat) (g : Nat → Int32) (acc : Nat × Nat) (pre : Nat) : ∀ c, c ≤ 13 → am2 (gW σ w (r + 1) g) acc (pre * 13 ^ (r + 1)) (c * 13 ^ r) = bF σ w r g pre acc c
  | 0, _ => by rw [Nat.zero_mul]; rfl
  | c + 1, hc => by
    have ih := bB_c σ w r g acc pre c (by omega)
    have e1 : pre * 13 ^ (r + 1) + c * 13 ^ r = (pre * 13 + c) * 13 ^ r := by rw [Nat.pow_succ, Nat.add_mul, Nat.mul_assoc, Nat.mul_comm 13]
    rw [Nat.succ_mul, am2_add, ih, e1, bF]
    have hdg : ∀ j, j < 13 ^ r → ((pre * 13 + c) * 13 ^ r + j) / 13 ^ r % 13 = c := fun j hj => blk_dg (by omega) hj
    by_cases hok : bOk σ g c
    · rw [if_pos hok, bB]
      refine am2_congr _ _ _ _ _ (fun j hj => ?_)
      show (if bOk σ g (((pre * 13 + c) * 13 ^ r + j) / 13 ^ r % 13) then gW σ w r (bSt σ g (((pre * 13 + c) * 13 ^ r + j) / 13 ^ r % 13)) ((pre * 13 + c) * 13 ^ r + j) else 0) = _
      rw [hdg j hj, if_pos hok]
    · rw [if_neg hok]
      refine am2_le _ _ _ _ (fun j hj => ?_)
      show (if bOk σ g (((pre * 13 + c) * 13 ^ r + j) / 13 ^ r % 13) then gW σ w r (bSt σ g (((pre * 13 + c) * 13 ^ r + j) / 13 ^ r % 13)) ((pre * 13 + c) * 13 ^ r + j) else 0) ≤ _
      rw [hdg j hj, if_neg hok]
      exact Nat.zero_le _
theorem bB_s (σ : Sp) (w : Int32) (r : Nat) (g : Nat → Int32) (acc : Nat × Nat) (pre : Nat) : bB σ w (r + 1) g acc pre = bF σ w r g pre acc 13 := by
  rw [← bB_c σ w r g acc pre 13 (Nat.le_refl _), bB, Nat.pow_succ, Nat.mul_comm (13 ^ r) 13]
theorem bB_0 (σ : Sp) (w : Int32) (g : Nat → Int32) (acc : Nat × Nat) (pre : Nat) : bB σ w 0 g acc pre = if acc.2 < vN w g + 1 then (pre, vN w g + 1) else acc := by
  show (if acc.2 < vN w g + 1 then (pre * 13 ^ 0 + 0, vN w g + 1) else acc) = _
  rw [Nat.pow_zero, Nat.mul_one]
  rfl
/-! alike in eleven numbers is as good -/
theorem FE_begin {g g' : Nat → Int32} (he : FE g g') {p t : Nat} (hp : p < 3) : FE (sBegin g p t) (sBegin g' p t) := by
  intro k hk
  rw [sBegin, sBegin, he k hk, he (7 + p) (by omega)]
theorem FE_can {g g' : Nat → Int32} (he : FE g g') {p t : Nat} (hp : p < 3) : sCan g p t ↔ sCan g' p t := by
  have e1 := he 6 (by omega)
  have e2 := he (7 + p) (by omega)
  have e3 := he 10 (by omega)
  unfold sCan
  rw [e1, e2, e3]
theorem vN_FE {w : Int32} {g g' : Nat → Int32} (he : FE g g') : vN w g = vN w g' := by
  rw [vN, vN, he 1 (by omega), he 2 (by omega)]
theorem bOk_FE {σ : Sp} (hn : σ.1 1 ≤ 3) {g g' : Nat → Int32} (he : FE g g') (c : Nat) : bOk σ g c ↔ bOk σ g' c := by
  constructor
  · rintro (h | ⟨h1, h2, h3⟩)
    · exact Or.inl h
    · exact Or.inr ⟨h1, h2, (FE_can he (by omega)).mp h3⟩
  · rintro (h | ⟨h1, h2, h3⟩)
    · exact Or.inl h
    · exact Or.inr ⟨h1, h2, (FE_can he (by omega)).mpr h3⟩
theorem gW_FE {σ : Sp} (hn : σ.1 1 ≤ 3) (w : Int32) : ∀ r g g' row, FE g g' → gW σ w r g row = gW σ w r g' row
  | 0, g, g', row, he => by
    show vN w g + 1 = vN w g' + 1
    rw [vN_FE he]
  | r + 1, g, g', row, he => by
    show (if bOk σ g (row / 13 ^ r % 13) then gW σ w r (bSt σ g (row / 13 ^ r % 13)) row else 0) = if bOk σ g' (row / 13 ^ r % 13) then gW σ w r (bSt σ g' (row / 13 ^ r % 13)) row else 0
    generalize row / 13 ^ r % 13 = c
    by_cases hok : bOk σ g c
    · rw [if_pos hok, if_pos ((bOk_FE hn he c).mp hok)]
      refine gW_FE hn w r _ _ row ?_
      rw [bSt, bSt]
      by_cases h0 : c = 0
      · rw [if_pos h0, if_pos h0]; exact FE_pass he
      · rw [if_neg h0, if_neg h0]
        rcases hok with z | ⟨z, -, -⟩
        · exact absurd z h0
        · exact FE_pass (FE_begin he (by omega))
    · rw [if_neg hok, if_neg (fun q => hok ((bOk_FE hn he c).mpr q))]
theorem GI_bSt {σ : Sp} (si : SI σ) {g : Nat → Int32} (hg : GI (σ.1 1) (σ.1 2) g) {c : Nat} (hok : bOk σ g c) : GI (σ.1 1) (σ.1 2) (bSt σ g c) := by
  rw [bSt]
  by_cases h0 : c = 0
  · rw [if_pos h0]; exact GI_pass hg
  · rw [if_neg h0]
    rcases hok with z | ⟨z1, z2, -⟩
    · exact absurd z h0
    · exact GI_pass (GI_begin hg z1 z2 si.1.2.1 si.1.2.2.1)
theorem vN_le {n m : Nat} {w : Int32} {g : Nat → Int32} (hg : GI n m g) : vN w g ≤ 40 := by
  obtain ⟨⟨c, hc, e1⟩, ⟨k, hk, e2⟩, -⟩ := hg
  rw [vN, e1, e2, nI_clamp (by omega), nI_clamp (by omega)]
  split <;> omega
theorem gW_le {σ : Sp} (si : SI σ) (w : Int32) : ∀ r g row, GI (σ.1 1) (σ.1 2) g → gW σ w r g row ≤ 41
  | 0, g, row, hg => by
    have := vN_le (w := w) hg
    show vN w g + 1 ≤ 41
    omega
  | r + 1, g, row, hg => by
    show (if bOk σ g (row / 13 ^ r % 13) then gW σ w r (bSt σ g (row / 13 ^ r % 13)) row else 0) ≤ 41
    by_cases hok : bOk σ g (row / 13 ^ r % 13)
    · rw [if_pos hok]; exact gW_le si w r _ row (GI_bSt si hg hok)
    · rw [if_neg hok]; omega
/-! the bound -/
theorem cl_int (N : Nat) (hN : N < 1000) (x : Int32) : (sClamp 0 (nI N) x).toInt = max 0 (min (N : Int) x.toInt) := by
  have hz : (0 : Int32).toInt = 0 := by decide
  have hNi : (nI N).toInt = N := nI_toInt (by omega)
  unfold sClamp
  by_cases h1 : x < nI N
  · have a := Int32.lt_iff_toInt_lt.mp h1
    rw [if_pos h1]
    by_cases h2 : 0 < x
    · have b := Int32.lt_iff_toInt_lt.mp h2
      rw [if_pos h2]; omega
    · have b := Int32.le_iff_toInt_le.mp (Int32.not_lt.mp h2)
      rw [if_neg h2]; omega
  · have a := Int32.le_iff_toInt_le.mp (Int32.not_lt.mp h1)
    rw [if_neg h1]
    by_cases h2 : 0 < nI N
    · rw [if_pos h2]; omega
    · have b := Int32.le_iff_toInt_le.mp (Int32.not_lt.mp h2)
      rw [if_neg h2]; omega
abbrev wI (σ : Sp) (y : Nat) : Int := (σ.2.1 1 y).toInt
theorem wI_bd {σ : Sp} (si : SI σ) {y : Nat} (hy : y < 10) : -3 ≤ wI σ y ∧ wI σ y ≤ 3 := by
  obtain ⟨k, hk, e⟩ := si.2.1.2 y hy
  have key : ∀ k, k < 7 → -3 ≤ (nI k - 3).toInt ∧ (nI k - 3).toInt ≤ 3 := by decide +kernel
  show -3 ≤ (σ.2.1 1 y).toInt ∧ (σ.2.1 1 y).toInt ≤ 3
  rw [e]
  exact key k (by omega)
theorem he_near (more : Int32) (k : Nat) (hk : k ≤ 9) : ∃ k', k' ≤ 9 ∧ k' ≤ k + 1 ∧ k ≤ k' + 1 ∧ sHe more (nI k) = nI k' := by
  have h1 : ∀ k, k < 10 → ∃ k', k' < 10 ∧ (k' ≤ k + 1 ∧ k ≤ k' + 1 ∧ sClamp 0 9 (nI k + 1) = nI k') := by decide +kernel
  have h2 : ∀ k, k < 10 → ∃ k', k' < 10 ∧ (k' ≤ k + 1 ∧ k ≤ k' + 1 ∧ sClamp 0 9 (nI k + -1) = nI k') := by decide +kernel
  have h3 : ∀ k, k < 10 → ∃ k', k' < 10 ∧ (k' ≤ k + 1 ∧ k ≤ k' + 1 ∧ sClamp 0 9 (nI k + 0) = nI k') := by decide +kernel
  rw [sHe, sUp]
  split
  · obtain ⟨k', a, b, c, e⟩ := h1 k (by omega); exact ⟨k', by omega, b, c, e⟩
  · split
    · obtain ⟨k', a, b, c, e⟩ := h2 k (by omega); exact ⟨k', by omega, b, c, e⟩
    · obtain ⟨k', a, b, c, e⟩ := h3 k (by omega); exact ⟨k', by omega, b, c, e⟩
theorem pass_facts {σ : Sp} (si : SI σ) {g : Nat → Int32} (hl : ¬ g 10 = 1) {c k : Nat} (hc : c ≤ 40) (hk : k ≤ 9) (e1 : g 1 = nI c) (e2 : g 2 = nI k) : ∃ c' k' : Nat, c' ≤ 40 ∧ k' ≤ 9 ∧ k' ≤ k + 1 ∧ k ≤ k' + 1 ∧ sP σ g 1 = nI c' ∧ sP σ g 2 = nI k' ∧ (c' : Int) = max 0 (min 40 (c + wI σ k')) ∧ (¬ sP σ g 10 = 1 → (c' : Int) = c + wI σ k') ∧ (sP σ g 10 = 1 → (c : Int) + wI σ k' < 0 ∨ 40 < (c : Int) + wI σ k') := by
  obtain ⟨k', a1, a2, a3, a4⟩ := he_near (sMore (σ.1 1) (σ.2.1 2) (σ.2.1 3) (σ.2.1 4) (σ.2.1 5) g) k hk
  have et : sTo (σ.1 1) (σ.2.1 1) (σ.2.1 2) (σ.2.1 3) (σ.2.1 4) (σ.2.1 5) g = nI c + σ.2.1 1 k' := by
    rw [sTo, e1, e2, a4, nI_clamp (by omega)]
  obtain ⟨w1, w2⟩ := wI_bd si (show k' < 10 by omega)
  have ei : (nI c + σ.2.1 1 k').toInt = c + wI σ k' := by
    rw [Int32.toInt_add, nI_toInt (by omega)]
    refine Int.bmod_eq_of_le ?_ ?_
    · show -((2 ^ 32 : Nat) : Int) / 2 ≤ (c : Int) + wI σ k'
      omega
    · show (c : Int) + wI σ k' < (((2 ^ 32 : Nat) : Int) + 1) / 2
      omega
  have p1 : sP σ g 1 = sClamp 0 40 (nI c + σ.2.1 1 k') := by
    show sPass _ _ _ _ _ _ g 1 = _
    rw [sPass, if_neg (by omega), if_neg (by omega), if_neg hl, if_neg (by omega), if_pos rfl, et]
  have p2 : sP σ g 2 = nI k' := by
    show sPass _ _ _ _ _ _ g 2 = _
    rw [sPass, if_neg (by omega), if_neg (by omega), if_neg hl, if_pos rfl, e2, a4]
  have p10 : sP σ g 10 = if sClamp 0 40 (nI c + σ.2.1 1 k') = nI c + σ.2.1 1 k' then 0 else 1 := by
    show sPass _ _ _ _ _ _ g 10 = _
    rw [sPass, if_neg (by omega), if_neg (by omega), if_neg hl, if_neg (by omega), if_neg (by omega), if_pos rfl, et]
  obtain ⟨c', b1, b2⟩ := sClamp_in 40 (by decide) (nI c + σ.2.1 1 k')
  have b2' : sClamp 0 40 (nI c + σ.2.1 1 k') = nI c' := b2
  have hci := cl_int 40 (by decide) (nI c + σ.2.1 1 k')
  have hci' : (c' : Int) = max 0 (min 40 (c + wI σ k')) := by
    rw [b2, nI_toInt (by omega), ei] at hci
    exact hci
  refine ⟨c', k', b1, a1, a2, a3, p1.trans b2', p2, hci', fun hne => ?_, fun hne => ?_⟩
  rotate_left
  · rw [p10] at hne
    by_cases hs : sClamp 0 40 (nI c + σ.2.1 1 k') = nI c + σ.2.1 1 k'
    · rw [if_pos hs] at hne
      exact absurd hne (by decide)
    · refine Classical.byContradiction (fun hn => hs (Int32.toInt_inj.mp ?_))
      rw [b2', nI_toInt (by omega), ei]
      omega
  rw [p10] at hne
  by_cases hs : sClamp 0 40 (nI c + σ.2.1 1 k') = nI c + σ.2.1 1 k'
  · have := congrArg Int32.toInt hs
    rw [b2', nI_toInt (by omega), ei] at this
    exact this
  · rw [if_neg hs] at hne
    exact absurd rfl hne
/-- the row of reaches: what is asked of it -/
def RP (σ : Sp) (R : Nat → Nat → Int) : Prop := (∀ x, x < 10 → R 0 x = 0) ∧ ∀ l, l < 4 → ∀ x, x < 10 → ∀ y, y < 10 → y ≤ x + 1 → x ≤ y + 1 → wI σ y + R l y ≤ R (l + 1) x
theorem RP_pos {σ : Sp} {R : Nat → Nat → Int} (rp : RP σ R) {y : Nat} (hy : y < 10) (hw : 0 ≤ wI σ y) : ∀ l, l ≤ 4 → 0 ≤ R l y
  | 0, _ => by rw [rp.1 y hy]; omega
  | l + 1, hl => by
    have ih := RP_pos rp hy hw l (by omega)
    have := rp.2 l (by omega) y hy y hy (by omega) (by omega)
    omega
def bI (R : Nat → Nat → Int) (w : Int32) (r : Nat) (g : Nat → Int32) : Int := if w = 0 then max 0 (min 40 (((g 1).toNatClampNeg : Int) + R (if g 10 = 1 then 0 else r) (g 2).toNatClampNeg)) else min 9 (((g 2).toNatClampNeg : Int) + ((if g 10 = 1 then 0 else r : Nat) : Int))
theorem bI_step {σ : Sp} (si : SI σ) {R : Nat → Nat → Int} (rp : RP σ R) (w : Int32) {r : Nat} (hr : r < 4) {g : Nat → Int32} (hg : GI (σ.1 1) (σ.1 2) g) : bI R w r (sP σ g) ≤ bI R w (r + 1) g := by
  obtain ⟨⟨c, hc, e1⟩, ⟨k, hk, e2⟩, -, h10, -⟩ := hg
  by_cases hl : g 10 = 1
  · have p1 : sP σ g 1 = g 1 := by
      show sPass _ _ _ _ _ _ g 1 = _
      rw [sPass, if_neg (by omega), if_neg (by omega), if_pos hl]
    have p2 : sP σ g 2 = g 2 := by
      show sPass _ _ _ _ _ _ g 2 = _
      rw [sPass, if_neg (by omega), if_neg (by omega), if_pos hl]
    have p10 : sP σ g 10 = g 10 := by
      show sPass _ _ _ _ _ _ g 10 = _
      rw [sPass, if_neg (by omega), if_neg (by omega), if_pos hl]
    rw [bI, bI, p1, p2, p10, if_pos hl, if_pos hl]
    exact Int.le_refl _
  · obtain ⟨c', k', a1, a2, a3, a4, a5, a6, a7, a8, a9⟩ := pass_facts si hl hc hk e1 e2
    rw [bI, bI, a5, a6, e1, e2, if_neg hl, nI_clamp (by omega), nI_clamp (by omega), nI_clamp (by omega), nI_clamp (by omega)]
    have hR := rp.2 r hr k (by omega) k' (by omega) a3 a4
    by_cases hw : w = 0
    · rw [if_pos hw, if_pos hw]
      by_cases hl' : sP σ g 10 = 1
      · rw [if_pos hl', rp.1 k' (by omega)]
        by_cases hwp : 0 ≤ wI σ k'
        · have := RP_pos rp (show k' < 10 by omega) hwp r (by omega)
          omega
        · have := a9 hl'
          omega
      · rw [if_neg hl']
        have := a8 hl'
        omega
    · rw [if_neg hw, if_neg hw]
      by_cases hl' : sP σ g 10 = 1
      · rw [if_pos hl']; omega
      · rw [if_neg hl']; omega
theorem gW_bI {σ : Sp} (si : SI σ) {R : Nat → Nat → Int} (rp : RP σ R) (w : Int32) : ∀ r, r ≤ 4 → ∀ g row, GI (σ.1 1) (σ.1 2) g → (gW σ w r g row : Int) ≤ bI R w r g + 1
  | 0, _, g, row, hg => by
    obtain ⟨⟨c, hc, e1⟩, ⟨k, hk, e2⟩, -⟩ := hg
    show ((vN w g + 1 : Nat) : Int) ≤ _
    rw [vN, bI, e1, e2, nI_clamp (by omega), nI_clamp (by omega)]
    have : R (if g 10 = 1 then 0 else 0) k = 0 := by
      rw [show (if g 10 = 1 then 0 else 0 : Nat) = 0 by split <;> rfl]; exact rp.1 k (by omega)
    by_cases hw : w = 0
    · rw [if_pos hw, if_pos hw, this]; omega
    · rw [if_neg hw, if_neg hw]; split <;> omega
  | r + 1, hr, g, row, hg => by
    show ((if bOk σ g (row / 13 ^ r % 13) then gW σ w r (bSt σ g (row / 13 ^ r % 13)) row else 0 : Nat) : Int) ≤ _
    generalize row / 13 ^ r % 13 = c
    by_cases hok : bOk σ g c
    · rw [if_pos hok]
      have ih := gW_bI si rp w r (by omega) (bSt σ g c) row (GI_bSt si hg hok)
      have hst : bI R w r (bSt σ g c) ≤ bI R w (r + 1) g := by
        rw [bSt]
        by_cases h0 : c = 0
        · rw [if_pos h0]; exact bI_step si rp w (by omega) hg
        · rw [if_neg h0]
          rcases hok with z | ⟨z1, z2, -⟩
          · exact absurd z h0
          · have hb := bI_step si rp w (show r < 4 by omega) (GI_begin hg z1 z2 si.1.2.1 si.1.2.2.1)
            have q1 : sBegin g ((c - 1) / 4) ((c - 1) % 4) 1 = g 1 := by rw [sBegin, if_neg (by omega), if_neg (by omega), if_neg (by omega), if_neg (by omega)]
            have q2 : sBegin g ((c - 1) / 4) ((c - 1) % 4) 2 = g 2 := by rw [sBegin, if_neg (by omega), if_neg (by omega), if_neg (by omega), if_neg (by omega)]
            have hn := si.1.2.1
            have q10 : sBegin g ((c - 1) / 4) ((c - 1) % 4) 10 = g 10 := by rw [sBegin, if_neg (by omega), if_neg (by omega), if_neg (by omega), if_neg (by omega)]
            have eb : bI R w (r + 1) (sBegin g ((c - 1) / 4) ((c - 1) % 4)) = bI R w (r + 1) g := by rw [bI, bI, q1, q2, q10]
            rw [eb] at hb
            exact hb
      omega
    · rw [if_neg hok]
      obtain ⟨⟨c, hc, e1⟩, ⟨k, hk, e2⟩, -⟩ := hg
      rw [bI, e1, e2, nI_clamp (by omega), nI_clamp (by omega)]
      split <;> omega
theorem bB_prune {σ : Sp} (si : SI σ) {R : Nat → Nat → Int} (rp : RP σ R) (w : Int32) {r : Nat} (hr : r ≤ 4) {g : Nat → Int32} (hg : GI (σ.1 1) (σ.1 2) g) (acc : Nat × Nat) (pre : Nat) (h : bI R w r g + 1 ≤ acc.2) : bB σ w r g acc pre = acc :=
  am2_le _ _ _ _ (fun j _ => by have := gW_bI si rp w r hr g (pre * 13 ^ r + j) hg; omega)
