/-! best: the object; the reaches, the bound -/
theorem T_up {X : EX} {d d' : Nat} {M : Mt} {pc : Nat} {ls st : List Value} {h : AH} {Q : Option Value → AH → Prop} (hd : d ≤ d') (k : T X d M pc ls st h Q) : T X d' M pc ls st h Q := by
  obtain ⟨r, h1, q, w⟩ := k
  exact ⟨r, h1, q, w.1, fun p e R s m args below meth c H locs cells slots Q n0 s0 l a1 a2 a3 => w.2 p e R s m args below meth c H locs cells slots Q n0 s0 l a1 (Nat.le_trans hd a2) (Nat.le_trans (Nat.mul_le_mul_left 60 hd) a3)⟩
theorem i_bmod {a : Int} (h1 : -1000000 ≤ a) (h2 : a ≤ 1000000) : a.bmod (2 ^ 32) = a := by
  refine Int.bmod_eq_of_le ?_ ?_
  · show -((2 ^ 32 : Nat) : Int) / 2 ≤ a
    omega
  · show a < (((2 ^ 32 : Nat) : Int) + 1) / 2
    omega
theorem i_addI {x y : Int32} (h1 : -1000000 ≤ x.toInt + y.toInt) (h2 : x.toInt + y.toInt ≤ 1000000) : (x + y).toInt = x.toInt + y.toInt := by
  rw [Int32.toInt_add]; exact i_bmod h1 h2
theorem i_maxI (x y : Int32) : (if x < y then y else x).toInt = max x.toInt y.toInt := by
  by_cases h : x < y
  · have := Int32.lt_iff_toInt_lt.mp h
    rw [if_pos h]; omega
  · have := Int32.le_iff_toInt_le.mp (Int32.not_lt.mp h)
    rw [if_neg h]; omega
theorem i_minI (x y : Int32) : (if y < x then y else x).toInt = min x.toInt y.toInt := by
  by_cases h : y < x
  · have := Int32.lt_iff_toInt_lt.mp h
    rw [if_pos h]; omega
  · have := Int32.le_iff_toInt_le.mp (Int32.not_lt.mp h)
    rw [if_neg h]; omega
theorem s_lo : ∀ x, x < 10 → (if (0 : Int32) < nI x - 1 then nI x - 1 else 0) = nI (x - 1) := by decide +kernel
theorem s_hi : ∀ x, x < 10 → (if nI x + 1 < (9 : Int32) then nI x + 1 else 9) = nI (min 9 (x + 1)) := by decide +kernel
/-- one reach: it passes what the heights beside it bring -/
def CX (σ : Sp) (prev : Nat → Int32) (l x lo hi : Nat) (v : Int32) : Prop := (∀ y, y < 10 → lo ≤ y → y < hi → wI σ y + (prev y).toInt ≤ v.toInt) ∧ -(3 * (l : Int)) ≤ v.toInt ∧ v.toInt ≤ 3 * (l : Int)
def GF (σ : Sp) (F : Nat → Nat → Int32) (L : Nat) : Prop := (∀ x, x < 10 → F 0 x = 0) ∧ ∀ l, l + 1 < L → ∀ x, x < 10 → CX σ (F l) (l + 1) x (x - 1) (x + 2) (F (l + 1) x)
def HF (h : AH) (F : Nat → Nat → Int32) : Prop := ∀ l, l < 5 → h.2 (36 + l) = some (.inl (0, 10, F l))
def upF (F : Nat → Nat → Int32) (l : Nat) (f : Nat → Int32) : Nat → Nat → Int32 := fun j => if j = l then f else F j
theorem HF_put {h : AH} {F : Nat → Nat → Int32} {l : Nat} {f : Nat → Int32} (hf : HF h F) : HF (e_put h (36 + l) (.inl (0, 10, f))) (upF F l f) := by
  intro j hj
  by_cases e : j = l
  · subst e
    rw [upF, if_pos rfl]; exact e_put_s
  · rw [upF, if_neg e]; exact (e_put_n (by omega)).trans (hf j hj)
theorem GF_bd {σ : Sp} {F : Nat → Nat → Int32} {L : Nat} (gf : GF σ F L) {l x : Nat} (hl : l < L) (hx : x < 10) : -(3 * (l : Int)) ≤ (F l x).toInt ∧ (F l x).toInt ≤ 3 * (l : Int) := by
  cases l with
  | zero =>
    rw [gf.1 x hx, show (0 : Int32).toInt = 0 by decide]
    exact ⟨by omega, by omega⟩
  | succ l => exact (gf.2 l hl x hx).2
theorem RP_GF {σ : Sp} {F : Nat → Nat → Int32} (gf : GF σ F 5) : RP σ (fun l x => (F l x).toInt) := by
  refine ⟨fun x hx => ?_, fun l hl x hx y hy h1 h2 => ?_⟩
  · show (F 0 x).toInt = 0
    rw [gf.1 x hx]; decide
  · exact (gf.2 l (by omega) x hx).1 y hy (by omega) (by omega)
section BEST3
variable (X : EX) (d : Nat) (h : AH) (σ : Sp) (tu wh gr : Int32)
theorem l_fill1 (si : SI σ) (r35 : Nat → Option Nat) (hr35 : ∀ i, i < 5 → r35 i = some (36 + i)) (h31 : h.2 31 = some (oSe tu wh gr)) (h35 : h.2 35 = some (.inr (.inl (5, 5, r35)))) (ab : Int32) (tr : TR h 4 (σ.1 1) (σ.1 2) (σ.2.1 1) (σ.2.1 2) (σ.2.1 3) (σ.2.1 4) (σ.2.1 5) (σ.2.1 12 0) ab) (k x : Nat) (hk4 : k < 4) (hx9 : x < 10) (Q : Option Value → AH → Prop) (hk : ∀ h1 F, Fr 36 41 h h1 → HF h1 F → GF σ F (k + 1) → (∀ x', x' < x + 1 → CX σ (F k) (k + 1) x' (x' - 1) (x' + 2) (F (k + 1) x')) → T X (d + 2) M_Se_fillReach 114 [.ref 31, .ref 4, .int (nI (k + 1)), .int (nI x), .null] [] h1 Q) : ∀ (j y0 : Nat), y0 + j = min 9 (x + 1) + 1 → x - 1 ≤ y0 → ∀ h1 F, Fr 36 41 h h1 → HF h1 F → GF σ F (k + 1) → (∀ x', x' < x → CX σ (F k) (k + 1) x' (x' - 1) (x' + 2) (F (k + 1) x')) → CX σ (F k) (k + 1) x (x - 1) y0 (F (k + 1) x) → T X (d + 2) M_Se_fillReach 58 [.ref 31, .ref 4, .int (nI (k + 1)), .int (nI x), .int (nI y0)] [] h1 Q
  | 0, y0, hy, hy1, h1, F, fr, hf, gf, hx', hcx => by
    have hh31 := (fr.2 31 (by decide)).trans h31
    refine T_iload (pc' := 60) d_Se_fillReach_58 rfl rfl ?_
    refine T_bipush (v := 9) (pc' := 62) d_Se_fillReach_60 rfl (by decide) ?_
    refine T_iload_n (pc' := 63) d_Se_fillReach_62 rfl rfl rfl ?_
    refine T_iconst (v := 1) (pc' := 64) d_Se_fillReach_63 rfl (by decide) ?_
    refine T_iadd (pc' := 65) d_Se_fillReach_64 rfl ?_
    refine T_mmin (pc' := 68) d_Se_fillReach_65 rfl l_Se_30 (Nat.le_of_ble_eq_true rfl) ?_
    rw [s_hi x hx9]
    refine T_icmp_gt (pc' := 71) (tgt := 114) d_Se_fillReach_68 rfl (by decide) (fun _ => ?_) (fun hzz => absurd (nI_lt (by omega) (by omega)) hzz)
    refine T_fg (by simp [e_le]) (hk h1 F fr hf gf (fun x' hl => ?_))
    by_cases e : x' = x
    · subst e
      refine ⟨fun y g1 g2 g3 => hcx.1 y g1 g2 (by omega), hcx.2⟩
    · exact hx' x' (by omega)
  | j + 1, y0, hy, hy1, h1, F, fr, hf, gf, hx', hcx => by
    have ih := l_fill1 si r35 hr35 h31 h35 ab tr k x hk4 hx9 Q hk j (y0 + 1) (by omega) (by omega)
    have hh31 := (fr.2 31 (by decide)).trans h31
    have hh35 := (fr.2 35 (by decide)).trans h35
    have tr1 := TR_fr fr (by decide) tr
    have t0 := tr1.1
    obtain ⟨w1, w2⟩ := wI_bd si (show y0 < 10 by omega)
    obtain ⟨b1, b2⟩ := GF_bd gf (show k < k + 1 by omega) (show y0 < 10 by omega)
    refine T_iload (pc' := 60) d_Se_fillReach_58 rfl rfl ?_
    refine T_bipush (v := 9) (pc' := 62) d_Se_fillReach_60 rfl (by decide) ?_
    refine T_iload_n (pc' := 63) d_Se_fillReach_62 rfl rfl rfl ?_
    refine T_iconst (v := 1) (pc' := 64) d_Se_fillReach_63 rfl (by decide) ?_
    refine T_iadd (pc' := 65) d_Se_fillReach_64 rfl ?_
    refine T_mmin (pc' := 68) d_Se_fillReach_65 rfl l_Se_30 (Nat.le_of_ble_eq_true rfl) ?_
    rw [s_hi x hx9]
    refine T_icmp_gt (pc' := 71) (tgt := 114) d_Se_fillReach_68 rfl (by decide) (fun hzz => absurd hzz (nI_nlt (by omega) (by omega))) (fun _ => ?_)
    refine T_aload_n (pc' := 72) d_Se_fillReach_71 rfl rfl rfl ?_
    refine T_get (pc' := 75) d_Se_fillReach_72 rfl g_Se_26 (by first | assumption | exact e_put_s | simp [e_put, *]) rfl ?_
    refine T_iload_n (pc' := 76) d_Se_fillReach_75 rfl rfl rfl ?_
    refine T_aaloadN (k + 1) (pc' := 77) d_Se_fillReach_76 rfl hh35 (by decide) ⟨by omega, by decide⟩ (hr35 (k + 1) (by omega)) ?_
    refine T_iload_n (pc' := 78) d_Se_fillReach_77 rfl rfl rfl ?_
    refine T_aload_n (pc' := 79) d_Se_fillReach_78 rfl rfl rfl ?_
    refine T_get (pc' := 82) d_Se_fillReach_79 rfl g_Se_26 (by first | assumption | exact e_put_s | simp [e_put, *]) rfl ?_
    refine T_iload_n (pc' := 83) d_Se_fillReach_82 rfl rfl rfl ?_
    refine T_aaloadN (k + 1) (pc' := 84) d_Se_fillReach_83 rfl hh35 (by decide) ⟨by omega, by decide⟩ (hr35 (k + 1) (by omega)) ?_
    refine T_iload_n (pc' := 85) d_Se_fillReach_84 rfl rfl rfl ?_
    refine T_ialoadN x (pc' := 86) d_Se_fillReach_85 rfl (hf (k + 1) (by omega)) ⟨by omega, by decide⟩ ?_
    refine T_aload_n (pc' := 87) d_Se_fillReach_86 rfl rfl rfl ?_
    refine T_iload (pc' := 89) d_Se_fillReach_87 rfl rfl ?_
    refine T_V1i (pc' := 92) d_Se_fillReach_89 rfl l_Se_64 v_To_windAt (by first | assumption | exact e_put_s | simp [e_put, *]) (Nat.le_of_ble_eq_true rfl) (c_To_windAt X _ h1 4 _ _ _ _ _ _ _ _ _ (nI y0) y0 (by omega) rfl tr1) (fun v h2 hq => ?_)
    obtain ⟨rfl, rfl⟩ := hq
    rw [nI_clamp (by omega)]
    refine T_aload_n (pc' := 93) d_Se_fillReach_92 rfl rfl rfl ?_
    refine T_get (pc' := 96) d_Se_fillReach_93 rfl g_Se_26 (by first | assumption | exact e_put_s | simp [e_put, *]) rfl ?_
    refine T_iload_n (pc' := 97) d_Se_fillReach_96 rfl rfl rfl ?_
    refine T_iconst (v := 1) (pc' := 98) d_Se_fillReach_97 rfl (by decide) ?_
    refine T_isub (pc' := 99) d_Se_fillReach_98 rfl ?_
    rw [nI_pred]
    refine T_aaloadN k (pc' := 100) d_Se_fillReach_99 rfl hh35 (by decide) ⟨by omega, by decide⟩ (hr35 k (by omega)) ?_
    refine T_iload (pc' := 102) d_Se_fillReach_100 rfl rfl ?_
    refine T_ialoadN y0 (pc' := 103) d_Se_fillReach_102 rfl (hf k (by omega)) ⟨by omega, by decide⟩ ?_
    refine T_iadd (pc' := 104) d_Se_fillReach_103 rfl ?_
    refine T_mmax (pc' := 107) d_Se_fillReach_104 rfl l_Se_70 (Nat.le_of_ble_eq_true rfl) ?_
    have es : (σ.2.1 1 y0 + F k y0).toInt = wI σ y0 + (F k y0).toInt := i_addI (by show -1000000 ≤ wI σ y0 + _; omega) (by show wI σ y0 + _ ≤ 1000000; omega)
    have em := i_maxI (F (k + 1) x) (σ.2.1 1 y0 + F k y0)
    rw [es] at em
    generalize hV : (if F (k + 1) x < σ.2.1 1 y0 + F k y0 then σ.2.1 1 y0 + F k y0 else F (k + 1) x) = V at em
    refine T_iastoreN x (pc' := 108) d_Se_fillReach_107 rfl (hf (k + 1) (by omega)) ⟨by omega, by decide⟩ ?_
    refine T_ii4 (c := 1) (pc' := 111) d_Se_fillReach_108 rfl (by decide) (Nat.le_of_ble_eq_true rfl) rfl ?_
    rw [nI_1]
    refine T_goto (pc' := 58) d_Se_fillReach_111 (by decide) ?_
    have eF : ∀ l, l ≤ k → upF F (k + 1) (e_up (F (k + 1)) x V) l = F l := fun l hl => if_neg (by omega)
    have eF1 : upF F (k + 1) (e_up (F (k + 1)) x V) (k + 1) = e_up (F (k + 1)) x V := if_pos rfl
    refine ih _ _ (fr.put ⟨by omega, by omega⟩) (HF_put hf) ⟨fun z hz => ?_, fun l hl z hz => ?_⟩ (fun x' hl => ?_) ?_
    · rw [eF 0 (by omega)]; exact gf.1 z hz
    · rw [eF l (by omega), eF (l + 1) (by omega)]; exact gf.2 l hl z hz
    · rw [eF k (by omega), eF1, e_upL, if_neg (by omega)]; exact hx' x' hl
    · rw [eF k (by omega), eF1, e_upL, if_pos rfl]
      obtain ⟨c1, c2, c3⟩ := hcx
      refine ⟨fun y g1 g2 g3 => ?_, by rw [em]; omega, by rw [em]; omega⟩
      rw [em]
      by_cases e : y = y0
      · subst e; omega
      · have := c1 y g1 g2 (by omega)
        omega
theorem l_fill2 (si : SI σ) (r35 : Nat → Option Nat) (hr35 : ∀ i, i < 5 → r35 i = some (36 + i)) (h31 : h.2 31 = some (oSe tu wh gr)) (h35 : h.2 35 = some (.inr (.inl (5, 5, r35)))) (ab : Int32) (tr : TR h 4 (σ.1 1) (σ.1 2) (σ.2.1 1) (σ.2.1 2) (σ.2.1 3) (σ.2.1 4) (σ.2.1 5) (σ.2.1 12 0) ab) (k : Nat) (hk4 : k < 4) (Q : Option Value → AH → Prop) (hk : ∀ h1 F, Fr 36 41 h h1 → HF h1 F → GF σ F (k + 2) → T X (d + 2) M_Se_fillReach 120 [.ref 31, .ref 4, .int (nI (k + 1)), .null, .null] [] h1 Q) : ∀ (j x : Nat), x + j = 10 → ∀ h1 F, Fr 36 41 h h1 → HF h1 F → GF σ F (k + 1) → (∀ x', x' < x → CX σ (F k) (k + 1) x' (x' - 1) (x' + 2) (F (k + 1) x')) → T X (d + 2) M_Se_fillReach 19 [.ref 31, .ref 4, .int (nI (k + 1)), .int (nI x), .null] [] h1 Q
  | 0, x, hx, h1, F, fr, hf, gf, hx' => by
    have : x = 10 := by omega
    subst this
    refine T_iload_n (pc' := 20) d_Se_fillReach_19 rfl rfl rfl ?_
    refine T_bipush (v := 9) (pc' := 22) d_Se_fillReach_20 rfl (by decide) ?_
    refine T_icmp_gt (pc' := 25) (tgt := 120) d_Se_fillReach_22 rfl (by decide) (fun _ => ?_) (fun hzz => absurd (by decide) hzz)
    refine T_fg (by simp [e_le]) (hk h1 F fr hf ⟨gf.1, fun l hl z hz => ?_⟩)
    by_cases e : l = k
    · subst e; exact hx' z hz
    · exact gf.2 l (by omega) z hz
  | j + 1, x, hx, h1, F, fr, hf, gf, hx' => by
    have ih := l_fill2 si r35 hr35 h31 h35 ab tr k hk4 Q hk j (x + 1) (by omega)
    have hh31 := (fr.2 31 (by decide)).trans h31
    have hh35 := (fr.2 35 (by decide)).trans h35
    have tr1 := TR_fr fr (by decide) tr
    have t0 := tr1.1
    obtain ⟨w1, w2⟩ := wI_bd si (show x < 10 by omega)
    obtain ⟨b1, b2⟩ := GF_bd gf (show k < k + 1 by omega) (show x < 10 by omega)
    refine T_iload_n (pc' := 20) d_Se_fillReach_19 rfl rfl rfl ?_
    refine T_bipush (v := 9) (pc' := 22) d_Se_fillReach_20 rfl (by decide) ?_
    refine T_icmp_gt (pc' := 25) (tgt := 120) d_Se_fillReach_22 rfl (by decide) (fun hzz => absurd hzz (nI_nlt (a := 9) (b := x) (by omega) (by decide))) (fun _ => ?_)
    refine T_aload_n (pc' := 26) d_Se_fillReach_25 rfl rfl rfl ?_
    refine T_get (pc' := 29) d_Se_fillReach_26 rfl g_Se_26 (by first | assumption | exact e_put_s | simp [e_put, *]) rfl ?_
    refine T_iload_n (pc' := 30) d_Se_fillReach_29 rfl rfl rfl ?_
    refine T_aaloadN (k + 1) (pc' := 31) d_Se_fillReach_30 rfl hh35 (by decide) ⟨by omega, by decide⟩ (hr35 (k + 1) (by omega)) ?_
    refine T_iload_n (pc' := 32) d_Se_fillReach_31 rfl rfl rfl ?_
    refine T_aload_n (pc' := 33) d_Se_fillReach_32 rfl rfl rfl ?_
    refine T_iload_n (pc' := 34) d_Se_fillReach_33 rfl rfl rfl ?_
    refine T_V1i (pc' := 37) d_Se_fillReach_34 rfl l_Se_64 v_To_windAt (by first | assumption | exact e_put_s | simp [e_put, *]) (Nat.le_of_ble_eq_true rfl) (c_To_windAt X _ h1 4 _ _ _ _ _ _ _ _ _ (nI x) x (by omega) rfl tr1) (fun v h2 hq => ?_)
    obtain ⟨rfl, rfl⟩ := hq
    rw [nI_clamp (by omega)]
    refine T_aload_n (pc' := 38) d_Se_fillReach_37 rfl rfl rfl ?_
    refine T_get (pc' := 41) d_Se_fillReach_38 rfl g_Se_26 (by first | assumption | exact e_put_s | simp [e_put, *]) rfl ?_
    refine T_iload_n (pc' := 42) d_Se_fillReach_41 rfl rfl rfl ?_
    refine T_iconst (v := 1) (pc' := 43) d_Se_fillReach_42 rfl (by decide) ?_
    refine T_isub (pc' := 44) d_Se_fillReach_43 rfl ?_
    rw [nI_pred]
    refine T_aaloadN k (pc' := 45) d_Se_fillReach_44 rfl hh35 (by decide) ⟨by omega, by decide⟩ (hr35 k (by omega)) ?_
    refine T_iload_n (pc' := 46) d_Se_fillReach_45 rfl rfl rfl ?_
    refine T_ialoadN x (pc' := 47) d_Se_fillReach_46 rfl (hf k (by omega)) ⟨by omega, by decide⟩ ?_
    refine T_iadd (pc' := 48) d_Se_fillReach_47 rfl ?_
    have es : (σ.2.1 1 x + F k x).toInt = wI σ x + (F k x).toInt := i_addI (by show -1000000 ≤ wI σ x + _; omega) (by show wI σ x + _ ≤ 1000000; omega)
    generalize σ.2.1 1 x + F k x = V at es
    refine T_iastoreN x (pc' := 49) d_Se_fillReach_48 rfl (hf (k + 1) (by omega)) ⟨by omega, by decide⟩ ?_
    refine T_iconst (v := 0) (pc' := 50) d_Se_fillReach_49 rfl (by decide) ?_
    refine T_iload_n (pc' := 51) d_Se_fillReach_50 rfl rfl rfl ?_
    refine T_iconst (v := 1) (pc' := 52) d_Se_fillReach_51 rfl (by decide) ?_
    refine T_isub (pc' := 53) d_Se_fillReach_52 rfl ?_
    refine T_mmax (pc' := 56) d_Se_fillReach_53 rfl l_Se_70 (Nat.le_of_ble_eq_true rfl) ?_
    rw [s_lo x (by omega)]
    refine T_is4 (pc' := 58) d_Se_fillReach_56 rfl (Nat.le_of_ble_eq_true rfl) rfl ?_
    have eF : ∀ l, l ≤ k → upF F (k + 1) (e_up (F (k + 1)) x V) l = F l := fun l hl => if_neg (by omega)
    have eF1 : upF F (k + 1) (e_up (F (k + 1)) x V) (k + 1) = e_up (F (k + 1)) x V := if_pos rfl
    refine l_fill1 X d h σ tu wh gr si r35 hr35 h31 h35 ab tr k x hk4 (by omega) Q (fun h3 F3 fr3 hf3 gf3 hx3 => ?_) (min 9 (x + 1) + 1 - (x - 1)) (x - 1) (by omega) (Nat.le_refl _) _ _ (fr.put ⟨by omega, by omega⟩) (HF_put hf) ⟨fun z hz => ?_, fun l hl z hz => ?_⟩ (fun x' hl => ?_) ?_
    · refine T_ii3 (c := 1) (pc' := 117) d_Se_fillReach_114 rfl (by decide) (Nat.le_of_ble_eq_true rfl) rfl ?_
      rw [nI_1]
      refine T_goto (pc' := 19) d_Se_fillReach_117 (by decide) ?_
      exact ih h3 F3 fr3 hf3 gf3 hx3
    · rw [eF 0 (by omega)]; exact gf.1 z hz
    · rw [eF l (by omega), eF (l + 1) (by omega)]; exact gf.2 l hl z hz
    · rw [eF k (by omega), eF1, e_upL, if_neg (by omega)]; exact hx' x' hl
    · rw [eF k (by omega), eF1, e_upL, if_pos rfl]
      exact ⟨fun y g1 g2 g3 => by omega, by rw [es]; omega, by rw [es]; omega⟩
theorem l_fill3 (si : SI σ) (r35 : Nat → Option Nat) (hr35 : ∀ i, i < 5 → r35 i = some (36 + i)) (h31 : h.2 31 = some (oSe tu wh gr)) (h35 : h.2 35 = some (.inr (.inl (5, 5, r35)))) (ab : Int32) (tr : TR h 4 (σ.1 1) (σ.1 2) (σ.2.1 1) (σ.2.1 2) (σ.2.1 3) (σ.2.1 4) (σ.2.1 5) (σ.2.1 12 0) ab) (Q : Option Value → AH → Prop) (hQ : ∀ h1 F, Fr 36 41 h h1 → HF h1 F → GF σ F 5 → Q none h1) : ∀ (j k : Nat), k + j = 4 → ∀ h1 F, Fr 36 41 h h1 → HF h1 F → GF σ F (k + 1) → T X (d + 2) M_Se_fillReach 12 [.ref 31, .ref 4, .int (nI (k + 1)), .null, .null] [] h1 Q
  | 0, k, hk, h1, F, fr, hf, gf => by
    have : k = 4 := by omega
    subst this
    refine T_iload_n (pc' := 13) d_Se_fillReach_12 rfl rfl rfl ?_
    refine T_iconst (v := 4) (pc' := 14) d_Se_fillReach_13 rfl (by decide) ?_
    refine T_icmp_gt (pc' := 17) (tgt := 126) d_Se_fillReach_14 rfl (by decide) (fun _ => ?_) (fun hzz => absurd (by decide) hzz)
    refine T_vret d_Se_fillReach_126 rfl ?_
    exact hQ h1 F fr hf gf
  | j + 1, k, hk, h1, F, fr, hf, gf => by
    have ih := l_fill3 si r35 hr35 h31 h35 ab tr Q hQ j (k + 1) (by omega)
    refine T_iload_n (pc' := 13) d_Se_fillReach_12 rfl rfl rfl ?_
    refine T_iconst (v := 4) (pc' := 14) d_Se_fillReach_13 rfl (by decide) ?_
    refine T_icmp_gt (pc' := 17) (tgt := 126) d_Se_fillReach_14 rfl (by decide) (fun hzz => absurd hzz (nI_nlt (a := 4) (b := k + 1) (by omega) (by decide))) (fun _ => ?_)
    refine T_iconst (v := 0) (pc' := 18) d_Se_fillReach_17 rfl (by decide) ?_
    refine T_is_n3 (pc' := 19) d_Se_fillReach_18 rfl rfl (Nat.le_of_ble_eq_true rfl) rfl ?_
    refine l_fill2 X d h σ tu wh gr si r35 hr35 h31 h35 ab tr k (by omega) Q (fun h3 F3 fr3 hf3 gf3 => ?_) 10 0 rfl h1 F fr hf gf (fun x' hl => absurd hl (by omega))
    refine T_ii2 (c := 1) (pc' := 123) d_Se_fillReach_120 rfl (by decide) (Nat.le_of_ble_eq_true rfl) rfl ?_
    rw [nI_1]
    refine T_goto (pc' := 12) d_Se_fillReach_123 (by decide) ?_
    exact ih h3 F3 fr3 hf3 gf3
theorem c_Se_fillReach (si : SI σ) (h31 : h.2 31 = some (oSe tu wh gr)) (h35 : ∃ r, h.2 35 = some (.inr (.inl (5, 5, r))) ∧ ∀ i, i < 5 → r i = some (36 + i)) (hrows : ∀ i, 36 ≤ i → i < 41 → ∃ f, h.2 i = some (.inl (0, 10, f))) (ab : Int32) (tr : TR h 4 (σ.1 1) (σ.1 2) (σ.2.1 1) (σ.2.1 2) (σ.2.1 3) (σ.2.1 4) (σ.2.1 5) (σ.2.1 12 0) ab) : Cv X (d + 2) M_Se_fillReach [.ref 31, .ref 4] h (fun h1 => ∃ F, Fr 36 41 h h1 ∧ HF h1 F ∧ GF σ F 5) := by
  obtain ⟨r35, h35, hr35⟩ := h35
  obtain ⟨f0, e0⟩ := hrows 36 (by omega) (by omega)
  obtain ⟨f1, e1⟩ := hrows 37 (by omega) (by omega)
  obtain ⟨f2, e2⟩ := hrows 38 (by omega) (by omega)
  obtain ⟨f3, e3⟩ := hrows 39 (by omega) (by omega)
  obtain ⟨f4, e4⟩ := hrows 40 (by omega) (by omega)
  refine C_of_T rfl rfl (Nat.le_of_ble_eq_true rfl) rfl ?_
  refine T_aload_n (pc' := 1) d_Se_fillReach_0 rfl rfl rfl ?_
  refine T_get (pc' := 4) d_Se_fillReach_1 rfl g_Se_26 (by first | assumption | exact e_put_s | simp [e_put, *]) rfl ?_
  refine T_iconst (v := 0) (pc' := 5) d_Se_fillReach_4 rfl (by decide) ?_
  refine T_aaloadL 0 (pc' := 6) d_Se_fillReach_5 rfl h35 (by decide) (by decide) (hr35 0 (by omega)) ?_
  refine T_iconst (v := 0) (pc' := 7) d_Se_fillReach_6 rfl (by decide) ?_
  refine T_S2v (pc' := 10) d_Se_fillReach_7 rfl l_Se_58 v_Ar_fill (Nat.le_of_ble_eq_true rfl) (c_Ar_fill X _ h 36 10 f0 0 (by decide) e0) (fun h1 hq => ?_)
  subst hq
  refine T_iconst (v := 1) (pc' := 11) d_Se_fillReach_10 rfl (by decide) ?_
  refine T_is_n2 (pc' := 12) d_Se_fillReach_11 rfl rfl (Nat.le_of_ble_eq_true rfl) rfl ?_
  refine l_fill3 X d h σ tu wh gr si r35 hr35 h31 h35 ab tr _ (fun h1 F q1 q2 q3 => ⟨rfl, F, q1, q2, q3⟩) 4 0 rfl _ (fun l => if l = 0 then sFill f0 0 10 else if l = 1 then f1 else if l = 2 then f2 else if l = 3 then f3 else f4) (Fr.rf.put ⟨by omega, by omega⟩) (fun l hl => ?_) ⟨fun x hx => ?_, fun l hl => absurd hl (by omega)⟩
  · have hc : l = 0 ∨ l = 1 ∨ l = 2 ∨ l = 3 ∨ l = 4 := by omega
    rcases hc with rfl | rfl | rfl | rfl | rfl
    · exact e_put_s
    · exact (e_put_n (by decide)).trans e1
    · exact (e_put_n (by decide)).trans e2
    · exact (e_put_n (by decide)).trans e3
    · exact (e_put_n (by decide)).trans e4
  · show sFill f0 0 10 x = 0
    rw [sFill, if_pos hx]
end BEST3
