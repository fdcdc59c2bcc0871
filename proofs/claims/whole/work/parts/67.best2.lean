/-! best: the model -/
theorem T_V4i {X : EX} {d : Nat} {M M' : Mt} {pc pc' idx b ci : Nat} {ls fs rest : List Value} {a1 a2 a3 a4 : Value} {h : AH} {Q : Option Value → AH → Prop} {Q1 : Int32 → AH → Prop} (hd : decode M.2.1 pc = .ok (.invokevirtual idx, 3)) (hn : pc + 3 = pc') (hl : CL M.1.cls idx M') (hv : VK M' 4 ci) (hb : h.2 b = some (.inr (.inr (ci, fs)))) (hW : (rest.map fun v => v.category).sum ≤ 8) (hc : Ci X d M' (.ref b :: [a1, a2, a3, a4]) h Q1) (kk : ∀ (v : Int32) (h1 : AH), Q1 v h1 → T X (d + 1) M pc' ls (.int v :: rest) h1 Q) : T X (d + 1) M pc ls (a4 :: a3 :: a2 :: a1 :: .ref b :: rest) h Q :=
  T_callV (As := [a1, a2, a3, a4]) hd hn hl hv.1 hv.2.1 hv.2.2.1 hv.2.2.2 hb rfl hW rfl hc (fun r h1 q => by obtain ⟨v, rfl, q⟩ := q; exact kk v h1 q)
theorem s_div13 {a : Nat} (ha : a < 2 ^ 31) : nI a / 13 = nI (a / 13) := pk_div ha (by decide) (by decide)
theorem s_rem13 {a : Nat} (ha : a < 2 ^ 31) : nI a - nI a / 13 * 13 = nI (a % 13) := pk_rem ha (by decide) (by decide)
theorem s_div4 {a : Nat} (ha : a < 2 ^ 31) : nI a / 4 = nI (a / 4) := pk_div ha (by decide) (by decide)
theorem s_rem4 {a : Nat} (ha : a < 2 ^ 31) : nI a - nI a / 4 * 4 = nI (a % 4) := pk_rem ha (by decide) (by decide)
theorem pow_13 {n : Nat} (hn : n ≤ 4) : 13 ^ n ≤ 28561 ∧ 0 < 13 ^ n := ⟨Nat.pow_le_pow_right (n := 13) (by omega) (show n ≤ 4 from hn), Nat.pow_pos (by omega)⟩
theorem isP_nI {n k : Nat} (hn : n < 1000) (hk : k < 1000) : isP n (nI k) ↔ k < n := by
  constructor
  · rintro ⟨i, hi, e⟩
    have := (nI_eq (by omega) (by omega)).mp e
    omega
  · intro h; exact ⟨k, h, rfl⟩
def dC (c : Nat) : Int32 := if c = 0 then -9 else nI (c - 1)
abbrev bR (σ : Sp) (w : Int32) (N : Nat) : Nat × Nat := am (gW σ w N (σ.2.1 6)) (13 ^ N)
def q_best (σ : Sp) (n w k : Int32) : Int32 := if (0 ≤ n ∧ n ≤ 4) ∧ (0 ≤ w ∧ w ≤ 1) ∧ (-1 ≤ k ∧ k ≤ 3) then (if k = -1 then nI (bR σ w n.toNatClampNeg).2 - 1 else if k < n then dC ((bR σ w n.toNatClampNeg).1 / 13 ^ (n.toNatClampNeg - 1 - k.toNatClampNeg) % 13) else -9) else -1
theorem vN_is {n m : Nat} {w : Int32} {g : Nat → Int32} (hg : GI n m g) : nI (vN w g) = if w = 0 then g 1 else g 2 := by
  obtain ⟨⟨c, hc, e1⟩, ⟨k, hk, e2⟩, -⟩ := hg
  rw [vN, e1, e2, nI_clamp (by omega), nI_clamp (by omega)]
  split <;> rfl
section BEST2
variable (X : EX) (d : Nat) (h : AH) (σ : Sp)
theorem l_goBy (row N : Nat) (w : Int32) (hw : w = 0 ∨ w = 1) (hN : N ≤ 4) (hrow : row < 100000) (mi : MI h σ) (si : SI σ) (x : Nat) (Q : Option Value → AH → Prop) (hQ : ∀ h1 v, MI h1 σ → Fr 86 109 h h1 → ((x = 0 ∧ v = -9) ∨ (0 < x ∧ v = nI (x - 1))) → Q (some (.int v)) h1) : ∀ (r k : Nat), k + r = N → ∀ g, GI (σ.1 1) (σ.1 2) g → gW σ w r g row = x → T X (d + 3) M_Mo_goBy 10 [.ref 86, .int (nI row), .int (nI (13 ^ N)), .int (nI N), .int w, .int (nI (13 ^ r)), .int (nI k), .null, .null, .null] [] (e_put h 102 (.inl (0, 11, g))) Q
  | 0, k, hk, g, hg, hx => by
    have : k = N := by omega
    subst this
    obtain ⟨sc, r0, -⟩ := mi.1
    obtain ⟨mi5, fr5⟩ := MI_tried h σ (f := g) mi
    have hx' : x = vN w g + 1 := hx.symm
    have hv := vN_is (w := w) hg
    refine T_iload (pc' := 12) d_Mo_goBy_10 rfl rfl ?_
    refine T_iload_n (pc' := 13) d_Mo_goBy_12 rfl rfl rfl ?_
    refine T_icmp_ge (pc' := 16) (tgt := 111) d_Mo_goBy_13 rfl (by decide) (fun _ => ?_) (fun hzz => absurd (Int32.le_refl _) hzz)
    refine T_iload (pc' := 113) d_Mo_goBy_111 rfl rfl ?_
    rcases hw with rfl | rfl
    · refine T_if_ne (pc' := 116) (tgt := 125) d_Mo_goBy_113 rfl (by decide) (fun hzz => absurd (by decide) hzz) (fun _ => ?_)
      refine T_aload_n (pc' := 117) d_Mo_goBy_116 rfl rfl rfl ?_
      refine T_get (pc' := 120) d_Mo_goBy_117 rfl g_Mo_57 (by first | exact (e_put_n (by decide)).trans r0 | exact e_put_s) rfl ?_
      refine T_iconst (v := 1) (pc' := 121) d_Mo_goBy_120 rfl (by decide) ?_
      refine T_ialoadL 1 (pc' := 122) d_Mo_goBy_121 rfl (by first | exact (e_put_n (by decide)).trans r0 | exact e_put_s) (by decide) ?_
      refine T_goto (pc' := 131) d_Mo_goBy_122 (by decide) ?_
      refine T_iret d_Mo_goBy_131 rfl ?_
      refine hQ _ _ mi5 fr5 (Or.inr ⟨by omega, ?_⟩)
      rw [show x - 1 = vN 0 g by omega, hv]; rfl
    · refine T_if_ne (pc' := 116) (tgt := 125) d_Mo_goBy_113 rfl (by decide) (fun _ => ?_) (fun hzz => absurd hzz (by decide))
      refine T_aload_n (pc' := 126) d_Mo_goBy_125 rfl rfl rfl ?_
      refine T_get (pc' := 129) d_Mo_goBy_126 rfl g_Mo_57 (by first | exact (e_put_n (by decide)).trans r0 | exact e_put_s) rfl ?_
      refine T_iconst (v := 2) (pc' := 130) d_Mo_goBy_129 rfl (by decide) ?_
      refine T_ialoadL 2 (pc' := 131) d_Mo_goBy_130 rfl (by first | exact (e_put_n (by decide)).trans r0 | exact e_put_s) (by decide) ?_
      refine T_iret d_Mo_goBy_131 rfl ?_
      refine hQ _ _ mi5 fr5 (Or.inr ⟨by omega, ?_⟩)
      rw [show x - 1 = vN 1 g by omega, hv]; rfl
  | r + 1, k, hk, g, hg, hx => by
    have ih := l_goBy row N w hw hN hrow mi si x Q hQ r (k + 1) (by omega)
    obtain ⟨sc, r0, -⟩ := mi.1
    obtain ⟨mi5, fr5⟩ := MI_tried h σ (f := g) mi
    have h0' : (e_put h 102 (.inl (0, 11, g))).2 86 = some (oMo sc σ.2.2) := (e_put_n (by decide)).trans r0
    have mt' : MT (e_put h 102 (.inl (0, 11, g))) (σ.1 1) (σ.1 2) (σ.2.1 1) (σ.2.1 2) (σ.2.1 3) (σ.2.1 4) (σ.2.1 5) := MT_put mi.2.2.1 (by decide)
    obtain ⟨p1, p2⟩ := pow_13 (show r ≤ 4 by omega)
    obtain ⟨p3, p4⟩ := pow_13 (show r + 1 ≤ 4 by omega)
    have hn := si.1.2.1
    have hm := si.1.2.2.1
    have hne : ¬ nI (13 ^ r) = 0 := nI_ne0 p2 (by omega)
    have hdl : row / 13 ^ r ≤ row := Nat.div_le_self _ _
    have hx2 : (if bOk σ g (row / 13 ^ r % 13) then gW σ w r (bSt σ g (row / 13 ^ r % 13)) row else 0) = x := hx
    have h13 := Nat.mod_lt (row / 13 ^ r) (show 0 < 13 by omega)
    refine T_iload (pc' := 12) d_Mo_goBy_10 rfl rfl ?_
    refine T_iload_n (pc' := 13) d_Mo_goBy_12 rfl rfl rfl ?_
    refine T_icmp_ge (pc' := 16) (tgt := 111) d_Mo_goBy_13 rfl (by decide) (fun hzz => absurd hzz (nI_ge (by omega) (by omega))) (fun _ => ?_)
    refine T_iload (pc' := 18) d_Mo_goBy_16 rfl rfl ?_
    refine T_bipush (v := 13) (pc' := 20) d_Mo_goBy_18 rfl (by decide) ?_
    refine T_idiv (pc' := 21) d_Mo_goBy_20 rfl (by first | assumption | decide) ?_
    rw [s_div13 (by omega), Nat.pow_succ, Nat.mul_div_cancel _ (by omega)]
    refine T_is5 (pc' := 23) d_Mo_goBy_21 rfl (Nat.le_of_ble_eq_true rfl) rfl ?_
    refine T_iload_n (pc' := 24) d_Mo_goBy_23 rfl rfl rfl ?_
    refine T_iload (pc' := 26) d_Mo_goBy_24 rfl rfl ?_
    refine T_idiv (pc' := 27) d_Mo_goBy_26 rfl (by first | assumption | decide) ?_
    rw [pk_div (by omega) p2 (by omega)]
    refine T_bipush (v := 13) (pc' := 29) d_Mo_goBy_27 rfl (by decide) ?_
    refine T_irem (pc' := 30) d_Mo_goBy_29 rfl (by first | assumption | decide) ?_
    rw [s_rem13 (by omega)]
    generalize row / 13 ^ r % 13 = c at hx2 h13
    have fin : ∀ g' l8 l9, g' = bSt σ g c → bOk σ g c → ∀ g0, g0 = (if c = 0 then g else sBegin g ((c - 1) / 4) ((c - 1) % 4)) → GI (σ.1 1) (σ.1 2) g0 → T X (d + 3) M_Mo_goBy 97 [.ref 86, .int (nI row), .int (nI (13 ^ N)), .int (nI N), .int w, .int (nI (13 ^ r)), .int (nI k), .int (nI c - 1), l8, l9] [] (e_put h 102 (.inl (0, 11, g0))) Q := by
      intro g' l8 l9 hg' hok g0 hg0 gi0
      rw [if_pos hok, ← hg'] at hx2
      have e0 : sP σ g0 = g' := by
        rw [hg', bSt, hg0]
        by_cases hz : c = 0
        · rw [if_pos hz, if_pos hz]
        · rw [if_neg hz, if_neg hz]
      refine T_aload_n (pc' := 98) d_Mo_goBy_97 rfl rfl rfl ?_
      refine T_aload_n (pc' := 99) d_Mo_goBy_98 rfl rfl rfl ?_
      refine T_get (pc' := 102) d_Mo_goBy_99 rfl g_Mo_57 ((e_put_n (by decide)).trans r0) rfl ?_
      refine T_V1v (pc' := 105) d_Mo_goBy_102 rfl l_Mo_173 v_Mo_passOn ((e_put_n (by decide)).trans r0) (Nat.le_of_ble_eq_true rfl) (c_Mo_passOn X d _ _ _ _ _ _ _ _ 102 _ hn hm si.2.1.1 (MT_put mi.2.2.1 (by decide)) (by decide) e_put_s gi0) (fun h1 hq => ?_)
      subst hq
      rw [e_pp]
      refine T_ii6 (c := 1) (pc' := 108) d_Mo_goBy_105 rfl (by decide) (Nat.le_of_ble_eq_true rfl) rfl ?_
      rw [nI_1]
      refine T_goto (pc' := 10) d_Mo_goBy_108 (by decide) ?_
      have e1 : sPass (σ.1 1) (σ.2.1 1) (σ.2.1 2) (σ.2.1 3) (σ.2.1 4) (σ.2.1 5) g0 = g' := e0
      rw [e1]
      refine T_fg (by simp [e_le]) (ih g' ?_ hx2)
      rw [hg']; exact GI_bSt si hg hok
    refine T_iconst (v := 1) (pc' := 31) d_Mo_goBy_30 rfl (by decide) ?_
    refine T_isub (pc' := 32) d_Mo_goBy_31 rfl ?_
    refine T_is7 (pc' := 34) d_Mo_goBy_32 rfl (Nat.le_of_ble_eq_true rfl) rfl ?_
    refine T_iload (pc' := 36) d_Mo_goBy_34 rfl rfl ?_
    by_cases hz : c = 0
    · refine T_if_lt (pc' := 39) (tgt := 97) d_Mo_goBy_36 rfl (by decide) (fun _ => ?_) (fun hzz => absurd (by rw [hz]; decide) hzz)
      exact fin _ _ _ rfl (Or.inl hz) g (by rw [if_pos hz]) hg
    · obtain ⟨e, rfl⟩ : ∃ e, c = e + 1 := ⟨c - 1, by omega⟩
      rw [nI_pred] at fin ⊢
      refine T_if_lt (pc' := 39) (tgt := 97) d_Mo_goBy_36 rfl (by decide) (fun hzz => absurd hzz (nI_pos (by omega))) (fun _ => ?_)
      refine T_iload (pc' := 41) d_Mo_goBy_39 rfl rfl ?_
      refine T_iconst (v := 4) (pc' := 42) d_Mo_goBy_41 rfl (by decide) ?_
      refine T_idiv (pc' := 43) d_Mo_goBy_42 rfl (by first | assumption | decide) ?_
      rw [s_div4 (by omega)]
      refine T_is8 (pc' := 45) d_Mo_goBy_43 rfl (Nat.le_of_ble_eq_true rfl) rfl ?_
      refine T_iload (pc' := 47) d_Mo_goBy_45 rfl rfl ?_
      refine T_iconst (v := 4) (pc' := 48) d_Mo_goBy_47 rfl (by decide) ?_
      refine T_irem (pc' := 49) d_Mo_goBy_48 rfl (by first | assumption | decide) ?_
      rw [s_rem4 (by omega)]
      refine T_is9 (pc' := 51) d_Mo_goBy_49 rfl (Nat.le_of_ble_eq_true rfl) rfl ?_
      refine T_aload_n (pc' := 52) d_Mo_goBy_51 rfl rfl rfl ?_
      refine T_iload (pc' := 54) d_Mo_goBy_52 rfl rfl ?_
      refine T_V1i (pc' := 57) d_Mo_goBy_54 rfl l_Mo_152 v_Mo_isOne h0' (Nat.le_of_ble_eq_true rfl) (c_Mo_isOne X _ _ _ _ _ _ _ _ _ (nI (e / 4)) hn mt') (fun v h1 hq => ?_)
      have hok1 : bOk σ g (e + 1) ↔ (e / 4 < σ.1 1 ∧ e % 4 < σ.1 2 ∧ sCan g (e / 4) (e % 4)) := by
        constructor
        · rintro (z | z)
          · omega
          · exact z
        · intro z; exact Or.inr z
      rw [isP_nI (by omega) (by omega)] at hq
      have bad : ¬ bOk σ g (e + 1) → ∀ ls, T X (d + 3) M_Mo_goBy 83 ls [] (e_put h 102 (.inl (0, 11, g))) Q := by
        intro hb ls
        rw [if_neg hb] at hx2
        refine T_bipush (v := (-9)) (pc' := 85) d_Mo_goBy_83 rfl (by decide) ?_
        refine T_iret d_Mo_goBy_85 rfl ?_
        exact hQ _ _ mi5 fr5 (Or.inl ⟨hx2.symm, rfl⟩)
      obtain ⟨rfl, ⟨hp, rfl⟩ | ⟨hp, rfl⟩⟩ := hq
      · refine T_if_eq (pc' := 60) (tgt := 83) d_Mo_goBy_57 rfl (by decide) (fun hzz => absurd hzz (by decide)) (fun _ => ?_)
        refine T_aload_n (pc' := 61) d_Mo_goBy_60 rfl rfl rfl ?_
        refine T_iload (pc' := 63) d_Mo_goBy_61 rfl rfl ?_
        refine T_V1i (pc' := 66) d_Mo_goBy_63 rfl l_Mo_159 v_Mo_isThought h0' (Nat.le_of_ble_eq_true rfl) (c_Mo_isThought X _ _ _ _ _ _ _ _ _ (nI (e % 4)) hm mt') (fun v h1 hq => ?_)
        rw [isP_nI (by omega) (by omega)] at hq
        obtain ⟨rfl, ⟨ht, rfl⟩ | ⟨ht, rfl⟩⟩ := hq
        · refine T_if_eq (pc' := 69) (tgt := 83) d_Mo_goBy_66 rfl (by decide) (fun hzz => absurd hzz (by decide)) (fun _ => ?_)
          refine T_aload_n (pc' := 70) d_Mo_goBy_69 rfl rfl rfl ?_
          refine T_get (pc' := 73) d_Mo_goBy_70 rfl g_Mo_57 h0' rfl ?_
          refine T_iload (pc' := 75) d_Mo_goBy_73 rfl rfl ?_
          refine T_iload (pc' := 77) d_Mo_goBy_75 rfl rfl ?_
          refine T_S3i (pc' := 80) d_Mo_goBy_77 rfl l_Mo_162 v_Mo_canBegin (Nat.le_of_ble_eq_true rfl) (c_Mo_canBegin X _ _ 102 g (e / 4) (e % 4) (by omega) e_put_s) (fun v h1 hq => ?_)
          obtain ⟨rfl, ⟨hc, rfl⟩ | ⟨hc, rfl⟩⟩ := hq
          · refine T_if_ne (pc' := 83) (tgt := 86) d_Mo_goBy_80 rfl (by decide) (fun _ => ?_) (fun hzz => absurd hzz (by decide))
            refine T_aload_n (pc' := 87) d_Mo_goBy_86 rfl rfl rfl ?_
            refine T_get (pc' := 90) d_Mo_goBy_87 rfl g_Mo_57 h0' rfl ?_
            refine T_iload (pc' := 92) d_Mo_goBy_90 rfl rfl ?_
            refine T_iload (pc' := 94) d_Mo_goBy_92 rfl rfl ?_
            refine T_S3v (pc' := 97) d_Mo_goBy_94 rfl l_Mo_169 v_Mo_begin (Nat.le_of_ble_eq_true rfl) (c_Mo_begin X _ _ 102 g (e / 4) (e % 4) (by omega) e_put_s) (fun h1 hq => ?_)
            subst hq
            rw [e_pp]
            exact fin _ _ _ rfl (hok1.mpr ⟨hp, ht, hc⟩) _ (by rw [if_neg hz]; rfl) (GI_begin hg hp ht hn hm)
          · refine T_if_ne (pc' := 83) (tgt := 86) d_Mo_goBy_80 rfl (by decide) (fun hzz => absurd (by decide) hzz) (fun _ => ?_)
            exact bad (fun q => hc (hok1.mp q).2.2) _
        · refine T_if_eq (pc' := 69) (tgt := 83) d_Mo_goBy_66 rfl (by decide) (fun _ => ?_) (fun hzz => absurd (by decide) hzz)
          exact bad (fun q => ht (hok1.mp q).2.1) _
      · refine T_if_eq (pc' := 60) (tgt := 83) d_Mo_goBy_57 rfl (by decide) (fun _ => ?_) (fun hzz => absurd (by decide) hzz)
        exact bad (fun q => hp (hok1.mp q).1) _
theorem c_goBy (row N : Nat) (w : Int32) (hw : w = 0 ∨ w = 1) (hN : N ≤ 4) (hrow : row < 100000) (mi : MI h σ) (si : SI σ) : Ci X (d + 3) M_Mo_goBy [.ref 86, .int (nI row), .int (nI (13 ^ N)), .int (nI N), .int w] h (fun v h1 => ((gW σ w N (σ.2.1 6) row = 0 ∧ v = -9) ∨ (0 < gW σ w N (σ.2.1 6) row ∧ v = nI (gW σ w N (σ.2.1 6) row - 1))) ∧ MI h1 σ ∧ Fr 86 109 h h1) := by
  obtain ⟨sc, r0, -⟩ := mi.1
  refine C_of_T rfl rfl (Nat.le_of_ble_eq_true rfl) rfl ?_
  refine T_aload_n (pc' := 1) d_Mo_goBy_0 rfl rfl rfl ?_
  refine T_V0v (pc' := 4) d_Mo_goBy_1 rfl l_Mo_187 v_Mo_take (by first | assumption | exact e_put_s | simp [e_put, *]) (Nat.le_of_ble_eq_true rfl) (c_Mo_take X _ h σ mi) (fun h1 hq => ?_)
  obtain ⟨f, rfl⟩ := hq
  refine T_iload_n (pc' := 5) d_Mo_goBy_4 rfl rfl rfl ?_
  refine T_is5 (pc' := 7) d_Mo_goBy_5 rfl (Nat.le_of_ble_eq_true rfl) rfl ?_
  refine T_iconst (v := 0) (pc' := 8) d_Mo_goBy_7 rfl (by decide) ?_
  refine T_is6 (pc' := 10) d_Mo_goBy_8 rfl (Nat.le_of_ble_eq_true rfl) rfl ?_
  exact l_goBy X d h σ row N w hw hN hrow mi si _ _ (fun h1 v q1 q2 q3 => ⟨_, rfl, q3, q1, q2⟩) N 0 (by omega) _ (GI_cp si.2.2.1) (gW_FE si.1.2.1 w N _ _ row (FE_cp _ _))
theorem l_mbest0 (n w k : Int32) (N : Nat) (hn : n = nI N) (hN : N ≤ 4) (Q : Option Value → AH → Prop) (hk : T X d M_Mo_best 54 [.ref 86, .int n, .int w, .int k, .int (nI (13 ^ N)), .null, .null, .null, .null] [] h Q) : ∀ (j i : Nat), i + j = N → T X d M_Mo_best 35 [.ref 86, .int n, .int w, .int k, .int (nI (13 ^ i)), .int (nI i), .null, .null, .null] [] h Q
  | 0, i, hi => by
    have : i = N := by omega
    subst this
    refine T_iload (pc' := 37) d_Mo_best_35 rfl rfl ?_
    refine T_iload_n (pc' := 38) d_Mo_best_37 rfl rfl rfl ?_
    refine T_icmp_ge (pc' := 41) (tgt := 54) d_Mo_best_38 rfl (by decide) (fun _ => ?_) (fun hzz => absurd (by rw [hn]; exact Int32.le_refl _) hzz)
    exact T_fg (by simp [e_le]) hk
  | j + 1, i, hi => by
    have ih := l_mbest0 n w k N hn hN Q hk j (i + 1) (by omega)
    refine T_iload (pc' := 37) d_Mo_best_35 rfl rfl ?_
    refine T_iload_n (pc' := 38) d_Mo_best_37 rfl rfl rfl ?_
    refine T_icmp_ge (pc' := 41) (tgt := 54) d_Mo_best_38 rfl (by decide) (fun hzz => absurd hzz (by rw [hn]; exact nI_ge (by omega) (by omega))) (fun _ => ?_)
    refine T_iload (pc' := 43) d_Mo_best_41 rfl rfl ?_
    refine T_bipush (v := 13) (pc' := 45) d_Mo_best_43 rfl (by decide) ?_
    refine T_imul (pc' := 46) d_Mo_best_45 rfl ?_
    rw [show nI (13 ^ i) * 13 = nI (13 ^ i * 13) from pk_mul _ 13, ← Nat.pow_succ]
    refine T_is4 (pc' := 48) d_Mo_best_46 rfl (Nat.le_of_ble_eq_true rfl) rfl ?_
    refine T_ii5 (c := 1) (pc' := 51) d_Mo_best_48 rfl (by decide) (Nat.le_of_ble_eq_true rfl) rfl ?_
    rw [nI_1]
    refine T_goto (pc' := 35) d_Mo_best_51 (by decide) ?_
    exact ih
theorem s_cmp2 : ∀ a, a < 42 → ∀ b, b < 42 → (nI a ≤ nI b - 1 ↔ a + 1 ≤ b) := by decide +kernel
theorem s_cmp3 : ∀ b, b < 42 → (-9 : Int32) ≤ nI b - 1 := by decide +kernel
theorem l_mbest1 (w k : Int32) (N : Nat) (hw : w = 0 ∨ w = 1) (hN : N ≤ 4) (si : SI σ) (Q : Option Value → AH → Prop) (hk : ∀ h1, MI h1 σ → Fr 86 109 h h1 → T X (d + 4) M_Mo_best 103 [.ref 86, .int (nI N), .int w, .int k, .int (nI (13 ^ N)), .int (nI (bR σ w N).1), .int (nI (bR σ w N).2 - 1), .null, .null] [] h1 Q) : ∀ (j i : Nat), i + j = 13 ^ N → ∀ h1, MI h1 σ → Fr 86 109 h h1 → T X (d + 4) M_Mo_best 63 [.ref 86, .int (nI N), .int w, .int k, .int (nI (13 ^ N)), .int (nI (am (gW σ w N (σ.2.1 6)) i).1), .int (nI (am (gW σ w N (σ.2.1 6)) i).2 - 1), .int (nI i), .null] [] h1 Q
  | 0, i, hi, h1, mi, fr => by
    have : i = 13 ^ N := by omega
    subst this
    refine T_iload (pc' := 65) d_Mo_best_63 rfl rfl ?_
    refine T_iload (pc' := 67) d_Mo_best_65 rfl rfl ?_
    refine T_icmp_ge (pc' := 70) (tgt := 103) d_Mo_best_67 rfl (by decide) (fun _ => ?_) (fun hzz => absurd (Int32.le_refl _) hzz)
    exact T_fg (by simp [e_le]) (hk h1 mi fr)
  | j + 1, i, hi, h1, mi, fr => by
    have ih := l_mbest1 w k N hw hN si Q hk j (i + 1) (by omega)
    obtain ⟨p1, p2⟩ := pow_13 hN
    obtain ⟨sc, r0, -⟩ := mi.1
    have b1 := gW_le si w N (σ.2.1 6) i si.2.2.1
    have b2 : (am (gW σ w N (σ.2.1 6)) i).2 ≤ 41 := by
      rcases am_at (gW σ w N (σ.2.1 6)) i with q | ⟨-, q, -⟩
      · omega
      · rw [← q]; exact gW_le si w N (σ.2.1 6) _ si.2.2.1
    rw [am] at ih
    refine T_iload (pc' := 65) d_Mo_best_63 rfl rfl ?_
    refine T_iload (pc' := 67) d_Mo_best_65 rfl rfl ?_
    refine T_icmp_ge (pc' := 70) (tgt := 103) d_Mo_best_67 rfl (by decide) (fun hzz => absurd hzz (nI_ge (by omega) (by omega))) (fun _ => ?_)
    refine T_aload_n (pc' := 71) d_Mo_best_70 rfl rfl rfl ?_
    refine T_iload (pc' := 73) d_Mo_best_71 rfl rfl ?_
    refine T_iload (pc' := 75) d_Mo_best_73 rfl rfl ?_
    refine T_iload_n (pc' := 76) d_Mo_best_75 rfl rfl rfl ?_
    refine T_iload_n (pc' := 77) d_Mo_best_76 rfl rfl rfl ?_
    refine T_V4i (pc' := 80) d_Mo_best_77 rfl l_Mo_190 v_Mo_goBy (by first | assumption | exact e_put_s | simp [e_put, *]) (Nat.le_of_ble_eq_true rfl) (c_goBy X _ h1 σ i N w hw hN (by omega) mi si) (fun v h2 hq => ?_)
    generalize gW σ w N (σ.2.1 6) i = x at ih b1 hq
    generalize am (gW σ w N (σ.2.1 6)) i = acc at ih b2
    obtain ⟨hv, mi2, fr2⟩ := hq
    refine T_is8 (pc' := 82) d_Mo_best_80 rfl (Nat.le_of_ble_eq_true rfl) rfl ?_
    refine T_iload (pc' := 84) d_Mo_best_82 rfl rfl ?_
    refine T_iload (pc' := 86) d_Mo_best_84 rfl rfl ?_
    by_cases hlt : acc.2 < x
    · rw [if_pos hlt] at ih
      rcases hv with ⟨z, -⟩ | ⟨z, rfl⟩
      · omega
      · refine T_icmp_le (pc' := 89) (tgt := 97) d_Mo_best_86 rfl (by decide) (fun hzz => absurd hzz (fun q => by have := (s_cmp2 _ (by omega) _ (by omega)).mp q; omega)) (fun _ => ?_)
        refine T_iload (pc' := 91) d_Mo_best_89 rfl rfl ?_
        refine T_is5 (pc' := 93) d_Mo_best_91 rfl (Nat.le_of_ble_eq_true rfl) rfl ?_
        refine T_iload (pc' := 95) d_Mo_best_93 rfl rfl ?_
        refine T_is6 (pc' := 97) d_Mo_best_95 rfl (Nat.le_of_ble_eq_true rfl) rfl ?_
        refine T_ii7 (c := 1) (pc' := 100) d_Mo_best_97 rfl (by decide) (Nat.le_of_ble_eq_true rfl) rfl ?_
        rw [nI_1]
        refine T_goto (pc' := 63) d_Mo_best_100 (by decide) ?_
        refine T_fg ?_ (ih h2 mi2 (fr.tr fr2))
        obtain ⟨y, rfl⟩ : ∃ y, x = y + 1 := ⟨x - 1, by omega⟩
        simp [e_le, nI_pred]
    · rw [if_neg hlt] at ih
      have hle : v ≤ nI acc.2 - 1 := by
        rcases hv with ⟨z, rfl⟩ | ⟨z, rfl⟩
        · exact s_cmp3 _ (by omega)
        · exact (s_cmp2 _ (by omega) _ (by omega)).mpr (by omega)
      refine T_icmp_le (pc' := 89) (tgt := 97) d_Mo_best_86 rfl (by decide) (fun _ => ?_) (fun hzz => absurd hle hzz)
      refine T_ii7 (c := 1) (pc' := 100) d_Mo_best_97 rfl (by decide) (Nat.le_of_ble_eq_true rfl) rfl ?_
      rw [nI_1]
      refine T_goto (pc' := 63) d_Mo_best_100 (by decide) ?_
      exact T_fg (by simp [e_le]) (ih h2 mi2 (fr.tr fr2))
theorem l_mbest2 (w l5 l6 : Int32) (N K : Nat) (hN : N ≤ 4) (hK : K ≤ 3) (Q : Option Value → AH → Prop) (hk : T X d M_Mo_best 143 [.ref 86, .int (nI N), .int w, .int (nI K), .null, .int l5, .null, .int (nI (13 ^ (N - min (K + 1) N))), .null] [] h Q) : ∀ (j i : Nat), i + j = min (K + 1) N → T X d M_Mo_best 118 [.ref 86, .int (nI N), .int w, .int (nI K), .null, .int l5, .int l6, .int (nI (13 ^ (N - i))), .int (nI i)] [] h Q
  | 0, i, hi => by
    have e : i = min (K + 1) N := by omega
    rw [← e] at hk
    refine T_iload (pc' := 120) d_Mo_best_118 rfl rfl ?_
    refine T_iload_n (pc' := 121) d_Mo_best_120 rfl rfl rfl ?_
    by_cases h1 : K < i
    · refine T_icmp_gt (pc' := 124) (tgt := 143) d_Mo_best_121 rfl (by decide) (fun _ => ?_) (fun hzz => absurd (nI_lt h1 (by omega)) hzz)
      exact T_fg (by simp [e_le]) hk
    · refine T_icmp_gt (pc' := 124) (tgt := 143) d_Mo_best_121 rfl (by decide) (fun hzz => absurd hzz (nI_nlt (by omega) (by omega))) (fun _ => ?_)
      refine T_iload (pc' := 126) d_Mo_best_124 rfl rfl ?_
      refine T_iload_n (pc' := 127) d_Mo_best_126 rfl rfl rfl ?_
      refine T_icmp_ge (pc' := 130) (tgt := 143) d_Mo_best_127 rfl (by decide) (fun _ => ?_) (fun hzz => absurd (nI_le (by omega) (by omega)) hzz)
      exact T_fg (by simp [e_le]) hk
  | j + 1, i, hi => by
    have ih := l_mbest2 w l5 l6 N K hN hK Q hk j (i + 1) (by omega)
    obtain ⟨p1, p2⟩ := pow_13 (show N - i ≤ 4 by omega)
    refine T_iload (pc' := 120) d_Mo_best_118 rfl rfl ?_
    refine T_iload_n (pc' := 121) d_Mo_best_120 rfl rfl rfl ?_
    refine T_icmp_gt (pc' := 124) (tgt := 143) d_Mo_best_121 rfl (by decide) (fun hzz => absurd hzz (nI_nlt (by omega) (by omega))) (fun _ => ?_)
    refine T_iload (pc' := 126) d_Mo_best_124 rfl rfl ?_
    refine T_iload_n (pc' := 127) d_Mo_best_126 rfl rfl rfl ?_
    refine T_icmp_ge (pc' := 130) (tgt := 143) d_Mo_best_127 rfl (by decide) (fun hzz => absurd hzz (nI_ge (by omega) (by omega))) (fun _ => ?_)
    refine T_iload (pc' := 132) d_Mo_best_130 rfl rfl ?_
    refine T_bipush (v := 13) (pc' := 134) d_Mo_best_132 rfl (by decide) ?_
    refine T_idiv (pc' := 135) d_Mo_best_134 rfl (by first | assumption | decide) ?_
    have ep : 13 ^ (N - i) = 13 ^ (N - (i + 1)) * 13 := by rw [show N - i = N - (i + 1) + 1 by omega, Nat.pow_succ]
    rw [s_div13 (by omega), ep, Nat.mul_div_cancel _ (by omega)]
    refine T_is7 (pc' := 137) d_Mo_best_135 rfl (Nat.le_of_ble_eq_true rfl) rfl ?_
    refine T_ii8 (c := 1) (pc' := 140) d_Mo_best_137 rfl (by decide) (Nat.le_of_ble_eq_true rfl) rfl ?_
    rw [nI_1]
    refine T_goto (pc' := 118) d_Mo_best_140 (by decide) ?_
    exact ih
theorem s_m13 {k : Int32} (h : -1 ≤ k ∧ k ≤ 3) (h1 : ¬ k = -1) : ∃ j, j ≤ 3 ∧ k = nI j := by
  refine nI_of2 (M := 3) (n := 3) (by decide) (fun q => h1 ?_) h.2
  have a := Int32.le_iff_toInt_le.mp h.1
  have b := Int32.lt_iff_toInt_lt.mp q
  rw [show (-1 : Int32).toInt = -1 by decide] at a
  rw [show (0 : Int32).toInt = 0 by decide] at b
  exact Int32.toInt_inj.mp (by rw [show (-1 : Int32).toInt = -1 by decide]; omega)
theorem p_Mo_best (n w k : Int32) (mi : MI h σ) (si : SI σ) : Ci X (d + 20) M_Mo_best [.ref 86, .int n, .int w, .int k] h (fun v h1 => v = q_best σ n w k ∧ MI h1 σ ∧ Fr 86 109 h h1) := by
  refine C_of_T rfl rfl (Nat.le_of_ble_eq_true rfl) rfl ?_
  refine T_iload_n (pc' := 1) d_Mo_best_0 rfl rfl rfl ?_
  refine T_iconst (v := 0) (pc' := 2) d_Mo_best_1 rfl (by decide) ?_
  refine T_iconst (v := 4) (pc' := 3) d_Mo_best_2 rfl (by decide) ?_
  refine T_S3i (pc' := 6) d_Mo_best_3 rfl l_Mo_78 v_Mo_in (Nat.le_of_ble_eq_true rfl) (c_Mo_in X _ h n 0 4) (fun v h1 hq => ?_)
  obtain ⟨rfl, ⟨q1, rfl⟩ | ⟨q1, rfl⟩⟩ := hq
  · refine T_if_eq (pc' := 9) (tgt := 27) d_Mo_best_6 rfl (by decide) (fun hzz => absurd hzz (by decide)) (fun _ => ?_)
    refine T_iload_n (pc' := 10) d_Mo_best_9 rfl rfl rfl ?_
    refine T_iconst (v := 0) (pc' := 11) d_Mo_best_10 rfl (by decide) ?_
    refine T_iconst (v := 1) (pc' := 12) d_Mo_best_11 rfl (by decide) ?_
    refine T_S3i (pc' := 15) d_Mo_best_12 rfl l_Mo_78 v_Mo_in (Nat.le_of_ble_eq_true rfl) (c_Mo_in X _ h1 w 0 1) (fun v h2 hq => ?_)
    obtain ⟨rfl, ⟨q2, rfl⟩ | ⟨q2, rfl⟩⟩ := hq
    · refine T_if_eq (pc' := 18) (tgt := 27) d_Mo_best_15 rfl (by decide) (fun hzz => absurd hzz (by decide)) (fun _ => ?_)
      refine T_iload_n (pc' := 19) d_Mo_best_18 rfl rfl rfl ?_
      refine T_iconst (v := (-1)) (pc' := 20) d_Mo_best_19 rfl (by decide) ?_
      refine T_iconst (v := 3) (pc' := 21) d_Mo_best_20 rfl (by decide) ?_
      refine T_S3i (pc' := 24) d_Mo_best_21 rfl l_Mo_78 v_Mo_in (Nat.le_of_ble_eq_true rfl) (c_Mo_in X _ h2 k (-1) 3) (fun v h3 hq => ?_)
      obtain ⟨rfl, ⟨q3, rfl⟩ | ⟨q3, rfl⟩⟩ := hq
      · refine T_if_ne (pc' := 27) (tgt := 29) d_Mo_best_24 rfl (by decide) (fun _ => ?_) (fun hzz => absurd hzz (by decide))
        rw [q_best, if_pos ⟨q1, q2, q3⟩]
        obtain ⟨N, hN, rfl⟩ := nI_of2 (M := 4) (n := 4) (by decide) (Int32.not_lt.mpr q1.1) q1.2
        rw [nI_clamp (by omega)]
        obtain ⟨p1, p2⟩ := pow_13 hN
        have hwc := s_01 q2
        refine T_iconst (v := 1) (pc' := 30) d_Mo_best_29 rfl (by decide) ?_
        refine T_is4 (pc' := 32) d_Mo_best_30 rfl (Nat.le_of_ble_eq_true rfl) rfl ?_
        refine T_iconst (v := 0) (pc' := 33) d_Mo_best_32 rfl (by decide) ?_
        refine T_is5 (pc' := 35) d_Mo_best_33 rfl (Nat.le_of_ble_eq_true rfl) rfl ?_
        refine l_mbest0 X _ h3 (nI N) w k N rfl hN _ ?_ N 0 (by omega)
        refine T_iconst (v := 0) (pc' := 55) d_Mo_best_54 rfl (by decide) ?_
        refine T_is5 (pc' := 57) d_Mo_best_55 rfl (Nat.le_of_ble_eq_true rfl) rfl ?_
        refine T_iconst (v := (-1)) (pc' := 58) d_Mo_best_57 rfl (by decide) ?_
        refine T_is6 (pc' := 60) d_Mo_best_58 rfl (Nat.le_of_ble_eq_true rfl) rfl ?_
        refine T_iconst (v := 0) (pc' := 61) d_Mo_best_60 rfl (by decide) ?_
        refine T_is7 (pc' := 63) d_Mo_best_61 rfl (Nat.le_of_ble_eq_true rfl) rfl ?_
        refine l_mbest1 X _ h3 σ w k N hwc hN si _ (fun h4 mi4 fr4 => ?_) (13 ^ N) 0 (by omega) h3 mi Fr.rf
        refine T_iload_n (pc' := 104) d_Mo_best_103 rfl rfl rfl ?_
        refine T_iconst (v := (-1)) (pc' := 105) d_Mo_best_104 rfl (by decide) ?_
        by_cases hk1 : k = -1
        · refine T_icmp_ne (pc' := 108) (tgt := 111) d_Mo_best_105 rfl (by decide) (fun hzz => absurd hk1 hzz) (fun _ => ?_)
          refine T_iload (pc' := 110) d_Mo_best_108 rfl rfl ?_
          refine T_iret d_Mo_best_110 rfl ?_
          exact ⟨_, rfl, by rw [if_pos hk1], mi4, fr4⟩
        · refine T_icmp_ne (pc' := 108) (tgt := 111) d_Mo_best_105 rfl (by decide) (fun _ => ?_) (fun hzz => absurd hzz hk1)
          rw [if_neg hk1]
          obtain ⟨K, hK, rfl⟩ := s_m13 q3 hk1
          rw [nI_clamp (by omega)]
          have hbr : (bR σ w N).1 < 13 ^ N ∨ (bR σ w N).2 = 0 := by
            rcases am_at (gW σ w N (σ.2.1 6)) (13 ^ N) with q | ⟨q, -⟩
            · exact Or.inr q
            · exact Or.inl q
          have hbr2 : (bR σ w N).1 < 100000 := by
            have key : ∀ (f : Nat → Nat) K, (am f K).1 ≤ K := by
              intro f K
              induction K with
              | zero => exact Nat.le_refl _
              | succ K ik =>
                rw [am]
                split
                · show K ≤ K + 1; omega
                · omega
            have := key (gW σ w N (σ.2.1 6)) (13 ^ N)
            show (am (gW σ w N (σ.2.1 6)) (13 ^ N)).1 < 100000
            omega
          refine T_iload (pc' := 113) d_Mo_best_111 rfl rfl ?_
          refine T_is7 (pc' := 115) d_Mo_best_113 rfl (Nat.le_of_ble_eq_true rfl) rfl ?_
          refine T_iconst (v := 0) (pc' := 116) d_Mo_best_115 rfl (by decide) ?_
          refine T_is8 (pc' := 118) d_Mo_best_116 rfl (Nat.le_of_ble_eq_true rfl) rfl ?_
          refine T_fg (ls' := [.ref 86, .int (nI N), .int w, .int (nI K), .null, .int (nI (bR σ w N).1), .int (nI (bR σ w N).2 - 1), .int (nI (13 ^ (N - 0))), .int (nI 0)]) (by simp [e_le]; rfl) ?_
          refine l_mbest2 X _ h4 w _ _ N K hN hK _ ?_ (min (K + 1) N) 0 (by omega)
          refine T_iload_n (pc' := 144) d_Mo_best_143 rfl rfl rfl ?_
          refine T_iload_n (pc' := 145) d_Mo_best_144 rfl rfl rfl ?_
          by_cases hlt : K < N
          · refine T_icmp_ge (pc' := 148) (tgt := 161) d_Mo_best_145 rfl (by decide) (fun hzz => absurd hzz (nI_ge hlt (by omega))) (fun _ => ?_)
            rw [if_pos (nI_lt hlt (by omega)), Nat.min_eq_left (by omega), show N - (K + 1) = N - 1 - K by omega]
            obtain ⟨p3, p4⟩ := pow_13 (show N - 1 - K ≤ 4 by omega)
            have hne : ¬ nI (13 ^ (N - 1 - K)) = 0 := nI_ne0 p4 (by omega)
            have hdl : (bR σ w N).1 / 13 ^ (N - 1 - K) ≤ (bR σ w N).1 := Nat.div_le_self _ _
            have h13 := Nat.mod_lt ((bR σ w N).1 / 13 ^ (N - 1 - K)) (show 0 < 13 by omega)
            refine T_iload (pc' := 150) d_Mo_best_148 rfl rfl ?_
            refine T_iload (pc' := 152) d_Mo_best_150 rfl rfl ?_
            refine T_idiv (pc' := 153) d_Mo_best_152 rfl (by first | assumption | decide) ?_
            rw [pk_div (by omega) p4 (by omega)]
            refine T_bipush (v := 13) (pc' := 155) d_Mo_best_153 rfl (by decide) ?_
            refine T_irem (pc' := 156) d_Mo_best_155 rfl (by first | assumption | decide) ?_
            rw [s_rem13 (by omega)]
            generalize (bR σ w N).1 / 13 ^ (N - 1 - K) % 13 = c at h13
            refine T_iconst (v := 1) (pc' := 157) d_Mo_best_156 rfl (by decide) ?_
            refine T_isub (pc' := 158) d_Mo_best_157 rfl ?_
            refine T_goto (pc' := 162) d_Mo_best_158 (by decide) ?_
            refine T_is8 (pc' := 164) d_Mo_best_162 rfl (Nat.le_of_ble_eq_true rfl) rfl ?_
            refine T_iload (pc' := 166) d_Mo_best_164 rfl rfl ?_
            by_cases hz : c = 0
            · subst hz
              refine T_if_ge (pc' := 169) (tgt := 174) d_Mo_best_166 rfl (by decide) (fun hzz => absurd hzz (by decide)) (fun _ => ?_)
              refine T_bipush (v := (-9)) (pc' := 171) d_Mo_best_169 rfl (by decide) ?_
              refine T_goto (pc' := 176) d_Mo_best_171 (by decide) ?_
              refine T_iret d_Mo_best_176 rfl ?_
              exact ⟨_, rfl, rfl, mi4, fr4⟩
            · obtain ⟨e, rfl⟩ : ∃ e, c = e + 1 := ⟨c - 1, by omega⟩
              rw [nI_pred]
              refine T_if_ge (pc' := 169) (tgt := 174) d_Mo_best_166 rfl (by decide) (fun _ => ?_) (fun hzz => absurd (nI_pos' (by omega)) hzz)
              refine T_iload (pc' := 176) d_Mo_best_174 rfl rfl ?_
              refine T_iret d_Mo_best_176 rfl ?_
              exact ⟨_, rfl, by rw [dC, if_neg hz]; rfl, mi4, fr4⟩
          · refine T_icmp_ge (pc' := 148) (tgt := 161) d_Mo_best_145 rfl (by decide) (fun _ => ?_) (fun hzz => absurd (nI_le (by omega) (by omega)) hzz)
            rw [if_neg (nI_nlt (by omega) (by omega))]
            refine T_iconst (v := (-1)) (pc' := 162) d_Mo_best_161 rfl (by decide) ?_
            refine T_is8 (pc' := 164) d_Mo_best_162 rfl (Nat.le_of_ble_eq_true rfl) rfl ?_
            refine T_iload (pc' := 166) d_Mo_best_164 rfl rfl ?_
            refine T_if_ge (pc' := 169) (tgt := 174) d_Mo_best_166 rfl (by decide) (fun hzz => absurd hzz (by decide)) (fun _ => ?_)
            refine T_bipush (v := (-9)) (pc' := 171) d_Mo_best_169 rfl (by decide) ?_
            refine T_goto (pc' := 176) d_Mo_best_171 (by decide) ?_
            refine T_iret d_Mo_best_176 rfl ?_
            exact ⟨_, rfl, rfl, mi4, fr4⟩
      · refine T_if_ne (pc' := 27) (tgt := 29) d_Mo_best_24 rfl (by decide) (fun hzz => absurd (by decide) hzz) (fun _ => ?_)
        refine T_iconst (v := (-1)) (pc' := 28) d_Mo_best_27 rfl (by decide) ?_
        refine T_iret d_Mo_best_28 rfl ?_
        exact ⟨_, rfl, by rw [q_best, if_neg (fun q => q3 q.2.2)], mi, Fr.rf⟩
    · refine T_if_eq (pc' := 18) (tgt := 27) d_Mo_best_15 rfl (by decide) (fun _ => ?_) (fun hzz => absurd (by decide) hzz)
      refine T_iconst (v := (-1)) (pc' := 28) d_Mo_best_27 rfl (by decide) ?_
      refine T_iret d_Mo_best_28 rfl ?_
      exact ⟨_, rfl, by rw [q_best, if_neg (fun q => q2 q.2.1)], mi, Fr.rf⟩
  · refine T_if_eq (pc' := 9) (tgt := 27) d_Mo_best_6 rfl (by decide) (fun _ => ?_) (fun hzz => absurd (by decide) hzz)
    refine T_iconst (v := (-1)) (pc' := 28) d_Mo_best_27 rfl (by decide) ?_
    refine T_iret d_Mo_best_28 rfl ?_
    exact ⟨_, rfl, by rw [q_best, if_neg (fun q => q1 q.1)], mi, Fr.rf⟩
end BEST2
