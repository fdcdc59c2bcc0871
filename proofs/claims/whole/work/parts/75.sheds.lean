/-! sheds: the object -/
def sStart (g : Nat → Int32) (c b : Int32) : Nat → Int32 := fun k => if k = 1 then c else if k = 3 ∨ k = 4 then -9 else if k = 6 then b else if k < 11 then 0 else g k
def sShed (σ : Sp) (ps : PS) (wi we br li fa : Nat → Int32) : Sp := (fun j => if j = 1 then ps.1 0 else if j = 2 then ps.1 1 else if j < 8 then 0 else σ.1 j, fun j => if j = 1 then wi else if j = 2 then we else if j = 3 then br else if j = 4 then li else if j = 5 then fa else if j = 6 then sStart (σ.2.1 6) (ps.2 5 0) (sAb (ps.2 6) (ps.1 0)) else if j = 12 then fun _ => ps.2 5 0 else σ.2.1 j, σ.2.2)
def AG (ps : PS) (wi we br li fa : Nat → Int32) : Prop := (∀ i, i < 10 → wi i = ps.2 0 i) ∧ (∀ i, i < ps.1 0 → we i = ps.2 1 i ∧ br i = ps.2 2 i) ∧ ∀ i, i < ps.1 1 → li i = ps.2 3 i ∧ fa i = ps.2 4 i
def bt (σ : Sp) : Nat → Nat := fun i => (σ.2.1 0 i).toNatClampNeg
theorem bt_ok {σ : Sp} (si : SI σ) : okB (σ.2.1 0) (bt σ) (σ.1 0) := by
  refine ⟨si.1.1, fun i hi => ?_⟩
  obtain ⟨b, hb, e⟩ := si.2.2.2.2.2.2.2.2 i hi
  have e2 : bt σ i = b := by rw [bt, e, nI_clamp (by omega)]
  rw [e2]
  exact ⟨e, hb⟩
theorem sAb_in {f : Nat → Int32} : ∀ n, n ≤ 3 → (∀ i, i < n → f i = 0 ∨ f i = 1) → ∃ b, b < 8 ∧ sAb f n = nI b
  | 0, _, _ => ⟨0, by decide, rfl⟩
  | n + 1, hn, h => by
    obtain ⟨b, hb, e⟩ := sAb_in n (by omega) (fun i hi => h i (by omega))
    rw [sAb, e]
    rcases h n (by omega) with z | z
    · rw [z, show (0 : Int32) <<< (nI n &&& 31) = 0 by simp, i_or0]
      exact ⟨b, hb, rfl⟩
    · rw [z]
      exact s_or8 b hb n (by omega)
theorem FC_start (g : Nat → Int32) (c b : Int32) : FC (oFl 0 c 0 (-9) (-9) 0 b 0 0) (sStart g c b) := by
  refine ⟨0, 0, rfl, fun z => absurd rfl z, fun p hp => ?_⟩
  have e : sStart g c b (7 + p) = 0 := by rw [sStart, if_neg (by omega), if_neg (by omega), if_neg (by omega), if_pos (by omega)]
  rw [e]
  have : ∀ p, p < 3 → (0 : Int32) >>> ((4 * nI p) &&& 31) &&& 15 = 0 := by decide
  exact this p hp
theorem GI_start (n m : Nat) (g : Nat → Int32) {c b : Nat} (hc : c ≤ 40) (hb : b < 8) : GI n m (sStart g (nI c) (nI b)) := by
  refine ⟨⟨c, hc, rfl⟩, ⟨0, by decide, rfl⟩, Or.inl ⟨rfl, rfl⟩, Or.inl rfl, ⟨b, hb, rfl⟩, fun p hp => ⟨0, by decide, ?_⟩⟩
  rw [sStart, if_neg (by omega), if_neg (by omega), if_neg (by omega), if_pos (by omega)]; rfl
theorem SI_shed {σ : Sp} (si : SI σ) {ps : PS} (hp : PSI ps) {wi we br li fa : Nat → Int32} (ag : AG ps wi we br li fa) : SI (sShed σ ps wi we br li fa) := by
  obtain ⟨p1, p2, p3, p4, p5, ⟨c, hc, ec⟩, p7⟩ := hp
  obtain ⟨b, hb, eb⟩ := sAb_in (ps.1 0) p1 p7
  refine ⟨⟨by show 0 ≤ 120; omega, p1, p2, by show 0 ≤ 10; omega, by show 0 ≤ 6; omega, by show 0 ≤ 6; omega, by show 0 ≤ 1; omega, by show 0 ≤ 1; omega, fun z => absurd (show (0 : Nat) = 1 from z) (by decide), fun z => absurd (show (0 : Nat) = 1 from z) (by decide)⟩, ⟨?_, fun i hi => ?_⟩, ?_, fun i (hi : i < 0) => absurd hi (by omega), fun z => absurd (show (0 : Nat) = 1 from z) (by decide), fun z => absurd (show (0 : Nat) = 1 from z) (by decide), fun i (hi : i < 0) => absurd hi (by omega), ⟨c, hc, ec⟩, fun i (hi : i < 0) => absurd hi (by omega)⟩
  · show wi 0 = 0
    rw [ag.1 0 (by omega)]; exact p4
  · show ∃ k, k ≤ 6 ∧ wi i = nI k - 3
    rw [ag.1 i hi]; exact p5 i hi
  · show GI (ps.1 0) (ps.1 1) (sStart (σ.2.1 6) (ps.2 5 0) (sAb (ps.2 6) (ps.1 0)))
    rw [ec, eb]; exact GI_start _ _ _ hc hb
theorem HR_0 {h : AH} {a : Nat} {rows : Nat → Nat → Int32} {kn : Nat} {h1 : AH} {rows' : Nat → Nat → Int32} (hr : HR h a kn rows) (h0 : h1.2 a = some (oHi (a + 1) 0)) (hs : ∀ k, a + 1 ≤ k → k < a + 12 → h1.2 k = h.2 k) : HR h1 a 0 rows' := by
  obtain ⟨ρ, z0, ⟨r, z2, z3⟩, z4, z5, z6, z7⟩ := hr
  refine ⟨ρ, h0, ⟨r, (hs _ (by omega) (by omega)).trans z2, z3⟩, z4, z5, fun i g1 g2 => ?_, fun i hi => absurd hi (by omega)⟩
  obtain ⟨c, c1, c2⟩ := z6 i g1 g2
  exact ⟨c, (hs i (by omega) g2).trans c1, c2⟩
section SHEDS
variable (X : EX) (d : Nat) (h : AH) (σ : Sp)
theorem c_startAnew (tc : Int64) (n m : Nat) (wi we br li fa : Nat → Int32) (sta ab : Int32) (c16 : AC) (sz ke0 ke1 : Int32) (s1 s2 : Nat) (f1 f2 f3 g1 g2 g3 : Nat → Int32) (rr : Nat → Option Nat) (h0 : h.2 0 = some (oTb tc)) (tr : TR h 4 n m wi we br li fa sta ab) (r16 : h.2 16 = some c16) (fl : isFl c16) (r18 : h.2 18 = some (oHi 19 sz)) (rr1 : RR h 49 s1 f1 f2 f3) (rr2 : RR h 53 s2 g1 g2 g3) (r30 : h.2 30 = some (.inr (.inl (4, 2, rr)))) (r30a : rr 0 = some 58) (r30b : rr 1 = some 72) (r58 : h.2 58 = some (oIm 59 60 ke0)) (r72 : h.2 72 = some (oIm 73 74 ke1)) : Cv X (d + 2) M_Tb_startAnew [.ref 0] h (fun h1 => h1.2 16 = some (oFl 0 sta 0 (-9) (-9) 0 ab 0 0) ∧ h1.2 18 = some (oHi 19 0) ∧ RR h1 49 0 f1 f2 f3 ∧ RR h1 53 0 g1 g2 g3 ∧ h1.2 58 = some (oIm 59 60 0) ∧ h1.2 72 = some (oIm 73 74 0) ∧ h1.1 = h.1 ∧ ∀ k, k ≠ 16 → k ≠ 18 → ¬ (49 ≤ k ∧ k < 57) → k ≠ 58 → k ≠ 72 → h1.2 k = h.2 k) := by
  have t0 := tr.1
  obtain ⟨mi7, ce7, he7, th7, id7, si7, ab7, us7, lo7, rfl, hlo7⟩ := fl
  refine C_of_T rfl rfl (Nat.le_of_ble_eq_true rfl) rfl ?_
  refine T_aload_n (pc' := 1) d_Tb_startAnew_0 rfl rfl rfl ?_
  refine T_get (pc' := 4) d_Tb_startAnew_1 rfl g_Tb_29 (by first | assumption | exact e_put_s | simp [e_put, *]) rfl ?_
  refine T_aload_n (pc' := 5) d_Tb_startAnew_4 rfl rfl rfl ?_
  refine T_get (pc' := 8) d_Tb_startAnew_5 rfl g_Tb_19 (by first | assumption | exact e_put_s | simp [e_put, *]) rfl ?_
  refine T_get (pc' := 11) d_Tb_startAnew_8 rfl g_Tb_292 (by first | assumption | exact e_put_s | simp [e_put, *]) rfl ?_
  refine T_aload_n (pc' := 12) d_Tb_startAnew_11 rfl rfl rfl ?_
  refine T_get (pc' := 15) d_Tb_startAnew_12 rfl g_Tb_19 (by first | assumption | exact e_put_s | simp [e_put, *]) rfl ?_
  refine T_get (pc' := 18) d_Tb_startAnew_15 rfl g_Tb_299 (by first | assumption | exact e_put_s | simp [e_put, *]) rfl ?_
  refine T_V2v (pc' := 21) d_Tb_startAnew_18 rfl l_Tb_302 v_Fl_start (by first | assumption | exact e_put_s | simp [e_put, *]) (Nat.le_of_ble_eq_true rfl) (c_Fl_start X _ h 16 _ _ _ _ _ _ _ _ _ sta ab r16) (fun h1 hq => ?_)
  subst hq
  refine T_aload_n (pc' := 22) d_Tb_startAnew_21 rfl rfl rfl ?_
  refine T_get (pc' := 25) d_Tb_startAnew_22 rfl g_Tb_39 (by first | exact (e_put_n (by decide)).trans h0 | exact (e_put_n (by decide)).trans r18) rfl ?_
  refine T_iconst (v := 0) (pc' := 26) d_Tb_startAnew_25 rfl (by decide) ?_
  refine T_puti1 (pc' := 29) d_Tb_startAnew_26 rfl f_Tb_187 (fun z => absurd z Bool.false_ne_true) (by first | exact (e_put_n (by decide)).trans h0 | exact (e_put_n (by decide)).trans r18) ?_
  generalize hH : e_put (e_put h 16 (oFl 0 sta 0 (-9) (-9) 0 ab 0 0)) 18 (oHi 19 0) = H
  have kn : ∀ k, k ≠ 16 → k ≠ 18 → H.2 k = h.2 k := fun k q1 q2 => by rw [← hH]; exact (e_put_n q2).trans (e_put_n q1)
  have k16 : H.2 16 = some (oFl 0 sta 0 (-9) (-9) 0 ab 0 0) := by rw [← hH]; exact (e_put_n (by decide)).trans e_put_s
  have k18 : H.2 18 = some (oHi 19 0) := by rw [← hH]; exact e_put_s
  have k1 : H.1 = h.1 := by rw [← hH]; rfl
  clear hH
  have k0 := (kn 0 (by decide) (by decide)).trans h0
  have rr1' : RR H 49 s1 f1 f2 f3 := ⟨(kn _ (by decide) (by decide)).trans rr1.1, (kn _ (by decide) (by decide)).trans rr1.2.1, (kn _ (by decide) (by decide)).trans rr1.2.2.1, (kn _ (by decide) (by decide)).trans rr1.2.2.2⟩
  have rr2' : RR H 53 s2 g1 g2 g3 := ⟨(kn _ (by decide) (by decide)).trans rr2.1, (kn _ (by decide) (by decide)).trans rr2.2.1, (kn _ (by decide) (by decide)).trans rr2.2.2.1, (kn _ (by decide) (by decide)).trans rr2.2.2.2⟩
  have q1 := rr1'.1
  refine T_aload_n (pc' := 30) d_Tb_startAnew_29 rfl rfl rfl ?_
  refine T_get (pc' := 33) d_Tb_startAnew_30 rfl g_Tb_66 (by first | assumption | exact e_put_s | simp [e_put, *]) rfl ?_
  refine T_V0i (pc' := 36) d_Tb_startAnew_33 rfl l_Tb_257 v_Re_drop (by first | assumption | exact e_put_s | simp [e_put, *]) (Nat.le_of_ble_eq_true rfl) (c_Re_drop X _ H 49 _ _ _ _ rr1') (fun v h2 hq => ?_)
  obtain ⟨-, rr3, fr3⟩ := hq
  have k0' := (fr3.2 0 (by decide)).trans k0
  have rr4 := RR_fr fr3 (by decide) rr2'
  have q2 := rr4.1
  refine T_pop (pc' := 37) d_Tb_startAnew_36 rfl rfl ?_
  refine T_aload_n (pc' := 38) d_Tb_startAnew_37 rfl rfl rfl ?_
  refine T_get (pc' := 41) d_Tb_startAnew_38 rfl g_Tb_70 (by first | assumption | exact e_put_s | simp [e_put, *]) rfl ?_
  refine T_V0i (pc' := 44) d_Tb_startAnew_41 rfl l_Tb_257 v_Re_drop (by first | assumption | exact e_put_s | simp [e_put, *]) (Nat.le_of_ble_eq_true rfl) (c_Re_drop X _ h2 53 _ _ _ _ rr4) (fun v h3 hq => ?_)
  obtain ⟨-, rr5, fr5⟩ := hq
  have k0'' := (fr5.2 0 (by decide)).trans k0'
  have al : ∀ k, k ≠ 16 → k ≠ 18 → ¬ (49 ≤ k ∧ k < 57) → h3.2 k = h.2 k := fun k q1 q2 q3 => (fr5.2 k (by omega)).trans ((fr3.2 k (by omega)).trans (kn k q1 q2))
  have b30 := (al 30 (by decide) (by decide) (by decide)).trans r30
  have b58 := (al 58 (by decide) (by decide) (by decide)).trans r58
  have b72 := (al 72 (by decide) (by decide) (by decide)).trans r72
  refine T_pop (pc' := 45) d_Tb_startAnew_44 rfl rfl ?_
  refine T_iconst (v := 0) (pc' := 46) d_Tb_startAnew_45 rfl (by decide) ?_
  refine T_is_n1 (pc' := 47) d_Tb_startAnew_46 rfl rfl (Nat.le_of_ble_eq_true rfl) rfl ?_
  refine T_iload_n (pc' := 48) d_Tb_startAnew_47 rfl rfl rfl ?_
  refine T_iconst (v := 2) (pc' := 49) d_Tb_startAnew_48 rfl (by decide) ?_
  refine T_icmp_ge (pc' := 52) (tgt := 68) d_Tb_startAnew_49 rfl (by decide) (fun hzz => absurd hzz (by decide)) (fun _ => ?_)
  refine T_aload_n (pc' := 53) d_Tb_startAnew_52 rfl rfl rfl ?_
  refine T_get (pc' := 56) d_Tb_startAnew_53 rfl g_Tb_45 (by first | assumption | exact e_put_s | simp [e_put, *]) rfl ?_
  refine T_iload_n (pc' := 57) d_Tb_startAnew_56 rfl rfl rfl ?_
  refine T_aaloadL 0 (pc' := 58) d_Tb_startAnew_57 rfl b30 (by decide) (by decide) r30a ?_
  refine T_iconst (v := 0) (pc' := 59) d_Tb_startAnew_58 rfl (by decide) ?_
  refine T_putz2 (pc' := 62) d_Tb_startAnew_59 rfl f_Tb_280 (fun z => absurd z Bool.false_ne_true) b58 (by first | assumption | exact Or.inl rfl | exact Or.inr rfl) ?_
  refine T_ii1 (c := 1) (pc' := 65) d_Tb_startAnew_62 rfl (by decide) (Nat.le_of_ble_eq_true rfl) rfl ?_
  refine T_goto (pc' := 47) d_Tb_startAnew_65 (by decide) ?_
  refine T_iload_n (pc' := 48) d_Tb_startAnew_47 rfl rfl rfl ?_
  refine T_iconst (v := 2) (pc' := 49) d_Tb_startAnew_48 rfl (by decide) ?_
  refine T_icmp_ge (pc' := 52) (tgt := 68) d_Tb_startAnew_49 rfl (by decide) (fun hzz => absurd hzz (by decide)) (fun _ => ?_)
  refine T_aload_n (pc' := 53) d_Tb_startAnew_52 rfl rfl rfl ?_
  refine T_get (pc' := 56) d_Tb_startAnew_53 rfl g_Tb_45 ((e_put_n (by decide)).trans k0'') rfl ?_
  refine T_iload_n (pc' := 57) d_Tb_startAnew_56 rfl rfl rfl ?_
  refine T_aaloadL 1 (pc' := 58) d_Tb_startAnew_57 rfl ((e_put_n (by decide)).trans b30) (by decide) (by decide) r30b ?_
  refine T_iconst (v := 0) (pc' := 59) d_Tb_startAnew_58 rfl (by decide) ?_
  refine T_putz2 (pc' := 62) d_Tb_startAnew_59 rfl f_Tb_280 (fun z => absurd z Bool.false_ne_true) ((e_put_n (by decide)).trans b72) (by first | assumption | exact Or.inl rfl | exact Or.inr rfl) ?_
  refine T_ii1 (c := 1) (pc' := 65) d_Tb_startAnew_62 rfl (by decide) (Nat.le_of_ble_eq_true rfl) rfl ?_
  refine T_goto (pc' := 47) d_Tb_startAnew_65 (by decide) ?_
  refine T_iload_n (pc' := 48) d_Tb_startAnew_47 rfl rfl rfl ?_
  refine T_iconst (v := 2) (pc' := 49) d_Tb_startAnew_48 rfl (by decide) ?_
  refine T_icmp_ge (pc' := 52) (tgt := 68) d_Tb_startAnew_49 rfl (by decide) (fun _ => ?_) (fun hzz => absurd (by decide) hzz)
  refine T_vret d_Tb_startAnew_68 rfl ?_
  have rr3' := RR_fr fr5 (by decide) rr3
  have frz : Fr 58 73 h3 (e_put (e_put h3 58 (oIm 59 60 0)) 72 (oIm 73 74 0)) := (Fr.rf.put ⟨by omega, by omega⟩).put ⟨by omega, by omega⟩
  refine ⟨rfl, ?_, ?_, RR_fr frz (by decide) rr3', RR_fr frz (by decide) rr5, (e_put_n (by decide)).trans e_put_s, e_put_s, ?_, fun k q1 q2 q3 q4 q5 => ?_⟩
  · exact (frz.2 16 (by decide)).trans ((fr5.2 16 (by decide)).trans ((fr3.2 16 (by decide)).trans k16))
  · exact (frz.2 18 (by decide)).trans ((fr5.2 18 (by decide)).trans ((fr3.2 18 (by decide)).trans k18))
  · exact frz.1.trans (fr5.1.trans (fr3.1.trans k1))
  · exact (e_put_n q5).trans ((e_put_n q4).trans (al k q1 q2 q3))
theorem TR_frD {h h1 : AH} {n m : Nat} {wi we br li fa : Nat → Int32} {sta ab : Int32} (fr : FrD h h1) (tr : TR h 4 n m wi we br li fa sta ab) : TR h1 4 n m wi we br li fa sta ab := by
  obtain ⟨t0, t1, t2, t3, t4, t5⟩ := tr
  exact ⟨(fr.2 _ (by decide) (by decide) (by decide)).trans t0, (fr.2 _ (by decide) (by decide) (by decide)).trans t1, (fr.2 _ (by decide) (by decide) (by decide)).trans t2, (fr.2 _ (by decide) (by decide) (by decide)).trans t3, (fr.2 _ (by decide) (by decide) (by decide)).trans t4, (fr.2 _ (by decide) (by decide) (by decide)).trans t5⟩
theorem CI_frD {h h1 : AH} {σ : Sp} (ci : CI h σ) (si : SI σ) (fr : FrD h h1) (xr : XR h1 (σ.1 0) (σ.2.1 0)) (ps : PS) (dr : DR h1 ps) : CI h1 σ := by
  have fw := fr.wide
  obtain ⟨r0, r1, ⟨ab, r2⟩, -, ⟨c4, r4, q4⟩, ⟨c5, r5, q5⟩, r6, ⟨rr, r7, q7⟩, r8, r9, r10, ⟨f11, r11⟩, ⟨f12, r12⟩, r13, r14⟩ := ci
  obtain ⟨wi, we, br, li, fa, tr, -⟩ := dr
  exact ⟨(fw.2 _ (by omega)).trans r0, xr, ⟨ab, TR_frD fr r2⟩, ⟨_, _, _, _, _, _, _, _, _, tr⟩, ⟨c4, (fw.2 _ (by omega)).trans r4, q4⟩, ⟨c5, (fw.2 _ (by omega)).trans r5, q5⟩, HR_fr fw si.1.2.2.2.1 (by omega) r6, ⟨rr, (fw.2 _ (by omega)).trans r7, q7⟩, SR_fr fw (by omega) r8, OR_fr fw (by omega) r9, RR_fr fw (by omega) r10, ⟨f11, RR_fr fw (by omega) r11⟩, ⟨f12, (fw.2 _ (by omega)).trans r12⟩, IR_fr fw (by omega) r13, IR_fr fw (by omega) r14⟩
theorem s_neg10 : ∀ q, q < 121 → ¬ (0 : Int32) ≤ -10 - nI q := by decide +kernel
theorem sRd_bad {B : Nat → Nat} {L : Nat} (hB : ∀ i, i < L → B i < 256) : ∀ k c t ps q, t.2.2.1 ≤ L → t.2.2.2 ≤ L → PSI ps → pAll B L k t ps c = .inl q → q ≤ L
  | 0, c, t, ps, q, h1, h2, hi, h => by cases h; omega
  | k + 1, c, t, ps, q, h1, h2, hi, h => by
    rw [pAll] at h
    by_cases hz : t.1 = 0
    · rw [if_pos hz] at h; cases h
    · rw [if_neg hz] at h
      cases e : pOne B L ps t with
      | inl f => rw [e] at h; cases h; exact pOne_bad h1 h2 e
      | inr z =>
        rw [e] at h
        obtain ⟨o1, o2, o3⟩ := pOne_ok hi h2 e
        obtain ⟨tf1, tf2, tf3, tf4, -⟩ := tkn_facts B L z.2 o3
        exact sRd_bad hB k (c + 1) (tkn B L z.2) z.1 q tf2 tf4 o1 h
theorem p_Tb_sheds (xt : XT X) (ci : CI h σ) (si : SI σ) : Ci X (d + 20) M_Tb_sheds [.ref 0] h (fun v h1 => ((∃ q, sRd (bt σ) (σ.1 0) = .inl q ∧ v = -10 - nI q ∧ CI h1 σ) ∨ (∃ z wi we br li fa, sRd (bt σ) (σ.1 0) = .inr z ∧ v = nI z.1 ∧ AG z.2 wi we br li fa ∧ SI (sShed σ z.2 wi we br li fa) ∧ CI h1 (sShed σ z.2 wi we br li fa))) ∧ Fr 0 86 h h1) := by
  have h0 := ci.1
  have xr := ci.2.1
  obtain ⟨⟨b1, b2, b3, b4, b5, x0⟩, x1, xf, x2⟩ := id xr
  obtain ⟨ab, tr⟩ := ci.2.2.1
  obtain ⟨n', m', wi', we', br', li', fa', sta', ab', tr'⟩ := ci.2.2.2.1
  have ok := bt_ok si
  have hL := si.1.1
  refine C_of_T rfl rfl (Nat.le_of_ble_eq_true rfl) rfl ?_
  refine T_aload_n (pc' := 1) d_Tb_sheds_0 rfl rfl rfl ?_
  refine T_get (pc' := 4) d_Tb_sheds_1 rfl g_Tb_10 (by first | assumption | exact e_put_s | simp [e_put, *]) rfl ?_
  refine T_aload_n (pc' := 5) d_Tb_sheds_4 rfl rfl rfl ?_
  refine T_get (pc' := 8) d_Tb_sheds_5 rfl g_Tb_23 (by first | assumption | exact e_put_s | simp [e_put, *]) rfl ?_
  refine T_V1i (pc' := 11) d_Tb_sheds_8 rfl l_Tb_97 v_Tx_readInto (by first | assumption | exact e_put_s | simp [e_put, *]) (Nat.le_of_ble_eq_true rfl) (c_Tx_readInto X _ h xt (σ.2.1 0) (bt σ) (σ.1 0) ok xr _ _ _ _ _ _ _ _ _ tr') (fun v h1 hq => ?_)
  obtain ⟨fr1, xr1, hq⟩ := hq
  have fw1 := fr1.wide
  have k0 := (fw1.2 0 (by omega)).trans h0
  rcases hq with ⟨q, e, rfl, ps', dr⟩ | ⟨z, e, rfl, hz, psi, dr⟩
  · have hq120 : q ≤ σ.1 0 := by
      obtain ⟨tf1, tf2, tf3, tf4, -⟩ := tkn_facts (bt σ) (σ.1 0) 0 (by omega)
      exact sRd_bad (fun i hi => (ok.2 i hi).2) 121 0 _ ps0 q tf2 tf4 PSI_0 e
    refine T_is_n1 (pc' := 12) d_Tb_sheds_11 rfl rfl (Nat.le_of_ble_eq_true rfl) rfl ?_
    refine T_iload_n (pc' := 13) d_Tb_sheds_12 rfl rfl rfl ?_
    refine T_if_ge (pc' := 16) (tgt := 18) d_Tb_sheds_13 rfl (by decide) (fun hzz => absurd hzz (s_neg10 q (by omega))) (fun _ => ?_)
    refine T_iload_n (pc' := 17) d_Tb_sheds_16 rfl rfl rfl ?_
    refine T_iret d_Tb_sheds_17 rfl ?_
    exact ⟨_, rfl, Or.inl ⟨q, e, rfl, CI_frD ci si fr1 xr1 ps' dr⟩, fw1.wide (by omega) (by omega)⟩
  · refine T_is_n1 (pc' := 12) d_Tb_sheds_11 rfl rfl (Nat.le_of_ble_eq_true rfl) rfl ?_
    refine T_iload_n (pc' := 13) d_Tb_sheds_12 rfl rfl rfl ?_
    refine T_if_ge (pc' := 16) (tgt := 18) d_Tb_sheds_13 rfl (by decide) (fun _ => ?_) (fun hzz => absurd (nI_pos' (by omega)) hzz)
    have tr1 := TR_frD fr1 tr
    have t10 := tr1.1
    obtain ⟨wi2, we2, br2, li2, fa2, tr2, ag1, ag2, ag3⟩ := dr
    have psi' := psi
    obtain ⟨p1, p2, -⟩ := psi'
    refine T_aload_n (pc' := 19) d_Tb_sheds_18 rfl rfl rfl ?_
    refine T_get (pc' := 22) d_Tb_sheds_19 rfl g_Tb_19 (by first | assumption | exact e_put_s | simp [e_put, *]) rfl ?_
    refine T_aload_n (pc' := 23) d_Tb_sheds_22 rfl rfl rfl ?_
    refine T_get (pc' := 26) d_Tb_sheds_23 rfl g_Tb_23 (by first | assumption | exact e_put_s | simp [e_put, *]) rfl ?_
    refine T_V1v (pc' := 29) d_Tb_sheds_26 rfl l_Tb_101 v_To_copyFrom (by first | assumption | exact e_put_s | simp [e_put, *]) (Nat.le_of_ble_eq_true rfl) (c_To_copyFrom X _ h1 4 _ _ _ _ _ _ _ _ _ 10 _ _ _ _ _ _ _ _ _ (by decide) tr1 tr2) (fun h2 hq => ?_)
    obtain ⟨tr3, fr3⟩ := hq
    have k02 := (fr3.2 0 (by decide)).trans k0
    have xr2 : XR h2 (σ.1 0) (σ.2.1 0) := by
      obtain ⟨⟨a1, a2, a3, a4, a5, y0⟩, y1, yf, y2⟩ := xr1
      exact ⟨⟨a1, a2, a3, a4, a5, (fr3.2 1 (by decide)).trans y0⟩, (fr3.2 2 (by decide)).trans y1, yf, (fr3.2 3 (by decide)).trans y2⟩
    obtain ⟨⟨c1, c2, c3, c4, c5, y0⟩, -⟩ := id xr2
    refine T_aload_n (pc' := 30) d_Tb_sheds_29 rfl rfl rfl ?_
    refine T_get (pc' := 33) d_Tb_sheds_30 rfl g_Tb_10 (by first | assumption | exact e_put_s | simp [e_put, *]) rfl ?_
    refine T_V0i (pc' := 36) d_Tb_sheds_33 rfl l_Tb_93 v_Tx_drop (by first | assumption | exact e_put_s | simp [e_put, *]) (Nat.le_of_ble_eq_true rfl) (c_Tx_drop X _ h2 _ _ xr2) (fun v h3 hq => ?_)
    obtain ⟨-, xr3, fr4⟩ := hq
    have k03 := (fr4.2 0 (by decide)).trans k02
    have tr4 := TR_fr fr4 (by decide) tr3
    have frA : Fr 1 16 h h3 := (fw1.tr (fr3.wide (by omega) (by omega))).tr (fr4.wide (by omega) (by omega))
    have trD : TR h3 10 (z.2.1 0) (z.2.1 1) wi2 we2 br2 li2 fa2 (z.2.2 5 0) (sAb (z.2.2 6) (z.2.1 0)) := TR_fr fr4 (by decide) (TR_fr fr3 (by decide) tr2)
    obtain ⟨-, -, -, -, ⟨c16, r16, q16⟩, ⟨c17, r17, q17⟩, r6, ⟨rr, r7, q7a, q7b⟩, r8, r9, r10, ⟨f11, r11⟩, ⟨f12, r12⟩, r13, r14⟩ := ci
    have r6' := HR_fr frA si.1.2.2.2.1 (by omega) r6
    obtain ⟨ρ, r60, -⟩ := id r6'
    have r13' := IR_fr frA (by omega) r13
    have r14' := IR_fr frA (by omega) r14
    refine T_pop (pc' := 37) d_Tb_sheds_36 rfl rfl ?_
    refine T_aload_n (pc' := 38) d_Tb_sheds_37 rfl rfl rfl ?_
    refine T_V0v (pc' := 41) d_Tb_sheds_38 rfl l_Tb_82 v_Tb_startAnew (by first | assumption | exact e_put_s | simp [e_put, *]) (Nat.le_of_ble_eq_true rfl) (c_startAnew X _ h3 σ.2.2 _ _ _ _ _ _ _ _ _ c16 _ _ _ _ _ _ _ _ _ _ _ rr k03 tr4 ((frA.2 16 (by omega)).trans r16) (q16.fl si.2.2.1) r60 (RR_fr frA (by omega) r10) (RR_fr frA (by omega) r11) ((frA.2 30 (by omega)).trans r7) q7a q7b r13'.1 r14'.1) (fun h4 hq => ?_)
    obtain ⟨w16, w18, w49, w53, w58, w72, w1, wo⟩ := hq
    refine T_iload_n (pc' := 42) d_Tb_sheds_41 rfl rfl rfl ?_
    refine T_iret d_Tb_sheds_42 rfl ?_
    have ag : AG z.2 (sCp wi2 (σ.2.1 1) 10) (sCp we2 (σ.2.1 2) 3) (sCp br2 (σ.2.1 3) 3) (sCp li2 (σ.2.1 4) 4) (sCp fa2 (σ.2.1 5) 4) := by
      refine ⟨fun i hi => ?_, fun i hi => ?_, fun i hi => ?_⟩
      · rw [sCp, if_pos hi]; exact ag1 i hi
      · rw [sCp, if_pos (by omega), sCp, if_pos (by omega)]; exact ag2 i hi
      · rw [sCp, if_pos (by omega), sCp, if_pos (by omega)]; exact ag3 i hi
    have frB : Fr 16 86 h3 h4 := ⟨w1, fun k hk => wo k (by omega) (by omega) (by omega) (by omega) (by omega)⟩
    refine ⟨_, rfl, Or.inr ⟨z, _, _, _, _, _, e, rfl, ag, SI_shed si psi ag, ?_⟩, (frA.wide (by omega) (by omega)).tr (frB.wide (by omega) (by omega))⟩
    have c0 := (wo 0 (by decide) (by decide) (by decide) (by decide) (by decide)).trans k03
    refine ⟨c0, ?_, ⟨_, TR_fr frB (by decide) tr4⟩, ⟨_, _, _, _, _, _, _, _, _, TR_fr frB (by decide) trD⟩, ⟨_, w16, FC_start _ _ _⟩, ⟨c17, (wo 17 (by decide) (by decide) (by decide) (by decide) (by decide)).trans ((frA.2 17 (by omega)).trans r17), q17⟩, ?_, ⟨rr, (wo 30 (by decide) (by decide) (by decide) (by decide) (by decide)).trans ((frA.2 30 (by omega)).trans r7), q7a, q7b⟩, ?_, ?_, w49, ⟨f11, w53⟩, ⟨f12, (wo 57 (by decide) (by decide) (by decide) (by decide) (by decide)).trans ((frA.2 57 (by omega)).trans r12)⟩, ?_, ?_⟩
    · obtain ⟨⟨a1, a2, a3, a4, a5, y0⟩, y1, yf, y2⟩ := xr3
      exact ⟨⟨a1, a2, a3, a4, a5, (frB.2 1 (by decide)).trans y0⟩, (frB.2 2 (by decide)).trans y1, yf, (frB.2 3 (by decide)).trans y2⟩
    · exact HR_0 r6' w18 (fun k g1 g2 => wo k (by omega) (by omega) (by omega) (by omega) (by omega))
    · obtain ⟨⟨a1, a2, a3, s0⟩, ⟨r, s1, s2⟩, ⟨fa_, s3⟩, ⟨fb_, s4⟩, ⟨g, s5, s6⟩, s7, s8⟩ := SR_fr frA (by omega) r8
      refine ⟨⟨a1, a2, a3, (wo _ (by decide) (by decide) (by decide) (by decide) (by decide)).trans s0⟩, ⟨r, (wo _ (by decide) (by decide) (by decide) (by decide) (by decide)).trans s1, s2⟩, ⟨fa_, (wo _ (by decide) (by decide) (by decide) (by decide) (by decide)).trans s3⟩, ⟨fb_, (wo _ (by decide) (by decide) (by decide) (by decide) (by decide)).trans s4⟩, ⟨g, (wo _ (by decide) (by decide) (by decide) (by decide) (by decide)).trans s5, s6⟩, fun i g1 g2 => ?_, fun i g1 g2 => ?_⟩
      · obtain ⟨f, q⟩ := s7 i g1 g2
        exact ⟨f, (wo _ (by omega) (by omega) (by omega) (by omega) (by omega)).trans q⟩
      · obtain ⟨c, q, q2⟩ := s8 i g1 g2
        exact ⟨c, (wo _ (by omega) (by omega) (by omega) (by omega) (by omega)).trans q, q2⟩
    · obtain ⟨⟨al, s0⟩, ⟨fa_, s1⟩, fb_, s2⟩ := OR_fr frA (by omega) r9
      exact ⟨⟨al, (wo _ (by decide) (by decide) (by decide) (by decide) (by decide)).trans s0⟩, ⟨fa_, (wo _ (by decide) (by decide) (by decide) (by decide) (by decide)).trans s1⟩, fb_, (wo _ (by decide) (by decide) (by decide) (by decide) (by decide)).trans s2⟩
    · obtain ⟨-, ⟨c, s1, s2, -⟩, k, r, s3, s4, -⟩ := r13'
      have frC : Fr 16 60 h3 h4 ∨ True := Or.inr trivial
      refine ⟨w58, ⟨c, (wo _ (by decide) (by decide) (by decide) (by decide) (by decide)).trans s1, s2, fun z => absurd (show (0 : Nat) = 1 from z) (by decide)⟩, k, r, ?_, s4, fun z => absurd (show (0 : Nat) = 1 from z) (by decide)⟩
      obtain ⟨ρ, z0, ⟨r', z2, z3⟩, z4, z5, z6, z7⟩ := s3
      refine ⟨ρ, (wo _ (by decide) (by decide) (by decide) (by decide) (by decide)).trans z0, ⟨r', (wo _ (by decide) (by decide) (by decide) (by decide) (by decide)).trans z2, z3⟩, z4, z5, fun i g1 g2 => ?_, fun i hi => ?_⟩
      · obtain ⟨c, c1, c2⟩ := z6 i g1 g2
        exact ⟨c, (wo _ (by omega) (by omega) (by omega) (by omega) (by omega)).trans c1, c2⟩
      · obtain ⟨c, c1, c2⟩ := z7 i hi
        have := z4 i (by omega)
        exact ⟨c, (wo _ (by omega) (by omega) (by omega) (by omega) (by omega)).trans c1, c2⟩
    · obtain ⟨-, ⟨c, s1, s2, -⟩, k, r, s3, s4, -⟩ := r14'
      refine ⟨w72, ⟨c, (wo _ (by decide) (by decide) (by decide) (by decide) (by decide)).trans s1, s2, fun z => absurd (show (0 : Nat) = 1 from z) (by decide)⟩, k, r, ?_, s4, fun z => absurd (show (0 : Nat) = 1 from z) (by decide)⟩
      obtain ⟨ρ, z0, ⟨r', z2, z3⟩, z4, z5, z6, z7⟩ := s3
      refine ⟨ρ, (wo _ (by decide) (by decide) (by decide) (by decide) (by decide)).trans z0, ⟨r', (wo _ (by decide) (by decide) (by decide) (by decide) (by decide)).trans z2, z3⟩, z4, z5, fun i g1 g2 => ?_, fun i hi => ?_⟩
      · obtain ⟨c, c1, c2⟩ := z6 i g1 g2
        exact ⟨c, (wo _ (by omega) (by omega) (by omega) (by omega) (by omega)).trans c1, c2⟩
      · obtain ⟨c, c1, c2⟩ := z7 i hi
        have := z4 i (by omega)
        exact ⟨c, (wo _ (by omega) (by omega) (by omega) (by omega) (by omega)).trans c1, c2⟩
end SHEDS
