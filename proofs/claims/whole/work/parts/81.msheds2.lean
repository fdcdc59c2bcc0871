/-! sheds: the model, whole -/
theorem MI_shed {h H : AH} {σ : Sp} {ps : PS} {F : Nat → Nat → Int32} {f6 f9 : Nat → Int32} {b1 b2 b3 b4 b5 b6 b7 : Int32} (mi : MI h σ) (hk : ∀ k, k = 87 ∨ (99 ≤ k ∧ k < 109 ∧ k ≠ 101) → H.2 k = h.2 k) (ha : HA H F) (hn : H.2 97 = some (.inl (0, 11, sStart (σ.2.1 6) (ps.2 5 0) (sAb (ps.2 6) (ps.1 0))))) (ho : H.2 86 = some (oMq 0 b1 b2 b3 b4 b5 b6 b7 0 0 σ.2.2)) (k6 : H.2 98 = some (.inl (0, 3, f6))) (e6 : f6 0 = 0) (k9 : H.2 101 = some (.inl (2, 2, f9))) (e90 : f9 0 = 0) (e91 : f9 1 = 0) (w0 : ∀ i, i < 10 → F 0 i = ps.2 0 i) (w1 : F 1 0 = nI (ps.1 0)) (w2 : ∀ i, i < ps.1 0 → F 2 i = ps.2 1 i ∧ F 3 i = ps.2 2 i) (w5 : F 5 0 = nI (ps.1 1)) (w6 : ∀ i, i < ps.1 1 → F 6 i = ps.2 3 i ∧ F 7 i = ps.2 4 i) (w8 : F 8 0 = ps.2 5 0) {wi we br li fa : Nat → Int32} (ag : AG ps wi we br li fa) : MI H (sShed σ ps wi we br li fa) := by
  obtain ⟨-, ⟨f1, r1, -⟩, -, -, -, -, -, ⟨f7, r7, -⟩, ⟨f8, r8, -⟩, -, ⟨f10, r10⟩, ⟨f11, r11⟩, ⟨f12, r12, -⟩, ⟨f13, r13, -⟩, ⟨f14, r14, -⟩, ⟨f15, r15, -⟩, ⟨f16, r16, -⟩⟩ := mi
  obtain ⟨ag1, ag2, ag3⟩ := ag
  have ob : ∃ sc, H.2 86 = some (oMo sc σ.2.2) ∧ sc 0 = nI 0 ∧ sc 8 = nI 0 ∧ sc 9 = nI 0 := ⟨fun j => [0, b1, b2, b3, b4, b5, b6, b7, 0, 0].getD j 0, ho, rfl, rfl, rfl⟩
  refine ⟨ob, ⟨f1, (hk 87 (by omega)).trans r1, fun i (hi : i < 0) => absurd hi (by omega)⟩, ⟨?_, ⟨_, ha 0 (by omega), fun i hi _ => ?_⟩, ⟨_, ha 1 (by omega), w1⟩, ⟨_, ha 2 (by omega), fun i hi => ?_⟩, ⟨_, ha 3 (by omega), fun i hi => ?_⟩, ⟨_, ha 5 (by omega), w5⟩, ⟨_, ha 6 (by omega), fun i hi => ?_⟩, ⟨_, ha 7 (by omega), fun i hi => ?_⟩⟩, ⟨_, ha 4 (by omega)⟩, ⟨_, ha 8 (by omega), w8⟩, hn, ⟨f6, k6, e6, fun z => absurd (show (0 : Nat) = 1 from z) (by decide), fun z => absurd (show (0 : Nat) = 1 from z) (by decide)⟩, ⟨f7, (hk 99 (by omega)).trans r7, fun i (hi : i < 0) => absurd hi (by omega), fun z => absurd (show (0 : Nat) = 1 from z) (by decide), fun z => absurd (show (0 : Nat) = 1 from z) (by decide)⟩, ⟨f8, (hk 100 (by omega)).trans r8, fun z => absurd (show (0 : Nat) = 1 from z) (by decide), fun z => absurd (show (0 : Nat) = 1 from z) (by decide)⟩, ⟨f9, k9, e90, e91⟩, ⟨f10, (hk 102 (by omega)).trans r10⟩, ⟨f11, (hk 103 (by omega)).trans r11⟩, ⟨f12, (hk 104 (by omega)).trans r12, fun i (hi : i < 0) => absurd hi (by omega)⟩, ⟨f13, (hk 105 (by omega)).trans r13, fun i (hi : i < 0) => absurd hi (by omega)⟩, ⟨f14, (hk 106 (by omega)).trans r14, fun i (hi : i < 0) => absurd hi (by omega)⟩, ⟨f15, (hk 107 (by omega)).trans r15, fun i (hi : i < 0) => absurd hi (by omega)⟩, ⟨f16, (hk 108 (by omega)).trans r16, fun i (hi : i < 0) => absurd hi (by omega)⟩⟩
  · obtain ⟨sc, o1, -⟩ := ob
    exact ⟨sc, σ.2.2, o1⟩
  · exact (w0 i hi).trans (ag1 i hi).symm
  · exact (w2 i hi).1.trans (ag2 i hi).1.symm
  · exact (w2 i hi).2.trans (ag2 i hi).2.symm
  · exact (w6 i hi).1.trans (ag3 i hi).1.symm
  · exact (w6 i hi).2.trans (ag3 i hi).2.symm
section MSHEDS2
variable (X : EX) (d : Nat) (h : AH) (σ : Sp)
theorem l_sheds (ps : PS) (c : Nat) (F1 : Nat → Nat → Int32) (h1 : AH) (b1 b2 b3 b4 b7 : Int32) (mi : MI h σ) (psi : PSI ps) (sh : SH ps F1) (jm0 : JM h h1 F1 (σ.2.1 6) (oMq (nI (σ.1 0)) b1 b2 b3 b4 0 (nI c) b7 (nI (σ.1 4)) (nI (σ.1 5)) σ.2.2)) (Q : Option Value → AH → Prop) (hQ : ∀ h2, (∀ wi we br li fa, AG ps wi we br li fa → MI h2 (sShed σ ps wi we br li fa)) → Fr 86 109 h h2 → Q (some (.int (nI c))) h2) : T X d M_Mo_sheds 19 [.ref 86, .null] [] h1 Q := by
  obtain ⟨y1, y2, y3, y4, y5, y6⟩ := sh
  obtain ⟨p1, p2, p3, p4, p5, p6, p7⟩ := psi
  obtain ⟨-, -, ha1, -, k1⟩ := id jm0
  refine T_aload_n (pc' := 20) d_Mo_sheds_19 rfl rfl rfl ?_
  refine T_get (pc' := 23) d_Mo_sheds_20 rfl g_Mo_17 (by first | assumption | exact e_put_s | simp [e_put, *]) rfl ?_
  refine T_iconst (v := 0) (pc' := 24) d_Mo_sheds_23 rfl (by decide) ?_
  refine T_aload_n (pc' := 25) d_Mo_sheds_24 rfl rfl rfl ?_
  refine T_get (pc' := 28) d_Mo_sheds_25 rfl g_Mo_17 (by first | assumption | exact e_put_s | simp [e_put, *]) rfl ?_
  refine T_iconst (v := 1) (pc' := 29) d_Mo_sheds_28 rfl (by decide) ?_
  refine T_ialoadL 1 (pc' := 30) d_Mo_sheds_29 rfl (ha1 1 (by omega)) (by decide) ?_
  rw [y2]
  refine T_iastoreL 0 (pc' := 31) d_Mo_sheds_30 rfl (ha1 1 (by omega)) (by decide) ?_
  have jm1 := jm0.row (j := 1) (f := e_up (F1 1) 0 (nI (ps.1 0))) (by omega)
  obtain ⟨-, -, ha2, -, k2⟩ := id jm1
  refine T_aload_n (pc' := 32) d_Mo_sheds_31 rfl rfl rfl ?_
  refine T_get (pc' := 35) d_Mo_sheds_32 rfl g_Mo_29 k2 rfl ?_
  refine T_iconst (v := 0) (pc' := 36) d_Mo_sheds_35 rfl (by decide) ?_
  refine T_aload_n (pc' := 37) d_Mo_sheds_36 rfl rfl rfl ?_
  refine T_get (pc' := 40) d_Mo_sheds_37 rfl g_Mo_29 k2 rfl ?_
  refine T_iconst (v := 1) (pc' := 41) d_Mo_sheds_40 rfl (by decide) ?_
  refine T_ialoadL 1 (pc' := 42) d_Mo_sheds_41 rfl (ha2 5 (by omega)) (by decide) ?_
  rw [show upF F1 1 (e_up (F1 1) 0 (nI (ps.1 0))) 5 1 = nI (ps.1 1) from y4]
  refine T_iastoreL 0 (pc' := 43) d_Mo_sheds_42 rfl (ha2 5 (by omega)) (by decide) ?_
  have jm2 := jm1.row (j := 5) (f := e_up (upF F1 1 (e_up (F1 1) 0 (nI (ps.1 0))) 5) 0 (nI (ps.1 1))) (by omega)
  obtain ⟨-, -, ha3, -, k3⟩ := id jm2
  refine T_aload_n (pc' := 44) d_Mo_sheds_43 rfl rfl rfl ?_
  refine T_get (pc' := 47) d_Mo_sheds_44 rfl g_Mo_38 k3 rfl ?_
  refine T_iconst (v := 0) (pc' := 48) d_Mo_sheds_47 rfl (by decide) ?_
  refine T_aload_n (pc' := 49) d_Mo_sheds_48 rfl rfl rfl ?_
  refine T_get (pc' := 52) d_Mo_sheds_49 rfl g_Mo_38 k3 rfl ?_
  refine T_iconst (v := 1) (pc' := 53) d_Mo_sheds_52 rfl (by decide) ?_
  refine T_ialoadL 1 (pc' := 54) d_Mo_sheds_53 rfl (ha3 8 (by omega)) (by decide) ?_
  rw [show upF (upF F1 1 (e_up (F1 1) 0 (nI (ps.1 0)))) 5 (e_up (upF F1 1 (e_up (F1 1) 0 (nI (ps.1 0))) 5) 0 (nI (ps.1 1))) 8 1 = ps.2 5 0 from y6]
  refine T_iastoreL 0 (pc' := 55) d_Mo_sheds_54 rfl (ha3 8 (by omega)) (by decide) ?_
  have jm3 := jm2.row (j := 8) (f := e_up (upF (upF F1 1 (e_up (F1 1) 0 (nI (ps.1 0)))) 5 (e_up (upF F1 1 (e_up (F1 1) 0 (nI (ps.1 0))) 5) 0 (nI (ps.1 1))) 8) 0 (ps.2 5 0)) (by omega)
  refine T_iconst (v := 0) (pc' := 56) d_Mo_sheds_55 rfl (by decide) ?_
  refine T_is_n1 (pc' := 57) d_Mo_sheds_56 rfl rfl (Nat.le_of_ble_eq_true rfl) rfl ?_
  refine l_sw X _ h _ (σ.2.1 6) _ _ _ _ _ _ _ _ _ _ _ _ (fun h5 F5 jm5 a1 a2 => ?_) 10 0 rfl _ _ jm3 (fun _ _ => rfl) (fun _ _ => rfl) (fun j hj => absurd hj (by omega))
  have z0 : ∀ j, j < 10 → F5 0 j = ps.2 0 j := fun j hj => (a2 j hj).trans (y1 j hj)
  have z1 : F5 1 0 = nI (ps.1 0) := by rw [a1 1 (by decide)]; rfl
  have z5 : F5 5 0 = nI (ps.1 1) := by rw [a1 5 (by decide)]; rfl
  have z8 : F5 8 0 = ps.2 5 0 := by rw [a1 8 (by decide)]; rfl
  have z2 : ∀ j, j < ps.1 0 → F5 2 (3 + j) = ps.2 1 j ∧ F5 3 (3 + j) = ps.2 2 j ∧ F5 4 (3 + j) = ps.2 6 j := fun j hj => by
    rw [a1 2 (by decide), a1 3 (by decide), a1 4 (by decide)]; exact y3 j hj
  have z6 : ∀ j, j < ps.1 1 → F5 6 (4 + j) = ps.2 3 j ∧ F5 7 (4 + j) = ps.2 4 j := fun j hj => by
    rw [a1 6 (by decide), a1 7 (by decide)]; exact y5 j hj
  clear a1 a2 jm3 jm2 jm1 ha3 ha2 k2 k3
  refine T_iconst (v := 0) (pc' := 85) d_Mo_sheds_84 rfl (by decide) ?_
  refine T_is_n1 (pc' := 86) d_Mo_sheds_85 rfl rfl (Nat.le_of_ble_eq_true rfl) rfl ?_
  refine l_sn X _ h F5 (σ.2.1 6) _ _ _ _ _ _ _ _ _ _ _ _ (fun h6 jm6 => ?_) 11 0 rfl h5 (by rw [sRow_0]; exact jm5)
  refine T_iconst (v := 0) (pc' := 106) d_Mo_sheds_105 rfl (by decide) ?_
  refine T_is_n1 (pc' := 107) d_Mo_sheds_106 rfl rfl (Nat.le_of_ble_eq_true rfl) rfl ?_
  refine l_sp X _ h F5 (sRow (σ.2.1 6) 0 (fun _ => 0) 11) (ps.1 0) (ps.2 6) p1 z1 (fun j hj => (z2 j hj).2.2) p7 _ _ _ _ _ _ _ _ _ _ _ _ (fun h7 F7 N7 jm7 c1 c2 c3 c4 => ?_) 3 0 rfl h6 F5 _ jm6 (fun _ _ _ => rfl) (fun _ _ => ⟨rfl, rfl⟩) (fun j hj => absurd hj (by omega)) (by rw [show min 0 (ps.1 0) = 0 by omega]; rfl) (fun _ _ => rfl)
  refine T_iconst (v := 0) (pc' := 186) d_Mo_sheds_185 rfl (by decide) ?_
  refine T_is_n1 (pc' := 187) d_Mo_sheds_186 rfl rfl (Nat.le_of_ble_eq_true rfl) rfl ?_
  refine l_sl X _ h F7 N7 _ _ _ _ _ _ _ _ _ _ _ _ (fun h8 F8 jm8 d1 d2 => ?_) 4 0 rfl h7 F7 jm7 (fun _ _ _ => rfl) (fun _ _ => ⟨rfl, rfl⟩) (fun j hj => absurd hj (by omega))
  have v0 : ∀ j, j < 10 → F8 0 j = ps.2 0 j := fun j hj => by rw [d1 0 (by decide) (by decide), c1 0 (by decide) (by decide)]; exact z0 j hj
  have v1 : F8 1 0 = nI (ps.1 0) := by rw [d1 1 (by decide) (by decide), c1 1 (by decide) (by decide)]; exact z1
  have v5 : F8 5 0 = nI (ps.1 1) := by rw [d1 5 (by decide) (by decide), c1 5 (by decide) (by decide)]; exact z5
  have v8 : F8 8 0 = ps.2 5 0 := by rw [d1 8 (by decide) (by decide), c1 8 (by decide) (by decide)]; exact z8
  have v2 : ∀ j, j < ps.1 0 → F8 2 j = ps.2 1 j ∧ F8 3 j = ps.2 2 j := fun j hj => by
    rw [d1 2 (by decide) (by decide), d1 3 (by decide) (by decide), (c2 j (by omega)).1, (c2 j (by omega)).2]
    exact ⟨(z2 j hj).1, (z2 j hj).2.1⟩
  have v6 : ∀ j, j < ps.1 1 → F8 6 j = ps.2 3 j ∧ F8 7 j = ps.2 4 j := fun j hj => by
    rw [(d2 j (by omega)).1, (d2 j (by omega)).2, c1 6 (by decide) (by decide), c1 7 (by decide) (by decide)]; exact z6 j hj
  obtain ⟨-, -, ha8, hn8, k8⟩ := id jm8
  refine T_aload_n (pc' := 227) d_Mo_sheds_226 rfl rfl rfl ?_
  refine T_get (pc' := 230) d_Mo_sheds_227 rfl g_Mo_41 (by first | assumption | exact e_put_s | simp [e_put, *]) rfl ?_
  refine T_iconst (v := 1) (pc' := 231) d_Mo_sheds_230 rfl (by decide) ?_
  refine T_aload_n (pc' := 232) d_Mo_sheds_231 rfl rfl rfl ?_
  refine T_get (pc' := 235) d_Mo_sheds_232 rfl g_Mo_38 (by first | assumption | exact e_put_s | simp [e_put, *]) rfl ?_
  refine T_iconst (v := 0) (pc' := 236) d_Mo_sheds_235 rfl (by decide) ?_
  refine T_ialoadL 0 (pc' := 237) d_Mo_sheds_236 rfl (ha8 8 (by omega)) (by decide) ?_
  rw [v8]
  refine T_iastoreL 1 (pc' := 238) d_Mo_sheds_237 rfl hn8 (by decide) ?_
  have jm9 := jm8.now (f := e_up N7 1 (ps.2 5 0))
  obtain ⟨-, -, -, hn9, k9⟩ := id jm9
  refine T_aload_n (pc' := 239) d_Mo_sheds_238 rfl rfl rfl ?_
  refine T_get (pc' := 242) d_Mo_sheds_239 rfl g_Mo_41 k9 rfl ?_
  refine T_iconst (v := 3) (pc' := 243) d_Mo_sheds_242 rfl (by decide) ?_
  refine T_bipush (v := (-9)) (pc' := 245) d_Mo_sheds_243 rfl (by decide) ?_
  refine T_iastoreL 3 (pc' := 246) d_Mo_sheds_245 rfl hn9 (by decide) ?_
  rw [e_pp]
  have jm10 := jm8.now (f := e_up (e_up N7 1 (ps.2 5 0)) 3 (-9))
  obtain ⟨-, -, -, hn10, k10⟩ := id jm10
  refine T_aload_n (pc' := 247) d_Mo_sheds_246 rfl rfl rfl ?_
  refine T_get (pc' := 250) d_Mo_sheds_247 rfl g_Mo_41 k10 rfl ?_
  refine T_iconst (v := 4) (pc' := 251) d_Mo_sheds_250 rfl (by decide) ?_
  refine T_bipush (v := (-9)) (pc' := 253) d_Mo_sheds_251 rfl (by decide) ?_
  refine T_iastoreL 4 (pc' := 254) d_Mo_sheds_253 rfl hn10 (by decide) ?_
  rw [e_pp]
  have eN : e_up (e_up (e_up N7 1 (ps.2 5 0)) 3 (-9)) 4 (-9) = sStart (σ.2.1 6) (ps.2 5 0) (sAb (ps.2 6) (ps.1 0)) := by
    funext k
    rw [e_upL, e_upL, e_upL, sStart]
    by_cases q4 : k = 4
    · rw [if_pos q4, if_neg (by omega), if_pos (by omega)]
    rw [if_neg q4]
    by_cases q3 : k = 3
    · rw [if_pos q3, if_neg (by omega), if_pos (by omega)]
    rw [if_neg q3]
    by_cases q1 : k = 1
    · rw [if_pos q1, if_pos q1]
    rw [if_neg q1, if_neg q1, if_neg (by omega)]
    by_cases q6 : k = 6
    · rw [if_pos q6, q6]; exact c3
    rw [if_neg q6, c4 k q6, sRow]
    by_cases q11 : k < 11
    · rw [if_pos (by omega), if_pos q11]
    · rw [if_neg (by omega), if_neg q11]
  have jm11 := jm8.now (f := e_up (e_up (e_up N7 1 (ps.2 5 0)) 3 (-9)) 4 (-9))
  rw [eN] at jm11 ⊢
  generalize e_put h8 97 (.inl (0, 11, sStart (σ.2.1 6) (ps.2 5 0) (sAb (ps.2 6) (ps.1 0)))) = H at jm11 ⊢
  obtain ⟨o1, o2, ha11, hn11, k11⟩ := jm11
  obtain ⟨-, -, -, -, -, -, ⟨f6, r6, -⟩, -, -, ⟨f9, r9, -⟩, -⟩ := id mi
  have u6 := (o2 98 (by omega)).trans r6
  have u9 := (o2 101 (by omega)).trans r9
  refine T_aload_n (pc' := 255) d_Mo_sheds_254 rfl rfl rfl ?_
  refine T_get (pc' := 258) d_Mo_sheds_255 rfl g_Mo_44 (by first | assumption | exact e_put_s | simp [e_put, *]) rfl ?_
  refine T_iconst (v := 0) (pc' := 259) d_Mo_sheds_258 rfl (by decide) ?_
  refine T_iconst (v := 0) (pc' := 260) d_Mo_sheds_259 rfl (by decide) ?_
  refine T_iastoreL 0 (pc' := 261) d_Mo_sheds_260 rfl u6 (by decide) ?_
  refine T_aload_n (pc' := 262) d_Mo_sheds_261 rfl rfl rfl ?_
  refine T_get (pc' := 265) d_Mo_sheds_262 rfl g_Mo_53 ((e_put_n (by decide)).trans k11) rfl ?_
  refine T_iconst (v := 0) (pc' := 266) d_Mo_sheds_265 rfl (by decide) ?_
  refine T_iconst (v := 0) (pc' := 267) d_Mo_sheds_266 rfl (by decide) ?_
  refine T_zastore (pc' := 268) d_Mo_sheds_267 rfl ((e_put_n (by decide)).trans u9) (vp_in_nI (n := 0) (by decide) (by decide)) ?_
  refine T_aload_n (pc' := 269) d_Mo_sheds_268 rfl rfl rfl ?_
  refine T_get (pc' := 272) d_Mo_sheds_269 rfl g_Mo_53 ((e_put_n (by decide)).trans ((e_put_n (by decide)).trans k11)) rfl ?_
  refine T_iconst (v := 1) (pc' := 273) d_Mo_sheds_272 rfl (by decide) ?_
  refine T_iconst (v := 0) (pc' := 274) d_Mo_sheds_273 rfl (by decide) ?_
  refine T_zastore (pc' := 275) d_Mo_sheds_274 rfl e_put_s (vp_in_nI (n := 1) (by decide) (by decide)) ?_
  rw [e_pp]
  refine T_aload_n (pc' := 276) d_Mo_sheds_275 rfl rfl rfl ?_
  refine T_iconst (v := 0) (pc' := 277) d_Mo_sheds_276 rfl (by decide) ?_
  refine T_puti28 (pc' := 280) d_Mo_sheds_277 rfl f_Mo_134 (fun z => absurd z Bool.false_ne_true) ((e_put_n (by decide)).trans ((e_put_n (by decide)).trans k11)) ?_
  refine T_aload_n (pc' := 281) d_Mo_sheds_280 rfl rfl rfl ?_
  refine T_iconst (v := 0) (pc' := 282) d_Mo_sheds_281 rfl (by decide) ?_
  refine T_puti31 (pc' := 285) d_Mo_sheds_282 rfl f_Mo_137 (fun z => absurd z Bool.false_ne_true) e_put_s ?_
  rw [e_pp]
  refine T_aload_n (pc' := 286) d_Mo_sheds_285 rfl rfl rfl ?_
  refine T_iconst (v := 0) (pc' := 287) d_Mo_sheds_286 rfl (by decide) ?_
  refine T_puti1 (pc' := 290) d_Mo_sheds_287 rfl f_Mo_82 (fun z => absurd z Bool.false_ne_true) e_put_s ?_
  rw [e_pp]
  refine T_aload_n (pc' := 291) d_Mo_sheds_290 rfl rfl rfl ?_
  refine T_get (pc' := 294) d_Mo_sheds_291 rfl g_Mo_120 e_put_s rfl ?_
  refine T_iret d_Mo_sheds_294 rfl ?_
  refine hQ _ (fun wi we br li fa ag => ?_) ⟨o1, fun k hk => (e_put_n (by omega)).trans ((e_put_n (by omega)).trans ((e_put_n (by omega)).trans (o2 k (by omega))))⟩
  refine MI_shed (F := F8) (b1 := b1) (b2 := b2) (b3 := b3) (b4 := b4) (b5 := 0) (b6 := nI c) (b7 := b7) mi (fun k hk => (e_put_n (by omega)).trans ((e_put_n (by omega)).trans ((e_put_n (by omega)).trans (o2 k (by omega))))) (fun j hj => (e_put_n (by omega)).trans ((e_put_n (by omega)).trans ((e_put_n (by omega)).trans (ha11 j hj)))) ((e_put_n (by decide)).trans ((e_put_n (by decide)).trans ((e_put_n (by decide)).trans hn11))) e_put_s ((e_put_n (by decide)).trans ((e_put_n (by decide)).trans e_put_s)) ?_ ((e_put_n (by decide)).trans e_put_s) ?_ ?_ v0 v1 v2 v5 v6 v8 ag
  · rfl
  · rfl
  · rfl
theorem p_Mo_sheds (mi : MI h σ) (si : SI σ) : Ci X (d + 20) M_Mo_sheds [.ref 86] h (fun v h1 => ((∃ q, sRd (bt σ) (σ.1 0) = .inl q ∧ v = -10 - nI q ∧ MI h1 σ) ∨ (∃ z, sRd (bt σ) (σ.1 0) = .inr z ∧ v = nI z.1 ∧ ∀ wi we br li fa, AG z.2 wi we br li fa → MI h1 (sShed σ z.2 wi we br li fa))) ∧ Fr 86 109 h h1) := by
  obtain ⟨sc, r0, q0, q8, q9⟩ := mi.1
  have k0 : h.2 86 = some (oMq (nI (σ.1 0)) (sc 1) (sc 2) (sc 3) (sc 4) (sc 5) (sc 6) (sc 7) (nI (σ.1 4)) (nI (σ.1 5)) σ.2.2) := by rw [← q0, ← q8, ← q9]; exact r0
  obtain ⟨F, ha, fh⟩ := MI_HA mi
  obtain ⟨f, htx, ok⟩ := MI_okM mi si
  refine C_of_T rfl rfl (Nat.le_of_ble_eq_true rfl) rfl ?_
  refine T_aload_n (pc' := 1) d_Mo_sheds_0 rfl rfl rfl ?_
  refine T_V0v (pc' := 4) d_Mo_sheds_1 rfl l_Mo_131 v_Mo_read (by first | assumption | exact e_put_s | simp [e_put, *]) (Nat.le_of_ble_eq_true rfl) (c_Mo_read X _ h σ f (bt σ) (σ.1 0) F _ _ _ _ _ _ _ _ _ _ si ok htx ha fh k0) (fun h1 hq => ?_)
  obtain ⟨hq, ex⟩ := hq
  rcases hq with ⟨q, e, F1, a6, a7, pm, ha1, fh1⟩ | ⟨z, t', F1, e, pm, ha1, fh1, sh1, psi, hz⟩
  · obtain ⟨a1, so, va, b6, b7, k1⟩ := pm
    refine T_aload_n (pc' := 5) d_Mo_sheds_4 rfl rfl rfl ?_
    refine T_get (pc' := 8) d_Mo_sheds_5 rfl g_Mo_102 (by first | assumption | exact e_put_s | simp [e_put, *]) rfl ?_
    refine T_if_eq (pc' := 11) (tgt := 19) d_Mo_sheds_8 rfl (by decide) (fun hzz => absurd hzz (by decide)) (fun _ => ?_)
    refine T_bipush (v := (-10)) (pc' := 13) d_Mo_sheds_11 rfl (by decide) ?_
    refine T_aload_n (pc' := 14) d_Mo_sheds_13 rfl rfl rfl ?_
    refine T_get (pc' := 17) d_Mo_sheds_14 rfl g_Mo_93 (by first | assumption | exact e_put_s | simp [e_put, *]) rfl ?_
    refine T_isub (pc' := 18) d_Mo_sheds_17 rfl ?_
    refine T_iret d_Mo_sheds_18 rfl ?_
    exact ⟨_, rfl, Or.inl ⟨q, e, rfl, MI_par mi ex ha1 fh1 k1⟩, ex.1, fun k hk => ex.2 k (by omega) (by omega)⟩
  · obtain ⟨so, va, k1, mt⟩ := pm
    refine T_aload_n (pc' := 5) d_Mo_sheds_4 rfl rfl rfl ?_
    refine T_get (pc' := 8) d_Mo_sheds_5 rfl g_Mo_102 (by first | assumption | exact e_put_s | simp [e_put, *]) rfl ?_
    refine T_if_eq (pc' := 11) (tgt := 19) d_Mo_sheds_8 rfl (by decide) (fun _ => ?_) (fun hzz => absurd (by decide) hzz)
    refine l_sheds X _ h σ z.2 z.1 F1 h1 _ _ _ _ _ mi psi sh1 ⟨ex.1, fun k hk => ex.2 k (by omega) (by omega), ha1, (ex.2 97 (by decide) (by decide)).trans mi.2.2.2.2.2.1, k1⟩ _ (fun h2 a b => ⟨_, rfl, Or.inr ⟨z, e, rfl, a⟩, b⟩)
end MSHEDS2
