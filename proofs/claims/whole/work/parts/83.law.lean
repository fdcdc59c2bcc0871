/-! THE RUN of calls: written by gen/lawgen.py -/
theorem T_arg {X : EX} {d : Nat} {M : Mt} {pc pc' i : Nat} {k : Nat} {kz : Int} {ls st : List Value} {h : AH} {Q : Option Value → AH → Prop} (h0 : decode M.2.1 pc = .ok (.aload_n 0, 1)) (h1 : decode M.2.1 (pc + 1) = .ok (.iload_n 3, 1)) (h2 : decode M.2.1 (pc + 2) = .ok (.iconst kz, 1)) (h3 : decode M.2.1 (pc + 3) = .ok (.iadd, 1)) (h4 : decode M.2.1 (pc + 4) = .ok (.iaload, 1)) (hn : pc + 5 = pc') (hz : Int32.ofInt kz = nI k) (l0 : ls[0]? = some (.ref (1000000 + 3))) (l3 : ls[3]? = some (.int (nI i))) (hk : i + k < (X.2.2.2 3).1) (hb : (X.2.2.2 3).1 < 2 ^ 31) (kk : T X d M pc' ls (.int ((X.2.2.2 3).2 (i + k)) :: st) h Q) : T X d M pc ls st h Q := by
  refine T_aload_n (pc' := pc + 1) h0 rfl rfl l0 ?_
  refine T_iload_n (pc' := pc + 2) h1 rfl rfl l3 ?_
  refine T_iconst (pc' := pc + 3) h2 rfl hz ?_
  refine T_iadd (pc' := pc + 4) h3 rfl ?_
  rw [nI_add]
  refine T_roald (j := 3) (pc' := pc') h4 hn (by decide) (vp_in_nI hk hb) ?_
  rw [nI_clamp (by omega)]
  exact kk
theorem law_end {n i : Nat} (hn : n < 2 ^ 31) (hi : i ≤ n) (hc : ¬ nI n - 6 < nI i) : i + 6 ≤ n := by
  refine Classical.byContradiction (fun q => hc ?_)
  rw [Int32.lt_iff_toInt_lt, Int32.toInt_sub, show (6 : Int32).toInt = 6 by decide]
  rw [nI_toInt (by omega), nI_toInt (by omega)]
  have e : (((n : Nat) : Int) - 6).bmod (2 ^ 32) = (n : Int) - 6 := by
    rw [Int.bmod_eq_of_le] <;> omega
  rw [e]
  omega
section LAW
variable (X : EX) (d : Nat)
/-- object and model hold the same state -/
def LI (h : AH) (σ : Sp) : Prop := CI h σ ∧ MI h σ ∧ SI σ
theorem l_law (xt : XT X) (hb : (X.2.2.2 3).1 < 2 ^ 31) (nc : Nat × Nat) (Q : Option Value → AH → Prop) (hQ : ∀ h, h.1 = nc → Q (some (.int 1)) h) : ∀ (N i : Nat) (h : AH) (σ : Sp), (X.2.2.2 3).1 ≤ i + 6 * N → (i ≤ (X.2.2.2 3).1) → h.1 = nc → LI h σ → T X (d + 21) M_La_law 18 [.ref (1000000 + 3), .ref 0, .ref 86, .int (nI i)] [] h Q
  | 0, i, h, σ, hN, hi, hs, li => by
    refine T_iload_n (pc' := 19) d_La_law_18 rfl rfl rfl ?_
    refine T_aload_n (pc' := 20) d_La_law_19 rfl rfl rfl ?_
    refine T_rolen (pc' := 21) d_La_law_20 rfl (by decide) ?_
    refine T_bipush (v := 6) (pc' := 23) d_La_law_21 rfl (by decide) ?_
    refine T_isub (pc' := 24) d_La_law_23 rfl ?_
    have : (X.2.2.2 3).1 = i := by omega
    rw [this]
    refine T_icmp_gt (pc' := 27) (tgt := 891) d_La_law_24 rfl (by decide) (fun _ => ?_) (fun hzz => absurd (Classical.byContradiction (fun q => absurd (law_end (n := i) (by omega) (Nat.le_refl _) q) (by omega))) hzz)
    refine T_iconst (v := 1) (pc' := 892) d_La_law_891 rfl (by decide) ?_
    refine T_zret d_La_law_892 rfl (by first | assumption | exact Or.inl rfl | exact Or.inr rfl) ?_
    exact hQ _ hs
  | N + 1, i, h, σ, hN, hi, hs, li => by
    refine T_iload_n (pc' := 19) d_La_law_18 rfl rfl rfl ?_
    refine T_aload_n (pc' := 20) d_La_law_19 rfl rfl rfl ?_
    refine T_rolen (pc' := 21) d_La_law_20 rfl (by decide) ?_
    refine T_bipush (v := 6) (pc' := 23) d_La_law_21 rfl (by decide) ?_
    refine T_isub (pc' := 24) d_La_law_23 rfl ?_
    by_cases hc : nI (X.2.2.2 3).1 - 6 < nI i
    · refine T_icmp_gt (pc' := 27) (tgt := 891) d_La_law_24 rfl (by decide) (fun _ => ?_) (fun hzz => absurd hc hzz)
      refine T_iconst (v := 1) (pc' := 892) d_La_law_891 rfl (by decide) ?_
      refine T_zret d_La_law_892 rfl (by first | assumption | exact Or.inl rfl | exact Or.inr rfl) ?_
      exact hQ _ hs
    · refine T_icmp_gt (pc' := 27) (tgt := 891) d_La_law_24 rfl (by decide) (fun hzz => absurd hzz hc) (fun _ => ?_)
      have h6 := law_end hb hi hc
      have tail : ∀ h' σ', h'.1 = nc → LI h' σ' → T X (d + 21) M_La_law 885 [.ref (1000000 + 3), .ref 0, .ref 86, .int (nI i)] [] h' Q := by
        intro h' σ' hs' li'
        refine T_ii3 (c := 6) (pc' := 888) d_La_law_885 rfl (by decide) (Nat.le_of_ble_eq_true rfl) rfl ?_
        rw [show nI i + 6 = nI (i + 6) from nI_add i 6]
        refine T_goto (pc' := 18) d_La_law_888 (by decide) ?_
        exact l_law xt hb nc Q hQ N (i + 6) h' σ' (by omega) (by omega) hs' li'
      obtain ⟨ci, mi, si⟩ := li
      have h0 := ci.1
      have s3 := si.1.2.2.2.1
      refine T_aload_n (pc' := 28) d_La_law_27 rfl rfl rfl ?_
      refine T_iload_n (pc' := 29) d_La_law_28 rfl rfl rfl ?_
      refine T_roald (j := 3) (pc' := 30) d_La_law_29 rfl (by decide) (vp_in_nI (by omega) hb) ?_
      refine T_bipush (v := 31) (pc' := 32) d_La_law_30 rfl (by decide) ?_
      refine T_iand (pc' := 33) d_La_law_32 rfl ?_
      refine sw_La_law_33 (fun _ => ?_) (fun _ => ?_) (fun _ => ?_) (fun _ => ?_) (fun _ => ?_) (fun _ => ?_) (fun _ => ?_) (fun _ => ?_) (fun _ => ?_) (fun _ => ?_) (fun _ => ?_) (fun _ => ?_) (fun _ => ?_) (fun _ => ?_) (fun _ => ?_) (fun _ => ?_) (fun _ => ?_) (fun _ => ?_) (fun _ => ?_) (fun _ => ?_) (fun _ => ?_) (fun _ => ?_) (fun _ => ?_) (fun _ => ?_) (fun _ => ?_) (fun _ => ?_) (fun _ => ?_) (fun _ => ?_) ?_
      · refine T_aload_n (pc' := 161) d_La_law_160 rfl rfl rfl ?_
        refine T_arg (k := 1) (pc' := 166) d_La_law_161 d_La_law_162 d_La_law_163 d_La_law_164 d_La_law_165 rfl (by decide) rfl rfl (by omega) hb ?_
        refine T_V1i (pc' := 169) d_La_law_166 rfl l_La_13 v_Tb_type (by first | assumption | exact e_put_s | simp [e_put, *]) (Nat.le_of_ble_eq_true rfl) (p_Tb_type X _ h σ _ ci si) (fun v h1 hq => ?_)
        obtain ⟨rfl, ci1, fr1⟩ := hq
        have mi1 := MI_fr fr1 (by decide) mi
        obtain ⟨sc, r0, -⟩ := mi1.1
        refine T_aload_n (pc' := 170) d_La_law_169 rfl rfl rfl ?_
        refine T_arg (k := 1) (pc' := 175) d_La_law_170 d_La_law_171 d_La_law_172 d_La_law_173 d_La_law_174 rfl (by decide) rfl rfl (by omega) hb ?_
        refine T_V1i (pc' := 178) d_La_law_175 rfl l_La_17 v_Mo_type (by first | assumption | exact e_put_s | simp [e_put, *]) (Nat.le_of_ble_eq_true rfl) (p_Mo_type X _ h1 σ _ mi1 si) (fun w h2 hq2 => ?_)
        obtain ⟨rfl, mi2, fr2⟩ := hq2
        refine T_icmp_eq (pc' := 181) (tgt := 885) d_La_law_178 rfl (by decide) (fun _ => ?_) (fun hzz => absurd rfl hzz)
        have si1 := SI_type si ((X.2.2.2 3).2 (i + 1))
        exact tail h2 _ (fr2.1.trans (fr1.1.trans hs)) ⟨CI_fr fr2 (by decide) si1.1.2.2.2.1 ci1, mi2, si1⟩
      · refine T_aload_n (pc' := 184) d_La_law_183 rfl rfl rfl ?_
        refine T_V0i (pc' := 187) d_La_law_184 rfl l_La_18 v_Tb_clear (by first | assumption | exact e_put_s | simp [e_put, *]) (Nat.le_of_ble_eq_true rfl) (p_Tb_clear X _ h σ ci si) (fun v h1 hq => ?_)
        obtain ⟨rfl, ci1, fr1⟩ := hq
        have mi1 := MI_fr fr1 (by decide) mi
        obtain ⟨sc, r0, -⟩ := mi1.1
        refine T_aload_n (pc' := 188) d_La_law_187 rfl rfl rfl ?_
        refine T_V0i (pc' := 191) d_La_law_188 rfl l_La_22 v_Mo_clear (by first | assumption | exact e_put_s | simp [e_put, *]) (Nat.le_of_ble_eq_true rfl) (p_Mo_clear X _ h1 σ mi1 si) (fun w h2 hq2 => ?_)
        obtain ⟨rfl, mi2, fr2⟩ := hq2
        refine T_icmp_eq (pc' := 194) (tgt := 885) d_La_law_191 rfl (by decide) (fun _ => ?_) (fun hzz => absurd rfl hzz)
        have si1 := SI_clear si
        exact tail h2 _ (fr2.1.trans (fr1.1.trans hs)) ⟨CI_fr fr2 (by decide) si1.1.2.2.2.1 ci1, mi2, si1⟩
      · refine T_aload_n (pc' := 197) d_La_law_196 rfl rfl rfl ?_
        refine T_V0i (pc' := 200) d_La_law_197 rfl l_La_23 v_Tb_sheds (by first | assumption | exact e_put_s | simp [e_put, *]) (Nat.le_of_ble_eq_true rfl) (p_Tb_sheds X _ h σ xt ci si) (fun v h1 hq => ?_)
        obtain ⟨hq, fr1⟩ := hq
        have mi1 := MI_fr fr1 (by decide) mi
        obtain ⟨sc, r0, -⟩ := mi1.1
        refine T_aload_n (pc' := 201) d_La_law_200 rfl rfl rfl ?_
        refine T_V0i (pc' := 204) d_La_law_201 rfl l_La_26 v_Mo_sheds (by first | assumption | exact e_put_s | simp [e_put, *]) (Nat.le_of_ble_eq_true rfl) (p_Mo_sheds X _ h1 σ mi1 si) (fun w h2 hq2 => ?_)
        obtain ⟨hq2, fr2⟩ := hq2
        rcases hq with ⟨q, e, rfl, ci1⟩ | ⟨z, wi, we, br, li, fa, e, rfl, ag, si1, ci1⟩
        · rcases hq2 with ⟨q2, e2, rfl, mi2⟩ | ⟨z2, e2, rfl, mi2⟩
          · rw [e] at e2
            cases e2
            refine T_icmp_eq (pc' := 207) (tgt := 885) d_La_law_204 rfl (by decide) (fun _ => ?_) (fun hzz => absurd rfl hzz)
            exact tail h2 _ (fr2.1.trans (fr1.1.trans hs)) ⟨CI_fr fr2 (by decide) s3 ci1, mi2, si⟩
          · rw [e] at e2; cases e2
        · rcases hq2 with ⟨q2, e2, rfl, mi2⟩ | ⟨z2, e2, rfl, mi2⟩
          · rw [e] at e2; cases e2
          · rw [e] at e2
            cases e2
            refine T_icmp_eq (pc' := 207) (tgt := 885) d_La_law_204 rfl (by decide) (fun _ => ?_) (fun hzz => absurd rfl hzz)
            exact tail h2 _ (fr2.1.trans (fr1.1.trans hs)) ⟨CI_fr fr2 (by decide) si1.1.2.2.2.1 ci1, mi2 _ _ _ _ _ ag, si1⟩
      · refine T_aload_n (pc' := 210) d_La_law_209 rfl rfl rfl ?_
        refine T_arg (k := 1) (pc' := 215) d_La_law_210 d_La_law_211 d_La_law_212 d_La_law_213 d_La_law_214 rfl (by decide) rfl rfl (by omega) hb ?_
        refine T_V1i (pc' := 218) d_La_law_215 rfl l_La_27 v_Tb_wind (by first | assumption | exact e_put_s | simp [e_put, *]) (Nat.le_of_ble_eq_true rfl) (p_Tb_wind X _ h σ _ ci si) (fun v h1 hq => ?_)
        obtain ⟨rfl, ci1, fr1⟩ := hq
        have mi1 := MI_fr fr1 (by decide) mi
        obtain ⟨sc, r0, -⟩ := mi1.1
        refine T_aload_n (pc' := 219) d_La_law_218 rfl rfl rfl ?_
        refine T_arg (k := 1) (pc' := 224) d_La_law_219 d_La_law_220 d_La_law_221 d_La_law_222 d_La_law_223 rfl (by decide) rfl rfl (by omega) hb ?_
        refine T_V1i (pc' := 227) d_La_law_224 rfl l_La_30 v_Mo_wind (by first | assumption | exact e_put_s | simp [e_put, *]) (Nat.le_of_ble_eq_true rfl) (p_Mo_wind X _ h1 σ _ mi1 si) (fun w h2 hq2 => ?_)
        obtain ⟨rfl, mi2, fr2⟩ := hq2
        refine T_icmp_eq (pc' := 230) (tgt := 885) d_La_law_227 rfl (by decide) (fun _ => ?_) (fun hzz => absurd rfl hzz)
        exact tail h2 _ (fr2.1.trans (fr1.1.trans hs)) ⟨CI_fr fr2 (by decide) s3 ci1, mi2, si⟩
      · refine T_aload_n (pc' := 233) d_La_law_232 rfl rfl rfl ?_
        refine T_arg (k := 1) (pc' := 238) d_La_law_233 d_La_law_234 d_La_law_235 d_La_law_236 d_La_law_237 rfl (by decide) rfl rfl (by omega) hb ?_
        refine T_arg (k := 2) (pc' := 243) d_La_law_238 d_La_law_239 d_La_law_240 d_La_law_241 d_La_law_242 rfl (by decide) rfl rfl (by omega) hb ?_
        refine T_V2i (pc' := 246) d_La_law_243 rfl l_La_31 v_Tb_one (by first | assumption | exact e_put_s | simp [e_put, *]) (Nat.le_of_ble_eq_true rfl) (p_Tb_one X _ h σ _ _ ci si) (fun v h1 hq => ?_)
        obtain ⟨rfl, ci1, fr1⟩ := hq
        have mi1 := MI_fr fr1 (by decide) mi
        obtain ⟨sc, r0, -⟩ := mi1.1
        refine T_aload_n (pc' := 247) d_La_law_246 rfl rfl rfl ?_
        refine T_arg (k := 1) (pc' := 252) d_La_law_247 d_La_law_248 d_La_law_249 d_La_law_250 d_La_law_251 rfl (by decide) rfl rfl (by omega) hb ?_
        refine T_arg (k := 2) (pc' := 257) d_La_law_252 d_La_law_253 d_La_law_254 d_La_law_255 d_La_law_256 rfl (by decide) rfl rfl (by omega) hb ?_
        refine T_V2i (pc' := 260) d_La_law_257 rfl l_La_35 v_Mo_one (by first | assumption | exact e_put_s | simp [e_put, *]) (Nat.le_of_ble_eq_true rfl) (p_Mo_one X _ h1 σ _ _ mi1 si) (fun w h2 hq2 => ?_)
        obtain ⟨rfl, mi2, fr2⟩ := hq2
        refine T_icmp_eq (pc' := 263) (tgt := 885) d_La_law_260 rfl (by decide) (fun _ => ?_) (fun hzz => absurd rfl hzz)
        exact tail h2 _ (fr2.1.trans (fr1.1.trans hs)) ⟨CI_fr fr2 (by decide) s3 ci1, mi2, si⟩
      · refine T_aload_n (pc' := 266) d_La_law_265 rfl rfl rfl ?_
        refine T_arg (k := 1) (pc' := 271) d_La_law_266 d_La_law_267 d_La_law_268 d_La_law_269 d_La_law_270 rfl (by decide) rfl rfl (by omega) hb ?_
        refine T_arg (k := 2) (pc' := 276) d_La_law_271 d_La_law_272 d_La_law_273 d_La_law_274 d_La_law_275 rfl (by decide) rfl rfl (by omega) hb ?_
        refine T_V2i (pc' := 279) d_La_law_276 rfl l_La_36 v_Tb_thought (by first | assumption | exact e_put_s | simp [e_put, *]) (Nat.le_of_ble_eq_true rfl) (p_Tb_thought X _ h σ _ _ ci si) (fun v h1 hq => ?_)
        obtain ⟨rfl, ci1, fr1⟩ := hq
        have mi1 := MI_fr fr1 (by decide) mi
        obtain ⟨sc, r0, -⟩ := mi1.1
        refine T_aload_n (pc' := 280) d_La_law_279 rfl rfl rfl ?_
        refine T_arg (k := 1) (pc' := 285) d_La_law_280 d_La_law_281 d_La_law_282 d_La_law_283 d_La_law_284 rfl (by decide) rfl rfl (by omega) hb ?_
        refine T_arg (k := 2) (pc' := 290) d_La_law_285 d_La_law_286 d_La_law_287 d_La_law_288 d_La_law_289 rfl (by decide) rfl rfl (by omega) hb ?_
        refine T_V2i (pc' := 293) d_La_law_290 rfl l_La_39 v_Mo_thought (by first | assumption | exact e_put_s | simp [e_put, *]) (Nat.le_of_ble_eq_true rfl) (p_Mo_thought X _ h1 σ _ _ mi1 si) (fun w h2 hq2 => ?_)
        obtain ⟨rfl, mi2, fr2⟩ := hq2
        refine T_icmp_eq (pc' := 296) (tgt := 885) d_La_law_293 rfl (by decide) (fun _ => ?_) (fun hzz => absurd rfl hzz)
        exact tail h2 _ (fr2.1.trans (fr1.1.trans hs)) ⟨CI_fr fr2 (by decide) s3 ci1, mi2, si⟩
      · refine T_aload_n (pc' := 299) d_La_law_298 rfl rfl rfl ?_
        refine T_arg (k := 1) (pc' := 304) d_La_law_299 d_La_law_300 d_La_law_301 d_La_law_302 d_La_law_303 rfl (by decide) rfl rfl (by omega) hb ?_
        refine T_arg (k := 2) (pc' := 309) d_La_law_304 d_La_law_305 d_La_law_306 d_La_law_307 d_La_law_308 rfl (by decide) rfl rfl (by omega) hb ?_
        refine T_V2i (pc' := 312) d_La_law_309 rfl l_La_40 v_Tb_begins (by first | assumption | exact e_put_s | simp [e_put, *]) (Nat.le_of_ble_eq_true rfl) (p_Tb_begins X _ h σ _ _ ci si) (fun v h1 hq => ?_)
        obtain ⟨rfl, ci1, fr1⟩ := hq
        have mi1 := MI_fr fr1 (by decide) mi
        obtain ⟨sc, r0, -⟩ := mi1.1
        refine T_aload_n (pc' := 313) d_La_law_312 rfl rfl rfl ?_
        refine T_arg (k := 1) (pc' := 318) d_La_law_313 d_La_law_314 d_La_law_315 d_La_law_316 d_La_law_317 rfl (by decide) rfl rfl (by omega) hb ?_
        refine T_arg (k := 2) (pc' := 323) d_La_law_318 d_La_law_319 d_La_law_320 d_La_law_321 d_La_law_322 rfl (by decide) rfl rfl (by omega) hb ?_
        refine T_V2i (pc' := 326) d_La_law_323 rfl l_La_43 v_Mo_begins (by first | assumption | exact e_put_s | simp [e_put, *]) (Nat.le_of_ble_eq_true rfl) (p_Mo_begins X _ h1 σ _ _ mi1 si) (fun w h2 hq2 => ?_)
        obtain ⟨rfl, mi2, fr2⟩ := hq2
        refine T_icmp_eq (pc' := 329) (tgt := 885) d_La_law_326 rfl (by decide) (fun _ => ?_) (fun hzz => absurd rfl hzz)
        have si1 := SI_begins si ((X.2.2.2 3).2 (i + 1)) ((X.2.2.2 3).2 (i + 2))
        exact tail h2 _ (fr2.1.trans (fr1.1.trans hs)) ⟨CI_fr fr2 (by decide) si1.1.2.2.2.1 ci1, mi2, si1⟩
      · refine T_aload_n (pc' := 332) d_La_law_331 rfl rfl rfl ?_
        refine T_arg (k := 1) (pc' := 337) d_La_law_332 d_La_law_333 d_La_law_334 d_La_law_335 d_La_law_336 rfl (by decide) rfl rfl (by omega) hb ?_
        refine T_V1i (pc' := 340) d_La_law_337 rfl l_La_44 v_Tb_minutes (by first | assumption | exact e_put_s | simp [e_put, *]) (Nat.le_of_ble_eq_true rfl) (p_Tb_minutes X _ h σ _ ci si) (fun v h1 hq => ?_)
        obtain ⟨rfl, ci1, fr1⟩ := hq
        have mi1 := MI_fr fr1 (by decide) mi
        obtain ⟨sc, r0, -⟩ := mi1.1
        refine T_aload_n (pc' := 341) d_La_law_340 rfl rfl rfl ?_
        refine T_arg (k := 1) (pc' := 346) d_La_law_341 d_La_law_342 d_La_law_343 d_La_law_344 d_La_law_345 rfl (by decide) rfl rfl (by omega) hb ?_
        refine T_V1i (pc' := 349) d_La_law_346 rfl l_La_47 v_Mo_minutes (by first | assumption | exact e_put_s | simp [e_put, *]) (Nat.le_of_ble_eq_true rfl) (p_Mo_minutes X _ h1 σ _ mi1 si) (fun w h2 hq2 => ?_)
        obtain ⟨rfl, mi2, fr2⟩ := hq2
        refine T_icmp_eq (pc' := 352) (tgt := 885) d_La_law_349 rfl (by decide) (fun _ => ?_) (fun hzz => absurd rfl hzz)
        have si1 := SI_minutes si ((X.2.2.2 3).2 (i + 1))
        exact tail h2 _ (fr2.1.trans (fr1.1.trans hs)) ⟨CI_fr fr2 (by decide) si1.1.2.2.2.1 ci1, mi2, si1⟩
      · refine T_aload_n (pc' := 355) d_La_law_354 rfl rfl rfl ?_
        refine T_arg (k := 1) (pc' := 360) d_La_law_355 d_La_law_356 d_La_law_357 d_La_law_358 d_La_law_359 rfl (by decide) rfl rfl (by omega) hb ?_
        refine T_V1i (pc' := 363) d_La_law_360 rfl l_La_48 v_Tb_enters (by first | assumption | exact e_put_s | simp [e_put, *]) (Nat.le_of_ble_eq_true rfl) (p_Tb_enters X _ h σ _ ci si) (fun v h1 hq => ?_)
        obtain ⟨rfl, ci1, fr1⟩ := hq
        have mi1 := MI_fr fr1 (by decide) mi
        obtain ⟨sc, r0, -⟩ := mi1.1
        refine T_aload_n (pc' := 364) d_La_law_363 rfl rfl rfl ?_
        refine T_arg (k := 1) (pc' := 369) d_La_law_364 d_La_law_365 d_La_law_366 d_La_law_367 d_La_law_368 rfl (by decide) rfl rfl (by omega) hb ?_
        refine T_V1i (pc' := 372) d_La_law_369 rfl l_La_51 v_Mo_enters (by first | assumption | exact e_put_s | simp [e_put, *]) (Nat.le_of_ble_eq_true rfl) (p_Mo_enters X _ h1 σ _ mi1 si) (fun w h2 hq2 => ?_)
        obtain ⟨rfl, mi2, fr2⟩ := hq2
        refine T_icmp_eq (pc' := 375) (tgt := 885) d_La_law_372 rfl (by decide) (fun _ => ?_) (fun hzz => absurd rfl hzz)
        have si1 := SI_enters si ((X.2.2.2 3).2 (i + 1))
        exact tail h2 _ (fr2.1.trans (fr1.1.trans hs)) ⟨CI_fr fr2 (by decide) si1.1.2.2.2.1 ci1, mi2, si1⟩
      · refine T_aload_n (pc' := 378) d_La_law_377 rfl rfl rfl ?_
        refine T_arg (k := 1) (pc' := 383) d_La_law_378 d_La_law_379 d_La_law_380 d_La_law_381 d_La_law_382 rfl (by decide) rfl rfl (by omega) hb ?_
        refine T_V1i (pc' := 386) d_La_law_383 rfl l_La_52 v_Tb_leaves (by first | assumption | exact e_put_s | simp [e_put, *]) (Nat.le_of_ble_eq_true rfl) (p_Tb_leaves X _ h σ _ ci si) (fun v h1 hq => ?_)
        obtain ⟨rfl, ci1, fr1⟩ := hq
        have mi1 := MI_fr fr1 (by decide) mi
        obtain ⟨sc, r0, -⟩ := mi1.1
        refine T_aload_n (pc' := 387) d_La_law_386 rfl rfl rfl ?_
        refine T_arg (k := 1) (pc' := 392) d_La_law_387 d_La_law_388 d_La_law_389 d_La_law_390 d_La_law_391 rfl (by decide) rfl rfl (by omega) hb ?_
        refine T_V1i (pc' := 395) d_La_law_392 rfl l_La_55 v_Mo_leaves (by first | assumption | exact e_put_s | simp [e_put, *]) (Nat.le_of_ble_eq_true rfl) (p_Mo_leaves X _ h1 σ _ mi1 si) (fun w h2 hq2 => ?_)
        obtain ⟨rfl, mi2, fr2⟩ := hq2
        refine T_icmp_eq (pc' := 398) (tgt := 885) d_La_law_395 rfl (by decide) (fun _ => ?_) (fun hzz => absurd rfl hzz)
        have si1 := SI_leaves si ((X.2.2.2 3).2 (i + 1))
        exact tail h2 _ (fr2.1.trans (fr1.1.trans hs)) ⟨CI_fr fr2 (by decide) si1.1.2.2.2.1 ci1, mi2, si1⟩
      · refine T_aload_n (pc' := 401) d_La_law_400 rfl rfl rfl ?_
        refine T_V0i (pc' := 404) d_La_law_401 rfl l_La_56 v_Tb_undo (by first | assumption | exact e_put_s | simp [e_put, *]) (Nat.le_of_ble_eq_true rfl) (p_Tb_undo X _ h σ ci si) (fun v h1 hq => ?_)
        obtain ⟨rfl, ci1, fr1⟩ := hq
        have mi1 := MI_fr fr1 (by decide) mi
        obtain ⟨sc, r0, -⟩ := mi1.1
        refine T_aload_n (pc' := 405) d_La_law_404 rfl rfl rfl ?_
        refine T_V0i (pc' := 408) d_La_law_405 rfl l_La_59 v_Mo_undo (by first | assumption | exact e_put_s | simp [e_put, *]) (Nat.le_of_ble_eq_true rfl) (p_Mo_undo X _ h1 σ mi1 si) (fun w h2 hq2 => ?_)
        obtain ⟨rfl, mi2, fr2⟩ := hq2
        refine T_icmp_eq (pc' := 411) (tgt := 885) d_La_law_408 rfl (by decide) (fun _ => ?_) (fun hzz => absurd rfl hzz)
        have si1 := SI_undo si
        exact tail h2 _ (fr2.1.trans (fr1.1.trans hs)) ⟨CI_fr fr2 (by decide) si1.1.2.2.2.1 ci1, mi2, si1⟩
      · refine T_aload_n (pc' := 414) d_La_law_413 rfl rfl rfl ?_
        refine T_arg (k := 1) (pc' := 419) d_La_law_414 d_La_law_415 d_La_law_416 d_La_law_417 d_La_law_418 rfl (by decide) rfl rfl (by omega) hb ?_
        refine T_V1i (pc' := 422) d_La_law_419 rfl l_La_60 v_Tb_now (by first | assumption | exact e_put_s | simp [e_put, *]) (Nat.le_of_ble_eq_true rfl) (p_Tb_now X _ h σ _ ci si) (fun v h1 hq => ?_)
        obtain ⟨rfl, ci1, fr1⟩ := hq
        have mi1 := MI_fr fr1 (by decide) mi
        obtain ⟨sc, r0, -⟩ := mi1.1
        refine T_aload_n (pc' := 423) d_La_law_422 rfl rfl rfl ?_
        refine T_arg (k := 1) (pc' := 428) d_La_law_423 d_La_law_424 d_La_law_425 d_La_law_426 d_La_law_427 rfl (by decide) rfl rfl (by omega) hb ?_
        refine T_V1i (pc' := 431) d_La_law_428 rfl l_La_63 v_Mo_now (by first | assumption | exact e_put_s | simp [e_put, *]) (Nat.le_of_ble_eq_true rfl) (p_Mo_now X _ h1 σ _ mi1 si) (fun w h2 hq2 => ?_)
        obtain ⟨rfl, mi2, fr2⟩ := hq2
        refine T_icmp_eq (pc' := 434) (tgt := 885) d_La_law_431 rfl (by decide) (fun _ => ?_) (fun hzz => absurd rfl hzz)
        exact tail h2 _ (fr2.1.trans (fr1.1.trans hs)) ⟨CI_fr fr2 (by decide) s3 ci1, mi2, si⟩
      · refine T_aload_n (pc' := 437) d_La_law_436 rfl rfl rfl ?_
        refine T_arg (k := 1) (pc' := 442) d_La_law_437 d_La_law_438 d_La_law_439 d_La_law_440 d_La_law_441 rfl (by decide) rfl rfl (by omega) hb ?_
        refine T_arg (k := 2) (pc' := 447) d_La_law_442 d_La_law_443 d_La_law_444 d_La_law_445 d_La_law_446 rfl (by decide) rfl rfl (by omega) hb ?_
        refine T_V2i (pc' := 450) d_La_law_447 rfl l_La_64 v_Tb_after (by first | assumption | exact e_put_s | simp [e_put, *]) (Nat.le_of_ble_eq_true rfl) (p_Tb_after X _ h σ _ _ ci si) (fun v h1 hq => ?_)
        obtain ⟨rfl, ci1, fr1⟩ := hq
        have mi1 := MI_fr fr1 (by decide) mi
        obtain ⟨sc, r0, -⟩ := mi1.1
        refine T_aload_n (pc' := 451) d_La_law_450 rfl rfl rfl ?_
        refine T_arg (k := 1) (pc' := 456) d_La_law_451 d_La_law_452 d_La_law_453 d_La_law_454 d_La_law_455 rfl (by decide) rfl rfl (by omega) hb ?_
        refine T_arg (k := 2) (pc' := 461) d_La_law_456 d_La_law_457 d_La_law_458 d_La_law_459 d_La_law_460 rfl (by decide) rfl rfl (by omega) hb ?_
        refine T_V2i (pc' := 464) d_La_law_461 rfl l_La_67 v_Mo_after (by first | assumption | exact e_put_s | simp [e_put, *]) (Nat.le_of_ble_eq_true rfl) (p_Mo_after X _ h1 σ _ _ mi1 si) (fun w h2 hq2 => ?_)
        obtain ⟨rfl, mi2, fr2⟩ := hq2
        refine T_icmp_eq (pc' := 467) (tgt := 885) d_La_law_464 rfl (by decide) (fun _ => ?_) (fun hzz => absurd rfl hzz)
        exact tail h2 _ (fr2.1.trans (fr1.1.trans hs)) ⟨CI_fr fr2 (by decide) s3 ci1, mi2, si⟩
      · refine T_aload_n (pc' := 470) d_La_law_469 rfl rfl rfl ?_
        refine T_V0i (pc' := 473) d_La_law_470 rfl l_La_68 v_Tb_down (by first | assumption | exact e_put_s | simp [e_put, *]) (Nat.le_of_ble_eq_true rfl) (p_Tb_down X _ h σ ci si) (fun v h1 hq => ?_)
        obtain ⟨rfl, ci1, fr1⟩ := hq
        have mi1 := MI_fr fr1 (by decide) mi
        obtain ⟨sc, r0, -⟩ := mi1.1
        refine T_aload_n (pc' := 474) d_La_law_473 rfl rfl rfl ?_
        refine T_V0i (pc' := 477) d_La_law_474 rfl l_La_71 v_Mo_down (by first | assumption | exact e_put_s | simp [e_put, *]) (Nat.le_of_ble_eq_true rfl) (p_Mo_down X _ h1 σ mi1 si) (fun w h2 hq2 => ?_)
        obtain ⟨rfl, mi2, fr2⟩ := hq2
        refine T_icmp_eq (pc' := 480) (tgt := 885) d_La_law_477 rfl (by decide) (fun _ => ?_) (fun hzz => absurd rfl hzz)
        exact tail h2 _ (fr2.1.trans (fr1.1.trans hs)) ⟨CI_fr fr2 (by decide) s3 ci1, mi2, si⟩
      · refine T_aload_n (pc' := 483) d_La_law_482 rfl rfl rfl ?_
        refine T_arg (k := 1) (pc' := 488) d_La_law_483 d_La_law_484 d_La_law_485 d_La_law_486 d_La_law_487 rfl (by decide) rfl rfl (by omega) hb ?_
        refine T_arg (k := 2) (pc' := 493) d_La_law_488 d_La_law_489 d_La_law_490 d_La_law_491 d_La_law_492 rfl (by decide) rfl rfl (by omega) hb ?_
        refine T_arg (k := 3) (pc' := 498) d_La_law_493 d_La_law_494 d_La_law_495 d_La_law_496 d_La_law_497 rfl (by decide) rfl rfl (by omega) hb ?_
        refine T_V3i (pc' := 501) d_La_law_498 rfl l_La_72 v_Tb_best (by first | assumption | exact e_put_s | simp [e_put, *]) (Nat.le_of_ble_eq_true rfl) (p_Tb_best X _ h σ _ _ _ ci si) (fun v h1 hq => ?_)
        obtain ⟨rfl, ci1, fr1⟩ := hq
        have mi1 := MI_fr fr1 (by decide) mi
        obtain ⟨sc, r0, -⟩ := mi1.1
        refine T_aload_n (pc' := 502) d_La_law_501 rfl rfl rfl ?_
        refine T_arg (k := 1) (pc' := 507) d_La_law_502 d_La_law_503 d_La_law_504 d_La_law_505 d_La_law_506 rfl (by decide) rfl rfl (by omega) hb ?_
        refine T_arg (k := 2) (pc' := 512) d_La_law_507 d_La_law_508 d_La_law_509 d_La_law_510 d_La_law_511 rfl (by decide) rfl rfl (by omega) hb ?_
        refine T_arg (k := 3) (pc' := 517) d_La_law_512 d_La_law_513 d_La_law_514 d_La_law_515 d_La_law_516 rfl (by decide) rfl rfl (by omega) hb ?_
        refine T_V3i (pc' := 520) d_La_law_517 rfl l_La_76 v_Mo_best (by first | assumption | exact e_put_s | simp [e_put, *]) (Nat.le_of_ble_eq_true rfl) (p_Mo_best X _ h1 σ _ _ _ mi1 si) (fun w h2 hq2 => ?_)
        obtain ⟨rfl, mi2, fr2⟩ := hq2
        refine T_icmp_eq (pc' := 523) (tgt := 885) d_La_law_520 rfl (by decide) (fun _ => ?_) (fun hzz => absurd rfl hzz)
        exact tail h2 _ (fr2.1.trans (fr1.1.trans hs)) ⟨CI_fr fr2 (by decide) s3 ci1, mi2, si⟩
      · refine T_aload_n (pc' := 526) d_La_law_525 rfl rfl rfl ?_
        refine T_arg (k := 1) (pc' := 531) d_La_law_526 d_La_law_527 d_La_law_528 d_La_law_529 d_La_law_530 rfl (by decide) rfl rfl (by omega) hb ?_
        refine T_V1i (pc' := 534) d_La_law_531 rfl l_La_77 v_Tb_own (by first | assumption | exact e_put_s | simp [e_put, *]) (Nat.le_of_ble_eq_true rfl) (p_Tb_own X _ h σ _ ci si) (fun v h1 hq => ?_)
        obtain ⟨rfl, ci1, fr1⟩ := hq
        have mi1 := MI_fr fr1 (by decide) mi
        obtain ⟨sc, r0, -⟩ := mi1.1
        refine T_aload_n (pc' := 535) d_La_law_534 rfl rfl rfl ?_
        refine T_arg (k := 1) (pc' := 540) d_La_law_535 d_La_law_536 d_La_law_537 d_La_law_538 d_La_law_539 rfl (by decide) rfl rfl (by omega) hb ?_
        refine T_V1i (pc' := 543) d_La_law_540 rfl l_La_80 v_Mo_own (by first | assumption | exact e_put_s | simp [e_put, *]) (Nat.le_of_ble_eq_true rfl) (p_Mo_own X _ h1 σ _ mi1 si) (fun w h2 hq2 => ?_)
        obtain ⟨rfl, mi2, fr2⟩ := hq2
        refine T_icmp_eq (pc' := 546) (tgt := 885) d_La_law_543 rfl (by decide) (fun _ => ?_) (fun hzz => absurd rfl hzz)
        exact tail h2 _ (fr2.1.trans (fr1.1.trans hs)) ⟨CI_fr fr2 (by decide) s3 ci1, mi2, si⟩
      · refine T_aload_n (pc' := 549) d_La_law_548 rfl rfl rfl ?_
        refine T_arg (k := 1) (pc' := 554) d_La_law_549 d_La_law_550 d_La_law_551 d_La_law_552 d_La_law_553 rfl (by decide) rfl rfl (by omega) hb ?_
        refine T_arg (k := 2) (pc' := 559) d_La_law_554 d_La_law_555 d_La_law_556 d_La_law_557 d_La_law_558 rfl (by decide) rfl rfl (by omega) hb ?_
        refine T_arg (k := 3) (pc' := 564) d_La_law_559 d_La_law_560 d_La_law_561 d_La_law_562 d_La_law_563 rfl (by decide) rfl rfl (by omega) hb ?_
        refine T_arg (k := 4) (pc' := 569) d_La_law_564 d_La_law_565 d_La_law_566 d_La_law_567 d_La_law_568 rfl (by decide) rfl rfl (by omega) hb ?_
        refine T_arg (k := 5) (pc' := 574) d_La_law_569 d_La_law_570 d_La_law_571 d_La_law_572 d_La_law_573 rfl (by decide) rfl rfl (by omega) hb ?_
        refine T_V5i (pc' := 577) d_La_law_574 rfl l_La_81 v_Tb_odds (by first | assumption | exact e_put_s | simp [e_put, *]) (Nat.le_of_ble_eq_true rfl) (p_Tb_odds X _ h σ _ _ _ _ _ ci si) (fun v h1 hq => ?_)
        obtain ⟨rfl, ci1, fr1⟩ := hq
        have mi1 := MI_fr fr1 (by decide) mi
        obtain ⟨sc, r0, -⟩ := mi1.1
        refine T_aload_n (pc' := 578) d_La_law_577 rfl rfl rfl ?_
        refine T_arg (k := 1) (pc' := 583) d_La_law_578 d_La_law_579 d_La_law_580 d_La_law_581 d_La_law_582 rfl (by decide) rfl rfl (by omega) hb ?_
        refine T_arg (k := 2) (pc' := 588) d_La_law_583 d_La_law_584 d_La_law_585 d_La_law_586 d_La_law_587 rfl (by decide) rfl rfl (by omega) hb ?_
        refine T_arg (k := 3) (pc' := 593) d_La_law_588 d_La_law_589 d_La_law_590 d_La_law_591 d_La_law_592 rfl (by decide) rfl rfl (by omega) hb ?_
        refine T_arg (k := 4) (pc' := 598) d_La_law_593 d_La_law_594 d_La_law_595 d_La_law_596 d_La_law_597 rfl (by decide) rfl rfl (by omega) hb ?_
        refine T_arg (k := 5) (pc' := 603) d_La_law_598 d_La_law_599 d_La_law_600 d_La_law_601 d_La_law_602 rfl (by decide) rfl rfl (by omega) hb ?_
        refine T_V5i (pc' := 606) d_La_law_603 rfl l_La_85 v_Mo_odds (by first | assumption | exact e_put_s | simp [e_put, *]) (Nat.le_of_ble_eq_true rfl) (p_Mo_odds X _ h1 σ _ _ _ _ _ mi1 si) (fun w h2 hq2 => ?_)
        obtain ⟨rfl, mi2, fr2⟩ := hq2
        refine T_icmp_eq (pc' := 609) (tgt := 885) d_La_law_606 rfl (by decide) (fun _ => ?_) (fun hzz => absurd rfl hzz)
        exact tail h2 _ (fr2.1.trans (fr1.1.trans hs)) ⟨CI_fr fr2 (by decide) s3 ci1, mi2, si⟩
      · refine T_aload_n (pc' := 612) d_La_law_611 rfl rfl rfl ?_
        refine T_arg (k := 1) (pc' := 617) d_La_law_612 d_La_law_613 d_La_law_614 d_La_law_615 d_La_law_616 rfl (by decide) rfl rfl (by omega) hb ?_
        refine T_arg (k := 2) (pc' := 622) d_La_law_617 d_La_law_618 d_La_law_619 d_La_law_620 d_La_law_621 rfl (by decide) rfl rfl (by omega) hb ?_
        refine T_arg (k := 3) (pc' := 627) d_La_law_622 d_La_law_623 d_La_law_624 d_La_law_625 d_La_law_626 rfl (by decide) rfl rfl (by omega) hb ?_
        refine T_V3i (pc' := 630) d_La_law_627 rfl l_La_86 v_Tb_saw (by first | assumption | exact e_put_s | simp [e_put, *]) (Nat.le_of_ble_eq_true rfl) (p_Tb_saw X _ h σ _ _ _ ci si) (fun v h1 hq => ?_)
        obtain ⟨rfl, ci1, fr1⟩ := hq
        have mi1 := MI_fr fr1 (by decide) mi
        obtain ⟨sc, r0, -⟩ := mi1.1
        refine T_aload_n (pc' := 631) d_La_law_630 rfl rfl rfl ?_
        refine T_arg (k := 1) (pc' := 636) d_La_law_631 d_La_law_632 d_La_law_633 d_La_law_634 d_La_law_635 rfl (by decide) rfl rfl (by omega) hb ?_
        refine T_arg (k := 2) (pc' := 641) d_La_law_636 d_La_law_637 d_La_law_638 d_La_law_639 d_La_law_640 rfl (by decide) rfl rfl (by omega) hb ?_
        refine T_arg (k := 3) (pc' := 646) d_La_law_641 d_La_law_642 d_La_law_643 d_La_law_644 d_La_law_645 rfl (by decide) rfl rfl (by omega) hb ?_
        refine T_V3i (pc' := 649) d_La_law_646 rfl l_La_89 v_Mo_saw (by first | assumption | exact e_put_s | simp [e_put, *]) (Nat.le_of_ble_eq_true rfl) (p_Mo_saw X _ h1 σ _ _ _ mi1 si) (fun w h2 hq2 => ?_)
        obtain ⟨rfl, mi2, fr2⟩ := hq2
        refine T_icmp_eq (pc' := 652) (tgt := 885) d_La_law_649 rfl (by decide) (fun _ => ?_) (fun hzz => absurd rfl hzz)
        have si1 := SI_saw si ((X.2.2.2 3).2 (i + 1)) ((X.2.2.2 3).2 (i + 2)) ((X.2.2.2 3).2 (i + 3))
        exact tail h2 _ (fr2.1.trans (fr1.1.trans hs)) ⟨CI_fr fr2 (by decide) si1.1.2.2.2.1 ci1, mi2, si1⟩
      · refine T_aload_n (pc' := 655) d_La_law_654 rfl rfl rfl ?_
        refine T_arg (k := 1) (pc' := 660) d_La_law_655 d_La_law_656 d_La_law_657 d_La_law_658 d_La_law_659 rfl (by decide) rfl rfl (by omega) hb ?_
        refine T_V1i (pc' := 663) d_La_law_660 rfl l_La_90 v_Tb_which (by first | assumption | exact e_put_s | simp [e_put, *]) (Nat.le_of_ble_eq_true rfl) (p_Tb_which X _ h σ _ ci si) (fun v h1 hq => ?_)
        obtain ⟨rfl, ci1, fr1⟩ := hq
        have mi1 := MI_fr fr1 (by decide) mi
        obtain ⟨sc, r0, -⟩ := mi1.1
        refine T_aload_n (pc' := 664) d_La_law_663 rfl rfl rfl ?_
        refine T_arg (k := 1) (pc' := 669) d_La_law_664 d_La_law_665 d_La_law_666 d_La_law_667 d_La_law_668 rfl (by decide) rfl rfl (by omega) hb ?_
        refine T_V1i (pc' := 672) d_La_law_669 rfl l_La_93 v_Mo_which (by first | assumption | exact e_put_s | simp [e_put, *]) (Nat.le_of_ble_eq_true rfl) (p_Mo_which X _ h1 σ _ mi1 si) (fun w h2 hq2 => ?_)
        obtain ⟨rfl, mi2, fr2⟩ := hq2
        refine T_icmp_eq (pc' := 675) (tgt := 885) d_La_law_672 rfl (by decide) (fun _ => ?_) (fun hzz => absurd rfl hzz)
        exact tail h2 _ (fr2.1.trans (fr1.1.trans hs)) ⟨CI_fr fr2 (by decide) s3 ci1, mi2, si⟩
      · refine T_aload_n (pc' := 678) d_La_law_677 rfl rfl rfl ?_
        refine T_arg (k := 1) (pc' := 683) d_La_law_678 d_La_law_679 d_La_law_680 d_La_law_681 d_La_law_682 rfl (by decide) rfl rfl (by omega) hb ?_
        refine T_V1i (pc' := 686) d_La_law_683 rfl l_La_94 v_Tb_look (by first | assumption | exact e_put_s | simp [e_put, *]) (Nat.le_of_ble_eq_true rfl) (p_Tb_look X _ h σ _ ci si) (fun v h1 hq => ?_)
        obtain ⟨rfl, ci1, fr1⟩ := hq
        have mi1 := MI_fr fr1 (by decide) mi
        obtain ⟨sc, r0, -⟩ := mi1.1
        refine T_aload_n (pc' := 687) d_La_law_686 rfl rfl rfl ?_
        refine T_arg (k := 1) (pc' := 692) d_La_law_687 d_La_law_688 d_La_law_689 d_La_law_690 d_La_law_691 rfl (by decide) rfl rfl (by omega) hb ?_
        refine T_V1i (pc' := 695) d_La_law_692 rfl l_La_97 v_Mo_look (by first | assumption | exact e_put_s | simp [e_put, *]) (Nat.le_of_ble_eq_true rfl) (p_Mo_look X _ h1 σ _ mi1 si) (fun w h2 hq2 => ?_)
        obtain ⟨rfl, mi2, fr2⟩ := hq2
        refine T_icmp_eq (pc' := 698) (tgt := 885) d_La_law_695 rfl (by decide) (fun _ => ?_) (fun hzz => absurd rfl hzz)
        exact tail h2 _ (fr2.1.trans (fr1.1.trans hs)) ⟨CI_fr fr2 (by decide) s3 ci1, mi2, si⟩
      · refine T_aload_n (pc' := 701) d_La_law_700 rfl rfl rfl ?_
        refine T_arg (k := 1) (pc' := 706) d_La_law_701 d_La_law_702 d_La_law_703 d_La_law_704 d_La_law_705 rfl (by decide) rfl rfl (by omega) hb ?_
        refine T_arg (k := 2) (pc' := 711) d_La_law_706 d_La_law_707 d_La_law_708 d_La_law_709 d_La_law_710 rfl (by decide) rfl rfl (by omega) hb ?_
        refine T_V2i (pc' := 714) d_La_law_711 rfl l_La_98 v_Tb_hears (by first | assumption | exact e_put_s | simp [e_put, *]) (Nat.le_of_ble_eq_true rfl) (p_Tb_hears X _ h σ _ _ ci si) (fun v h1 hq => ?_)
        obtain ⟨rfl, ci1, fr1⟩ := hq
        have mi1 := MI_fr fr1 (by decide) mi
        obtain ⟨sc, r0, -⟩ := mi1.1
        refine T_aload_n (pc' := 715) d_La_law_714 rfl rfl rfl ?_
        refine T_arg (k := 1) (pc' := 720) d_La_law_715 d_La_law_716 d_La_law_717 d_La_law_718 d_La_law_719 rfl (by decide) rfl rfl (by omega) hb ?_
        refine T_arg (k := 2) (pc' := 725) d_La_law_720 d_La_law_721 d_La_law_722 d_La_law_723 d_La_law_724 rfl (by decide) rfl rfl (by omega) hb ?_
        refine T_V2i (pc' := 728) d_La_law_725 rfl l_La_101 v_Mo_hears (by first | assumption | exact e_put_s | simp [e_put, *]) (Nat.le_of_ble_eq_true rfl) (p_Mo_hears X _ h1 σ _ _ mi1 si) (fun w h2 hq2 => ?_)
        obtain ⟨rfl, mi2, fr2⟩ := hq2
        refine T_icmp_eq (pc' := 731) (tgt := 885) d_La_law_728 rfl (by decide) (fun _ => ?_) (fun hzz => absurd rfl hzz)
        have si1 := SI_hears si ((X.2.2.2 3).2 (i + 1)) ((X.2.2.2 3).2 (i + 2))
        exact tail h2 _ (fr2.1.trans (fr1.1.trans hs)) ⟨CI_fr fr2 (by decide) si1.1.2.2.2.1 ci1, mi2, si1⟩
      · refine T_aload_n (pc' := 734) d_La_law_733 rfl rfl rfl ?_
        refine T_arg (k := 1) (pc' := 739) d_La_law_734 d_La_law_735 d_La_law_736 d_La_law_737 d_La_law_738 rfl (by decide) rfl rfl (by omega) hb ?_
        refine T_V1i (pc' := 742) d_La_law_739 rfl l_La_102 v_Tb_laws (by first | assumption | exact e_put_s | simp [e_put, *]) (Nat.le_of_ble_eq_true rfl) (p_Tb_laws X _ h σ _ ci si) (fun v h1 hq => ?_)
        obtain ⟨rfl, ci1, fr1⟩ := hq
        have mi1 := MI_fr fr1 (by decide) mi
        obtain ⟨sc, r0, -⟩ := mi1.1
        refine T_aload_n (pc' := 743) d_La_law_742 rfl rfl rfl ?_
        refine T_arg (k := 1) (pc' := 748) d_La_law_743 d_La_law_744 d_La_law_745 d_La_law_746 d_La_law_747 rfl (by decide) rfl rfl (by omega) hb ?_
        refine T_V1i (pc' := 751) d_La_law_748 rfl l_La_105 v_Mo_laws (by first | assumption | exact e_put_s | simp [e_put, *]) (Nat.le_of_ble_eq_true rfl) (p_Mo_laws X _ h1 σ _ mi1 si) (fun w h2 hq2 => ?_)
        obtain ⟨rfl, mi2, fr2⟩ := hq2
        refine T_icmp_eq (pc' := 754) (tgt := 885) d_La_law_751 rfl (by decide) (fun _ => ?_) (fun hzz => absurd rfl hzz)
        exact tail h2 _ (fr2.1.trans (fr1.1.trans hs)) ⟨CI_fr fr2 (by decide) s3 ci1, mi2, si⟩
      · refine T_aload_n (pc' := 757) d_La_law_756 rfl rfl rfl ?_
        refine T_V0i (pc' := 760) d_La_law_757 rfl l_La_106 v_Tb_forget (by first | assumption | exact e_put_s | simp [e_put, *]) (Nat.le_of_ble_eq_true rfl) (p_Tb_forget X _ h σ ci si) (fun v h1 hq => ?_)
        obtain ⟨rfl, ci1, fr1⟩ := hq
        have mi1 := MI_fr fr1 (by decide) mi
        obtain ⟨sc, r0, -⟩ := mi1.1
        refine T_aload_n (pc' := 761) d_La_law_760 rfl rfl rfl ?_
        refine T_V0i (pc' := 764) d_La_law_761 rfl l_La_109 v_Mo_forget (by first | assumption | exact e_put_s | simp [e_put, *]) (Nat.le_of_ble_eq_true rfl) (p_Mo_forget X _ h1 σ mi1 si) (fun w h2 hq2 => ?_)
        obtain ⟨rfl, mi2, fr2⟩ := hq2
        refine T_icmp_eq (pc' := 767) (tgt := 885) d_La_law_764 rfl (by decide) (fun _ => ?_) (fun hzz => absurd rfl hzz)
        have si1 := SI_forget si
        exact tail h2 _ (fr2.1.trans (fr1.1.trans hs)) ⟨CI_fr fr2 (by decide) si1.1.2.2.2.1 ci1, mi2, si1⟩
      · refine T_aload_n (pc' := 770) d_La_law_769 rfl rfl rfl ?_
        refine T_arg (k := 1) (pc' := 775) d_La_law_770 d_La_law_771 d_La_law_772 d_La_law_773 d_La_law_774 rfl (by decide) rfl rfl (by omega) hb ?_
        refine T_arg (k := 2) (pc' := 780) d_La_law_775 d_La_law_776 d_La_law_777 d_La_law_778 d_La_law_779 rfl (by decide) rfl rfl (by omega) hb ?_
        refine T_V2i (pc' := 783) d_La_law_780 rfl l_La_110 v_Tb_mark (by first | assumption | exact e_put_s | simp [e_put, *]) (Nat.le_of_ble_eq_true rfl) (p_Tb_mark X _ h σ _ _ ci si) (fun v h1 hq => ?_)
        obtain ⟨rfl, ci1, fr1⟩ := hq
        have mi1 := MI_fr fr1 (by decide) mi
        obtain ⟨sc, r0, -⟩ := mi1.1
        refine T_aload_n (pc' := 784) d_La_law_783 rfl rfl rfl ?_
        refine T_arg (k := 1) (pc' := 789) d_La_law_784 d_La_law_785 d_La_law_786 d_La_law_787 d_La_law_788 rfl (by decide) rfl rfl (by omega) hb ?_
        refine T_arg (k := 2) (pc' := 794) d_La_law_789 d_La_law_790 d_La_law_791 d_La_law_792 d_La_law_793 rfl (by decide) rfl rfl (by omega) hb ?_
        refine T_V2i (pc' := 797) d_La_law_794 rfl l_La_113 v_Mo_mark (by first | assumption | exact e_put_s | simp [e_put, *]) (Nat.le_of_ble_eq_true rfl) (p_Mo_mark X _ h1 σ _ _ mi1 si) (fun w h2 hq2 => ?_)
        obtain ⟨rfl, mi2, fr2⟩ := hq2
        refine T_icmp_eq (pc' := 800) (tgt := 885) d_La_law_797 rfl (by decide) (fun _ => ?_) (fun hzz => absurd rfl hzz)
        have si1 := SI_mark si ((X.2.2.2 3).2 (i + 1)) ((X.2.2.2 3).2 (i + 2))
        exact tail h2 _ (fr2.1.trans (fr1.1.trans hs)) ⟨CI_fr fr2 (by decide) si1.1.2.2.2.1 ci1, mi2, si1⟩
      · refine T_aload_n (pc' := 803) d_La_law_802 rfl rfl rfl ?_
        refine T_arg (k := 1) (pc' := 808) d_La_law_803 d_La_law_804 d_La_law_805 d_La_law_806 d_La_law_807 rfl (by decide) rfl rfl (by omega) hb ?_
        refine T_V1i (pc' := 811) d_La_law_808 rfl l_La_114 v_Tb_keep (by first | assumption | exact e_put_s | simp [e_put, *]) (Nat.le_of_ble_eq_true rfl) (p_Tb_keep X _ h σ _ ci si) (fun v h1 hq => ?_)
        obtain ⟨rfl, ci1, fr1⟩ := hq
        have mi1 := MI_fr fr1 (by decide) mi
        obtain ⟨sc, r0, -⟩ := mi1.1
        refine T_aload_n (pc' := 812) d_La_law_811 rfl rfl rfl ?_
        refine T_arg (k := 1) (pc' := 817) d_La_law_812 d_La_law_813 d_La_law_814 d_La_law_815 d_La_law_816 rfl (by decide) rfl rfl (by omega) hb ?_
        refine T_V1i (pc' := 820) d_La_law_817 rfl l_La_117 v_Mo_keep (by first | assumption | exact e_put_s | simp [e_put, *]) (Nat.le_of_ble_eq_true rfl) (p_Mo_keep X _ h1 σ _ mi1 si) (fun w h2 hq2 => ?_)
        obtain ⟨rfl, mi2, fr2⟩ := hq2
        refine T_icmp_eq (pc' := 823) (tgt := 885) d_La_law_820 rfl (by decide) (fun _ => ?_) (fun hzz => absurd rfl hzz)
        have si1 := SI_keep si ((X.2.2.2 3).2 (i + 1))
        exact tail h2 _ (fr2.1.trans (fr1.1.trans hs)) ⟨CI_fr fr2 (by decide) si1.1.2.2.2.1 ci1, mi2, si1⟩
      · refine T_aload_n (pc' := 826) d_La_law_825 rfl rfl rfl ?_
        refine T_arg (k := 1) (pc' := 831) d_La_law_826 d_La_law_827 d_La_law_828 d_La_law_829 d_La_law_830 rfl (by decide) rfl rfl (by omega) hb ?_
        refine T_V1i (pc' := 834) d_La_law_831 rfl l_La_118 v_Tb_back (by first | assumption | exact e_put_s | simp [e_put, *]) (Nat.le_of_ble_eq_true rfl) (p_Tb_back X _ h σ _ ci si) (fun v h1 hq => ?_)
        obtain ⟨rfl, ci1, fr1⟩ := hq
        have mi1 := MI_fr fr1 (by decide) mi
        obtain ⟨sc, r0, -⟩ := mi1.1
        refine T_aload_n (pc' := 835) d_La_law_834 rfl rfl rfl ?_
        refine T_arg (k := 1) (pc' := 840) d_La_law_835 d_La_law_836 d_La_law_837 d_La_law_838 d_La_law_839 rfl (by decide) rfl rfl (by omega) hb ?_
        refine T_V1i (pc' := 843) d_La_law_840 rfl l_La_121 v_Mo_back (by first | assumption | exact e_put_s | simp [e_put, *]) (Nat.le_of_ble_eq_true rfl) (p_Mo_back X _ h1 σ _ mi1 si) (fun w h2 hq2 => ?_)
        obtain ⟨rfl, mi2, fr2⟩ := hq2
        refine T_icmp_eq (pc' := 846) (tgt := 885) d_La_law_843 rfl (by decide) (fun _ => ?_) (fun hzz => absurd rfl hzz)
        have si1 := SI_back si ((X.2.2.2 3).2 (i + 1))
        exact tail h2 _ (fr2.1.trans (fr1.1.trans hs)) ⟨CI_fr fr2 (by decide) si1.1.2.2.2.1 ci1, mi2, si1⟩
      · refine T_aload_n (pc' := 849) d_La_law_848 rfl rfl rfl ?_
        refine T_arg (k := 1) (pc' := 854) d_La_law_849 d_La_law_850 d_La_law_851 d_La_law_852 d_La_law_853 rfl (by decide) rfl rfl (by omega) hb ?_
        refine T_V1i (pc' := 857) d_La_law_854 rfl l_La_122 v_Tb_count (by first | assumption | exact e_put_s | simp [e_put, *]) (Nat.le_of_ble_eq_true rfl) (p_Tb_count X _ h σ _ ci si) (fun v h1 hq => ?_)
        obtain ⟨rfl, ci1, fr1⟩ := hq
        have mi1 := MI_fr fr1 (by decide) mi
        obtain ⟨sc, r0, -⟩ := mi1.1
        refine T_aload_n (pc' := 858) d_La_law_857 rfl rfl rfl ?_
        refine T_arg (k := 1) (pc' := 863) d_La_law_858 d_La_law_859 d_La_law_860 d_La_law_861 d_La_law_862 rfl (by decide) rfl rfl (by omega) hb ?_
        refine T_V1i (pc' := 866) d_La_law_863 rfl l_La_125 v_Mo_count (by first | assumption | exact e_put_s | simp [e_put, *]) (Nat.le_of_ble_eq_true rfl) (p_Mo_count X _ h1 σ _ mi1 si) (fun w h2 hq2 => ?_)
        obtain ⟨rfl, mi2, fr2⟩ := hq2
        refine T_icmp_eq (pc' := 869) (tgt := 885) d_La_law_866 rfl (by decide) (fun _ => ?_) (fun hzz => absurd rfl hzz)
        exact tail h2 _ (fr2.1.trans (fr1.1.trans hs)) ⟨CI_fr fr2 (by decide) s3 ci1, mi2, si⟩
      · refine T_aload_n (pc' := 872) d_La_law_871 rfl rfl rfl ?_
        refine T_V0l (pc' := 875) d_La_law_872 rfl l_La_126 v_Tb_trace (by first | assumption | exact e_put_s | simp [e_put, *]) (Nat.le_of_ble_eq_true rfl) (p_Tb_trace X _ h σ ci si) (fun v h1 hq => ?_)
        obtain ⟨rfl, ci1, fr1⟩ := hq
        have mi1 := MI_fr fr1 (by decide) mi
        obtain ⟨sc, r0, -⟩ := mi1.1
        refine T_aload_n (pc' := 876) d_La_law_875 rfl rfl rfl ?_
        refine T_V0l (pc' := 879) d_La_law_876 rfl l_La_130 v_Mo_trace (by first | assumption | exact e_put_s | simp [e_put, *]) (Nat.le_of_ble_eq_true rfl) (p_Mo_trace X _ h1 σ mi1 si) (fun w h2 hq2 => ?_)
        obtain ⟨rfl, mi2, fr2⟩ := hq2
        refine T_lcmp (pc' := 880) d_La_law_879 rfl ?_
        refine T_if_eq (pc' := 883) (tgt := 885) d_La_law_880 rfl (by decide) (fun _ => ?_) (fun hzz => absurd ((lg_cmp_eq _ _).mpr rfl) hzz)
        exact tail h2 _ (fr2.1.trans (fr1.1.trans hs)) ⟨CI_fr fr2 (by decide) s3 ci1, mi2, si⟩
      · intros; exact tail h σ hs ⟨ci, mi, si⟩
end LAW
