/-! Told.copyFrom; own thoughts -/
def sCp (f g : Nat → Int32) (n : Nat) : Nat → Int32 := fun k => if k < n then f k else g k
theorem sCp_eq (f g : Nat → Int32) (n : Int32) (N : Nat) (hN : n.toNatClampNeg = N) : va_cpy f g (0 : Int32).toNatClampNeg (0 : Int32).toNatClampNeg n.toNatClampNeg = sCp f g N := by
  funext k
  rw [hN]
  unfold va_cpy sCp
  have h0 : (0 : Int32).toNatClampNeg = 0 := by decide
  rw [h0]
  by_cases hk : k < N
  · rw [if_pos hk, if_pos (by omega)]
    congr 1
    omega
  · rw [if_neg hk, if_neg (by omega)]
section TO3
variable (X : EX) (d : Nat) (h : AH) (a n m : Nat) (wi we br li fa : Nat → Int32) (sta abf : Int32)
theorem c_To_copyFrom (b n' m' : Nat) (wi' we' br' li' fa' : Nat → Int32) (sta' abf' : Int32) (hab : b + 5 < a ∨ a + 5 < b) (tr : TR h a n m wi we br li fa sta abf) (tb : TR h b n' m' wi' we' br' li' fa' sta' abf') : Cv X (d + 1) M_To_copyFrom [.ref a, .ref b] h (fun h1 => TR h1 a n' m' (sCp wi' wi 10) (sCp we' we 3) (sCp br' br 3) (sCp li' li 4) (sCp fa' fa 4) sta' abf' ∧ Fr a (a + 6) h h1) := by
  have tb0 := tb
  obtain ⟨t0, t1, t2, t3, t4, t5⟩ := tr
  refine C_of_T rfl rfl (Nat.le_of_ble_eq_true rfl) rfl ?_
  refine T_aload_n (pc' := 1) d_To_copyFrom_0 rfl rfl rfl ?_
  refine T_get (pc' := 4) d_To_copyFrom_1 rfl g_To_9 (by first | exact t0 | exact tb.1) rfl ?_
  refine T_iconst (v := 0) (pc' := 5) d_To_copyFrom_4 rfl (by decide) ?_
  refine T_aload_n (pc' := 6) d_To_copyFrom_5 rfl rfl rfl ?_
  refine T_get (pc' := 9) d_To_copyFrom_6 rfl g_To_9 (by first | exact t0 | exact tb.1) rfl ?_
  refine T_iconst (v := 0) (pc' := 10) d_To_copyFrom_9 rfl (by decide) ?_
  refine T_bipush (v := 10) (pc' := 12) d_To_copyFrom_10 rfl (by decide) ?_
  refine T_copyi (pc' := 15) d_To_copyFrom_12 rfl cp_To_46 cp_w tb.2.1 t1 (by decide) (by decide) (by decide) (by decide) (by decide) ?_
  rw [sCp_eq wi' wi 10 10 (by decide)]
  generalize hh1 : e_put h (a + 1) (.inl (0, 10, sCp wi' wi 10)) = h1
  have tb1 : TR h1 b n' m' wi' we' br' li' fa' sta' abf' := by rw [← hh1]; exact TR_put tb (by omega)
  have u0 : h1.2 a = some (oTo (a + 1) (a + 2) (a + 3) (a + 4) (a + 5) (nI n) (nI m) sta abf) := by rw [← hh1]; exact (e_put_n (by omega)).trans t0
  have u1 : h1.2 (a + 1) = some (.inl (0, 10, sCp wi' wi 10)) := by rw [← hh1]; exact e_put_s
  have u2 : h1.2 (a + 2) = some (.inl (0, 3, we)) := by rw [← hh1]; exact (e_put_n (by omega)).trans t2
  have u3 : h1.2 (a + 3) = some (.inl (0, 3, br)) := by rw [← hh1]; exact (e_put_n (by omega)).trans t3
  have u4 : h1.2 (a + 4) = some (.inl (0, 4, li)) := by rw [← hh1]; exact (e_put_n (by omega)).trans t4
  have u5 : h1.2 (a + 5) = some (.inl (0, 4, fa)) := by rw [← hh1]; exact (e_put_n (by omega)).trans t5
  have f1 : Fr a (a + 6) h h1 := by rw [← hh1]; exact Fr.rf.put ⟨by omega, by omega⟩
  clear hh1 t0 t1 t2 t3 t4 t5 tb
  refine T_aload_n (pc' := 16) d_To_copyFrom_15 rfl rfl rfl ?_
  refine T_get (pc' := 19) d_To_copyFrom_16 rfl g_To_15 (by first | exact u0 | exact tb1.1) rfl ?_
  refine T_iconst (v := 0) (pc' := 20) d_To_copyFrom_19 rfl (by decide) ?_
  refine T_aload_n (pc' := 21) d_To_copyFrom_20 rfl rfl rfl ?_
  refine T_get (pc' := 24) d_To_copyFrom_21 rfl g_To_15 (by first | exact u0 | exact tb1.1) rfl ?_
  refine T_iconst (v := 0) (pc' := 25) d_To_copyFrom_24 rfl (by decide) ?_
  refine T_iconst (v := 3) (pc' := 26) d_To_copyFrom_25 rfl (by decide) ?_
  refine T_copyi (pc' := 29) d_To_copyFrom_26 rfl cp_To_46 cp_w tb1.2.2.1 u2 (by decide) (by decide) (by decide) (by decide) (by decide) ?_
  rw [sCp_eq we' we 3 3 (by decide)]
  generalize hh2 : e_put h1 (a + 2) (.inl (0, 3, sCp we' we 3)) = h2
  have tb2 : TR h2 b n' m' wi' we' br' li' fa' sta' abf' := by rw [← hh2]; exact TR_put tb1 (by omega)
  have v0 : h2.2 a = some (oTo (a + 1) (a + 2) (a + 3) (a + 4) (a + 5) (nI n) (nI m) sta abf) := by rw [← hh2]; exact (e_put_n (by omega)).trans u0
  have v1 : h2.2 (a + 1) = some (.inl (0, 10, sCp wi' wi 10)) := by rw [← hh2]; exact (e_put_n (by omega)).trans u1
  have v2 : h2.2 (a + 2) = some (.inl (0, 3, sCp we' we 3)) := by rw [← hh2]; exact e_put_s
  have v3 : h2.2 (a + 3) = some (.inl (0, 3, br)) := by rw [← hh2]; exact (e_put_n (by omega)).trans u3
  have v4 : h2.2 (a + 4) = some (.inl (0, 4, li)) := by rw [← hh2]; exact (e_put_n (by omega)).trans u4
  have v5 : h2.2 (a + 5) = some (.inl (0, 4, fa)) := by rw [← hh2]; exact (e_put_n (by omega)).trans u5
  have f2 : Fr a (a + 6) h h2 := by rw [← hh2]; exact f1.put ⟨by omega, by omega⟩
  clear hh2 u0 u1 u2 u3 u4 u5 tb1 f1
  refine T_aload_n (pc' := 30) d_To_copyFrom_29 rfl rfl rfl ?_
  refine T_get (pc' := 33) d_To_copyFrom_30 rfl g_To_18 (by first | exact v0 | exact tb2.1) rfl ?_
  refine T_iconst (v := 0) (pc' := 34) d_To_copyFrom_33 rfl (by decide) ?_
  refine T_aload_n (pc' := 35) d_To_copyFrom_34 rfl rfl rfl ?_
  refine T_get (pc' := 38) d_To_copyFrom_35 rfl g_To_18 (by first | exact v0 | exact tb2.1) rfl ?_
  refine T_iconst (v := 0) (pc' := 39) d_To_copyFrom_38 rfl (by decide) ?_
  refine T_iconst (v := 3) (pc' := 40) d_To_copyFrom_39 rfl (by decide) ?_
  refine T_copyi (pc' := 43) d_To_copyFrom_40 rfl cp_To_46 cp_w tb2.2.2.2.1 v3 (by decide) (by decide) (by decide) (by decide) (by decide) ?_
  rw [sCp_eq br' br 3 3 (by decide)]
  generalize hh3 : e_put h2 (a + 3) (.inl (0, 3, sCp br' br 3)) = h3
  have tb3 : TR h3 b n' m' wi' we' br' li' fa' sta' abf' := by rw [← hh3]; exact TR_put tb2 (by omega)
  have w0 : h3.2 a = some (oTo (a + 1) (a + 2) (a + 3) (a + 4) (a + 5) (nI n) (nI m) sta abf) := by rw [← hh3]; exact (e_put_n (by omega)).trans v0
  have w1 : h3.2 (a + 1) = some (.inl (0, 10, sCp wi' wi 10)) := by rw [← hh3]; exact (e_put_n (by omega)).trans v1
  have w2 : h3.2 (a + 2) = some (.inl (0, 3, sCp we' we 3)) := by rw [← hh3]; exact (e_put_n (by omega)).trans v2
  have w3 : h3.2 (a + 3) = some (.inl (0, 3, sCp br' br 3)) := by rw [← hh3]; exact e_put_s
  have w4 : h3.2 (a + 4) = some (.inl (0, 4, li)) := by rw [← hh3]; exact (e_put_n (by omega)).trans v4
  have w5 : h3.2 (a + 5) = some (.inl (0, 4, fa)) := by rw [← hh3]; exact (e_put_n (by omega)).trans v5
  have f3 : Fr a (a + 6) h h3 := by rw [← hh3]; exact f2.put ⟨by omega, by omega⟩
  clear hh3 v0 v1 v2 v3 v4 v5 tb2 f2
  refine T_aload_n (pc' := 44) d_To_copyFrom_43 rfl rfl rfl ?_
  refine T_get (pc' := 47) d_To_copyFrom_44 rfl g_To_21 (by first | exact w0 | exact tb3.1) rfl ?_
  refine T_iconst (v := 0) (pc' := 48) d_To_copyFrom_47 rfl (by decide) ?_
  refine T_aload_n (pc' := 49) d_To_copyFrom_48 rfl rfl rfl ?_
  refine T_get (pc' := 52) d_To_copyFrom_49 rfl g_To_21 (by first | exact w0 | exact tb3.1) rfl ?_
  refine T_iconst (v := 0) (pc' := 53) d_To_copyFrom_52 rfl (by decide) ?_
  refine T_iconst (v := 4) (pc' := 54) d_To_copyFrom_53 rfl (by decide) ?_
  refine T_copyi (pc' := 57) d_To_copyFrom_54 rfl cp_To_46 cp_w tb3.2.2.2.2.1 w4 (by decide) (by decide) (by decide) (by decide) (by decide) ?_
  rw [sCp_eq li' li 4 4 (by decide)]
  generalize hh4 : e_put h3 (a + 4) (.inl (0, 4, sCp li' li 4)) = h4
  have tb4 : TR h4 b n' m' wi' we' br' li' fa' sta' abf' := by rw [← hh4]; exact TR_put tb3 (by omega)
  have x0 : h4.2 a = some (oTo (a + 1) (a + 2) (a + 3) (a + 4) (a + 5) (nI n) (nI m) sta abf) := by rw [← hh4]; exact (e_put_n (by omega)).trans w0
  have x1 : h4.2 (a + 1) = some (.inl (0, 10, sCp wi' wi 10)) := by rw [← hh4]; exact (e_put_n (by omega)).trans w1
  have x2 : h4.2 (a + 2) = some (.inl (0, 3, sCp we' we 3)) := by rw [← hh4]; exact (e_put_n (by omega)).trans w2
  have x3 : h4.2 (a + 3) = some (.inl (0, 3, sCp br' br 3)) := by rw [← hh4]; exact (e_put_n (by omega)).trans w3
  have x4 : h4.2 (a + 4) = some (.inl (0, 4, sCp li' li 4)) := by rw [← hh4]; exact e_put_s
  have x5 : h4.2 (a + 5) = some (.inl (0, 4, fa)) := by rw [← hh4]; exact (e_put_n (by omega)).trans w5
  have f4 : Fr a (a + 6) h h4 := by rw [← hh4]; exact f3.put ⟨by omega, by omega⟩
  clear hh4 w0 w1 w2 w3 w4 w5 tb3 f3
  refine T_aload_n (pc' := 58) d_To_copyFrom_57 rfl rfl rfl ?_
  refine T_get (pc' := 61) d_To_copyFrom_58 rfl g_To_24 (by first | exact x0 | exact tb4.1) rfl ?_
  refine T_iconst (v := 0) (pc' := 62) d_To_copyFrom_61 rfl (by decide) ?_
  refine T_aload_n (pc' := 63) d_To_copyFrom_62 rfl rfl rfl ?_
  refine T_get (pc' := 66) d_To_copyFrom_63 rfl g_To_24 (by first | exact x0 | exact tb4.1) rfl ?_
  refine T_iconst (v := 0) (pc' := 67) d_To_copyFrom_66 rfl (by decide) ?_
  refine T_iconst (v := 4) (pc' := 68) d_To_copyFrom_67 rfl (by decide) ?_
  refine T_copyi (pc' := 71) d_To_copyFrom_68 rfl cp_To_46 cp_w tb4.2.2.2.2.2 x5 (by decide) (by decide) (by decide) (by decide) (by decide) ?_
  rw [sCp_eq fa' fa 4 4 (by decide)]
  generalize hh5 : e_put h4 (a + 5) (.inl (0, 4, sCp fa' fa 4)) = h5
  have tb5 : ∀ c, (e_put h5 a c).2 b = some (oTo (b + 1) (b + 2) (b + 3) (b + 4) (b + 5) (nI n') (nI m') sta' abf') := by
    intro c
    rw [← hh5]; exact (TR_put (TR_put tb4 (by omega)) (by omega)).1
  have tb6 : h5.2 b = some (oTo (b + 1) (b + 2) (b + 3) (b + 4) (b + 5) (nI n') (nI m') sta' abf') := by
    rw [← hh5]; exact (TR_put tb4 (by omega)).1
  have y0 : h5.2 a = some (oTo (a + 1) (a + 2) (a + 3) (a + 4) (a + 5) (nI n) (nI m) sta abf) := by rw [← hh5]; exact (e_put_n (by omega)).trans x0
  have y1 : h5.2 (a + 1) = some (.inl (0, 10, sCp wi' wi 10)) := by rw [← hh5]; exact (e_put_n (by omega)).trans x1
  have y2 : h5.2 (a + 2) = some (.inl (0, 3, sCp we' we 3)) := by rw [← hh5]; exact (e_put_n (by omega)).trans x2
  have y3 : h5.2 (a + 3) = some (.inl (0, 3, sCp br' br 3)) := by rw [← hh5]; exact (e_put_n (by omega)).trans x3
  have y4 : h5.2 (a + 4) = some (.inl (0, 4, sCp li' li 4)) := by rw [← hh5]; exact (e_put_n (by omega)).trans x4
  have y5 : h5.2 (a + 5) = some (.inl (0, 4, sCp fa' fa 4)) := by rw [← hh5]; exact e_put_s
  have f5 : Fr a (a + 6) h h5 := by rw [← hh5]; exact f4.put ⟨by omega, by omega⟩
  clear hh5 x0 x1 x2 x3 x4 x5 tb4 f4
  refine T_aload_n (pc' := 72) d_To_copyFrom_71 rfl rfl rfl ?_
  refine T_aload_n (pc' := 73) d_To_copyFrom_72 rfl rfl rfl ?_
  refine T_get (pc' := 76) d_To_copyFrom_73 rfl g_To_27 (by first | exact y0 | exact tb6) rfl ?_
  refine T_puti5 (pc' := 79) d_To_copyFrom_76 rfl f_To_27 (fun z => absurd z Bool.false_ne_true) (by first | exact y0 | exact tb6) ?_
  refine T_aload_n (pc' := 80) d_To_copyFrom_79 rfl rfl rfl ?_
  refine T_aload_n (pc' := 81) d_To_copyFrom_80 rfl rfl rfl ?_
  refine T_get (pc' := 84) d_To_copyFrom_81 rfl g_To_31 (by first | exact e_put_s | exact tb5 _) rfl ?_
  refine T_puti6 (pc' := 87) d_To_copyFrom_84 rfl f_To_31 (fun z => absurd z Bool.false_ne_true) (by first | exact e_put_s | exact tb5 _) ?_
  rw [e_pp]
  refine T_aload_n (pc' := 88) d_To_copyFrom_87 rfl rfl rfl ?_
  refine T_aload_n (pc' := 89) d_To_copyFrom_88 rfl rfl rfl ?_
  refine T_get (pc' := 92) d_To_copyFrom_89 rfl g_To_34 (by first | exact e_put_s | exact tb5 _) rfl ?_
  refine T_puti7 (pc' := 95) d_To_copyFrom_92 rfl f_To_34 (fun z => absurd z Bool.false_ne_true) (by first | exact e_put_s | exact tb5 _) ?_
  rw [e_pp]
  refine T_aload_n (pc' := 96) d_To_copyFrom_95 rfl rfl rfl ?_
  refine T_aload_n (pc' := 97) d_To_copyFrom_96 rfl rfl rfl ?_
  refine T_get (pc' := 100) d_To_copyFrom_97 rfl g_To_37 (by first | exact e_put_s | exact tb5 _) rfl ?_
  refine T_puti8 (pc' := 103) d_To_copyFrom_100 rfl f_To_37 (fun z => absurd z Bool.false_ne_true) (by first | exact e_put_s | exact tb5 _) ?_
  rw [e_pp]
  refine T_vret d_To_copyFrom_103 rfl ?_
  exact ⟨rfl, ⟨e_put_s, (e_put_n (by omega)).trans y1, (e_put_n (by omega)).trans y2, (e_put_n (by omega)).trans y3, (e_put_n (by omega)).trans y4, (e_put_n (by omega)).trans y5⟩, f5.put ⟨by omega, by omega⟩⟩
end TO3
