/-! stores into locals that are written out; locals that are forgotten; Math.max, Math.min -/
section ENG9
variable {X : EX} {d : Nat} {M : Mt} {pc pc' : Nat} {st t : List Value} {h : AH} {Q : Option Value → AH → Prop}
theorem T_is_n0 {k : Fin 4} {x : Int32} {w0 : Value} (hd : decode M.2.1 pc = .ok (.istore_n k, 1)) (hn : pc + 1 = pc') (hk : (k : Nat) = 0) (hi : 0 < M.2.2.1) (hok : e_ok (w0 :: t) 0 = true) (kk : T X d M pc' (.int x :: t) st h Q) : T X d M pc (w0 :: t) (.int x :: st) h Q :=
  T_istore_n hd hn hk hi hok rfl kk
theorem T_is0 {x : Int32} {w0 : Value} (hd : decode M.2.1 pc = .ok (.istore 0, 2)) (hn : pc + 2 = pc') (hi : 0 < M.2.2.1) (hok : e_ok (w0 :: t) 0 = true) (kk : T X d M pc' (.int x :: t) st h Q) : T X d M pc (w0 :: t) (.int x :: st) h Q :=
  T_istore hd hn hi hok rfl kk
theorem T_as_n0 {k : Fin 4} {x : Nat} {w0 : Value} (hd : decode M.2.1 pc = .ok (.astore_n k, 1)) (hn : pc + 1 = pc') (hk : (k : Nat) = 0) (hi : 0 < M.2.2.1) (hok : e_ok (w0 :: t) 0 = true) (kk : T X d M pc' (.ref x :: t) st h Q) : T X d M pc (w0 :: t) (.ref x :: st) h Q :=
  T_astore_n hd hn hk hi hok rfl kk
theorem T_as0 {x : Nat} {w0 : Value} (hd : decode M.2.1 pc = .ok (.astore 0, 2)) (hn : pc + 2 = pc') (hi : 0 < M.2.2.1) (hok : e_ok (w0 :: t) 0 = true) (kk : T X d M pc' (.ref x :: t) st h Q) : T X d M pc (w0 :: t) (.ref x :: st) h Q :=
  T_astore hd hn hi hok rfl kk
theorem T_ii0 {n : Int} {c x : Int32} (hd : decode M.2.1 pc = .ok (.iinc 0 n, 3)) (hn : pc + 3 = pc') (hc : Int32.ofInt n = c) (hi : 0 < M.2.2.1) (hok : e_ok (.int x :: t) 0 = true) (kk : T X d M pc' (.int (x + c) :: t) st h Q) : T X d M pc (.int x :: t) st h Q :=
  T_iinc hd hn rfl (by rw [hc]) hi hok rfl kk
theorem T_is_n1 {k : Fin 4} {x : Int32} {w0 w1 : Value} (hd : decode M.2.1 pc = .ok (.istore_n k, 1)) (hn : pc + 1 = pc') (hk : (k : Nat) = 1) (hi : 1 < M.2.2.1) (hok : e_ok (w0 :: w1 :: t) 1 = true) (kk : T X d M pc' (w0 :: .int x :: t) st h Q) : T X d M pc (w0 :: w1 :: t) (.int x :: st) h Q :=
  T_istore_n hd hn hk hi hok rfl kk
theorem T_is1 {x : Int32} {w0 w1 : Value} (hd : decode M.2.1 pc = .ok (.istore 1, 2)) (hn : pc + 2 = pc') (hi : 1 < M.2.2.1) (hok : e_ok (w0 :: w1 :: t) 1 = true) (kk : T X d M pc' (w0 :: .int x :: t) st h Q) : T X d M pc (w0 :: w1 :: t) (.int x :: st) h Q :=
  T_istore hd hn hi hok rfl kk
theorem T_as_n1 {k : Fin 4} {x : Nat} {w0 w1 : Value} (hd : decode M.2.1 pc = .ok (.astore_n k, 1)) (hn : pc + 1 = pc') (hk : (k : Nat) = 1) (hi : 1 < M.2.2.1) (hok : e_ok (w0 :: w1 :: t) 1 = true) (kk : T X d M pc' (w0 :: .ref x :: t) st h Q) : T X d M pc (w0 :: w1 :: t) (.ref x :: st) h Q :=
  T_astore_n hd hn hk hi hok rfl kk
theorem T_as1 {x : Nat} {w0 w1 : Value} (hd : decode M.2.1 pc = .ok (.astore 1, 2)) (hn : pc + 2 = pc') (hi : 1 < M.2.2.1) (hok : e_ok (w0 :: w1 :: t) 1 = true) (kk : T X d M pc' (w0 :: .ref x :: t) st h Q) : T X d M pc (w0 :: w1 :: t) (.ref x :: st) h Q :=
  T_astore hd hn hi hok rfl kk
theorem T_ii1 {n : Int} {c x : Int32} {w0 : Value} (hd : decode M.2.1 pc = .ok (.iinc 1 n, 3)) (hn : pc + 3 = pc') (hc : Int32.ofInt n = c) (hi : 1 < M.2.2.1) (hok : e_ok (w0 :: .int x :: t) 1 = true) (kk : T X d M pc' (w0 :: .int (x + c) :: t) st h Q) : T X d M pc (w0 :: .int x :: t) st h Q :=
  T_iinc hd hn rfl (by rw [hc]) hi hok rfl kk
theorem T_is_n2 {k : Fin 4} {x : Int32} {w0 w1 w2 : Value} (hd : decode M.2.1 pc = .ok (.istore_n k, 1)) (hn : pc + 1 = pc') (hk : (k : Nat) = 2) (hi : 2 < M.2.2.1) (hok : e_ok (w0 :: w1 :: w2 :: t) 2 = true) (kk : T X d M pc' (w0 :: w1 :: .int x :: t) st h Q) : T X d M pc (w0 :: w1 :: w2 :: t) (.int x :: st) h Q :=
  T_istore_n hd hn hk hi hok rfl kk
theorem T_is2 {x : Int32} {w0 w1 w2 : Value} (hd : decode M.2.1 pc = .ok (.istore 2, 2)) (hn : pc + 2 = pc') (hi : 2 < M.2.2.1) (hok : e_ok (w0 :: w1 :: w2 :: t) 2 = true) (kk : T X d M pc' (w0 :: w1 :: .int x :: t) st h Q) : T X d M pc (w0 :: w1 :: w2 :: t) (.int x :: st) h Q :=
  T_istore hd hn hi hok rfl kk
theorem T_as_n2 {k : Fin 4} {x : Nat} {w0 w1 w2 : Value} (hd : decode M.2.1 pc = .ok (.astore_n k, 1)) (hn : pc + 1 = pc') (hk : (k : Nat) = 2) (hi : 2 < M.2.2.1) (hok : e_ok (w0 :: w1 :: w2 :: t) 2 = true) (kk : T X d M pc' (w0 :: w1 :: .ref x :: t) st h Q) : T X d M pc (w0 :: w1 :: w2 :: t) (.ref x :: st) h Q :=
  T_astore_n hd hn hk hi hok rfl kk
theorem T_as2 {x : Nat} {w0 w1 w2 : Value} (hd : decode M.2.1 pc = .ok (.astore 2, 2)) (hn : pc + 2 = pc') (hi : 2 < M.2.2.1) (hok : e_ok (w0 :: w1 :: w2 :: t) 2 = true) (kk : T X d M pc' (w0 :: w1 :: .ref x :: t) st h Q) : T X d M pc (w0 :: w1 :: w2 :: t) (.ref x :: st) h Q :=
  T_astore hd hn hi hok rfl kk
theorem T_ii2 {n : Int} {c x : Int32} {w0 w1 : Value} (hd : decode M.2.1 pc = .ok (.iinc 2 n, 3)) (hn : pc + 3 = pc') (hc : Int32.ofInt n = c) (hi : 2 < M.2.2.1) (hok : e_ok (w0 :: w1 :: .int x :: t) 2 = true) (kk : T X d M pc' (w0 :: w1 :: .int (x + c) :: t) st h Q) : T X d M pc (w0 :: w1 :: .int x :: t) st h Q :=
  T_iinc hd hn rfl (by rw [hc]) hi hok rfl kk
theorem T_is_n3 {k : Fin 4} {x : Int32} {w0 w1 w2 w3 : Value} (hd : decode M.2.1 pc = .ok (.istore_n k, 1)) (hn : pc + 1 = pc') (hk : (k : Nat) = 3) (hi : 3 < M.2.2.1) (hok : e_ok (w0 :: w1 :: w2 :: w3 :: t) 3 = true) (kk : T X d M pc' (w0 :: w1 :: w2 :: .int x :: t) st h Q) : T X d M pc (w0 :: w1 :: w2 :: w3 :: t) (.int x :: st) h Q :=
  T_istore_n hd hn hk hi hok rfl kk
theorem T_is3 {x : Int32} {w0 w1 w2 w3 : Value} (hd : decode M.2.1 pc = .ok (.istore 3, 2)) (hn : pc + 2 = pc') (hi : 3 < M.2.2.1) (hok : e_ok (w0 :: w1 :: w2 :: w3 :: t) 3 = true) (kk : T X d M pc' (w0 :: w1 :: w2 :: .int x :: t) st h Q) : T X d M pc (w0 :: w1 :: w2 :: w3 :: t) (.int x :: st) h Q :=
  T_istore hd hn hi hok rfl kk
theorem T_as_n3 {k : Fin 4} {x : Nat} {w0 w1 w2 w3 : Value} (hd : decode M.2.1 pc = .ok (.astore_n k, 1)) (hn : pc + 1 = pc') (hk : (k : Nat) = 3) (hi : 3 < M.2.2.1) (hok : e_ok (w0 :: w1 :: w2 :: w3 :: t) 3 = true) (kk : T X d M pc' (w0 :: w1 :: w2 :: .ref x :: t) st h Q) : T X d M pc (w0 :: w1 :: w2 :: w3 :: t) (.ref x :: st) h Q :=
  T_astore_n hd hn hk hi hok rfl kk
theorem T_as3 {x : Nat} {w0 w1 w2 w3 : Value} (hd : decode M.2.1 pc = .ok (.astore 3, 2)) (hn : pc + 2 = pc') (hi : 3 < M.2.2.1) (hok : e_ok (w0 :: w1 :: w2 :: w3 :: t) 3 = true) (kk : T X d M pc' (w0 :: w1 :: w2 :: .ref x :: t) st h Q) : T X d M pc (w0 :: w1 :: w2 :: w3 :: t) (.ref x :: st) h Q :=
  T_astore hd hn hi hok rfl kk
theorem T_ii3 {n : Int} {c x : Int32} {w0 w1 w2 : Value} (hd : decode M.2.1 pc = .ok (.iinc 3 n, 3)) (hn : pc + 3 = pc') (hc : Int32.ofInt n = c) (hi : 3 < M.2.2.1) (hok : e_ok (w0 :: w1 :: w2 :: .int x :: t) 3 = true) (kk : T X d M pc' (w0 :: w1 :: w2 :: .int (x + c) :: t) st h Q) : T X d M pc (w0 :: w1 :: w2 :: .int x :: t) st h Q :=
  T_iinc hd hn rfl (by rw [hc]) hi hok rfl kk
theorem T_is4 {x : Int32} {w0 w1 w2 w3 w4 : Value} (hd : decode M.2.1 pc = .ok (.istore 4, 2)) (hn : pc + 2 = pc') (hi : 4 < M.2.2.1) (hok : e_ok (w0 :: w1 :: w2 :: w3 :: w4 :: t) 4 = true) (kk : T X d M pc' (w0 :: w1 :: w2 :: w3 :: .int x :: t) st h Q) : T X d M pc (w0 :: w1 :: w2 :: w3 :: w4 :: t) (.int x :: st) h Q :=
  T_istore hd hn hi hok rfl kk
theorem T_as4 {x : Nat} {w0 w1 w2 w3 w4 : Value} (hd : decode M.2.1 pc = .ok (.astore 4, 2)) (hn : pc + 2 = pc') (hi : 4 < M.2.2.1) (hok : e_ok (w0 :: w1 :: w2 :: w3 :: w4 :: t) 4 = true) (kk : T X d M pc' (w0 :: w1 :: w2 :: w3 :: .ref x :: t) st h Q) : T X d M pc (w0 :: w1 :: w2 :: w3 :: w4 :: t) (.ref x :: st) h Q :=
  T_astore hd hn hi hok rfl kk
theorem T_ii4 {n : Int} {c x : Int32} {w0 w1 w2 w3 : Value} (hd : decode M.2.1 pc = .ok (.iinc 4 n, 3)) (hn : pc + 3 = pc') (hc : Int32.ofInt n = c) (hi : 4 < M.2.2.1) (hok : e_ok (w0 :: w1 :: w2 :: w3 :: .int x :: t) 4 = true) (kk : T X d M pc' (w0 :: w1 :: w2 :: w3 :: .int (x + c) :: t) st h Q) : T X d M pc (w0 :: w1 :: w2 :: w3 :: .int x :: t) st h Q :=
  T_iinc hd hn rfl (by rw [hc]) hi hok rfl kk
theorem T_is5 {x : Int32} {w0 w1 w2 w3 w4 w5 : Value} (hd : decode M.2.1 pc = .ok (.istore 5, 2)) (hn : pc + 2 = pc') (hi : 5 < M.2.2.1) (hok : e_ok (w0 :: w1 :: w2 :: w3 :: w4 :: w5 :: t) 5 = true) (kk : T X d M pc' (w0 :: w1 :: w2 :: w3 :: w4 :: .int x :: t) st h Q) : T X d M pc (w0 :: w1 :: w2 :: w3 :: w4 :: w5 :: t) (.int x :: st) h Q :=
  T_istore hd hn hi hok rfl kk
theorem T_as5 {x : Nat} {w0 w1 w2 w3 w4 w5 : Value} (hd : decode M.2.1 pc = .ok (.astore 5, 2)) (hn : pc + 2 = pc') (hi : 5 < M.2.2.1) (hok : e_ok (w0 :: w1 :: w2 :: w3 :: w4 :: w5 :: t) 5 = true) (kk : T X d M pc' (w0 :: w1 :: w2 :: w3 :: w4 :: .ref x :: t) st h Q) : T X d M pc (w0 :: w1 :: w2 :: w3 :: w4 :: w5 :: t) (.ref x :: st) h Q :=
  T_astore hd hn hi hok rfl kk
theorem T_ii5 {n : Int} {c x : Int32} {w0 w1 w2 w3 w4 : Value} (hd : decode M.2.1 pc = .ok (.iinc 5 n, 3)) (hn : pc + 3 = pc') (hc : Int32.ofInt n = c) (hi : 5 < M.2.2.1) (hok : e_ok (w0 :: w1 :: w2 :: w3 :: w4 :: .int x :: t) 5 = true) (kk : T X d M pc' (w0 :: w1 :: w2 :: w3 :: w4 :: .int (x + c) :: t) st h Q) : T X d M pc (w0 :: w1 :: w2 :: w3 :: w4 :: .int x :: t) st h Q :=
  T_iinc hd hn rfl (by rw [hc]) hi hok rfl kk
theorem T_is6 {x : Int32} {w0 w1 w2 w3 w4 w5 w6 : Value} (hd : decode M.2.1 pc = .ok (.istore 6, 2)) (hn : pc + 2 = pc') (hi : 6 < M.2.2.1) (hok : e_ok (w0 :: w1 :: w2 :: w3 :: w4 :: w5 :: w6 :: t) 6 = true) (kk : T X d M pc' (w0 :: w1 :: w2 :: w3 :: w4 :: w5 :: .int x :: t) st h Q) : T X d M pc (w0 :: w1 :: w2 :: w3 :: w4 :: w5 :: w6 :: t) (.int x :: st) h Q :=
  T_istore hd hn hi hok rfl kk
theorem T_as6 {x : Nat} {w0 w1 w2 w3 w4 w5 w6 : Value} (hd : decode M.2.1 pc = .ok (.astore 6, 2)) (hn : pc + 2 = pc') (hi : 6 < M.2.2.1) (hok : e_ok (w0 :: w1 :: w2 :: w3 :: w4 :: w5 :: w6 :: t) 6 = true) (kk : T X d M pc' (w0 :: w1 :: w2 :: w3 :: w4 :: w5 :: .ref x :: t) st h Q) : T X d M pc (w0 :: w1 :: w2 :: w3 :: w4 :: w5 :: w6 :: t) (.ref x :: st) h Q :=
  T_astore hd hn hi hok rfl kk
theorem T_ii6 {n : Int} {c x : Int32} {w0 w1 w2 w3 w4 w5 : Value} (hd : decode M.2.1 pc = .ok (.iinc 6 n, 3)) (hn : pc + 3 = pc') (hc : Int32.ofInt n = c) (hi : 6 < M.2.2.1) (hok : e_ok (w0 :: w1 :: w2 :: w3 :: w4 :: w5 :: .int x :: t) 6 = true) (kk : T X d M pc' (w0 :: w1 :: w2 :: w3 :: w4 :: w5 :: .int (x + c) :: t) st h Q) : T X d M pc (w0 :: w1 :: w2 :: w3 :: w4 :: w5 :: .int x :: t) st h Q :=
  T_iinc hd hn rfl (by rw [hc]) hi hok rfl kk
theorem T_is7 {x : Int32} {w0 w1 w2 w3 w4 w5 w6 w7 : Value} (hd : decode M.2.1 pc = .ok (.istore 7, 2)) (hn : pc + 2 = pc') (hi : 7 < M.2.2.1) (hok : e_ok (w0 :: w1 :: w2 :: w3 :: w4 :: w5 :: w6 :: w7 :: t) 7 = true) (kk : T X d M pc' (w0 :: w1 :: w2 :: w3 :: w4 :: w5 :: w6 :: .int x :: t) st h Q) : T X d M pc (w0 :: w1 :: w2 :: w3 :: w4 :: w5 :: w6 :: w7 :: t) (.int x :: st) h Q :=
  T_istore hd hn hi hok rfl kk
theorem T_as7 {x : Nat} {w0 w1 w2 w3 w4 w5 w6 w7 : Value} (hd : decode M.2.1 pc = .ok (.astore 7, 2)) (hn : pc + 2 = pc') (hi : 7 < M.2.2.1) (hok : e_ok (w0 :: w1 :: w2 :: w3 :: w4 :: w5 :: w6 :: w7 :: t) 7 = true) (kk : T X d M pc' (w0 :: w1 :: w2 :: w3 :: w4 :: w5 :: w6 :: .ref x :: t) st h Q) : T X d M pc (w0 :: w1 :: w2 :: w3 :: w4 :: w5 :: w6 :: w7 :: t) (.ref x :: st) h Q :=
  T_astore hd hn hi hok rfl kk
theorem T_ii7 {n : Int} {c x : Int32} {w0 w1 w2 w3 w4 w5 w6 : Value} (hd : decode M.2.1 pc = .ok (.iinc 7 n, 3)) (hn : pc + 3 = pc') (hc : Int32.ofInt n = c) (hi : 7 < M.2.2.1) (hok : e_ok (w0 :: w1 :: w2 :: w3 :: w4 :: w5 :: w6 :: .int x :: t) 7 = true) (kk : T X d M pc' (w0 :: w1 :: w2 :: w3 :: w4 :: w5 :: w6 :: .int (x + c) :: t) st h Q) : T X d M pc (w0 :: w1 :: w2 :: w3 :: w4 :: w5 :: w6 :: .int x :: t) st h Q :=
  T_iinc hd hn rfl (by rw [hc]) hi hok rfl kk
theorem T_is8 {x : Int32} {w0 w1 w2 w3 w4 w5 w6 w7 w8 : Value} (hd : decode M.2.1 pc = .ok (.istore 8, 2)) (hn : pc + 2 = pc') (hi : 8 < M.2.2.1) (hok : e_ok (w0 :: w1 :: w2 :: w3 :: w4 :: w5 :: w6 :: w7 :: w8 :: t) 8 = true) (kk : T X d M pc' (w0 :: w1 :: w2 :: w3 :: w4 :: w5 :: w6 :: w7 :: .int x :: t) st h Q) : T X d M pc (w0 :: w1 :: w2 :: w3 :: w4 :: w5 :: w6 :: w7 :: w8 :: t) (.int x :: st) h Q :=
  T_istore hd hn hi hok rfl kk
theorem T_as8 {x : Nat} {w0 w1 w2 w3 w4 w5 w6 w7 w8 : Value} (hd : decode M.2.1 pc = .ok (.astore 8, 2)) (hn : pc + 2 = pc') (hi : 8 < M.2.2.1) (hok : e_ok (w0 :: w1 :: w2 :: w3 :: w4 :: w5 :: w6 :: w7 :: w8 :: t) 8 = true) (kk : T X d M pc' (w0 :: w1 :: w2 :: w3 :: w4 :: w5 :: w6 :: w7 :: .ref x :: t) st h Q) : T X d M pc (w0 :: w1 :: w2 :: w3 :: w4 :: w5 :: w6 :: w7 :: w8 :: t) (.ref x :: st) h Q :=
  T_astore hd hn hi hok rfl kk
theorem T_ii8 {n : Int} {c x : Int32} {w0 w1 w2 w3 w4 w5 w6 w7 : Value} (hd : decode M.2.1 pc = .ok (.iinc 8 n, 3)) (hn : pc + 3 = pc') (hc : Int32.ofInt n = c) (hi : 8 < M.2.2.1) (hok : e_ok (w0 :: w1 :: w2 :: w3 :: w4 :: w5 :: w6 :: w7 :: .int x :: t) 8 = true) (kk : T X d M pc' (w0 :: w1 :: w2 :: w3 :: w4 :: w5 :: w6 :: w7 :: .int (x + c) :: t) st h Q) : T X d M pc (w0 :: w1 :: w2 :: w3 :: w4 :: w5 :: w6 :: w7 :: .int x :: t) st h Q :=
  T_iinc hd hn rfl (by rw [hc]) hi hok rfl kk
theorem T_is9 {x : Int32} {w0 w1 w2 w3 w4 w5 w6 w7 w8 w9 : Value} (hd : decode M.2.1 pc = .ok (.istore 9, 2)) (hn : pc + 2 = pc') (hi : 9 < M.2.2.1) (hok : e_ok (w0 :: w1 :: w2 :: w3 :: w4 :: w5 :: w6 :: w7 :: w8 :: w9 :: t) 9 = true) (kk : T X d M pc' (w0 :: w1 :: w2 :: w3 :: w4 :: w5 :: w6 :: w7 :: w8 :: .int x :: t) st h Q) : T X d M pc (w0 :: w1 :: w2 :: w3 :: w4 :: w5 :: w6 :: w7 :: w8 :: w9 :: t) (.int x :: st) h Q :=
  T_istore hd hn hi hok rfl kk
theorem T_as9 {x : Nat} {w0 w1 w2 w3 w4 w5 w6 w7 w8 w9 : Value} (hd : decode M.2.1 pc = .ok (.astore 9, 2)) (hn : pc + 2 = pc') (hi : 9 < M.2.2.1) (hok : e_ok (w0 :: w1 :: w2 :: w3 :: w4 :: w5 :: w6 :: w7 :: w8 :: w9 :: t) 9 = true) (kk : T X d M pc' (w0 :: w1 :: w2 :: w3 :: w4 :: w5 :: w6 :: w7 :: w8 :: .ref x :: t) st h Q) : T X d M pc (w0 :: w1 :: w2 :: w3 :: w4 :: w5 :: w6 :: w7 :: w8 :: w9 :: t) (.ref x :: st) h Q :=
  T_astore hd hn hi hok rfl kk
theorem T_ii9 {n : Int} {c x : Int32} {w0 w1 w2 w3 w4 w5 w6 w7 w8 : Value} (hd : decode M.2.1 pc = .ok (.iinc 9 n, 3)) (hn : pc + 3 = pc') (hc : Int32.ofInt n = c) (hi : 9 < M.2.2.1) (hok : e_ok (w0 :: w1 :: w2 :: w3 :: w4 :: w5 :: w6 :: w7 :: w8 :: .int x :: t) 9 = true) (kk : T X d M pc' (w0 :: w1 :: w2 :: w3 :: w4 :: w5 :: w6 :: w7 :: w8 :: .int (x + c) :: t) st h Q) : T X d M pc (w0 :: w1 :: w2 :: w3 :: w4 :: w5 :: w6 :: w7 :: w8 :: .int x :: t) st h Q :=
  T_iinc hd hn rfl (by rw [hc]) hi hok rfl kk
theorem T_is10 {x : Int32} {w0 w1 w2 w3 w4 w5 w6 w7 w8 w9 w10 : Value} (hd : decode M.2.1 pc = .ok (.istore 10, 2)) (hn : pc + 2 = pc') (hi : 10 < M.2.2.1) (hok : e_ok (w0 :: w1 :: w2 :: w3 :: w4 :: w5 :: w6 :: w7 :: w8 :: w9 :: w10 :: t) 10 = true) (kk : T X d M pc' (w0 :: w1 :: w2 :: w3 :: w4 :: w5 :: w6 :: w7 :: w8 :: w9 :: .int x :: t) st h Q) : T X d M pc (w0 :: w1 :: w2 :: w3 :: w4 :: w5 :: w6 :: w7 :: w8 :: w9 :: w10 :: t) (.int x :: st) h Q :=
  T_istore hd hn hi hok rfl kk
theorem T_as10 {x : Nat} {w0 w1 w2 w3 w4 w5 w6 w7 w8 w9 w10 : Value} (hd : decode M.2.1 pc = .ok (.astore 10, 2)) (hn : pc + 2 = pc') (hi : 10 < M.2.2.1) (hok : e_ok (w0 :: w1 :: w2 :: w3 :: w4 :: w5 :: w6 :: w7 :: w8 :: w9 :: w10 :: t) 10 = true) (kk : T X d M pc' (w0 :: w1 :: w2 :: w3 :: w4 :: w5 :: w6 :: w7 :: w8 :: w9 :: .ref x :: t) st h Q) : T X d M pc (w0 :: w1 :: w2 :: w3 :: w4 :: w5 :: w6 :: w7 :: w8 :: w9 :: w10 :: t) (.ref x :: st) h Q :=
  T_astore hd hn hi hok rfl kk
theorem T_ii10 {n : Int} {c x : Int32} {w0 w1 w2 w3 w4 w5 w6 w7 w8 w9 : Value} (hd : decode M.2.1 pc = .ok (.iinc 10 n, 3)) (hn : pc + 3 = pc') (hc : Int32.ofInt n = c) (hi : 10 < M.2.2.1) (hok : e_ok (w0 :: w1 :: w2 :: w3 :: w4 :: w5 :: w6 :: w7 :: w8 :: w9 :: .int x :: t) 10 = true) (kk : T X d M pc' (w0 :: w1 :: w2 :: w3 :: w4 :: w5 :: w6 :: w7 :: w8 :: w9 :: .int (x + c) :: t) st h Q) : T X d M pc (w0 :: w1 :: w2 :: w3 :: w4 :: w5 :: w6 :: w7 :: w8 :: w9 :: .int x :: t) st h Q :=
  T_iinc hd hn rfl (by rw [hc]) hi hok rfl kk
theorem T_is11 {x : Int32} {w0 w1 w2 w3 w4 w5 w6 w7 w8 w9 w10 w11 : Value} (hd : decode M.2.1 pc = .ok (.istore 11, 2)) (hn : pc + 2 = pc') (hi : 11 < M.2.2.1) (hok : e_ok (w0 :: w1 :: w2 :: w3 :: w4 :: w5 :: w6 :: w7 :: w8 :: w9 :: w10 :: w11 :: t) 11 = true) (kk : T X d M pc' (w0 :: w1 :: w2 :: w3 :: w4 :: w5 :: w6 :: w7 :: w8 :: w9 :: w10 :: .int x :: t) st h Q) : T X d M pc (w0 :: w1 :: w2 :: w3 :: w4 :: w5 :: w6 :: w7 :: w8 :: w9 :: w10 :: w11 :: t) (.int x :: st) h Q :=
  T_istore hd hn hi hok rfl kk
theorem T_as11 {x : Nat} {w0 w1 w2 w3 w4 w5 w6 w7 w8 w9 w10 w11 : Value} (hd : decode M.2.1 pc = .ok (.astore 11, 2)) (hn : pc + 2 = pc') (hi : 11 < M.2.2.1) (hok : e_ok (w0 :: w1 :: w2 :: w3 :: w4 :: w5 :: w6 :: w7 :: w8 :: w9 :: w10 :: w11 :: t) 11 = true) (kk : T X d M pc' (w0 :: w1 :: w2 :: w3 :: w4 :: w5 :: w6 :: w7 :: w8 :: w9 :: w10 :: .ref x :: t) st h Q) : T X d M pc (w0 :: w1 :: w2 :: w3 :: w4 :: w5 :: w6 :: w7 :: w8 :: w9 :: w10 :: w11 :: t) (.ref x :: st) h Q :=
  T_astore hd hn hi hok rfl kk
theorem T_ii11 {n : Int} {c x : Int32} {w0 w1 w2 w3 w4 w5 w6 w7 w8 w9 w10 : Value} (hd : decode M.2.1 pc = .ok (.iinc 11 n, 3)) (hn : pc + 3 = pc') (hc : Int32.ofInt n = c) (hi : 11 < M.2.2.1) (hok : e_ok (w0 :: w1 :: w2 :: w3 :: w4 :: w5 :: w6 :: w7 :: w8 :: w9 :: w10 :: .int x :: t) 11 = true) (kk : T X d M pc' (w0 :: w1 :: w2 :: w3 :: w4 :: w5 :: w6 :: w7 :: w8 :: w9 :: w10 :: .int (x + c) :: t) st h Q) : T X d M pc (w0 :: w1 :: w2 :: w3 :: w4 :: w5 :: w6 :: w7 :: w8 :: w9 :: w10 :: .int x :: t) st h Q :=
  T_iinc hd hn rfl (by rw [hc]) hi hok rfl kk
theorem T_is12 {x : Int32} {w0 w1 w2 w3 w4 w5 w6 w7 w8 w9 w10 w11 w12 : Value} (hd : decode M.2.1 pc = .ok (.istore 12, 2)) (hn : pc + 2 = pc') (hi : 12 < M.2.2.1) (hok : e_ok (w0 :: w1 :: w2 :: w3 :: w4 :: w5 :: w6 :: w7 :: w8 :: w9 :: w10 :: w11 :: w12 :: t) 12 = true) (kk : T X d M pc' (w0 :: w1 :: w2 :: w3 :: w4 :: w5 :: w6 :: w7 :: w8 :: w9 :: w10 :: w11 :: .int x :: t) st h Q) : T X d M pc (w0 :: w1 :: w2 :: w3 :: w4 :: w5 :: w6 :: w7 :: w8 :: w9 :: w10 :: w11 :: w12 :: t) (.int x :: st) h Q :=
  T_istore hd hn hi hok rfl kk
theorem T_as12 {x : Nat} {w0 w1 w2 w3 w4 w5 w6 w7 w8 w9 w10 w11 w12 : Value} (hd : decode M.2.1 pc = .ok (.astore 12, 2)) (hn : pc + 2 = pc') (hi : 12 < M.2.2.1) (hok : e_ok (w0 :: w1 :: w2 :: w3 :: w4 :: w5 :: w6 :: w7 :: w8 :: w9 :: w10 :: w11 :: w12 :: t) 12 = true) (kk : T X d M pc' (w0 :: w1 :: w2 :: w3 :: w4 :: w5 :: w6 :: w7 :: w8 :: w9 :: w10 :: w11 :: .ref x :: t) st h Q) : T X d M pc (w0 :: w1 :: w2 :: w3 :: w4 :: w5 :: w6 :: w7 :: w8 :: w9 :: w10 :: w11 :: w12 :: t) (.ref x :: st) h Q :=
  T_astore hd hn hi hok rfl kk
theorem T_ii12 {n : Int} {c x : Int32} {w0 w1 w2 w3 w4 w5 w6 w7 w8 w9 w10 w11 : Value} (hd : decode M.2.1 pc = .ok (.iinc 12 n, 3)) (hn : pc + 3 = pc') (hc : Int32.ofInt n = c) (hi : 12 < M.2.2.1) (hok : e_ok (w0 :: w1 :: w2 :: w3 :: w4 :: w5 :: w6 :: w7 :: w8 :: w9 :: w10 :: w11 :: .int x :: t) 12 = true) (kk : T X d M pc' (w0 :: w1 :: w2 :: w3 :: w4 :: w5 :: w6 :: w7 :: w8 :: w9 :: w10 :: w11 :: .int (x + c) :: t) st h Q) : T X d M pc (w0 :: w1 :: w2 :: w3 :: w4 :: w5 :: w6 :: w7 :: w8 :: w9 :: w10 :: w11 :: .int x :: t) st h Q :=
  T_iinc hd hn rfl (by rw [hc]) hi hok rfl kk
theorem T_is13 {x : Int32} {w0 w1 w2 w3 w4 w5 w6 w7 w8 w9 w10 w11 w12 w13 : Value} (hd : decode M.2.1 pc = .ok (.istore 13, 2)) (hn : pc + 2 = pc') (hi : 13 < M.2.2.1) (hok : e_ok (w0 :: w1 :: w2 :: w3 :: w4 :: w5 :: w6 :: w7 :: w8 :: w9 :: w10 :: w11 :: w12 :: w13 :: t) 13 = true) (kk : T X d M pc' (w0 :: w1 :: w2 :: w3 :: w4 :: w5 :: w6 :: w7 :: w8 :: w9 :: w10 :: w11 :: w12 :: .int x :: t) st h Q) : T X d M pc (w0 :: w1 :: w2 :: w3 :: w4 :: w5 :: w6 :: w7 :: w8 :: w9 :: w10 :: w11 :: w12 :: w13 :: t) (.int x :: st) h Q :=
  T_istore hd hn hi hok rfl kk
theorem T_as13 {x : Nat} {w0 w1 w2 w3 w4 w5 w6 w7 w8 w9 w10 w11 w12 w13 : Value} (hd : decode M.2.1 pc = .ok (.astore 13, 2)) (hn : pc + 2 = pc') (hi : 13 < M.2.2.1) (hok : e_ok (w0 :: w1 :: w2 :: w3 :: w4 :: w5 :: w6 :: w7 :: w8 :: w9 :: w10 :: w11 :: w12 :: w13 :: t) 13 = true) (kk : T X d M pc' (w0 :: w1 :: w2 :: w3 :: w4 :: w5 :: w6 :: w7 :: w8 :: w9 :: w10 :: w11 :: w12 :: .ref x :: t) st h Q) : T X d M pc (w0 :: w1 :: w2 :: w3 :: w4 :: w5 :: w6 :: w7 :: w8 :: w9 :: w10 :: w11 :: w12 :: w13 :: t) (.ref x :: st) h Q :=
  T_astore hd hn hi hok rfl kk
theorem T_ii13 {n : Int} {c x : Int32} {w0 w1 w2 w3 w4 w5 w6 w7 w8 w9 w10 w11 w12 : Value} (hd : decode M.2.1 pc = .ok (.iinc 13 n, 3)) (hn : pc + 3 = pc') (hc : Int32.ofInt n = c) (hi : 13 < M.2.2.1) (hok : e_ok (w0 :: w1 :: w2 :: w3 :: w4 :: w5 :: w6 :: w7 :: w8 :: w9 :: w10 :: w11 :: w12 :: .int x :: t) 13 = true) (kk : T X d M pc' (w0 :: w1 :: w2 :: w3 :: w4 :: w5 :: w6 :: w7 :: w8 :: w9 :: w10 :: w11 :: w12 :: .int (x + c) :: t) st h Q) : T X d M pc (w0 :: w1 :: w2 :: w3 :: w4 :: w5 :: w6 :: w7 :: w8 :: w9 :: w10 :: w11 :: w12 :: .int x :: t) st h Q :=
  T_iinc hd hn rfl (by rw [hc]) hi hok rfl kk
theorem T_weak {ls ls' : List Value} (hl : ls'.length = ls.length) (hw : ∀ (i : Nat) (v : Value), ls'[i]? = some v → v ≠ .null → ls[i]? = some v) (k : T X d M pc ls' st h Q) : T X d M pc ls st h Q :=
  T_pure (fun p e R s m args below meth c H locs cells slots Q l hC _ _ _ _ _ _ hL hk => hk l ⟨by rw [hl]; exact hL.1, hL.2.1, hL.2.2.1, fun i v hi hv => hL.2.2.2 i v (hw i v hi hv) hv⟩) k
def e_le : List Value → List Value → Prop
  | [], [] => True
  | a :: t, b :: u => (a = .null ∨ a = b) ∧ e_le t u
  | _, _ => False
theorem e_le_len : ∀ {a b : List Value}, e_le a b → a.length = b.length
  | [], [], _ => rfl
  | _ :: _, _ :: _, h => by simp [e_le_len h.2]
theorem e_le_at : ∀ {a b : List Value}, e_le a b → ∀ (i : Nat) (v : Value), a[i]? = some v → v ≠ .null → b[i]? = some v
  | [], [], _, i, v, hi, _ => by simp at hi
  | x :: _, y :: _, h, 0, v, hi, hv => by
    have hx : x = v := by simpa using hi
    subst hx
    rcases h.1 with rfl | rfl
    · exact absurd rfl hv
    · rfl
  | _ :: _, _ :: _, h, i + 1, v, hi, hv => e_le_at h.2 i v (by simpa using hi) hv
/-- locals that are no more needed are forgotten -/
theorem T_fg {ls ls' : List Value} (hl : e_le ls' ls) (k : T X d M pc ls' st h Q) : T X d M pc ls st h Q := T_weak (e_le_len hl) (e_le_at hl) k
theorem T_mmax {idx : Nat} {x y : Int32} (hd : decode M.2.1 pc = .ok (.invokestatic idx, 3)) (hn : pc + 3 = pc') (hl : CL M.1.cls idx M_Ma_max) (hW : (st.map fun v => v.category).sum ≤ 40) (kk : T X (d + 1) M pc' t (.int (if x < y then y else x) :: st) h Q) : T X (d + 1) M pc t (.int y :: .int x :: st) h Q := by
  refine T_pure (fun p e R s m args below meth c H locs cells slots Q l hC g1 g2 g3 g4 hP hS hL hq => ?_) kk
  obtain ⟨hx, hb, hml, hown, hts, -, -, -, hE⟩ := hC
  have hl' : Cond.methodLink M.1.cls idx M_Ma_max.1 ∈ e_gw := by
    rcases hl with z | ⟨host, z⟩
    · exact z
    · exact absurd (List.mem_filter.mp z).1 (fun q => by
        have hz : ∀ w ∈ e_nw, (match w with | .methodLinkNest _ _ y _ => !(y.cls == "java/lang/Math") | _ => true) = true := by decide +kernel
        have := hz _ z
        exact absurd (show (!(M_Ma_max.1.cls == "java/lang/Math")) = true from this) (by decide))
  have e1 : ((st.map (e_tr X)).map fun v => v.category) = st.map fun v => v.category := by rw [List.map_map]; exact List.map_congr_left (fun v _ => e_cat v)
  exact va_mmax hx hb (by rw [hml]; exact hL.2.1.symm) hown (hts _ hl') (hts _ i_Ma_max) (hts _ k_Ma_max.2.1) (hts _ k_Ma_max.1) (by omega) (by rw [e1]; omega) g3 g4 hd (by rw [hn]; exact hq l hL)
theorem T_mmin {idx : Nat} {x y : Int32} (hd : decode M.2.1 pc = .ok (.invokestatic idx, 3)) (hn : pc + 3 = pc') (hl : CL M.1.cls idx M_Ma_min) (hW : (st.map fun v => v.category).sum ≤ 40) (kk : T X (d + 1) M pc' t (.int (if y < x then y else x) :: st) h Q) : T X (d + 1) M pc t (.int y :: .int x :: st) h Q := by
  refine T_pure (fun p e R s m args below meth c H locs cells slots Q l hC g1 g2 g3 g4 hP hS hL hq => ?_) kk
  obtain ⟨hx, hb, hml, hown, hts, -, -, -, hE⟩ := hC
  have hl' : Cond.methodLink M.1.cls idx M_Ma_min.1 ∈ e_gw := by
    rcases hl with z | ⟨host, z⟩
    · exact z
    · exact absurd (List.mem_filter.mp z).1 (fun q => by
        have hz : ∀ w ∈ e_nw, (match w with | .methodLinkNest _ _ y _ => !(y.cls == "java/lang/Math") | _ => true) = true := by decide +kernel
        have := hz _ z
        exact absurd (show (!(M_Ma_min.1.cls == "java/lang/Math")) = true from this) (by decide))
  have e1 : ((st.map (e_tr X)).map fun v => v.category) = st.map fun v => v.category := by rw [List.map_map]; exact List.map_congr_left (fun v _ => e_cat v)
  exact va_mmin hx hb (by rw [hml]; exact hL.2.1.symm) hown (hts _ hl') (hts _ i_Ma_min) (hts _ k_Ma_min.2.1) (hts _ k_Ma_min.1) (by omega) (by rw [e1]; omega) g3 g4 hd (by rw [hn]; exact hq l hL)
end ENG9
