/-! changes of the state, part by part -/
def sH (σ : Sp) (kn : Nat) (rows : Nat → Nat → Int32) : Sp := (fun j => if j = 3 then kn else σ.1 j, fun j => if 20 ≤ j ∧ j < 30 then rows (j - 20) else σ.2.1 j, σ.2.2)
/-- image i (0, 1): kept, with these -/
def sG (σ : Sp) (i kn : Nat) (g : Nat → Int32) (rows : Nat → Nat → Int32) : Sp := (fun j => if j = 6 + i then 1 else if j = 8 + i then kn else σ.1 j, fun j => if j = 13 + i then g else if 30 + 10 * i ≤ j ∧ j < 40 + 10 * i then rows (j - (30 + 10 * i)) else σ.2.1 j, σ.2.2)
theorem rows_sF (σ : Sp) {b k : Nat} (f : Nat → Int32) (hk : k < b) : (fun i => (sF σ k f).2.1 (b + i)) = fun i => σ.2.1 (b + i) := funext fun i => if_neg (by omega)
theorem IR_congr {h : AH} {a ke kn : Nat} {g1 g2 : Nat → Int32} {r1 r2 : Nat → Nat → Int32} (ir : IR h a ke kn g1 r1) (hg : g1 = g2) (hr : ke = 1 → ∀ i, i < kn → r1 i = r2 i) : IR h a ke kn g2 r2 := by
  subst hg
  obtain ⟨q1, q2, k, r, q3, q4, q5⟩ := ir
  exact ⟨q1, q2, k, r, q3, q4, fun z => ⟨(q5 z).1, fun i hi => ((q5 z).2 i hi).trans (hr z i hi)⟩⟩
section UPD
variable {h h1 : AH} {σ : Sp}
theorem CI_text {tl : Nat} {tx : Nat → Int32} (ci : CI h σ) (si : SI σ) (fr : Fr 1 4 h h1) (xr : XR h1 tl tx) : CI h1 (sF (sI σ 0 tl) 0 tx) := by
  obtain ⟨r0, r1, ⟨ab, r2⟩, ⟨n, m, wi, we, br, li, fa, sta, ab', r3⟩, ⟨c4, r4, q4⟩, ⟨c5, r5, q5⟩, r6, ⟨rr, r7, q7⟩, r8, r9, r10, ⟨f11, r11⟩, ⟨f12, r12⟩, r13, r14⟩ := ci
  refine ⟨(fr.2 _ (by omega)).trans r0, xr, ⟨ab, TR_fr fr (by omega) r2⟩, ⟨n, m, wi, we, br, li, fa, sta, ab', TR_fr fr (by omega) r3⟩, ⟨c4, (fr.2 _ (by omega)).trans r4, q4⟩, ⟨c5, (fr.2 _ (by omega)).trans r5, q5⟩, ?_, ⟨rr, (fr.2 _ (by omega)).trans r7, q7⟩, SR_fr fr (by omega) r8, OR_fr fr (by omega) r9, RR_fr fr (by omega) r10, ⟨f11, RR_fr fr (by omega) r11⟩, ⟨f12, (fr.2 _ (by omega)).trans r12⟩, ?_, ?_⟩
  · exact HR_congr (HR_fr fr si.1.2.2.2.1 (by omega) r6) (fun i _ => (if_neg (by omega)).symm)
  · exact IR_congr (IR_fr fr (by omega) r13) rfl (fun _ i hi => (if_neg (by omega)).symm)
  · exact IR_congr (IR_fr fr (by omega) r14) rfl (fun _ i hi => (if_neg (by omega)).symm)
theorem CI_flight {g : Nat → Int32} {c : AC} (ci : CI h σ) (si : SI σ) (fr : Fr 16 17 h h1) (h16 : h1.2 16 = some c) (fc : FC c g) : CI h1 (sF σ 6 g) := by
  obtain ⟨r0, r1, ⟨ab, r2⟩, ⟨n, m, wi, we, br, li, fa, sta, ab', r3⟩, ⟨c4, r4, q4⟩, ⟨c5, r5, q5⟩, r6, ⟨rr, r7, q7⟩, r8, r9, r10, ⟨f11, r11⟩, ⟨f12, r12⟩, r13, r14⟩ := ci
  refine ⟨(fr.2 _ (by omega)).trans r0, XR_fr fr (by omega) r1, ⟨ab, TR_fr fr (by omega) r2⟩, ⟨n, m, wi, we, br, li, fa, sta, ab', TR_fr fr (by omega) r3⟩, ⟨c, h16, fc⟩, ⟨c5, (fr.2 _ (by omega)).trans r5, q5⟩, ?_, ⟨rr, (fr.2 _ (by omega)).trans r7, q7⟩, SR_fr fr (by omega) r8, OR_fr fr (by omega) r9, RR_fr fr (by omega) r10, ⟨f11, RR_fr fr (by omega) r11⟩, ⟨f12, (fr.2 _ (by omega)).trans r12⟩, ?_, ?_⟩
  · exact HR_congr (HR_fr fr si.1.2.2.2.1 (by omega) r6) (fun i _ => (if_neg (by omega)).symm)
  · exact IR_congr (IR_fr fr (by omega) r13) rfl (fun _ i hi => (if_neg (by omega)).symm)
  · exact IR_congr (IR_fr fr (by omega) r14) rfl (fun _ i hi => (if_neg (by omega)).symm)
theorem CI_trial {c : AC} (ci : CI h σ) (si : SI σ) (fr : Fr 17 18 h h1) (h17 : h1.2 17 = some c) (fl : isFl c) : CI h1 σ := by
  obtain ⟨r0, r1, ⟨ab, r2⟩, ⟨n, m, wi, we, br, li, fa, sta, ab', r3⟩, ⟨c4, r4, q4⟩, ⟨c5, r5, q5⟩, r6, ⟨rr, r7, q7⟩, r8, r9, r10, ⟨f11, r11⟩, ⟨f12, r12⟩, r13, r14⟩ := ci
  exact ⟨(fr.2 _ (by omega)).trans r0, XR_fr fr (by omega) r1, ⟨ab, TR_fr fr (by omega) r2⟩, ⟨n, m, wi, we, br, li, fa, sta, ab', TR_fr fr (by omega) r3⟩, ⟨c4, (fr.2 _ (by omega)).trans r4, q4⟩, ⟨c, h17, fl⟩, HR_fr fr si.1.2.2.2.1 (by omega) r6, ⟨rr, (fr.2 _ (by omega)).trans r7, q7⟩, SR_fr fr (by omega) r8, OR_fr fr (by omega) r9, RR_fr fr (by omega) r10, ⟨f11, RR_fr fr (by omega) r11⟩, ⟨f12, (fr.2 _ (by omega)).trans r12⟩, IR_fr fr (by omega) r13, IR_fr fr (by omega) r14⟩
theorem CI_alike {f : Nat → Int32} (ci : CI h σ) (si : SI σ) (fr : Fr 57 58 h h1) (h57 : h1.2 57 = some (.inl (0, 10, f))) : CI h1 σ := by
  obtain ⟨r0, r1, ⟨ab, r2⟩, ⟨n, m, wi, we, br, li, fa, sta, ab', r3⟩, ⟨c4, r4, q4⟩, ⟨c5, r5, q5⟩, r6, ⟨rr, r7, q7⟩, r8, r9, r10, ⟨f11, r11⟩, ⟨f12, r12⟩, r13, r14⟩ := ci
  exact ⟨(fr.2 _ (by omega)).trans r0, XR_fr fr (by omega) r1, ⟨ab, TR_fr fr (by omega) r2⟩, ⟨n, m, wi, we, br, li, fa, sta, ab', TR_fr fr (by omega) r3⟩, ⟨c4, (fr.2 _ (by omega)).trans r4, q4⟩, ⟨c5, (fr.2 _ (by omega)).trans r5, q5⟩, HR_fr fr si.1.2.2.2.1 (by omega) r6, ⟨rr, (fr.2 _ (by omega)).trans r7, q7⟩, SR_fr fr (by omega) r8, OR_fr fr (by omega) r9, RR_fr fr (by omega) r10, ⟨f11, RR_fr fr (by omega) r11⟩, ⟨f, h57⟩, IR_fr fr (by omega) r13, IR_fr fr (by omega) r14⟩
theorem CI_search (ci : CI h σ) (si : SI σ) (fr : Fr 31 46 h h1) (sr : SR h1) : CI h1 σ := by
  obtain ⟨r0, r1, ⟨ab, r2⟩, ⟨n, m, wi, we, br, li, fa, sta, ab', r3⟩, ⟨c4, r4, q4⟩, ⟨c5, r5, q5⟩, r6, ⟨rr, r7, q7⟩, r8, r9, r10, ⟨f11, r11⟩, ⟨f12, r12⟩, r13, r14⟩ := ci
  exact ⟨(fr.2 _ (by omega)).trans r0, XR_fr fr (by omega) r1, ⟨ab, TR_fr fr (by omega) r2⟩, ⟨n, m, wi, we, br, li, fa, sta, ab', TR_fr fr (by omega) r3⟩, ⟨c4, (fr.2 _ (by omega)).trans r4, q4⟩, ⟨c5, (fr.2 _ (by omega)).trans r5, q5⟩, HR_fr fr si.1.2.2.2.1 (by omega) r6, ⟨rr, (fr.2 _ (by omega)).trans r7, q7⟩, sr, OR_fr fr (by omega) r9, RR_fr fr (by omega) r10, ⟨f11, RR_fr fr (by omega) r11⟩, ⟨f12, (fr.2 _ (by omega)).trans r12⟩, IR_fr fr (by omega) r13, IR_fr fr (by omega) r14⟩
theorem CI_odds (ci : CI h σ) (si : SI σ) (fr : Fr 46 49 h h1) (od : OR_ h1) : CI h1 σ := by
  obtain ⟨r0, r1, ⟨ab, r2⟩, ⟨n, m, wi, we, br, li, fa, sta, ab', r3⟩, ⟨c4, r4, q4⟩, ⟨c5, r5, q5⟩, r6, ⟨rr, r7, q7⟩, r8, r9, r10, ⟨f11, r11⟩, ⟨f12, r12⟩, r13, r14⟩ := ci
  exact ⟨(fr.2 _ (by omega)).trans r0, XR_fr fr (by omega) r1, ⟨ab, TR_fr fr (by omega) r2⟩, ⟨n, m, wi, we, br, li, fa, sta, ab', TR_fr fr (by omega) r3⟩, ⟨c4, (fr.2 _ (by omega)).trans r4, q4⟩, ⟨c5, (fr.2 _ (by omega)).trans r5, q5⟩, HR_fr fr si.1.2.2.2.1 (by omega) r6, ⟨rr, (fr.2 _ (by omega)).trans r7, q7⟩, SR_fr fr (by omega) r8, od, RR_fr fr (by omega) r10, ⟨f11, RR_fr fr (by omega) r11⟩, ⟨f12, (fr.2 _ (by omega)).trans r12⟩, IR_fr fr (by omega) r13, IR_fr fr (by omega) r14⟩
theorem CI_seen {sn : Nat} {f1 f2 f3 : Nat → Int32} (ci : CI h σ) (si : SI σ) (fr : Fr 49 53 h h1) (rr1 : RR h1 49 sn f1 f2 f3) : CI h1 (sF (sF (sF (sI σ 4 sn) 7 f1) 8 f2) 9 f3) := by
  obtain ⟨r0, r1, ⟨ab, r2⟩, ⟨n, m, wi, we, br, li, fa, sta, ab', r3⟩, ⟨c4, r4, q4⟩, ⟨c5, r5, q5⟩, r6, ⟨rr, r7, q7⟩, r8, r9, r10, ⟨f11, r11⟩, ⟨f12, r12⟩, r13, r14⟩ := ci
  refine ⟨(fr.2 _ (by omega)).trans r0, XR_fr fr (by omega) r1, ⟨ab, TR_fr fr (by omega) r2⟩, ⟨n, m, wi, we, br, li, fa, sta, ab', TR_fr fr (by omega) r3⟩, ⟨c4, (fr.2 _ (by omega)).trans r4, q4⟩, ⟨c5, (fr.2 _ (by omega)).trans r5, q5⟩, ?_, ⟨rr, (fr.2 _ (by omega)).trans r7, q7⟩, SR_fr fr (by omega) r8, OR_fr fr (by omega) r9, rr1, ⟨f11, RR_fr fr (by omega) r11⟩, ⟨f12, (fr.2 _ (by omega)).trans r12⟩, ?_, ?_⟩
  · exact HR_congr (HR_fr fr si.1.2.2.2.1 (by omega) r6) (fun i _ => ((if_neg (by omega)).trans ((if_neg (by omega)).trans (if_neg (by omega)))).symm)
  · exact IR_congr (IR_fr fr (by omega) r13) rfl (fun _ i hi => ((if_neg (by omega)).trans ((if_neg (by omega)).trans (if_neg (by omega)))).symm)
  · exact IR_congr (IR_fr fr (by omega) r14) rfl (fun _ i hi => ((if_neg (by omega)).trans ((if_neg (by omega)).trans (if_neg (by omega)))).symm)
theorem CI_heard {sn : Nat} {f1 f2 f3 : Nat → Int32} (ci : CI h σ) (si : SI σ) (fr : Fr 53 57 h h1) (rr1 : RR h1 53 sn f1 f2 f3) : CI h1 (sF (sF (sI σ 5 sn) 10 f2) 11 f3) := by
  obtain ⟨r0, r1, ⟨ab, r2⟩, ⟨n, m, wi, we, br, li, fa, sta, ab', r3⟩, ⟨c4, r4, q4⟩, ⟨c5, r5, q5⟩, r6, ⟨rr, r7, q7⟩, r8, r9, r10, ⟨f11, r11⟩, ⟨f12, r12⟩, r13, r14⟩ := ci
  refine ⟨(fr.2 _ (by omega)).trans r0, XR_fr fr (by omega) r1, ⟨ab, TR_fr fr (by omega) r2⟩, ⟨n, m, wi, we, br, li, fa, sta, ab', TR_fr fr (by omega) r3⟩, ⟨c4, (fr.2 _ (by omega)).trans r4, q4⟩, ⟨c5, (fr.2 _ (by omega)).trans r5, q5⟩, ?_, ⟨rr, (fr.2 _ (by omega)).trans r7, q7⟩, SR_fr fr (by omega) r8, OR_fr fr (by omega) r9, RR_fr fr (by omega) r10, ⟨f1, rr1⟩, ⟨f12, (fr.2 _ (by omega)).trans r12⟩, ?_, ?_⟩
  · exact HR_congr (HR_fr fr si.1.2.2.2.1 (by omega) r6) (fun i _ => ((if_neg (by omega)).trans (if_neg (by omega))).symm)
  · exact IR_congr (IR_fr fr (by omega) r13) rfl (fun _ i hi => ((if_neg (by omega)).trans (if_neg (by omega))).symm)
  · exact IR_congr (IR_fr fr (by omega) r14) rfl (fun _ i hi => ((if_neg (by omega)).trans (if_neg (by omega))).symm)
theorem CI_trace {t : Int64} (ci : CI h σ) (si : SI σ) (fr : Fr 0 1 h h1) (h0 : h1.2 0 = some (oTb t)) : CI h1 (sT σ t) := by
  obtain ⟨r0, ⟨⟨a1, a2, a3, a4, a5, x0⟩, x1, f, x2⟩, ⟨ab, r2⟩, ⟨n, m, wi, we, br, li, fa, sta, ab', r3⟩, ⟨c4, r4, q4⟩, ⟨c5, r5, q5⟩, r6, ⟨rr, r7, q7⟩, r8, r9, r10, ⟨f11, r11⟩, ⟨f12, r12⟩, r13, r14⟩ := ci
  exact ⟨h0, ⟨⟨a1, a2, a3, a4, a5, (fr.2 _ (by omega)).trans x0⟩, (fr.2 _ (by omega)).trans x1, f, (fr.2 _ (by omega)).trans x2⟩, ⟨ab, TR_fr fr (by omega) r2⟩, ⟨n, m, wi, we, br, li, fa, sta, ab', TR_fr fr (by omega) r3⟩, ⟨c4, (fr.2 _ (by omega)).trans r4, q4⟩, ⟨c5, (fr.2 _ (by omega)).trans r5, q5⟩, HR_fr fr si.1.2.2.2.1 (by omega) r6, ⟨rr, (fr.2 _ (by omega)).trans r7, q7⟩, SR_fr fr (by omega) r8, OR_fr fr (by omega) r9, RR_fr fr (by omega) r10, ⟨f11, RR_fr fr (by omega) r11⟩, ⟨f12, (fr.2 _ (by omega)).trans r12⟩, IR_fr fr (by omega) r13, IR_fr fr (by omega) r14⟩
theorem CI_hist {kn : Nat} {rows : Nat → Nat → Int32} (hkn : kn ≤ 10) (ci : CI h σ) (fr : Fr 18 30 h h1) (hr : HR h1 18 kn rows) : CI h1 (sH σ kn rows) := by
  obtain ⟨r0, r1, ⟨ab, r2⟩, ⟨n, m, wi, we, br, li, fa, sta, ab', r3⟩, ⟨c4, r4, q4⟩, ⟨c5, r5, q5⟩, r6, ⟨rr, r7, q7⟩, r8, r9, r10, ⟨f11, r11⟩, ⟨f12, r12⟩, r13, r14⟩ := ci
  refine ⟨(fr.2 _ (by omega)).trans r0, XR_fr fr (by omega) r1, ⟨ab, TR_fr fr (by omega) r2⟩, ⟨n, m, wi, we, br, li, fa, sta, ab', TR_fr fr (by omega) r3⟩, ⟨c4, (fr.2 _ (by omega)).trans r4, q4⟩, ⟨c5, (fr.2 _ (by omega)).trans r5, q5⟩, ?_, ⟨rr, (fr.2 _ (by omega)).trans r7, q7⟩, SR_fr fr (by omega) r8, OR_fr fr (by omega) r9, RR_fr fr (by omega) r10, ⟨f11, RR_fr fr (by omega) r11⟩, ⟨f12, (fr.2 _ (by omega)).trans r12⟩, ?_, ?_⟩
  · exact HR_congr hr (fun i (hi : i < kn) => ((if_pos ⟨by omega, by omega⟩).trans (by rw [Nat.add_sub_cancel_left])).symm)
  · exact IR_congr (IR_fr fr (by omega) r13) rfl (fun _ i hi => (if_neg (by omega)).symm)
  · exact IR_congr (IR_fr fr (by omega) r14) rfl (fun _ i hi => (if_neg (by omega)).symm)
theorem CI_img {i kn : Nat} {g : Nat → Int32} {rows : Nat → Nat → Int32} (hi : i < 2) (hkn : kn ≤ 10) (ci : CI h σ) (si : SI σ) (fr : Fr (58 + 14 * i) (72 + 14 * i) h h1) (ir : IR h1 (58 + 14 * i) 1 kn g rows) : CI h1 (sG σ i kn g rows) := by
  obtain ⟨r0, r1, ⟨ab, r2⟩, ⟨n, m, wi, we, br, li, fa, sta, ab', r3⟩, ⟨c4, r4, q4⟩, ⟨c5, r5, q5⟩, r6, ⟨rr, r7, q7⟩, r8, r9, r10, ⟨f11, r11⟩, ⟨f12, r12⟩, r13, r14⟩ := ci
  have hc : i = 0 ∨ i = 1 := by omega
  obtain ⟨p1, p2, k, r, q1, q2, q3⟩ := ir
  obtain ⟨rfl, q3⟩ := q3 rfl
  rcases hc with rfl | rfl
  · refine ⟨(fr.2 _ (by omega)).trans r0, XR_fr fr (by omega) r1, ⟨ab, TR_fr fr (by omega) r2⟩, ⟨n, m, wi, we, br, li, fa, sta, ab', TR_fr fr (by omega) r3⟩, ⟨c4, (fr.2 _ (by omega)).trans r4, q4⟩, ⟨c5, (fr.2 _ (by omega)).trans r5, q5⟩, ?_, ⟨rr, (fr.2 _ (by omega)).trans r7, q7⟩, SR_fr fr (by omega) r8, OR_fr fr (by omega) r9, RR_fr fr (by omega) r10, ⟨f11, RR_fr fr (by omega) r11⟩, ⟨f12, (fr.2 _ (by omega)).trans r12⟩, ?_, ?_⟩
    · exact HR_congr (HR_fr fr si.1.2.2.2.1 (by omega) r6) (fun i (hi : i < σ.1 3) => ((if_neg (by omega)).trans (if_neg (by have := si.1.2.2.2.1; omega))).symm)
    · refine ⟨p1, p2, k, r, q1, q2, fun _ => ⟨rfl, fun j (hj : j < k) => (q3 j hj).trans ((if_neg (by omega)).trans ((if_pos ⟨by omega, by omega⟩).trans (by rw [show 30 + j - (30 + 10 * 0) = j by omega]))).symm⟩⟩
    · exact IR_congr (IR_fr fr (by omega) r14) rfl (fun _ j hj => ((if_neg (by omega)).trans (if_neg (by omega))).symm)
  · refine ⟨(fr.2 _ (by omega)).trans r0, XR_fr fr (by omega) r1, ⟨ab, TR_fr fr (by omega) r2⟩, ⟨n, m, wi, we, br, li, fa, sta, ab', TR_fr fr (by omega) r3⟩, ⟨c4, (fr.2 _ (by omega)).trans r4, q4⟩, ⟨c5, (fr.2 _ (by omega)).trans r5, q5⟩, ?_, ⟨rr, (fr.2 _ (by omega)).trans r7, q7⟩, SR_fr fr (by omega) r8, OR_fr fr (by omega) r9, RR_fr fr (by omega) r10, ⟨f11, RR_fr fr (by omega) r11⟩, ⟨f12, (fr.2 _ (by omega)).trans r12⟩, ?_, ?_⟩
    · exact HR_congr (HR_fr fr si.1.2.2.2.1 (by omega) r6) (fun i (hi : i < σ.1 3) => ((if_neg (by omega)).trans (if_neg (by have := si.1.2.2.2.1; omega))).symm)
    · exact IR_congr (IR_fr fr (by omega) r13) rfl (fun z j hj => ((if_neg (by omega)).trans (if_neg (by have := si.1.2.2.2.2.2.2.2.2.1 z; have hj' : j < σ.1 8 := hj; omega))).symm)
    · refine ⟨p1, p2, k, r, q1, q2, fun _ => ⟨rfl, fun j (hj : j < k) => (q3 j hj).trans ((if_neg (by omega)).trans ((if_pos ⟨by omega, by omega⟩).trans (by rw [show 40 + j - (30 + 10 * 1) = j by omega]))).symm⟩⟩
end UPD
