theorem kc_Fl : KC 0 (R_Fl, F_Fl, 9) t_Fl := by
  refine ⟨rfl, fun w hw => ?_, ty_Fl, nm_Fl⟩
  obtain ⟨k, hk, rfl⟩ := List.mem_map.mp hw
  have hk := List.mem_range.mp hk
  have ht : ∀ k, k < 9 → tables_1[[134, 136, 138, 140, 142, 144, 146, 148, 150].getD k 0]? = some (u_lay R_Fl F_Fl k) ∧ goodWord (u_lay R_Fl F_Fl k) = true := by decide +kernel
  exact gw_t _ (ht k hk).1 (ht k hk).2
theorem kc_Hi : KC 1 (R_Hi, F_Hi, 2) t_Hi := by
  refine ⟨rfl, fun w hw => ?_, ty_Hi, nm_Hi⟩
  obtain ⟨k, hk, rfl⟩ := List.mem_map.mp hw
  have hk := List.mem_range.mp hk
  have ht : ∀ k, k < 2 → tables_1[[165, 167].getD k 0]? = some (u_lay R_Hi F_Hi k) ∧ goodWord (u_lay R_Hi F_Hi k) = true := by decide +kernel
  exact gw_t _ (ht k hk).1 (ht k hk).2
theorem kc_Im : KC 2 (R_Im, F_Im, 3) t_Im := by
  refine ⟨rfl, fun w hw => ?_, ty_Im, nm_Im⟩
  obtain ⟨k, hk, rfl⟩ := List.mem_map.mp hw
  have hk := List.mem_range.mp hk
  have ht : ∀ k, k < 3 → tables_1[[258, 260, 262].getD k 0]? = some (u_lay R_Im F_Im k) ∧ goodWord (u_lay R_Im F_Im k) = true := by decide +kernel
  exact gw_t _ (ht k hk).1 (ht k hk).2
theorem kc_Od : KC 3 (R_Od, F_Od, 3) t_Od := by
  refine ⟨rfl, fun w hw => ?_, ty_Od, nm_Od⟩
  obtain ⟨k, hk, rfl⟩ := List.mem_map.mp hw
  have hk := List.mem_range.mp hk
  have ht : ∀ k, k < 3 → tables_1[[215, 217, 219].getD k 0]? = some (u_lay R_Od F_Od k) ∧ goodWord (u_lay R_Od F_Od k) = true := by decide +kernel
  exact gw_t _ (ht k hk).1 (ht k hk).2
theorem kc_Re : KC 4 (R_Re, F_Re, 4) t_Re := by
  refine ⟨rfl, fun w hw => ?_, ty_Re, nm_Re⟩
  obtain ⟨k, hk, rfl⟩ := List.mem_map.mp hw
  have hk := List.mem_range.mp hk
  have ht : ∀ k, k < 4 → tables_1[[236, 238, 240, 242].getD k 0]? = some (u_lay R_Re F_Re k) ∧ goodWord (u_lay R_Re F_Re k) = true := by decide +kernel
  exact gw_t _ (ht k hk).1 (ht k hk).2
theorem kc_Se : KC 5 (R_Se, F_Se, 7) t_Se := by
  refine ⟨rfl, fun w hw => ?_, ty_Se, nm_Se⟩
  obtain ⟨k, hk, rfl⟩ := List.mem_map.mp hw
  have hk := List.mem_range.mp hk
  have ht : ∀ k, k < 7 → tables_1[[191, 193, 195, 197, 199, 201, 203].getD k 0]? = some (u_lay R_Se F_Se k) ∧ goodWord (u_lay R_Se F_Se k) = true := by decide +kernel
  exact gw_t _ (ht k hk).1 (ht k hk).2
theorem kc_Tx : KC 6 (R_Tx, F_Tx, 8) t_Tx := by
  refine ⟨rfl, fun w hw => ?_, ty_Tx, nm_Tx⟩
  obtain ⟨k, hk, rfl⟩ := List.mem_map.mp hw
  have hk := List.mem_range.mp hk
  have ht : ∀ k, k < 8 → tables_1[[38, 40, 42, 44, 46, 48, 50, 52].getD k 0]? = some (u_lay R_Tx F_Tx k) ∧ goodWord (u_lay R_Tx F_Tx k) = true := by decide +kernel
  exact gw_t _ (ht k hk).1 (ht k hk).2
theorem kc_To : KC 7 (R_To, F_To, 9) t_To := by
  refine ⟨rfl, fun w hw => ?_, ty_To, nm_To⟩
  obtain ⟨k, hk, rfl⟩ := List.mem_map.mp hw
  have hk := List.mem_range.mp hk
  have ht : ∀ k, k < 9 → tables_1[[84, 86, 88, 90, 92, 94, 96, 98, 100].getD k 0]? = some (u_lay R_To F_To k) ∧ goodWord (u_lay R_To F_To k) = true := by decide +kernel
  exact gw_t _ (ht k hk).1 (ht k hk).2
theorem kc_Tb : KC 8 (R_Tb, F_Tb, 13) t_Tb := by
  refine ⟨rfl, fun w hw => ?_, ty_Tb, nm_Tb⟩
  obtain ⟨k, hk, rfl⟩ := List.mem_map.mp hw
  have hk := List.mem_range.mp hk
  have ht : ∀ k, k < 13 → tables_1[[294, 296, 298, 300, 302, 304, 306, 308, 310, 312, 314, 316, 318].getD k 0]? = some (u_lay R_Tb F_Tb k) ∧ goodWord (u_lay R_Tb F_Tb k) = true := by decide +kernel
  exact gw_t _ (ht k hk).1 (ht k hk).2
theorem kc_Mo : KC 9 (R_Mo, F_Mo, 33) t_Mo := by
  refine ⟨rfl, fun w hw => ?_, ty_Mo, nm_Mo⟩
  obtain ⟨k, hk, rfl⟩ := List.mem_map.mp hw
  have hk := List.mem_range.mp hk
  have ht : ∀ k, k < 33 → tables_1[[822, 824, 826, 828, 830, 832, 834, 836, 838, 840, 842, 844, 846, 848, 850, 852, 854, 856, 858, 860, 862, 864, 866, 868, 870, 872, 874, 876, 878, 880, 882, 884, 886].getD k 0]? = some (u_lay R_Mo F_Mo k) ∧ goodWord (u_lay R_Mo F_Mo k) = true := by decide +kernel
  exact gw_t _ (ht k hk).1 (ht k hk).2
theorem f_Tx_9 : FL R_Tx 9 6 0 (.array .int) true := ⟨(R_Tx, F_Tx, 8), t_Tx, kc_Tx, by decide, Or.inl (gw_t 29 (by decide +kernel) rfl), rfl, rfl, rfl, fun z => by first | rfl | exact absurd z (by decide)⟩
theorem g_Tx_9 : FG R_Tx 9 6 0 := f_Tx_9.g
theorem f_Tx_15 : FL R_Tx 15 6 1 (.int) false := ⟨(R_Tx, F_Tx, 8), t_Tx, kc_Tx, by decide, Or.inl (gw_t 30 (by decide +kernel) rfl), rfl, rfl, rfl, fun z => by first | rfl | exact absurd z (by decide)⟩
theorem g_Tx_15 : FG R_Tx 15 6 1 := f_Tx_15.g
theorem f_Tx_31 : FL R_Tx 31 6 2 (.int) false := ⟨(R_Tx, F_Tx, 8), t_Tx, kc_Tx, by decide, Or.inl (gw_t 32 (by decide +kernel) rfl), rfl, rfl, rfl, fun z => by first | rfl | exact absurd z (by decide)⟩
theorem g_Tx_31 : FG R_Tx 31 6 2 := f_Tx_31.g
theorem f_Tx_37 : FL R_Tx 37 6 3 (.int) false := ⟨(R_Tx, F_Tx, 8), t_Tx, kc_Tx, by decide, Or.inl (gw_t 33 (by decide +kernel) rfl), rfl, rfl, rfl, fun z => by first | rfl | exact absurd z (by decide)⟩
theorem g_Tx_37 : FG R_Tx 37 6 3 := f_Tx_37.g
theorem f_Tx_44 : FL R_Tx 44 6 4 (.int) false := ⟨(R_Tx, F_Tx, 8), t_Tx, kc_Tx, by decide, Or.inl (gw_t 34 (by decide +kernel) rfl), rfl, rfl, rfl, fun z => by first | rfl | exact absurd z (by decide)⟩
theorem g_Tx_44 : FG R_Tx 44 6 4 := f_Tx_44.g
theorem f_Tx_54 : FL R_Tx 54 6 5 (.int) false := ⟨(R_Tx, F_Tx, 8), t_Tx, kc_Tx, by decide, Or.inl (gw_t 35 (by decide +kernel) rfl), rfl, rfl, rfl, fun z => by first | rfl | exact absurd z (by decide)⟩
theorem g_Tx_54 : FG R_Tx 54 6 5 := f_Tx_54.g
theorem f_Tx_19 : FL R_Tx 19 6 6 (.array .int) true := ⟨(R_Tx, F_Tx, 8), t_Tx, kc_Tx, by decide, Or.inl (gw_t 36 (by decide +kernel) rfl), rfl, rfl, rfl, fun z => by first | rfl | exact absurd z (by decide)⟩
theorem g_Tx_19 : FG R_Tx 19 6 6 := f_Tx_19.g
theorem f_Tx_27 : FL R_Tx 27 6 7 (.boolean) false := ⟨(R_Tx, F_Tx, 8), t_Tx, kc_Tx, by decide, Or.inl (gw_t 37 (by decide +kernel) rfl), rfl, rfl, rfl, fun z => by first | rfl | exact absurd z (by decide)⟩
theorem g_Tx_27 : FG R_Tx 27 6 7 := f_Tx_27.g
theorem f_To_9 : FL R_To 9 7 0 (.array .int) true := ⟨(R_To, F_To, 9), t_To, kc_To, by decide, Or.inl (gw_t 62 (by decide +kernel) rfl), rfl, rfl, rfl, fun z => by first | rfl | exact absurd z (by decide)⟩
theorem g_To_9 : FG R_To 9 7 0 := f_To_9.g
theorem f_To_15 : FL R_To 15 7 1 (.array .int) true := ⟨(R_To, F_To, 9), t_To, kc_To, by decide, Or.inl (gw_t 63 (by decide +kernel) rfl), rfl, rfl, rfl, fun z => by first | rfl | exact absurd z (by decide)⟩
theorem g_To_15 : FG R_To 15 7 1 := f_To_15.g
theorem f_To_18 : FL R_To 18 7 2 (.array .int) true := ⟨(R_To, F_To, 9), t_To, kc_To, by decide, Or.inl (gw_t 65 (by decide +kernel) rfl), rfl, rfl, rfl, fun z => by first | rfl | exact absurd z (by decide)⟩
theorem g_To_18 : FG R_To 18 7 2 := f_To_18.g
theorem f_To_21 : FL R_To 21 7 3 (.array .int) true := ⟨(R_To, F_To, 9), t_To, kc_To, by decide, Or.inl (gw_t 67 (by decide +kernel) rfl), rfl, rfl, rfl, fun z => by first | rfl | exact absurd z (by decide)⟩
theorem g_To_21 : FG R_To 21 7 3 := f_To_21.g
theorem f_To_24 : FL R_To 24 7 4 (.array .int) true := ⟨(R_To, F_To, 9), t_To, kc_To, by decide, Or.inl (gw_t 69 (by decide +kernel) rfl), rfl, rfl, rfl, fun z => by first | rfl | exact absurd z (by decide)⟩
theorem g_To_24 : FG R_To 24 7 4 := f_To_24.g
theorem f_To_27 : FL R_To 27 7 5 (.int) false := ⟨(R_To, F_To, 9), t_To, kc_To, by decide, Or.inl (gw_t 71 (by decide +kernel) rfl), rfl, rfl, rfl, fun z => by first | rfl | exact absurd z (by decide)⟩
theorem g_To_27 : FG R_To 27 7 5 := f_To_27.g
theorem f_To_31 : FL R_To 31 7 6 (.int) false := ⟨(R_To, F_To, 9), t_To, kc_To, by decide, Or.inl (gw_t 75 (by decide +kernel) rfl), rfl, rfl, rfl, fun z => by first | rfl | exact absurd z (by decide)⟩
theorem g_To_31 : FG R_To 31 7 6 := f_To_31.g
theorem f_To_34 : FL R_To 34 7 7 (.int) false := ⟨(R_To, F_To, 9), t_To, kc_To, by decide, Or.inl (gw_t 79 (by decide +kernel) rfl), rfl, rfl, rfl, fun z => by first | rfl | exact absurd z (by decide)⟩
theorem g_To_34 : FG R_To 34 7 7 := f_To_34.g
theorem f_To_37 : FL R_To 37 7 8 (.int) false := ⟨(R_To, F_To, 9), t_To, kc_To, by decide, Or.inl (gw_t 82 (by decide +kernel) rfl), rfl, rfl, rfl, fun z => by first | rfl | exact absurd z (by decide)⟩
theorem g_To_37 : FG R_To 37 7 8 := f_To_37.g
theorem f_Fl_9 : FL R_Fl 9 0 0 (.int) false := ⟨(R_Fl, F_Fl, 9), t_Fl, kc_Fl, by decide, Or.inl (gw_t 109 (by decide +kernel) rfl), rfl, rfl, rfl, fun z => by first | rfl | exact absurd z (by decide)⟩
theorem g_Fl_9 : FG R_Fl 9 0 0 := f_Fl_9.g
theorem f_Fl_15 : FL R_Fl 15 0 1 (.int) false := ⟨(R_Fl, F_Fl, 9), t_Fl, kc_Fl, by decide, Or.inl (gw_t 112 (by decide +kernel) rfl), rfl, rfl, rfl, fun z => by first | rfl | exact absurd z (by decide)⟩
theorem g_Fl_15 : FG R_Fl 15 0 1 := f_Fl_15.g
theorem f_Fl_18 : FL R_Fl 18 0 2 (.int) false := ⟨(R_Fl, F_Fl, 9), t_Fl, kc_Fl, by decide, Or.inl (gw_t 115 (by decide +kernel) rfl), rfl, rfl, rfl, fun z => by first | rfl | exact absurd z (by decide)⟩
theorem g_Fl_18 : FG R_Fl 18 0 2 := f_Fl_18.g
theorem f_Fl_34 : FL R_Fl 34 0 3 (.int) false := ⟨(R_Fl, F_Fl, 9), t_Fl, kc_Fl, by decide, Or.inl (gw_t 119 (by decide +kernel) rfl), rfl, rfl, rfl, fun z => by first | rfl | exact absurd z (by decide)⟩
theorem g_Fl_34 : FG R_Fl 34 0 3 := f_Fl_34.g
theorem f_Fl_37 : FL R_Fl 37 0 4 (.int) false := ⟨(R_Fl, F_Fl, 9), t_Fl, kc_Fl, by decide, Or.inl (gw_t 122 (by decide +kernel) rfl), rfl, rfl, rfl, fun z => by first | rfl | exact absurd z (by decide)⟩
theorem g_Fl_37 : FG R_Fl 37 0 4 := f_Fl_37.g
theorem f_Fl_40 : FL R_Fl 40 0 5 (.int) false := ⟨(R_Fl, F_Fl, 9), t_Fl, kc_Fl, by decide, Or.inl (gw_t 125 (by decide +kernel) rfl), rfl, rfl, rfl, fun z => by first | rfl | exact absurd z (by decide)⟩
theorem g_Fl_40 : FG R_Fl 40 0 5 := f_Fl_40.g
theorem f_Fl_24 : FL R_Fl 24 0 6 (.int) false := ⟨(R_Fl, F_Fl, 9), t_Fl, kc_Fl, by decide, Or.inl (gw_t 127 (by decide +kernel) rfl), rfl, rfl, rfl, fun z => by first | rfl | exact absurd z (by decide)⟩
theorem g_Fl_24 : FG R_Fl 24 0 6 := f_Fl_24.g
theorem f_Fl_27 : FL R_Fl 27 0 7 (.int) false := ⟨(R_Fl, F_Fl, 9), t_Fl, kc_Fl, by decide, Or.inl (gw_t 129 (by decide +kernel) rfl), rfl, rfl, rfl, fun z => by first | rfl | exact absurd z (by decide)⟩
theorem g_Fl_27 : FG R_Fl 27 0 7 := f_Fl_27.g
theorem f_Fl_30 : FL R_Fl 30 0 8 (.boolean) false := ⟨(R_Fl, F_Fl, 9), t_Fl, kc_Fl, by decide, Or.inl (gw_t 130 (by decide +kernel) rfl), rfl, rfl, rfl, fun z => by first | rfl | exact absurd z (by decide)⟩
theorem g_Fl_30 : FG R_Fl 30 0 8 := f_Fl_30.g
theorem f_Hi_11 : FL R_Hi 11 1 0 (.array (.object "ThoughtBalloon$Flight")) true := ⟨(R_Hi, F_Hi, 2), t_Hi, kc_Hi, by decide, Or.inl (gw_t 162 (by decide +kernel) rfl), rfl, rfl, rfl, fun z => by first | rfl | exact absurd z (by decide)⟩
theorem g_Hi_11 : FG R_Hi 11 1 0 := f_Hi_11.g
theorem f_Hi_17 : FL R_Hi 17 1 1 (.int) false := ⟨(R_Hi, F_Hi, 2), t_Hi, kc_Hi, by decide, Or.inl (gw_t 163 (by decide +kernel) rfl), rfl, rfl, rfl, fun z => by first | rfl | exact absurd z (by decide)⟩
theorem g_Hi_17 : FG R_Hi 17 1 1 := f_Hi_17.g
theorem f_Se_11 : FL R_Se 11 5 0 (.array (.object "ThoughtBalloon$Flight")) true := ⟨(R_Se, F_Se, 7), t_Se, kc_Se, by decide, Or.inl (gw_t 182 (by decide +kernel) rfl), rfl, rfl, rfl, fun z => by first | rfl | exact absurd z (by decide)⟩
theorem g_Se_11 : FG R_Se 11 5 0 := f_Se_11.g
theorem f_Se_17 : FL R_Se 17 5 1 (.array .int) true := ⟨(R_Se, F_Se, 7), t_Se, kc_Se, by decide, Or.inl (gw_t 183 (by decide +kernel) rfl), rfl, rfl, rfl, fun z => by first | rfl | exact absurd z (by decide)⟩
theorem g_Se_17 : FG R_Se 17 5 1 := f_Se_17.g
theorem f_Se_21 : FL R_Se 21 5 2 (.array .int) true := ⟨(R_Se, F_Se, 7), t_Se, kc_Se, by decide, Or.inl (gw_t 184 (by decide +kernel) rfl), rfl, rfl, rfl, fun z => by first | rfl | exact absurd z (by decide)⟩
theorem g_Se_21 : FG R_Se 21 5 2 := f_Se_21.g
theorem f_Se_26 : FL R_Se 26 5 3 (.array (.array .int)) true := ⟨(R_Se, F_Se, 7), t_Se, kc_Se, by decide, Or.inl (gw_t 186 (by decide +kernel) rfl), rfl, rfl, rfl, fun z => by first | rfl | exact absurd z (by decide)⟩
theorem g_Se_26 : FG R_Se 26 5 3 := f_Se_26.g
theorem f_Se_36 : FL R_Se 36 5 4 (.int) false := ⟨(R_Se, F_Se, 7), t_Se, kc_Se, by decide, Or.inl (gw_t 187 (by decide +kernel) rfl), rfl, rfl, rfl, fun z => by first | rfl | exact absurd z (by decide)⟩
theorem g_Se_36 : FG R_Se 36 5 4 := f_Se_36.g
theorem f_Se_40 : FL R_Se 40 5 5 (.int) false := ⟨(R_Se, F_Se, 7), t_Se, kc_Se, by decide, Or.inl (gw_t 188 (by decide +kernel) rfl), rfl, rfl, rfl, fun z => by first | rfl | exact absurd z (by decide)⟩
theorem g_Se_40 : FG R_Se 40 5 5 := f_Se_40.g
theorem f_Se_43 : FL R_Se 43 5 6 (.int) false := ⟨(R_Se, F_Se, 7), t_Se, kc_Se, by decide, Or.inl (gw_t 189 (by decide +kernel) rfl), rfl, rfl, rfl, fun z => by first | rfl | exact absurd z (by decide)⟩
theorem g_Se_43 : FG R_Se 43 5 6 := f_Se_43.g
theorem f_Od_9 : FL R_Od 9 3 0 (.array .int) true := ⟨(R_Od, F_Od, 3), t_Od, kc_Od, by decide, Or.inl (gw_t 212 (by decide +kernel) rfl), rfl, rfl, rfl, fun z => by first | rfl | exact absurd z (by decide)⟩
theorem g_Od_9 : FG R_Od 9 3 0 := f_Od_9.g
theorem f_Od_15 : FL R_Od 15 3 1 (.array .int) true := ⟨(R_Od, F_Od, 3), t_Od, kc_Od, by decide, Or.inl (gw_t 213 (by decide +kernel) rfl), rfl, rfl, rfl, fun z => by first | rfl | exact absurd z (by decide)⟩
theorem g_Od_15 : FG R_Od 15 3 1 := f_Od_15.g
theorem f_Od_28 : FL R_Od 28 3 2 (.int) false := ⟨(R_Od, F_Od, 3), t_Od, kc_Od, by decide, Or.inl (gw_t 214 (by decide +kernel) rfl), rfl, rfl, rfl, fun z => by first | rfl | exact absurd z (by decide)⟩
theorem g_Od_28 : FG R_Od 28 3 2 := f_Od_28.g
theorem f_Re_9 : FL R_Re 9 4 0 (.array .int) true := ⟨(R_Re, F_Re, 4), t_Re, kc_Re, by decide, Or.inl (gw_t 228 (by decide +kernel) rfl), rfl, rfl, rfl, fun z => by first | rfl | exact absurd z (by decide)⟩
theorem g_Re_9 : FG R_Re 9 4 0 := f_Re_9.g
theorem f_Re_15 : FL R_Re 15 4 1 (.array .int) true := ⟨(R_Re, F_Re, 4), t_Re, kc_Re, by decide, Or.inl (gw_t 230 (by decide +kernel) rfl), rfl, rfl, rfl, fun z => by first | rfl | exact absurd z (by decide)⟩
theorem g_Re_15 : FG R_Re 15 4 1 := f_Re_15.g
theorem f_Re_18 : FL R_Re 18 4 2 (.array .int) true := ⟨(R_Re, F_Re, 4), t_Re, kc_Re, by decide, Or.inl (gw_t 232 (by decide +kernel) rfl), rfl, rfl, rfl, fun z => by first | rfl | exact absurd z (by decide)⟩
theorem g_Re_18 : FG R_Re 18 4 2 := f_Re_18.g
theorem f_Re_21 : FL R_Re 21 4 3 (.int) false := ⟨(R_Re, F_Re, 4), t_Re, kc_Re, by decide, Or.inl (gw_t 234 (by decide +kernel) rfl), rfl, rfl, rfl, fun z => by first | rfl | exact absurd z (by decide)⟩
theorem g_Re_21 : FG R_Re 21 4 3 := f_Re_21.g
theorem f_Im_10 : FL R_Im 10 2 0 (.object "ThoughtBalloon$Flight") true := ⟨(R_Im, F_Im, 3), t_Im, kc_Im, by decide, Or.inl (gw_t 254 (by decide +kernel) rfl), rfl, rfl, rfl, fun z => by first | rfl | exact absurd z (by decide)⟩
theorem g_Im_10 : FG R_Im 10 2 0 := f_Im_10.g
theorem f_Im_19 : FL R_Im 19 2 1 (.object "ThoughtBalloon$History") true := ⟨(R_Im, F_Im, 3), t_Im, kc_Im, by decide, Or.inl (gw_t 255 (by decide +kernel) rfl), rfl, rfl, rfl, fun z => by first | rfl | exact absurd z (by decide)⟩
theorem g_Im_19 : FG R_Im 19 2 1 := f_Im_19.g
theorem f_Im_23 : FL R_Im 23 2 2 (.boolean) false := ⟨(R_Im, F_Im, 3), t_Im, kc_Im, by decide, Or.inl (gw_t 256 (by decide +kernel) rfl), rfl, rfl, rfl, fun z => by first | rfl | exact absurd z (by decide)⟩
theorem g_Im_23 : FG R_Im 23 2 2 := f_Im_23.g
theorem f_Tb_10 : FL R_Tb 10 8 0 (.object "ThoughtBalloon$Text") true := ⟨(R_Tb, F_Tb, 13), t_Tb, kc_Tb, by decide, Or.inl (gw_t 281 (by decide +kernel) rfl), rfl, rfl, rfl, fun z => by first | rfl | exact absurd z (by decide)⟩
theorem g_Tb_10 : FG R_Tb 10 8 0 := f_Tb_10.g
theorem f_Tb_19 : FL R_Tb 19 8 1 (.object "ThoughtBalloon$Told") true := ⟨(R_Tb, F_Tb, 13), t_Tb, kc_Tb, by decide, Or.inl (gw_t 282 (by decide +kernel) rfl), rfl, rfl, rfl, fun z => by first | rfl | exact absurd z (by decide)⟩
theorem g_Tb_19 : FG R_Tb 19 8 1 := f_Tb_19.g
theorem f_Tb_23 : FL R_Tb 23 8 2 (.object "ThoughtBalloon$Told") true := ⟨(R_Tb, F_Tb, 13), t_Tb, kc_Tb, by decide, Or.inl (gw_t 283 (by decide +kernel) rfl), rfl, rfl, rfl, fun z => by first | rfl | exact absurd z (by decide)⟩
theorem g_Tb_23 : FG R_Tb 23 8 2 := f_Tb_23.g
theorem f_Tb_29 : FL R_Tb 29 8 3 (.object "ThoughtBalloon$Flight") true := ⟨(R_Tb, F_Tb, 13), t_Tb, kc_Tb, by decide, Or.inl (gw_t 284 (by decide +kernel) rfl), rfl, rfl, rfl, fun z => by first | rfl | exact absurd z (by decide)⟩
theorem g_Tb_29 : FG R_Tb 29 8 3 := f_Tb_29.g
theorem f_Tb_33 : FL R_Tb 33 8 4 (.object "ThoughtBalloon$Flight") true := ⟨(R_Tb, F_Tb, 13), t_Tb, kc_Tb, by decide, Or.inl (gw_t 285 (by decide +kernel) rfl), rfl, rfl, rfl, fun z => by first | rfl | exact absurd z (by decide)⟩
theorem g_Tb_33 : FG R_Tb 33 8 4 := f_Tb_33.g
theorem f_Tb_39 : FL R_Tb 39 8 5 (.object "ThoughtBalloon$History") true := ⟨(R_Tb, F_Tb, 13), t_Tb, kc_Tb, by decide, Or.inl (gw_t 286 (by decide +kernel) rfl), rfl, rfl, rfl, fun z => by first | rfl | exact absurd z (by decide)⟩
theorem g_Tb_39 : FG R_Tb 39 8 5 := f_Tb_39.g
theorem f_Tb_45 : FL R_Tb 45 8 6 (.array (.object "ThoughtBalloon$Image")) true := ⟨(R_Tb, F_Tb, 13), t_Tb, kc_Tb, by decide, Or.inl (gw_t 287 (by decide +kernel) rfl), rfl, rfl, rfl, fun z => by first | rfl | exact absurd z (by decide)⟩
theorem g_Tb_45 : FG R_Tb 45 8 6 := f_Tb_45.g
theorem f_Tb_52 : FL R_Tb 52 8 7 (.object "ThoughtBalloon$Search") true := ⟨(R_Tb, F_Tb, 13), t_Tb, kc_Tb, by decide, Or.inl (gw_t 288 (by decide +kernel) rfl), rfl, rfl, rfl, fun z => by first | rfl | exact absurd z (by decide)⟩
theorem g_Tb_52 : FG R_Tb 52 8 7 := f_Tb_52.g
theorem f_Tb_59 : FL R_Tb 59 8 8 (.object "ThoughtBalloon$Odds") true := ⟨(R_Tb, F_Tb, 13), t_Tb, kc_Tb, by decide, Or.inl (gw_t 289 (by decide +kernel) rfl), rfl, rfl, rfl, fun z => by first | rfl | exact absurd z (by decide)⟩
theorem g_Tb_59 : FG R_Tb 59 8 8 := f_Tb_59.g
theorem f_Tb_66 : FL R_Tb 66 8 9 (.object "ThoughtBalloon$Reports") true := ⟨(R_Tb, F_Tb, 13), t_Tb, kc_Tb, by decide, Or.inl (gw_t 290 (by decide +kernel) rfl), rfl, rfl, rfl, fun z => by first | rfl | exact absurd z (by decide)⟩
theorem g_Tb_66 : FG R_Tb 66 8 9 := f_Tb_66.g
theorem f_Tb_70 : FL R_Tb 70 8 10 (.object "ThoughtBalloon$Reports") true := ⟨(R_Tb, F_Tb, 13), t_Tb, kc_Tb, by decide, Or.inl (gw_t 291 (by decide +kernel) rfl), rfl, rfl, rfl, fun z => by first | rfl | exact absurd z (by decide)⟩
theorem g_Tb_70 : FG R_Tb 70 8 10 := f_Tb_70.g
theorem f_Tb_73 : FL R_Tb 73 8 11 (.array .int) true := ⟨(R_Tb, F_Tb, 13), t_Tb, kc_Tb, by decide, Or.inl (gw_t 292 (by decide +kernel) rfl), rfl, rfl, rfl, fun z => by first | rfl | exact absurd z (by decide)⟩
theorem g_Tb_73 : FG R_Tb 73 8 11 := f_Tb_73.g
theorem f_Tb_77 : FL R_Tb 77 8 12 (.long) false := ⟨(R_Tb, F_Tb, 13), t_Tb, kc_Tb, by decide, Or.inl (gw_t 293 (by decide +kernel) rfl), rfl, rfl, rfl, fun z => by first | rfl | exact absurd z (by decide)⟩
theorem g_Tb_77 : FG R_Tb 77 8 12 := f_Tb_77.g
theorem gs_Tx_51 : Cond.fieldLink R_Tx 51 R_Tx "NUMBERS" "[I" ∈ e_gw := gw_t 384 (by decide +kernel) rfl
theorem gs_Tx_57 : Cond.fieldLink R_Tx 57 R_Tx "LEAST" "[I" ∈ e_gw := gw_t 386 (by decide +kernel) rfl
theorem gs_Tx_60 : Cond.fieldLink R_Tx 60 R_Tx "MOST" "[I" ∈ e_gw := gw_t 388 (by decide +kernel) rfl
theorem f_Mo_7 : FL R_Mo 7 9 0 (.array .byte) true := ⟨(R_Mo, F_Mo, 33), t_Mo, kc_Mo, by decide, Or.inl (gw_t 789 (by decide +kernel) rfl), rfl, rfl, rfl, fun z => by first | rfl | exact absurd z (by decide)⟩
theorem g_Mo_7 : FG R_Mo 7 9 0 := f_Mo_7.g
theorem f_Mo_82 : FL R_Mo 82 9 1 (.int) false := ⟨(R_Mo, F_Mo, 33), t_Mo, kc_Mo, by decide, Or.inl (gw_t 790 (by decide +kernel) rfl), rfl, rfl, rfl, fun z => by first | rfl | exact absurd z (by decide)⟩
theorem g_Mo_82 : FG R_Mo 82 9 1 := f_Mo_82.g
theorem f_Mo_13 : FL R_Mo 13 9 2 (.array .int) true := ⟨(R_Mo, F_Mo, 33), t_Mo, kc_Mo, by decide, Or.inl (gw_t 791 (by decide +kernel) rfl), rfl, rfl, rfl, fun z => by first | rfl | exact absurd z (by decide)⟩
theorem g_Mo_13 : FG R_Mo 13 9 2 := f_Mo_13.g
theorem f_Mo_17 : FL R_Mo 17 9 3 (.array .int) true := ⟨(R_Mo, F_Mo, 33), t_Mo, kc_Mo, by decide, Or.inl (gw_t 792 (by decide +kernel) rfl), rfl, rfl, rfl, fun z => by first | rfl | exact absurd z (by decide)⟩
theorem g_Mo_17 : FG R_Mo 17 9 3 := f_Mo_17.g
theorem f_Mo_20 : FL R_Mo 20 9 4 (.array .int) true := ⟨(R_Mo, F_Mo, 33), t_Mo, kc_Mo, by decide, Or.inl (gw_t 793 (by decide +kernel) rfl), rfl, rfl, rfl, fun z => by first | rfl | exact absurd z (by decide)⟩
theorem g_Mo_20 : FG R_Mo 20 9 4 := f_Mo_20.g
theorem f_Mo_23 : FL R_Mo 23 9 5 (.array .int) true := ⟨(R_Mo, F_Mo, 33), t_Mo, kc_Mo, by decide, Or.inl (gw_t 794 (by decide +kernel) rfl), rfl, rfl, rfl, fun z => by first | rfl | exact absurd z (by decide)⟩
theorem g_Mo_23 : FG R_Mo 23 9 5 := f_Mo_23.g
theorem f_Mo_26 : FL R_Mo 26 9 6 (.array .int) true := ⟨(R_Mo, F_Mo, 33), t_Mo, kc_Mo, by decide, Or.inl (gw_t 795 (by decide +kernel) rfl), rfl, rfl, rfl, fun z => by first | rfl | exact absurd z (by decide)⟩
theorem g_Mo_26 : FG R_Mo 26 9 6 := f_Mo_26.g
theorem f_Mo_29 : FL R_Mo 29 9 7 (.array .int) true := ⟨(R_Mo, F_Mo, 33), t_Mo, kc_Mo, by decide, Or.inl (gw_t 796 (by decide +kernel) rfl), rfl, rfl, rfl, fun z => by first | rfl | exact absurd z (by decide)⟩
theorem g_Mo_29 : FG R_Mo 29 9 7 := f_Mo_29.g
theorem f_Mo_32 : FL R_Mo 32 9 8 (.array .int) true := ⟨(R_Mo, F_Mo, 33), t_Mo, kc_Mo, by decide, Or.inl (gw_t 797 (by decide +kernel) rfl), rfl, rfl, rfl, fun z => by first | rfl | exact absurd z (by decide)⟩
theorem g_Mo_32 : FG R_Mo 32 9 8 := f_Mo_32.g
theorem f_Mo_35 : FL R_Mo 35 9 9 (.array .int) true := ⟨(R_Mo, F_Mo, 33), t_Mo, kc_Mo, by decide, Or.inl (gw_t 798 (by decide +kernel) rfl), rfl, rfl, rfl, fun z => by first | rfl | exact absurd z (by decide)⟩
theorem g_Mo_35 : FG R_Mo 35 9 9 := f_Mo_35.g
theorem f_Mo_38 : FL R_Mo 38 9 10 (.array .int) true := ⟨(R_Mo, F_Mo, 33), t_Mo, kc_Mo, by decide, Or.inl (gw_t 799 (by decide +kernel) rfl), rfl, rfl, rfl, fun z => by first | rfl | exact absurd z (by decide)⟩
theorem g_Mo_38 : FG R_Mo 38 9 10 := f_Mo_38.g
theorem f_Mo_86 : FL R_Mo 86 9 11 (.int) false := ⟨(R_Mo, F_Mo, 33), t_Mo, kc_Mo, by decide, Or.inl (gw_t 800 (by decide +kernel) rfl), rfl, rfl, rfl, fun z => by first | rfl | exact absurd z (by decide)⟩
theorem g_Mo_86 : FG R_Mo 86 9 11 := f_Mo_86.g
theorem f_Mo_93 : FL R_Mo 93 9 12 (.int) false := ⟨(R_Mo, F_Mo, 33), t_Mo, kc_Mo, by decide, Or.inl (gw_t 801 (by decide +kernel) rfl), rfl, rfl, rfl, fun z => by first | rfl | exact absurd z (by decide)⟩
theorem g_Mo_93 : FG R_Mo 93 9 12 := f_Mo_93.g
theorem f_Mo_99 : FL R_Mo 99 9 13 (.int) false := ⟨(R_Mo, F_Mo, 33), t_Mo, kc_Mo, by decide, Or.inl (gw_t 802 (by decide +kernel) rfl), rfl, rfl, rfl, fun z => by first | rfl | exact absurd z (by decide)⟩
theorem g_Mo_99 : FG R_Mo 99 9 13 := f_Mo_99.g
theorem f_Mo_96 : FL R_Mo 96 9 14 (.int) false := ⟨(R_Mo, F_Mo, 33), t_Mo, kc_Mo, by decide, Or.inl (gw_t 803 (by decide +kernel) rfl), rfl, rfl, rfl, fun z => by first | rfl | exact absurd z (by decide)⟩
theorem g_Mo_96 : FG R_Mo 96 9 14 := f_Mo_96.g
theorem f_Mo_102 : FL R_Mo 102 9 15 (.boolean) false := ⟨(R_Mo, F_Mo, 33), t_Mo, kc_Mo, by decide, Or.inl (gw_t 804 (by decide +kernel) rfl), rfl, rfl, rfl, fun z => by first | rfl | exact absurd z (by decide)⟩
theorem g_Mo_102 : FG R_Mo 102 9 15 := f_Mo_102.g
theorem f_Mo_120 : FL R_Mo 120 9 16 (.int) false := ⟨(R_Mo, F_Mo, 33), t_Mo, kc_Mo, by decide, Or.inl (gw_t 805 (by decide +kernel) rfl), rfl, rfl, rfl, fun z => by first | rfl | exact absurd z (by decide)⟩
theorem g_Mo_120 : FG R_Mo 120 9 16 := f_Mo_120.g
theorem f_Mo_117 : FL R_Mo 117 9 17 (.boolean) false := ⟨(R_Mo, F_Mo, 33), t_Mo, kc_Mo, by decide, Or.inl (gw_t 806 (by decide +kernel) rfl), rfl, rfl, rfl, fun z => by first | rfl | exact absurd z (by decide)⟩
theorem g_Mo_117 : FG R_Mo 117 9 17 := f_Mo_117.g
theorem f_Mo_41 : FL R_Mo 41 9 18 (.array .int) true := ⟨(R_Mo, F_Mo, 33), t_Mo, kc_Mo, by decide, Or.inl (gw_t 807 (by decide +kernel) rfl), rfl, rfl, rfl, fun z => by first | rfl | exact absurd z (by decide)⟩
theorem g_Mo_41 : FG R_Mo 41 9 18 := f_Mo_41.g
theorem f_Mo_44 : FL R_Mo 44 9 19 (.array .int) true := ⟨(R_Mo, F_Mo, 33), t_Mo, kc_Mo, by decide, Or.inl (gw_t 808 (by decide +kernel) rfl), rfl, rfl, rfl, fun z => by first | rfl | exact absurd z (by decide)⟩
theorem g_Mo_44 : FG R_Mo 44 9 19 := f_Mo_44.g
theorem f_Mo_47 : FL R_Mo 47 9 20 (.array .int) true := ⟨(R_Mo, F_Mo, 33), t_Mo, kc_Mo, by decide, Or.inl (gw_t 809 (by decide +kernel) rfl), rfl, rfl, rfl, fun z => by first | rfl | exact absurd z (by decide)⟩
theorem g_Mo_47 : FG R_Mo 47 9 20 := f_Mo_47.g
theorem f_Mo_50 : FL R_Mo 50 9 21 (.array .int) true := ⟨(R_Mo, F_Mo, 33), t_Mo, kc_Mo, by decide, Or.inl (gw_t 810 (by decide +kernel) rfl), rfl, rfl, rfl, fun z => by first | rfl | exact absurd z (by decide)⟩
theorem g_Mo_50 : FG R_Mo 50 9 21 := f_Mo_50.g
theorem f_Mo_53 : FL R_Mo 53 9 22 (.array .boolean) true := ⟨(R_Mo, F_Mo, 33), t_Mo, kc_Mo, by decide, Or.inl (gw_t 811 (by decide +kernel) rfl), rfl, rfl, rfl, fun z => by first | rfl | exact absurd z (by decide)⟩
theorem g_Mo_53 : FG R_Mo 53 9 22 := f_Mo_53.g
theorem f_Mo_57 : FL R_Mo 57 9 23 (.array .int) true := ⟨(R_Mo, F_Mo, 33), t_Mo, kc_Mo, by decide, Or.inl (gw_t 812 (by decide +kernel) rfl), rfl, rfl, rfl, fun z => by first | rfl | exact absurd z (by decide)⟩
theorem g_Mo_57 : FG R_Mo 57 9 23 := f_Mo_57.g
theorem f_Mo_60 : FL R_Mo 60 9 24 (.array .int) true := ⟨(R_Mo, F_Mo, 33), t_Mo, kc_Mo, by decide, Or.inl (gw_t 813 (by decide +kernel) rfl), rfl, rfl, rfl, fun z => by first | rfl | exact absurd z (by decide)⟩
theorem g_Mo_60 : FG R_Mo 60 9 24 := f_Mo_60.g
theorem f_Mo_63 : FL R_Mo 63 9 25 (.array .int) true := ⟨(R_Mo, F_Mo, 33), t_Mo, kc_Mo, by decide, Or.inl (gw_t 814 (by decide +kernel) rfl), rfl, rfl, rfl, fun z => by first | rfl | exact absurd z (by decide)⟩
theorem g_Mo_63 : FG R_Mo 63 9 25 := f_Mo_63.g
theorem f_Mo_66 : FL R_Mo 66 9 26 (.array .int) true := ⟨(R_Mo, F_Mo, 33), t_Mo, kc_Mo, by decide, Or.inl (gw_t 815 (by decide +kernel) rfl), rfl, rfl, rfl, fun z => by first | rfl | exact absurd z (by decide)⟩
theorem g_Mo_66 : FG R_Mo 66 9 26 := f_Mo_66.g
theorem f_Mo_69 : FL R_Mo 69 9 27 (.array .int) true := ⟨(R_Mo, F_Mo, 33), t_Mo, kc_Mo, by decide, Or.inl (gw_t 816 (by decide +kernel) rfl), rfl, rfl, rfl, fun z => by first | rfl | exact absurd z (by decide)⟩
theorem g_Mo_69 : FG R_Mo 69 9 27 := f_Mo_69.g
theorem f_Mo_134 : FL R_Mo 134 9 28 (.int) false := ⟨(R_Mo, F_Mo, 33), t_Mo, kc_Mo, by decide, Or.inl (gw_t 817 (by decide +kernel) rfl), rfl, rfl, rfl, fun z => by first | rfl | exact absurd z (by decide)⟩
theorem g_Mo_134 : FG R_Mo 134 9 28 := f_Mo_134.g
theorem f_Mo_72 : FL R_Mo 72 9 29 (.array .int) true := ⟨(R_Mo, F_Mo, 33), t_Mo, kc_Mo, by decide, Or.inl (gw_t 818 (by decide +kernel) rfl), rfl, rfl, rfl, fun z => by first | rfl | exact absurd z (by decide)⟩
theorem g_Mo_72 : FG R_Mo 72 9 29 := f_Mo_72.g
theorem f_Mo_75 : FL R_Mo 75 9 30 (.array .int) true := ⟨(R_Mo, F_Mo, 33), t_Mo, kc_Mo, by decide, Or.inl (gw_t 819 (by decide +kernel) rfl), rfl, rfl, rfl, fun z => by first | rfl | exact absurd z (by decide)⟩
theorem g_Mo_75 : FG R_Mo 75 9 30 := f_Mo_75.g
theorem f_Mo_137 : FL R_Mo 137 9 31 (.int) false := ⟨(R_Mo, F_Mo, 33), t_Mo, kc_Mo, by decide, Or.inl (gw_t 820 (by decide +kernel) rfl), rfl, rfl, rfl, fun z => by first | rfl | exact absurd z (by decide)⟩
theorem g_Mo_137 : FG R_Mo 137 9 31 := f_Mo_137.g
theorem f_Mo_204 : FL R_Mo 204 9 32 (.long) false := ⟨(R_Mo, F_Mo, 33), t_Mo, kc_Mo, by decide, Or.inl (gw_t 821 (by decide +kernel) rfl), rfl, rfl, rfl, fun z => by first | rfl | exact absurd z (by decide)⟩
theorem g_Mo_204 : FG R_Mo 204 9 32 := f_Mo_204.g
theorem f_Tb_296 : FL R_Tb 296 6 1 (.int) false := ⟨(R_Tx, F_Tx, 8), t_Tx, kc_Tx, by decide, Or.inr ⟨"ThoughtBalloon", nw_t 31 (by decide +kernel) rfl, rfl⟩, rfl, rfl, rfl, fun z => by first | rfl | exact absurd z (by decide)⟩
theorem g_Tb_296 : FG R_Tb 296 6 1 := f_Tb_296.g
theorem g_Tb_113 : FG R_Tb 113 7 1 := ⟨(R_To, F_To, 9), t_To, kc_To, by decide, Or.inr ⟨"ThoughtBalloon", nw_t 64 (by decide +kernel) rfl⟩, rfl⟩
theorem g_Tb_116 : FG R_Tb 116 7 2 := ⟨(R_To, F_To, 9), t_To, kc_To, by decide, Or.inr ⟨"ThoughtBalloon", nw_t 66 (by decide +kernel) rfl⟩, rfl⟩
theorem g_Tb_131 : FG R_Tb 131 7 3 := ⟨(R_To, F_To, 9), t_To, kc_To, by decide, Or.inr ⟨"ThoughtBalloon", nw_t 68 (by decide +kernel) rfl⟩, rfl⟩
theorem g_Tb_134 : FG R_Tb 134 7 4 := ⟨(R_To, F_To, 9), t_To, kc_To, by decide, Or.inr ⟨"ThoughtBalloon", nw_t 70 (by decide +kernel) rfl⟩, rfl⟩
theorem f_Se_90 : FL R_Se 90 7 5 (.int) false := ⟨(R_To, F_To, 9), t_To, kc_To, by decide, Or.inr ⟨"ThoughtBalloon", nw_t 72 (by decide +kernel) rfl, rfl⟩, rfl, rfl, rfl, fun z => by first | rfl | exact absurd z (by decide)⟩
theorem g_Se_90 : FG R_Se 90 7 5 := f_Se_90.g
theorem f_Tx_71 : FL R_Tx 71 7 5 (.int) false := ⟨(R_To, F_To, 9), t_To, kc_To, by decide, Or.inr ⟨"ThoughtBalloon", nw_t 73 (by decide +kernel) rfl, rfl⟩, rfl, rfl, rfl, fun z => by first | rfl | exact absurd z (by decide)⟩
theorem g_Tx_71 : FG R_Tx 71 7 5 := f_Tx_71.g
theorem f_Tb_286 : FL R_Tb 286 7 5 (.int) false := ⟨(R_To, F_To, 9), t_To, kc_To, by decide, Or.inr ⟨"ThoughtBalloon", nw_t 74 (by decide +kernel) rfl, rfl⟩, rfl, rfl, rfl, fun z => by first | rfl | exact absurd z (by decide)⟩
theorem g_Tb_286 : FG R_Tb 286 7 5 := f_Tb_286.g
theorem f_Se_93 : FL R_Se 93 7 6 (.int) false := ⟨(R_To, F_To, 9), t_To, kc_To, by decide, Or.inr ⟨"ThoughtBalloon", nw_t 76 (by decide +kernel) rfl, rfl⟩, rfl, rfl, rfl, fun z => by first | rfl | exact absurd z (by decide)⟩
theorem g_Se_93 : FG R_Se 93 7 6 := f_Se_93.g
theorem f_Tx_74 : FL R_Tx 74 7 6 (.int) false := ⟨(R_To, F_To, 9), t_To, kc_To, by decide, Or.inr ⟨"ThoughtBalloon", nw_t 77 (by decide +kernel) rfl, rfl⟩, rfl, rfl, rfl, fun z => by first | rfl | exact absurd z (by decide)⟩
theorem g_Tx_74 : FG R_Tx 74 7 6 := f_Tx_74.g
theorem f_Tb_289 : FL R_Tb 289 7 6 (.int) false := ⟨(R_To, F_To, 9), t_To, kc_To, by decide, Or.inr ⟨"ThoughtBalloon", nw_t 78 (by decide +kernel) rfl, rfl⟩, rfl, rfl, rfl, fun z => by first | rfl | exact absurd z (by decide)⟩
theorem g_Tb_289 : FG R_Tb 289 7 6 := f_Tb_289.g
theorem f_Tx_88 : FL R_Tx 88 7 7 (.int) false := ⟨(R_To, F_To, 9), t_To, kc_To, by decide, Or.inr ⟨"ThoughtBalloon", nw_t 80 (by decide +kernel) rfl, rfl⟩, rfl, rfl, rfl, fun z => by first | rfl | exact absurd z (by decide)⟩
theorem g_Tx_88 : FG R_Tx 88 7 7 := f_Tx_88.g
theorem f_Tb_292 : FL R_Tb 292 7 7 (.int) false := ⟨(R_To, F_To, 9), t_To, kc_To, by decide, Or.inr ⟨"ThoughtBalloon", nw_t 81 (by decide +kernel) rfl, rfl⟩, rfl, rfl, rfl, fun z => by first | rfl | exact absurd z (by decide)⟩
theorem g_Tb_292 : FG R_Tb 292 7 7 := f_Tb_292.g
theorem f_Tb_299 : FL R_Tb 299 7 8 (.int) false := ⟨(R_To, F_To, 9), t_To, kc_To, by decide, Or.inr ⟨"ThoughtBalloon", nw_t 83 (by decide +kernel) rfl, rfl⟩, rfl, rfl, rfl, fun z => by first | rfl | exact absurd z (by decide)⟩
theorem g_Tb_299 : FG R_Tb 299 7 8 := f_Tb_299.g
theorem f_Tb_157 : FL R_Tb 157 0 0 (.int) false := ⟨(R_Fl, F_Fl, 9), t_Fl, kc_Fl, by decide, Or.inr ⟨"ThoughtBalloon", nw_t 110 (by decide +kernel) rfl, rfl⟩, rfl, rfl, rfl, fun z => by first | rfl | exact absurd z (by decide)⟩
theorem g_Tb_157 : FG R_Tb 157 0 0 := f_Tb_157.g
theorem f_To_70 : FL R_To 70 0 0 (.int) false := ⟨(R_Fl, F_Fl, 9), t_Fl, kc_Fl, by decide, Or.inr ⟨"ThoughtBalloon", nw_t 111 (by decide +kernel) rfl, rfl⟩, rfl, rfl, rfl, fun z => by first | rfl | exact absurd z (by decide)⟩
theorem g_To_70 : FG R_To 70 0 0 := f_To_70.g
theorem f_Se_110 : FL R_Se 110 0 1 (.int) false := ⟨(R_Fl, F_Fl, 9), t_Fl, kc_Fl, by decide, Or.inr ⟨"ThoughtBalloon", nw_t 113 (by decide +kernel) rfl, rfl⟩, rfl, rfl, rfl, fun z => by first | rfl | exact absurd z (by decide)⟩
theorem g_Se_110 : FG R_Se 110 0 1 := f_Se_110.g
theorem f_Tb_165 : FL R_Tb 165 0 1 (.int) false := ⟨(R_Fl, F_Fl, 9), t_Fl, kc_Fl, by decide, Or.inr ⟨"ThoughtBalloon", nw_t 114 (by decide +kernel) rfl, rfl⟩, rfl, rfl, rfl, fun z => by first | rfl | exact absurd z (by decide)⟩
theorem g_Tb_165 : FG R_Tb 165 0 1 := f_Tb_165.g
theorem f_Se_107 : FL R_Se 107 0 2 (.int) false := ⟨(R_Fl, F_Fl, 9), t_Fl, kc_Fl, by decide, Or.inr ⟨"ThoughtBalloon", nw_t 116 (by decide +kernel) rfl, rfl⟩, rfl, rfl, rfl, fun z => by first | rfl | exact absurd z (by decide)⟩
theorem g_Se_107 : FG R_Se 107 0 2 := f_Se_107.g
theorem f_Tb_193 : FL R_Tb 193 0 2 (.int) false := ⟨(R_Fl, F_Fl, 9), t_Fl, kc_Fl, by decide, Or.inr ⟨"ThoughtBalloon", nw_t 117 (by decide +kernel) rfl, rfl⟩, rfl, rfl, rfl, fun z => by first | rfl | exact absurd z (by decide)⟩
theorem g_Tb_193 : FG R_Tb 193 0 2 := f_Tb_193.g
theorem f_To_109 : FL R_To 109 0 2 (.int) false := ⟨(R_Fl, F_Fl, 9), t_Fl, kc_Fl, by decide, Or.inr ⟨"ThoughtBalloon", nw_t 118 (by decide +kernel) rfl, rfl⟩, rfl, rfl, rfl, fun z => by first | rfl | exact absurd z (by decide)⟩
theorem g_To_109 : FG R_To 109 0 2 := f_To_109.g
theorem f_To_62 : FL R_To 62 0 3 (.int) false := ⟨(R_Fl, F_Fl, 9), t_Fl, kc_Fl, by decide, Or.inr ⟨"ThoughtBalloon", nw_t 120 (by decide +kernel) rfl, rfl⟩, rfl, rfl, rfl, fun z => by first | rfl | exact absurd z (by decide)⟩
theorem g_To_62 : FG R_To 62 0 3 := f_To_62.g
theorem f_Tb_196 : FL R_Tb 196 0 3 (.int) false := ⟨(R_Fl, F_Fl, 9), t_Fl, kc_Fl, by decide, Or.inr ⟨"ThoughtBalloon", nw_t 121 (by decide +kernel) rfl, rfl⟩, rfl, rfl, rfl, fun z => by first | rfl | exact absurd z (by decide)⟩
theorem g_Tb_196 : FG R_Tb 196 0 3 := f_Tb_196.g
theorem f_To_67 : FL R_To 67 0 4 (.int) false := ⟨(R_Fl, F_Fl, 9), t_Fl, kc_Fl, by decide, Or.inr ⟨"ThoughtBalloon", nw_t 123 (by decide +kernel) rfl, rfl⟩, rfl, rfl, rfl, fun z => by first | rfl | exact absurd z (by decide)⟩
theorem g_To_67 : FG R_To 67 0 4 := f_To_67.g
theorem f_Tb_199 : FL R_Tb 199 0 4 (.int) false := ⟨(R_Fl, F_Fl, 9), t_Fl, kc_Fl, by decide, Or.inr ⟨"ThoughtBalloon", nw_t 124 (by decide +kernel) rfl, rfl⟩, rfl, rfl, rfl, fun z => by first | rfl | exact absurd z (by decide)⟩
theorem g_Tb_199 : FG R_Tb 199 0 4 := f_Tb_199.g
theorem f_To_73 : FL R_To 73 0 5 (.int) false := ⟨(R_Fl, F_Fl, 9), t_Fl, kc_Fl, by decide, Or.inr ⟨"ThoughtBalloon", nw_t 126 (by decide +kernel) rfl, rfl⟩, rfl, rfl, rfl, fun z => by first | rfl | exact absurd z (by decide)⟩
theorem g_To_73 : FG R_To 73 0 5 := f_To_73.g
theorem f_Tb_176 : FL R_Tb 176 0 6 (.int) false := ⟨(R_Fl, F_Fl, 9), t_Fl, kc_Fl, by decide, Or.inr ⟨"ThoughtBalloon", nw_t 128 (by decide +kernel) rfl, rfl⟩, rfl, rfl, rfl, fun z => by first | rfl | exact absurd z (by decide)⟩
theorem g_Tb_176 : FG R_Tb 176 0 6 := f_Tb_176.g
theorem f_Se_86 : FL R_Se 86 0 8 (.boolean) false := ⟨(R_Fl, F_Fl, 9), t_Fl, kc_Fl, by decide, Or.inr ⟨"ThoughtBalloon", nw_t 131 (by decide +kernel) rfl, rfl⟩, rfl, rfl, rfl, fun z => by first | rfl | exact absurd z (by decide)⟩
theorem g_Se_86 : FG R_Se 86 0 8 := f_Se_86.g
theorem f_Tb_137 : FL R_Tb 137 0 8 (.boolean) false := ⟨(R_Fl, F_Fl, 9), t_Fl, kc_Fl, by decide, Or.inr ⟨"ThoughtBalloon", nw_t 132 (by decide +kernel) rfl, rfl⟩, rfl, rfl, rfl, fun z => by first | rfl | exact absurd z (by decide)⟩
theorem g_Tb_137 : FG R_Tb 137 0 8 := f_Tb_137.g
theorem f_To_94 : FL R_To 94 0 8 (.boolean) false := ⟨(R_Fl, F_Fl, 9), t_Fl, kc_Fl, by decide, Or.inr ⟨"ThoughtBalloon", nw_t 133 (by decide +kernel) rfl, rfl⟩, rfl, rfl, rfl, fun z => by first | rfl | exact absurd z (by decide)⟩
theorem g_To_94 : FG R_To 94 0 8 := f_To_94.g
theorem f_Tb_187 : FL R_Tb 187 1 1 (.int) false := ⟨(R_Hi, F_Hi, 2), t_Hi, kc_Hi, by decide, Or.inr ⟨"ThoughtBalloon", nw_t 164 (by decide +kernel) rfl, rfl⟩, rfl, rfl, rfl, fun z => by first | rfl | exact absurd z (by decide)⟩
theorem g_Tb_187 : FG R_Tb 187 1 1 := f_Tb_187.g
theorem g_Tb_220 : FG R_Tb 220 5 2 := ⟨(R_Se, F_Se, 7), t_Se, kc_Se, by decide, Or.inr ⟨"ThoughtBalloon", nw_t 185 (by decide +kernel) rfl⟩, rfl⟩
theorem f_Tb_217 : FL R_Tb 217 5 6 (.int) false := ⟨(R_Se, F_Se, 7), t_Se, kc_Se, by decide, Or.inr ⟨"ThoughtBalloon", nw_t 190 (by decide +kernel) rfl, rfl⟩, rfl, rfl, rfl, fun z => by first | rfl | exact absurd z (by decide)⟩
theorem g_Tb_217 : FG R_Tb 217 5 6 := f_Tb_217.g
theorem g_Tb_307 : FG R_Tb 307 4 0 := ⟨(R_Re, F_Re, 4), t_Re, kc_Re, by decide, Or.inr ⟨"ThoughtBalloon", nw_t 229 (by decide +kernel) rfl⟩, rfl⟩
theorem g_Tb_309 : FG R_Tb 309 4 1 := ⟨(R_Re, F_Re, 4), t_Re, kc_Re, by decide, Or.inr ⟨"ThoughtBalloon", nw_t 231 (by decide +kernel) rfl⟩, rfl⟩
theorem g_Tb_315 : FG R_Tb 315 4 2 := ⟨(R_Re, F_Re, 4), t_Re, kc_Re, by decide, Or.inr ⟨"ThoughtBalloon", nw_t 233 (by decide +kernel) rfl⟩, rfl⟩
theorem f_Tb_295 : FL R_Tb 295 4 3 (.int) false := ⟨(R_Re, F_Re, 4), t_Re, kc_Re, by decide, Or.inr ⟨"ThoughtBalloon", nw_t 235 (by decide +kernel) rfl, rfl⟩, rfl, rfl, rfl, fun z => by first | rfl | exact absurd z (by decide)⟩
theorem g_Tb_295 : FG R_Tb 295 4 3 := f_Tb_295.g
theorem f_Tb_280 : FL R_Tb 280 2 2 (.boolean) false := ⟨(R_Im, F_Im, 3), t_Im, kc_Im, by decide, Or.inr ⟨"ThoughtBalloon", nw_t 257 (by decide +kernel) rfl, rfl⟩, rfl, rfl, rfl, fun z => by first | rfl | exact absurd z (by decide)⟩
theorem g_Tb_280 : FG R_Tb 280 2 2 := f_Tb_280.g
theorem k_Tb_init : MK M_Tb_init 0 := ⟨gw_t 19 (by decide +kernel) rfl, gw_t 1 (by decide +kernel) rfl, by decide +kernel, by decide⟩
theorem i_Tb_init : Cond.instanceMethod M_Tb_init.1 ∈ e_gw := gw_t 18 (by decide +kernel) rfl
theorem k_Tx_init : MK M_Tx_init 0 := ⟨gw_t 27 (by decide +kernel) rfl, gw_t 2 (by decide +kernel) rfl, by decide +kernel, by decide⟩
theorem i_Tx_init : Cond.instanceMethod M_Tx_init.1 ∈ e_gw := gw_t 26 (by decide +kernel) rfl
theorem k_To_init : MK M_To_init 0 := ⟨gw_t 60 (by decide +kernel) rfl, gw_t 3 (by decide +kernel) rfl, by decide +kernel, by decide⟩
theorem i_To_init : Cond.instanceMethod M_To_init.1 ∈ e_gw := gw_t 59 (by decide +kernel) rfl
theorem k_Fl_init : MK M_Fl_init 0 := ⟨gw_t 107 (by decide +kernel) rfl, gw_t 4 (by decide +kernel) rfl, by decide +kernel, by decide⟩
theorem i_Fl_init : Cond.instanceMethod M_Fl_init.1 ∈ e_gw := gw_t 106 (by decide +kernel) rfl
theorem k_Hi_init : MK M_Hi_init 0 := ⟨gw_t 157 (by decide +kernel) rfl, gw_t 5 (by decide +kernel) rfl, by decide +kernel, by decide⟩
theorem i_Hi_init : Cond.instanceMethod M_Hi_init.1 ∈ e_gw := gw_t 156 (by decide +kernel) rfl
theorem k_Se_init : MK M_Se_init 0 := ⟨gw_t 176 (by decide +kernel) rfl, gw_t 6 (by decide +kernel) rfl, by decide +kernel, by decide⟩
theorem i_Se_init : Cond.instanceMethod M_Se_init.1 ∈ e_gw := gw_t 175 (by decide +kernel) rfl
theorem k_Od_init : MK M_Od_init 0 := ⟨gw_t 210 (by decide +kernel) rfl, gw_t 7 (by decide +kernel) rfl, by decide +kernel, by decide⟩
theorem i_Od_init : Cond.instanceMethod M_Od_init.1 ∈ e_gw := gw_t 209 (by decide +kernel) rfl
theorem k_Re_init : MK M_Re_init 0 := ⟨gw_t 226 (by decide +kernel) rfl, gw_t 8 (by decide +kernel) rfl, by decide +kernel, by decide⟩
theorem i_Re_init : Cond.instanceMethod M_Re_init.1 ∈ e_gw := gw_t 225 (by decide +kernel) rfl
theorem k_Im_init : MK M_Im_init 0 := ⟨gw_t 248 (by decide +kernel) rfl, gw_t 9 (by decide +kernel) rfl, by decide +kernel, by decide⟩
theorem i_Im_init : Cond.instanceMethod M_Im_init.1 ∈ e_gw := gw_t 247 (by decide +kernel) rfl
theorem k_Tb_startAnew : MK M_Tb_startAnew 0 := ⟨gw_t 268 (by decide +kernel) rfl, gw_t 1 (by decide +kernel) rfl, by decide +kernel, by decide⟩
theorem i_Tb_startAnew : Cond.instanceMethod M_Tb_startAnew.1 ∈ e_gw := gw_t 267 (by decide +kernel) rfl
theorem s_Tb_startAnew : Cond.selects M_Tb_startAnew.1.cls M_Tb_startAnew.1 M_Tb_startAnew.1 ∈ e_gw := gw_s 0 (by decide +kernel) rfl
theorem k_Fl_start : MK M_Fl_start 2 := ⟨gw_t 272 (by decide +kernel) rfl, gw_t 4 (by decide +kernel) rfl, by decide +kernel, by decide⟩
theorem i_Fl_start : Cond.instanceMethod M_Fl_start.1 ∈ e_gw := gw_t 271 (by decide +kernel) rfl
theorem s_Fl_start : Cond.selects M_Fl_start.1.cls M_Fl_start.1 M_Fl_start.1 ∈ e_gw := gw_s 1 (by decide +kernel) rfl
theorem k_Fl_thinkNothing : MK M_Fl_thinkNothing 0 := ⟨gw_t 276 (by decide +kernel) rfl, gw_t 4 (by decide +kernel) rfl, by decide +kernel, by decide⟩
theorem i_Fl_thinkNothing : Cond.instanceMethod M_Fl_thinkNothing.1 ∈ e_gw := gw_t 275 (by decide +kernel) rfl
theorem s_Fl_thinkNothing : Cond.selects M_Fl_thinkNothing.1.cls M_Fl_thinkNothing.1 M_Fl_thinkNothing.1 ∈ e_gw := gw_s 2 (by decide +kernel) rfl
theorem k_Re_drop : MK M_Re_drop 0 := ⟨gw_t 280 (by decide +kernel) rfl, gw_t 8 (by decide +kernel) rfl, by decide +kernel, by decide⟩
theorem i_Re_drop : Cond.instanceMethod M_Re_drop.1 ∈ e_gw := gw_t 279 (by decide +kernel) rfl
theorem s_Re_drop : Cond.selects M_Re_drop.1.cls M_Re_drop.1 M_Re_drop.1 ∈ e_gw := gw_s 3 (by decide +kernel) rfl
theorem k_Tb_type : MK M_Tb_type 1 := ⟨gw_t 324 (by decide +kernel) rfl, gw_t 1 (by decide +kernel) rfl, by decide +kernel, by decide⟩
theorem i_Tb_type : Cond.instanceMethod M_Tb_type.1 ∈ e_gw := gw_t 322 (by decide +kernel) rfl
theorem s_Tb_type : Cond.selects M_Tb_type.1.cls M_Tb_type.1 M_Tb_type.1 ∈ e_gw := gw_t 323 (by decide +kernel) rfl
theorem k_Tb_within : MK M_Tb_within 3 := ⟨gw_t 327 (by decide +kernel) rfl, gw_t 1 (by decide +kernel) rfl, by decide +kernel, by decide⟩
theorem i_Tb_within : Cond.static M_Tb_within.1 ∈ e_gw := gw_t 326 (by decide +kernel) rfl
theorem k_Tx_add : MK M_Tx_add 1 := ⟨gw_t 331 (by decide +kernel) rfl, gw_t 2 (by decide +kernel) rfl, by decide +kernel, by decide⟩
theorem i_Tx_add : Cond.instanceMethod M_Tx_add.1 ∈ e_gw := gw_t 330 (by decide +kernel) rfl
theorem s_Tx_add : Cond.selects M_Tx_add.1.cls M_Tx_add.1 M_Tx_add.1 ∈ e_gw := gw_s 4 (by decide +kernel) rfl
theorem k_Tb_clear : MK M_Tb_clear 0 := ⟨gw_t 335 (by decide +kernel) rfl, gw_t 1 (by decide +kernel) rfl, by decide +kernel, by decide⟩
theorem i_Tb_clear : Cond.instanceMethod M_Tb_clear.1 ∈ e_gw := gw_t 333 (by decide +kernel) rfl
theorem s_Tb_clear : Cond.selects M_Tb_clear.1.cls M_Tb_clear.1 M_Tb_clear.1 ∈ e_gw := gw_t 334 (by decide +kernel) rfl
theorem k_Tx_drop : MK M_Tx_drop 0 := ⟨gw_t 339 (by decide +kernel) rfl, gw_t 2 (by decide +kernel) rfl, by decide +kernel, by decide⟩
theorem i_Tx_drop : Cond.instanceMethod M_Tx_drop.1 ∈ e_gw := gw_t 338 (by decide +kernel) rfl
theorem s_Tx_drop : Cond.selects M_Tx_drop.1.cls M_Tx_drop.1 M_Tx_drop.1 ∈ e_gw := gw_s 5 (by decide +kernel) rfl
theorem k_Tb_sheds : MK M_Tb_sheds 0 := ⟨gw_t 343 (by decide +kernel) rfl, gw_t 1 (by decide +kernel) rfl, by decide +kernel, by decide⟩
theorem i_Tb_sheds : Cond.instanceMethod M_Tb_sheds.1 ∈ e_gw := gw_t 341 (by decide +kernel) rfl
theorem s_Tb_sheds : Cond.selects M_Tb_sheds.1.cls M_Tb_sheds.1 M_Tb_sheds.1 ∈ e_gw := gw_t 342 (by decide +kernel) rfl
theorem k_Tx_readInto : MK M_Tx_readInto 1 := ⟨gw_t 347 (by decide +kernel) rfl, gw_t 2 (by decide +kernel) rfl, by decide +kernel, by decide⟩
theorem i_Tx_readInto : Cond.instanceMethod M_Tx_readInto.1 ∈ e_gw := gw_t 346 (by decide +kernel) rfl
theorem s_Tx_readInto : Cond.selects M_Tx_readInto.1.cls M_Tx_readInto.1 M_Tx_readInto.1 ∈ e_gw := gw_s 6 (by decide +kernel) rfl
theorem k_To_tellNothing : MK M_To_tellNothing 0 := ⟨gw_t 351 (by decide +kernel) rfl, gw_t 3 (by decide +kernel) rfl, by decide +kernel, by decide⟩
theorem i_To_tellNothing : Cond.instanceMethod M_To_tellNothing.1 ∈ e_gw := gw_t 350 (by decide +kernel) rfl
theorem s_To_tellNothing : Cond.selects M_To_tellNothing.1.cls M_To_tellNothing.1 M_To_tellNothing.1 ∈ e_gw := gw_s 7 (by decide +kernel) rfl
theorem k_Ar_fill : MK M_Ar_fill 2 := ⟨gw_t 354 (by decide +kernel) rfl, gw_t 11 (by decide +kernel) rfl, by decide +kernel, by decide⟩
theorem i_Ar_fill : Cond.static M_Ar_fill.1 ∈ e_gw := gw_t 353 (by decide +kernel) rfl
theorem k_Tx_readToken : MK M_Tx_readToken 0 := ⟨gw_t 358 (by decide +kernel) rfl, gw_t 2 (by decide +kernel) rfl, by decide +kernel, by decide⟩
theorem i_Tx_readToken : Cond.instanceMethod M_Tx_readToken.1 ∈ e_gw := gw_t 357 (by decide +kernel) rfl
theorem s_Tx_readToken : Cond.selects M_Tx_readToken.1.cls M_Tx_readToken.1 M_Tx_readToken.1 ∈ e_gw := gw_s 8 (by decide +kernel) rfl
theorem k_Tx_isLetter : MK M_Tx_isLetter 1 := ⟨gw_t 361 (by decide +kernel) rfl, gw_t 2 (by decide +kernel) rfl, by decide +kernel, by decide⟩
theorem i_Tx_isLetter : Cond.static M_Tx_isLetter.1 ∈ e_gw := gw_t 360 (by decide +kernel) rfl
theorem k_Tx_readLetters : MK M_Tx_readLetters 0 := ⟨gw_t 365 (by decide +kernel) rfl, gw_t 2 (by decide +kernel) rfl, by decide +kernel, by decide⟩
theorem i_Tx_readLetters : Cond.instanceMethod M_Tx_readLetters.1 ∈ e_gw := gw_t 364 (by decide +kernel) rfl
theorem s_Tx_readLetters : Cond.selects M_Tx_readLetters.1.cls M_Tx_readLetters.1 M_Tx_readLetters.1 ∈ e_gw := gw_s 9 (by decide +kernel) rfl
theorem k_Tx_isDigit : MK M_Tx_isDigit 1 := ⟨gw_t 368 (by decide +kernel) rfl, gw_t 2 (by decide +kernel) rfl, by decide +kernel, by decide⟩
theorem i_Tx_isDigit : Cond.static M_Tx_isDigit.1 ∈ e_gw := gw_t 367 (by decide +kernel) rfl
theorem k_Tx_readNumber : MK M_Tx_readNumber 0 := ⟨gw_t 372 (by decide +kernel) rfl, gw_t 2 (by decide +kernel) rfl, by decide +kernel, by decide⟩
theorem i_Tx_readNumber : Cond.instanceMethod M_Tx_readNumber.1 ∈ e_gw := gw_t 371 (by decide +kernel) rfl
theorem s_Tx_readNumber : Cond.selects M_Tx_readNumber.1.cls M_Tx_readNumber.1 M_Tx_readNumber.1 ∈ e_gw := gw_s 10 (by decide +kernel) rfl
theorem k_Ma_min : MK M_Ma_min 2 := ⟨gw_t 375 (by decide +kernel) rfl, gw_t 12 (by decide +kernel) rfl, by decide +kernel, by decide⟩
theorem i_Ma_min : Cond.static M_Ma_min.1 ∈ e_gw := gw_t 374 (by decide +kernel) rfl
theorem k_Tx_readItem : MK M_Tx_readItem 1 := ⟨gw_t 379 (by decide +kernel) rfl, gw_t 2 (by decide +kernel) rfl, by decide +kernel, by decide⟩
theorem i_Tx_readItem : Cond.instanceMethod M_Tx_readItem.1 ∈ e_gw := gw_t 378 (by decide +kernel) rfl
theorem s_Tx_readItem : Cond.selects M_Tx_readItem.1.cls M_Tx_readItem.1 M_Tx_readItem.1 ∈ e_gw := gw_s 11 (by decide +kernel) rfl
theorem k_Tx_itemBegun : MK M_Tx_itemBegun 1 := ⟨gw_t 383 (by decide +kernel) rfl, gw_t 2 (by decide +kernel) rfl, by decide +kernel, by decide⟩
theorem i_Tx_itemBegun : Cond.instanceMethod M_Tx_itemBegun.1 ∈ e_gw := gw_t 382 (by decide +kernel) rfl
theorem s_Tx_itemBegun : Cond.selects M_Tx_itemBegun.1.cls M_Tx_itemBegun.1 M_Tx_itemBegun.1 ∈ e_gw := gw_s 12 (by decide +kernel) rfl
theorem k_Tx_tell : MK M_Tx_tell 2 := ⟨gw_t 394 (by decide +kernel) rfl, gw_t 2 (by decide +kernel) rfl, by decide +kernel, by decide⟩
theorem i_Tx_tell : Cond.instanceMethod M_Tx_tell.1 ∈ e_gw := gw_t 393 (by decide +kernel) rfl
theorem s_Tx_tell : Cond.selects M_Tx_tell.1.cls M_Tx_tell.1 M_Tx_tell.1 ∈ e_gw := gw_s 13 (by decide +kernel) rfl
theorem k_To_tellWind : MK M_To_tellWind 2 := ⟨gw_t 398 (by decide +kernel) rfl, gw_t 3 (by decide +kernel) rfl, by decide +kernel, by decide⟩
theorem i_To_tellWind : Cond.instanceMethod M_To_tellWind.1 ∈ e_gw := gw_t 397 (by decide +kernel) rfl
theorem s_To_tellWind : Cond.selects M_To_tellWind.1.cls M_To_tellWind.1 M_To_tellWind.1 ∈ e_gw := gw_s 14 (by decide +kernel) rfl
theorem k_To_tellPerson : MK M_To_tellPerson 3 := ⟨gw_t 403 (by decide +kernel) rfl, gw_t 3 (by decide +kernel) rfl, by decide +kernel, by decide⟩
theorem i_To_tellPerson : Cond.instanceMethod M_To_tellPerson.1 ∈ e_gw := gw_t 402 (by decide +kernel) rfl
theorem s_To_tellPerson : Cond.selects M_To_tellPerson.1.cls M_To_tellPerson.1 M_To_tellPerson.1 ∈ e_gw := gw_s 15 (by decide +kernel) rfl
theorem k_To_tellThought : MK M_To_tellThought 2 := ⟨gw_t 407 (by decide +kernel) rfl, gw_t 3 (by decide +kernel) rfl, by decide +kernel, by decide⟩
theorem i_To_tellThought : Cond.instanceMethod M_To_tellThought.1 ∈ e_gw := gw_t 406 (by decide +kernel) rfl
theorem s_To_tellThought : Cond.selects M_To_tellThought.1.cls M_To_tellThought.1 M_To_tellThought.1 ∈ e_gw := gw_s 16 (by decide +kernel) rfl
theorem k_To_copyFrom : MK M_To_copyFrom 1 := ⟨gw_t 411 (by decide +kernel) rfl, gw_t 3 (by decide +kernel) rfl, by decide +kernel, by decide⟩
theorem i_To_copyFrom : Cond.instanceMethod M_To_copyFrom.1 ∈ e_gw := gw_t 410 (by decide +kernel) rfl
theorem s_To_copyFrom : Cond.selects M_To_copyFrom.1.cls M_To_copyFrom.1 M_To_copyFrom.1 ∈ e_gw := gw_s 17 (by decide +kernel) rfl
theorem k_Tb_wind : MK M_Tb_wind 1 := ⟨gw_t 418 (by decide +kernel) rfl, gw_t 1 (by decide +kernel) rfl, by decide +kernel, by decide⟩
theorem i_Tb_wind : Cond.instanceMethod M_Tb_wind.1 ∈ e_gw := gw_t 416 (by decide +kernel) rfl
theorem s_Tb_wind : Cond.selects M_Tb_wind.1.cls M_Tb_wind.1 M_Tb_wind.1 ∈ e_gw := gw_t 417 (by decide +kernel) rfl
theorem k_To_windAt : MK M_To_windAt 1 := ⟨gw_t 422 (by decide +kernel) rfl, gw_t 3 (by decide +kernel) rfl, by decide +kernel, by decide⟩
theorem i_To_windAt : Cond.instanceMethod M_To_windAt.1 ∈ e_gw := gw_t 421 (by decide +kernel) rfl
theorem s_To_windAt : Cond.selects M_To_windAt.1.cls M_To_windAt.1 M_To_windAt.1 ∈ e_gw := gw_s 18 (by decide +kernel) rfl
theorem k_Tb_one : MK M_Tb_one 2 := ⟨gw_t 427 (by decide +kernel) rfl, gw_t 1 (by decide +kernel) rfl, by decide +kernel, by decide⟩
theorem i_Tb_one : Cond.instanceMethod M_Tb_one.1 ∈ e_gw := gw_t 425 (by decide +kernel) rfl
theorem s_Tb_one : Cond.selects M_Tb_one.1.cls M_Tb_one.1 M_Tb_one.1 ∈ e_gw := gw_t 426 (by decide +kernel) rfl
theorem k_To_hasPerson : MK M_To_hasPerson 1 := ⟨gw_t 431 (by decide +kernel) rfl, gw_t 3 (by decide +kernel) rfl, by decide +kernel, by decide⟩
theorem i_To_hasPerson : Cond.instanceMethod M_To_hasPerson.1 ∈ e_gw := gw_t 430 (by decide +kernel) rfl
theorem s_To_hasPerson : Cond.selects M_To_hasPerson.1.cls M_To_hasPerson.1 M_To_hasPerson.1 ∈ e_gw := gw_s 19 (by decide +kernel) rfl
theorem k_Fl_hasAboard : MK M_Fl_hasAboard 1 := ⟨gw_t 435 (by decide +kernel) rfl, gw_t 4 (by decide +kernel) rfl, by decide +kernel, by decide⟩
theorem i_Fl_hasAboard : Cond.instanceMethod M_Fl_hasAboard.1 ∈ e_gw := gw_t 434 (by decide +kernel) rfl
theorem s_Fl_hasAboard : Cond.selects M_Fl_hasAboard.1.cls M_Fl_hasAboard.1 M_Fl_hasAboard.1 ∈ e_gw := gw_s 20 (by decide +kernel) rfl
theorem k_Fl_usedBy : MK M_Fl_usedBy 1 := ⟨gw_t 439 (by decide +kernel) rfl, gw_t 4 (by decide +kernel) rfl, by decide +kernel, by decide⟩
theorem i_Fl_usedBy : Cond.instanceMethod M_Fl_usedBy.1 ∈ e_gw := gw_t 438 (by decide +kernel) rfl
theorem s_Fl_usedBy : Cond.selects M_Fl_usedBy.1.cls M_Fl_usedBy.1 M_Fl_usedBy.1 ∈ e_gw := gw_s 21 (by decide +kernel) rfl
theorem k_To_liftsOf : MK M_To_liftsOf 1 := ⟨gw_t 443 (by decide +kernel) rfl, gw_t 3 (by decide +kernel) rfl, by decide +kernel, by decide⟩
theorem i_To_liftsOf : Cond.instanceMethod M_To_liftsOf.1 ∈ e_gw := gw_t 442 (by decide +kernel) rfl
theorem s_To_liftsOf : Cond.selects M_To_liftsOf.1.cls M_To_liftsOf.1 M_To_liftsOf.1 ∈ e_gw := gw_s 22 (by decide +kernel) rfl
theorem k_To_canLift : MK M_To_canLift 2 := ⟨gw_t 447 (by decide +kernel) rfl, gw_t 3 (by decide +kernel) rfl, by decide +kernel, by decide⟩
theorem i_To_canLift : Cond.instanceMethod M_To_canLift.1 ∈ e_gw := gw_t 446 (by decide +kernel) rfl
theorem s_To_canLift : Cond.selects M_To_canLift.1.cls M_To_canLift.1 M_To_canLift.1 ∈ e_gw := gw_s 23 (by decide +kernel) rfl
theorem k_Tb_thought : MK M_Tb_thought 2 := ⟨gw_t 451 (by decide +kernel) rfl, gw_t 1 (by decide +kernel) rfl, by decide +kernel, by decide⟩
theorem i_Tb_thought : Cond.instanceMethod M_Tb_thought.1 ∈ e_gw := gw_t 449 (by decide +kernel) rfl
theorem s_Tb_thought : Cond.selects M_Tb_thought.1.cls M_Tb_thought.1 M_Tb_thought.1 ∈ e_gw := gw_t 450 (by decide +kernel) rfl
theorem k_To_hasThought : MK M_To_hasThought 1 := ⟨gw_t 455 (by decide +kernel) rfl, gw_t 3 (by decide +kernel) rfl, by decide +kernel, by decide⟩
theorem i_To_hasThought : Cond.instanceMethod M_To_hasThought.1 ∈ e_gw := gw_t 454 (by decide +kernel) rfl
theorem s_To_hasThought : Cond.selects M_To_hasThought.1.cls M_To_hasThought.1 M_To_hasThought.1 ∈ e_gw := gw_s 24 (by decide +kernel) rfl
theorem k_Tb_begins : MK M_Tb_begins 2 := ⟨gw_t 459 (by decide +kernel) rfl, gw_t 1 (by decide +kernel) rfl, by decide +kernel, by decide⟩
theorem i_Tb_begins : Cond.instanceMethod M_Tb_begins.1 ∈ e_gw := gw_t 457 (by decide +kernel) rfl
theorem s_Tb_begins : Cond.selects M_Tb_begins.1.cls M_Tb_begins.1 M_Tb_begins.1 ∈ e_gw := gw_t 458 (by decide +kernel) rfl
theorem k_Fl_mayBegin : MK M_Fl_mayBegin 2 := ⟨gw_t 463 (by decide +kernel) rfl, gw_t 4 (by decide +kernel) rfl, by decide +kernel, by decide⟩
theorem i_Fl_mayBegin : Cond.instanceMethod M_Fl_mayBegin.1 ∈ e_gw := gw_t 462 (by decide +kernel) rfl
theorem s_Fl_mayBegin : Cond.selects M_Fl_mayBegin.1.cls M_Fl_mayBegin.1 M_Fl_mayBegin.1 ∈ e_gw := gw_s 25 (by decide +kernel) rfl
theorem k_Hi_push : MK M_Hi_push 1 := ⟨gw_t 469 (by decide +kernel) rfl, gw_t 5 (by decide +kernel) rfl, by decide +kernel, by decide⟩
theorem i_Hi_push : Cond.instanceMethod M_Hi_push.1 ∈ e_gw := gw_t 468 (by decide +kernel) rfl
theorem s_Hi_push : Cond.selects M_Hi_push.1.cls M_Hi_push.1 M_Hi_push.1 ∈ e_gw := gw_s 26 (by decide +kernel) rfl
theorem k_Hi_dropOldest : MK M_Hi_dropOldest 0 := ⟨gw_t 473 (by decide +kernel) rfl, gw_t 5 (by decide +kernel) rfl, by decide +kernel, by decide⟩
theorem i_Hi_dropOldest : Cond.instanceMethod M_Hi_dropOldest.1 ∈ e_gw := gw_t 472 (by decide +kernel) rfl
theorem s_Hi_dropOldest : Cond.selects M_Hi_dropOldest.1.cls M_Hi_dropOldest.1 M_Hi_dropOldest.1 ∈ e_gw := gw_s 27 (by decide +kernel) rfl
theorem k_Fl_copyFrom : MK M_Fl_copyFrom 1 := ⟨gw_t 477 (by decide +kernel) rfl, gw_t 4 (by decide +kernel) rfl, by decide +kernel, by decide⟩
theorem i_Fl_copyFrom : Cond.instanceMethod M_Fl_copyFrom.1 ∈ e_gw := gw_t 476 (by decide +kernel) rfl
theorem s_Fl_copyFrom : Cond.selects M_Fl_copyFrom.1.cls M_Fl_copyFrom.1 M_Fl_copyFrom.1 ∈ e_gw := gw_s 28 (by decide +kernel) rfl
theorem k_Fl_begin : MK M_Fl_begin 2 := ⟨gw_t 481 (by decide +kernel) rfl, gw_t 4 (by decide +kernel) rfl, by decide +kernel, by decide⟩
theorem i_Fl_begin : Cond.instanceMethod M_Fl_begin.1 ∈ e_gw := gw_t 480 (by decide +kernel) rfl
theorem s_Fl_begin : Cond.selects M_Fl_begin.1.cls M_Fl_begin.1 M_Fl_begin.1 ∈ e_gw := gw_s 29 (by decide +kernel) rfl
theorem k_Fl_think : MK M_Fl_think 2 := ⟨gw_t 485 (by decide +kernel) rfl, gw_t 4 (by decide +kernel) rfl, by decide +kernel, by decide⟩
theorem i_Fl_think : Cond.instanceMethod M_Fl_think.1 ∈ e_gw := gw_t 484 (by decide +kernel) rfl
theorem s_Fl_think : Cond.selects M_Fl_think.1.cls M_Fl_think.1 M_Fl_think.1 ∈ e_gw := gw_s 30 (by decide +kernel) rfl
theorem k_To_hold : MK M_To_hold 1 := ⟨gw_t 489 (by decide +kernel) rfl, gw_t 3 (by decide +kernel) rfl, by decide +kernel, by decide⟩
theorem i_To_hold : Cond.instanceMethod M_To_hold.1 ∈ e_gw := gw_t 488 (by decide +kernel) rfl
theorem s_To_hold : Cond.selects M_To_hold.1.cls M_To_hold.1 M_To_hold.1 ∈ e_gw := gw_s 31 (by decide +kernel) rfl
theorem k_To_faded : MK M_To_faded 3 := ⟨gw_t 494 (by decide +kernel) rfl, gw_t 3 (by decide +kernel) rfl, by decide +kernel, by decide⟩
theorem i_To_faded : Cond.static M_To_faded.1 ∈ e_gw := gw_t 493 (by decide +kernel) rfl
theorem k_Ma_max : MK M_Ma_max 2 := ⟨gw_t 497 (by decide +kernel) rfl, gw_t 12 (by decide +kernel) rfl, by decide +kernel, by decide⟩
theorem i_Ma_max : Cond.static M_Ma_max.1 ∈ e_gw := gw_t 496 (by decide +kernel) rfl
theorem k_Tb_minutes : MK M_Tb_minutes 1 := ⟨gw_t 501 (by decide +kernel) rfl, gw_t 1 (by decide +kernel) rfl, by decide +kernel, by decide⟩
theorem i_Tb_minutes : Cond.instanceMethod M_Tb_minutes.1 ∈ e_gw := gw_t 499 (by decide +kernel) rfl
theorem s_Tb_minutes : Cond.selects M_Tb_minutes.1.cls M_Tb_minutes.1 M_Tb_minutes.1 ∈ e_gw := gw_t 500 (by decide +kernel) rfl
theorem k_To_passMinutes : MK M_To_passMinutes 2 := ⟨gw_t 505 (by decide +kernel) rfl, gw_t 3 (by decide +kernel) rfl, by decide +kernel, by decide⟩
theorem i_To_passMinutes : Cond.instanceMethod M_To_passMinutes.1 ∈ e_gw := gw_t 504 (by decide +kernel) rfl
theorem s_To_passMinutes : Cond.selects M_To_passMinutes.1.cls M_To_passMinutes.1 M_To_passMinutes.1 ∈ e_gw := gw_s 32 (by decide +kernel) rfl
theorem k_To_passMinute : MK M_To_passMinute 1 := ⟨gw_t 509 (by decide +kernel) rfl, gw_t 3 (by decide +kernel) rfl, by decide +kernel, by decide⟩
theorem i_To_passMinute : Cond.instanceMethod M_To_passMinute.1 ∈ e_gw := gw_t 508 (by decide +kernel) rfl
theorem s_To_passMinute : Cond.selects M_To_passMinute.1.cls M_To_passMinute.1 M_To_passMinute.1 ∈ e_gw := gw_s 33 (by decide +kernel) rfl
theorem k_To_load : MK M_To_load 1 := ⟨gw_t 514 (by decide +kernel) rfl, gw_t 3 (by decide +kernel) rfl, by decide +kernel, by decide⟩
theorem i_To_load : Cond.instanceMethod M_To_load.1 ∈ e_gw := gw_t 513 (by decide +kernel) rfl
theorem s_To_load : Cond.selects M_To_load.1.cls M_To_load.1 M_To_load.1 ∈ e_gw := gw_s 34 (by decide +kernel) rfl
theorem k_Fl_climb : MK M_Fl_climb 1 := ⟨gw_t 519 (by decide +kernel) rfl, gw_t 4 (by decide +kernel) rfl, by decide +kernel, by decide⟩
theorem i_Fl_climb : Cond.instanceMethod M_Fl_climb.1 ∈ e_gw := gw_t 518 (by decide +kernel) rfl
theorem s_Fl_climb : Cond.selects M_Fl_climb.1.cls M_Fl_climb.1 M_Fl_climb.1 ∈ e_gw := gw_s 35 (by decide +kernel) rfl
theorem k_Fl_drift : MK M_Fl_drift 1 := ⟨gw_t 526 (by decide +kernel) rfl, gw_t 4 (by decide +kernel) rfl, by decide +kernel, by decide⟩
theorem i_Fl_drift : Cond.instanceMethod M_Fl_drift.1 ∈ e_gw := gw_t 525 (by decide +kernel) rfl
theorem s_Fl_drift : Cond.selects M_Fl_drift.1.cls M_Fl_drift.1 M_Fl_drift.1 ∈ e_gw := gw_s 36 (by decide +kernel) rfl
theorem k_Tb_enters : MK M_Tb_enters 1 := ⟨gw_t 530 (by decide +kernel) rfl, gw_t 1 (by decide +kernel) rfl, by decide +kernel, by decide⟩
theorem i_Tb_enters : Cond.instanceMethod M_Tb_enters.1 ∈ e_gw := gw_t 528 (by decide +kernel) rfl
theorem s_Tb_enters : Cond.selects M_Tb_enters.1.cls M_Tb_enters.1 M_Tb_enters.1 ∈ e_gw := gw_t 529 (by decide +kernel) rfl
theorem k_Fl_mayBeBoarded : MK M_Fl_mayBeBoarded 0 := ⟨gw_t 534 (by decide +kernel) rfl, gw_t 4 (by decide +kernel) rfl, by decide +kernel, by decide⟩
theorem i_Fl_mayBeBoarded : Cond.instanceMethod M_Fl_mayBeBoarded.1 ∈ e_gw := gw_t 533 (by decide +kernel) rfl
theorem s_Fl_mayBeBoarded : Cond.selects M_Fl_mayBeBoarded.1.cls M_Fl_mayBeBoarded.1 M_Fl_mayBeBoarded.1 ∈ e_gw := gw_s 37 (by decide +kernel) rfl
theorem k_Fl_takeIn : MK M_Fl_takeIn 1 := ⟨gw_t 538 (by decide +kernel) rfl, gw_t 4 (by decide +kernel) rfl, by decide +kernel, by decide⟩
theorem i_Fl_takeIn : Cond.instanceMethod M_Fl_takeIn.1 ∈ e_gw := gw_t 537 (by decide +kernel) rfl
theorem s_Fl_takeIn : Cond.selects M_Fl_takeIn.1.cls M_Fl_takeIn.1 M_Fl_takeIn.1 ∈ e_gw := gw_s 38 (by decide +kernel) rfl
theorem k_In_bitCount : MK M_In_bitCount 1 := ⟨gw_t 541 (by decide +kernel) rfl, gw_t 14 (by decide +kernel) rfl, by decide +kernel, by decide⟩
theorem i_In_bitCount : Cond.static M_In_bitCount.1 ∈ e_gw := gw_t 540 (by decide +kernel) rfl
theorem k_Tb_leaves : MK M_Tb_leaves 1 := ⟨gw_t 548 (by decide +kernel) rfl, gw_t 1 (by decide +kernel) rfl, by decide +kernel, by decide⟩
theorem i_Tb_leaves : Cond.instanceMethod M_Tb_leaves.1 ∈ e_gw := gw_t 546 (by decide +kernel) rfl
theorem s_Tb_leaves : Cond.selects M_Tb_leaves.1.cls M_Tb_leaves.1 M_Tb_leaves.1 ∈ e_gw := gw_t 547 (by decide +kernel) rfl
theorem k_Fl_letOut : MK M_Fl_letOut 1 := ⟨gw_t 552 (by decide +kernel) rfl, gw_t 4 (by decide +kernel) rfl, by decide +kernel, by decide⟩
theorem i_Fl_letOut : Cond.instanceMethod M_Fl_letOut.1 ∈ e_gw := gw_t 551 (by decide +kernel) rfl
theorem s_Fl_letOut : Cond.selects M_Fl_letOut.1.cls M_Fl_letOut.1 M_Fl_letOut.1 ∈ e_gw := gw_s 39 (by decide +kernel) rfl
theorem k_Tb_undo : MK M_Tb_undo 0 := ⟨gw_t 556 (by decide +kernel) rfl, gw_t 1 (by decide +kernel) rfl, by decide +kernel, by decide⟩
theorem i_Tb_undo : Cond.instanceMethod M_Tb_undo.1 ∈ e_gw := gw_t 554 (by decide +kernel) rfl
theorem s_Tb_undo : Cond.selects M_Tb_undo.1.cls M_Tb_undo.1 M_Tb_undo.1 ∈ e_gw := gw_t 555 (by decide +kernel) rfl
theorem k_Hi_pop : MK M_Hi_pop 1 := ⟨gw_t 560 (by decide +kernel) rfl, gw_t 5 (by decide +kernel) rfl, by decide +kernel, by decide⟩
theorem i_Hi_pop : Cond.instanceMethod M_Hi_pop.1 ∈ e_gw := gw_t 559 (by decide +kernel) rfl
theorem s_Hi_pop : Cond.selects M_Hi_pop.1.cls M_Hi_pop.1 M_Hi_pop.1 ∈ e_gw := gw_s 40 (by decide +kernel) rfl
theorem k_Tb_now : MK M_Tb_now 1 := ⟨gw_t 564 (by decide +kernel) rfl, gw_t 1 (by decide +kernel) rfl, by decide +kernel, by decide⟩
theorem i_Tb_now : Cond.instanceMethod M_Tb_now.1 ∈ e_gw := gw_t 562 (by decide +kernel) rfl
theorem s_Tb_now : Cond.selects M_Tb_now.1.cls M_Tb_now.1 M_Tb_now.1 ∈ e_gw := gw_t 563 (by decide +kernel) rfl
theorem k_To_cover : MK M_To_cover 0 := ⟨gw_t 569 (by decide +kernel) rfl, gw_t 3 (by decide +kernel) rfl, by decide +kernel, by decide⟩
theorem i_To_cover : Cond.instanceMethod M_To_cover.1 ∈ e_gw := gw_t 568 (by decide +kernel) rfl
theorem s_To_cover : Cond.selects M_To_cover.1.cls M_To_cover.1 M_To_cover.1 ∈ e_gw := gw_s 41 (by decide +kernel) rfl
theorem k_To_covers : MK M_To_covers 1 := ⟨gw_t 573 (by decide +kernel) rfl, gw_t 3 (by decide +kernel) rfl, by decide +kernel, by decide⟩
theorem i_To_covers : Cond.instanceMethod M_To_covers.1 ∈ e_gw := gw_t 572 (by decide +kernel) rfl
theorem s_To_covers : Cond.selects M_To_covers.1.cls M_To_covers.1 M_To_covers.1 ∈ e_gw := gw_s 42 (by decide +kernel) rfl
theorem k_Tb_after : MK M_Tb_after 2 := ⟨gw_t 579 (by decide +kernel) rfl, gw_t 1 (by decide +kernel) rfl, by decide +kernel, by decide⟩
theorem i_Tb_after : Cond.instanceMethod M_Tb_after.1 ∈ e_gw := gw_t 577 (by decide +kernel) rfl
theorem s_Tb_after : Cond.selects M_Tb_after.1.cls M_Tb_after.1 M_Tb_after.1 ∈ e_gw := gw_t 578 (by decide +kernel) rfl
theorem k_Tb_down : MK M_Tb_down 0 := ⟨gw_t 584 (by decide +kernel) rfl, gw_t 1 (by decide +kernel) rfl, by decide +kernel, by decide⟩
theorem i_Tb_down : Cond.instanceMethod M_Tb_down.1 ∈ e_gw := gw_t 582 (by decide +kernel) rfl
theorem s_Tb_down : Cond.selects M_Tb_down.1.cls M_Tb_down.1 M_Tb_down.1 ∈ e_gw := gw_t 583 (by decide +kernel) rfl
theorem k_Tb_best : MK M_Tb_best 3 := ⟨gw_t 589 (by decide +kernel) rfl, gw_t 1 (by decide +kernel) rfl, by decide +kernel, by decide⟩
theorem i_Tb_best : Cond.instanceMethod M_Tb_best.1 ∈ e_gw := gw_t 587 (by decide +kernel) rfl
theorem s_Tb_best : Cond.selects M_Tb_best.1.cls M_Tb_best.1 M_Tb_best.1 ∈ e_gw := gw_t 588 (by decide +kernel) rfl
theorem k_Se_run : MK M_Se_run 4 := ⟨gw_t 593 (by decide +kernel) rfl, gw_t 6 (by decide +kernel) rfl, by decide +kernel, by decide⟩
theorem i_Se_run : Cond.instanceMethod M_Se_run.1 ∈ e_gw := gw_t 592 (by decide +kernel) rfl
theorem s_Se_run : Cond.selects M_Se_run.1.cls M_Se_run.1 M_Se_run.1 ∈ e_gw := gw_s 43 (by decide +kernel) rfl
theorem k_Se_fillReach : MK M_Se_fillReach 1 := ⟨gw_t 598 (by decide +kernel) rfl, gw_t 6 (by decide +kernel) rfl, by decide +kernel, by decide⟩
theorem i_Se_fillReach : Cond.instanceMethod M_Se_fillReach.1 ∈ e_gw := gw_t 597 (by decide +kernel) rfl
theorem s_Se_fillReach : Cond.selects M_Se_fillReach.1.cls M_Se_fillReach.1 M_Se_fillReach.1 ∈ e_gw := gw_s 44 (by decide +kernel) rfl
theorem k_Se_tryTurns : MK M_Se_tryTurns 2 := ⟨gw_t 606 (by decide +kernel) rfl, gw_t 6 (by decide +kernel) rfl, by decide +kernel, by decide⟩
theorem i_Se_tryTurns : Cond.instanceMethod M_Se_tryTurns.1 ∈ e_gw := gw_t 605 (by decide +kernel) rfl
theorem s_Se_tryTurns : Cond.selects M_Se_tryTurns.1.cls M_Se_tryTurns.1 M_Se_tryTurns.1 ∈ e_gw := gw_s 45 (by decide +kernel) rfl
theorem k_Se_bound : MK M_Se_bound 1 := ⟨gw_t 610 (by decide +kernel) rfl, gw_t 6 (by decide +kernel) rfl, by decide +kernel, by decide⟩
theorem i_Se_bound : Cond.instanceMethod M_Se_bound.1 ∈ e_gw := gw_t 609 (by decide +kernel) rfl
theorem s_Se_bound : Cond.selects M_Se_bound.1.cls M_Se_bound.1 M_Se_bound.1 ∈ e_gw := gw_s 46 (by decide +kernel) rfl
theorem k_Se_tryTurn : MK M_Se_tryTurn 4 := ⟨gw_t 615 (by decide +kernel) rfl, gw_t 6 (by decide +kernel) rfl, by decide +kernel, by decide⟩
theorem i_Se_tryTurn : Cond.instanceMethod M_Se_tryTurn.1 ∈ e_gw := gw_t 614 (by decide +kernel) rfl
theorem s_Se_tryTurn : Cond.selects M_Se_tryTurn.1.cls M_Se_tryTurn.1 M_Se_tryTurn.1 ∈ e_gw := gw_s 47 (by decide +kernel) rfl
theorem k_Tb_own : MK M_Tb_own 1 := ⟨gw_t 622 (by decide +kernel) rfl, gw_t 1 (by decide +kernel) rfl, by decide +kernel, by decide⟩
theorem i_Tb_own : Cond.instanceMethod M_Tb_own.1 ∈ e_gw := gw_t 620 (by decide +kernel) rfl
theorem s_Tb_own : Cond.selects M_Tb_own.1.cls M_Tb_own.1 M_Tb_own.1 ∈ e_gw := gw_t 621 (by decide +kernel) rfl
theorem k_To_firstOwnWay : MK M_To_firstOwnWay 0 := ⟨gw_t 626 (by decide +kernel) rfl, gw_t 3 (by decide +kernel) rfl, by decide +kernel, by decide⟩
theorem i_To_firstOwnWay : Cond.instanceMethod M_To_firstOwnWay.1 ∈ e_gw := gw_t 625 (by decide +kernel) rfl
theorem s_To_firstOwnWay : Cond.selects M_To_firstOwnWay.1.cls M_To_firstOwnWay.1 M_To_firstOwnWay.1 ∈ e_gw := gw_s 48 (by decide +kernel) rfl
theorem k_To_countOwn : MK M_To_countOwn 1 := ⟨gw_t 630 (by decide +kernel) rfl, gw_t 3 (by decide +kernel) rfl, by decide +kernel, by decide⟩
theorem i_To_countOwn : Cond.instanceMethod M_To_countOwn.1 ∈ e_gw := gw_t 629 (by decide +kernel) rfl
theorem s_To_countOwn : Cond.selects M_To_countOwn.1.cls M_To_countOwn.1 M_To_countOwn.1 ∈ e_gw := gw_s 49 (by decide +kernel) rfl
theorem k_To_ownIn : MK M_To_ownIn 2 := ⟨gw_t 634 (by decide +kernel) rfl, gw_t 3 (by decide +kernel) rfl, by decide +kernel, by decide⟩
theorem i_To_ownIn : Cond.instanceMethod M_To_ownIn.1 ∈ e_gw := gw_t 633 (by decide +kernel) rfl
theorem s_To_ownIn : Cond.selects M_To_ownIn.1.cls M_To_ownIn.1 M_To_ownIn.1 ∈ e_gw := gw_s 50 (by decide +kernel) rfl
theorem k_Tb_odds : MK M_Tb_odds 5 := ⟨gw_t 640 (by decide +kernel) rfl, gw_t 1 (by decide +kernel) rfl, by decide +kernel, by decide⟩
theorem i_Tb_odds : Cond.instanceMethod M_Tb_odds.1 ∈ e_gw := gw_t 638 (by decide +kernel) rfl
theorem s_Tb_odds : Cond.selects M_Tb_odds.1.cls M_Tb_odds.1 M_Tb_odds.1 ∈ e_gw := gw_t 639 (by decide +kernel) rfl
theorem k_Od_startAt : MK M_Od_startAt 1 := ⟨gw_t 644 (by decide +kernel) rfl, gw_t 7 (by decide +kernel) rfl, by decide +kernel, by decide⟩
theorem i_Od_startAt : Cond.instanceMethod M_Od_startAt.1 ∈ e_gw := gw_t 643 (by decide +kernel) rfl
theorem s_Od_startAt : Cond.selects M_Od_startAt.1.cls M_Od_startAt.1 M_Od_startAt.1 ∈ e_gw := gw_s 51 (by decide +kernel) rfl
theorem k_Od_spread : MK M_Od_spread 2 := ⟨gw_t 650 (by decide +kernel) rfl, gw_t 7 (by decide +kernel) rfl, by decide +kernel, by decide⟩
theorem i_Od_spread : Cond.instanceMethod M_Od_spread.1 ∈ e_gw := gw_t 649 (by decide +kernel) rfl
theorem s_Od_spread : Cond.selects M_Od_spread.1.cls M_Od_spread.1 M_Od_spread.1 ∈ e_gw := gw_s 52 (by decide +kernel) rfl
theorem k_Od_carry : MK M_Od_carry 2 := ⟨gw_t 655 (by decide +kernel) rfl, gw_t 7 (by decide +kernel) rfl, by decide +kernel, by decide⟩
theorem i_Od_carry : Cond.instanceMethod M_Od_carry.1 ∈ e_gw := gw_t 654 (by decide +kernel) rfl
theorem s_Od_carry : Cond.selects M_Od_carry.1.cls M_Od_carry.1 M_Od_carry.1 ∈ e_gw := gw_s 53 (by decide +kernel) rfl
theorem k_Od_upper : MK M_Od_upper 1 := ⟨gw_t 659 (by decide +kernel) rfl, gw_t 7 (by decide +kernel) rfl, by decide +kernel, by decide⟩
theorem i_Od_upper : Cond.instanceMethod M_Od_upper.1 ∈ e_gw := gw_t 658 (by decide +kernel) rfl
theorem s_Od_upper : Cond.selects M_Od_upper.1.cls M_Od_upper.1 M_Od_upper.1 ∈ e_gw := gw_s 54 (by decide +kernel) rfl
theorem k_Od_common : MK M_Od_common 1 := ⟨gw_t 663 (by decide +kernel) rfl, gw_t 7 (by decide +kernel) rfl, by decide +kernel, by decide⟩
theorem i_Od_common : Cond.instanceMethod M_Od_common.1 ∈ e_gw := gw_t 662 (by decide +kernel) rfl
theorem s_Od_common : Cond.selects M_Od_common.1.cls M_Od_common.1 M_Od_common.1 ∈ e_gw := gw_s 55 (by decide +kernel) rfl
theorem k_Od_lower : MK M_Od_lower 1 := ⟨gw_t 668 (by decide +kernel) rfl, gw_t 7 (by decide +kernel) rfl, by decide +kernel, by decide⟩
theorem i_Od_lower : Cond.instanceMethod M_Od_lower.1 ∈ e_gw := gw_t 667 (by decide +kernel) rfl
theorem s_Od_lower : Cond.selects M_Od_lower.1.cls M_Od_lower.1 M_Od_lower.1 ∈ e_gw := gw_s 56 (by decide +kernel) rfl
theorem k_Tb_saw : MK M_Tb_saw 3 := ⟨gw_t 672 (by decide +kernel) rfl, gw_t 1 (by decide +kernel) rfl, by decide +kernel, by decide⟩
theorem i_Tb_saw : Cond.instanceMethod M_Tb_saw.1 ∈ e_gw := gw_t 670 (by decide +kernel) rfl
theorem s_Tb_saw : Cond.selects M_Tb_saw.1.cls M_Tb_saw.1 M_Tb_saw.1 ∈ e_gw := gw_t 671 (by decide +kernel) rfl
theorem k_Re_add : MK M_Re_add 3 := ⟨gw_t 676 (by decide +kernel) rfl, gw_t 8 (by decide +kernel) rfl, by decide +kernel, by decide⟩
theorem i_Re_add : Cond.instanceMethod M_Re_add.1 ∈ e_gw := gw_t 675 (by decide +kernel) rfl
theorem s_Re_add : Cond.selects M_Re_add.1.cls M_Re_add.1 M_Re_add.1 ∈ e_gw := gw_s 57 (by decide +kernel) rfl
theorem k_Tb_which : MK M_Tb_which 1 := ⟨gw_t 680 (by decide +kernel) rfl, gw_t 1 (by decide +kernel) rfl, by decide +kernel, by decide⟩
theorem i_Tb_which : Cond.instanceMethod M_Tb_which.1 ∈ e_gw := gw_t 678 (by decide +kernel) rfl
theorem s_Tb_which : Cond.selects M_Tb_which.1.cls M_Tb_which.1 M_Tb_which.1 ∈ e_gw := gw_t 679 (by decide +kernel) rfl
theorem k_Tb_fitting : MK M_Tb_fitting 1 := ⟨gw_t 684 (by decide +kernel) rfl, gw_t 1 (by decide +kernel) rfl, by decide +kernel, by decide⟩
theorem i_Tb_fitting : Cond.instanceMethod M_Tb_fitting.1 ∈ e_gw := gw_t 683 (by decide +kernel) rfl
theorem s_Tb_fitting : Cond.selects M_Tb_fitting.1.cls M_Tb_fitting.1 M_Tb_fitting.1 ∈ e_gw := gw_s 58 (by decide +kernel) rfl
theorem k_Tb_fits : MK M_Tb_fits 2 := ⟨gw_t 688 (by decide +kernel) rfl, gw_t 1 (by decide +kernel) rfl, by decide +kernel, by decide⟩
theorem i_Tb_fits : Cond.instanceMethod M_Tb_fits.1 ∈ e_gw := gw_t 687 (by decide +kernel) rfl
theorem s_Tb_fits : Cond.selects M_Tb_fits.1.cls M_Tb_fits.1 M_Tb_fits.1 ∈ e_gw := gw_s 59 (by decide +kernel) rfl
theorem k_Tb_heightLater : MK M_Tb_heightLater 3 := ⟨gw_t 692 (by decide +kernel) rfl, gw_t 1 (by decide +kernel) rfl, by decide +kernel, by decide⟩
theorem i_Tb_heightLater : Cond.instanceMethod M_Tb_heightLater.1 ∈ e_gw := gw_t 691 (by decide +kernel) rfl
theorem s_Tb_heightLater : Cond.selects M_Tb_heightLater.1.cls M_Tb_heightLater.1 M_Tb_heightLater.1 ∈ e_gw := gw_s 60 (by decide +kernel) rfl
theorem k_Tb_look : MK M_Tb_look 1 := ⟨gw_t 697 (by decide +kernel) rfl, gw_t 1 (by decide +kernel) rfl, by decide +kernel, by decide⟩
theorem i_Tb_look : Cond.instanceMethod M_Tb_look.1 ∈ e_gw := gw_t 695 (by decide +kernel) rfl
theorem s_Tb_look : Cond.selects M_Tb_look.1.cls M_Tb_look.1 M_Tb_look.1 ∈ e_gw := gw_t 696 (by decide +kernel) rfl
theorem k_Tb_greatestAlike : MK M_Tb_greatestAlike 3 := ⟨gw_t 701 (by decide +kernel) rfl, gw_t 1 (by decide +kernel) rfl, by decide +kernel, by decide⟩
theorem i_Tb_greatestAlike : Cond.instanceMethod M_Tb_greatestAlike.1 ∈ e_gw := gw_t 700 (by decide +kernel) rfl
theorem s_Tb_greatestAlike : Cond.selects M_Tb_greatestAlike.1.cls M_Tb_greatestAlike.1 M_Tb_greatestAlike.1 ∈ e_gw := gw_s 61 (by decide +kernel) rfl
theorem k_Tb_hears : MK M_Tb_hears 2 := ⟨gw_t 707 (by decide +kernel) rfl, gw_t 1 (by decide +kernel) rfl, by decide +kernel, by decide⟩
theorem i_Tb_hears : Cond.instanceMethod M_Tb_hears.1 ∈ e_gw := gw_t 705 (by decide +kernel) rfl
theorem s_Tb_hears : Cond.selects M_Tb_hears.1.cls M_Tb_hears.1 M_Tb_hears.1 ∈ e_gw := gw_t 706 (by decide +kernel) rfl
theorem k_Tb_laws : MK M_Tb_laws 1 := ⟨gw_t 711 (by decide +kernel) rfl, gw_t 1 (by decide +kernel) rfl, by decide +kernel, by decide⟩
theorem i_Tb_laws : Cond.instanceMethod M_Tb_laws.1 ∈ e_gw := gw_t 709 (by decide +kernel) rfl
theorem s_Tb_laws : Cond.selects M_Tb_laws.1.cls M_Tb_laws.1 M_Tb_laws.1 ∈ e_gw := gw_t 710 (by decide +kernel) rfl
theorem k_Tb_isLaw : MK M_Tb_isLaw 2 := ⟨gw_t 715 (by decide +kernel) rfl, gw_t 1 (by decide +kernel) rfl, by decide +kernel, by decide⟩
theorem i_Tb_isLaw : Cond.instanceMethod M_Tb_isLaw.1 ∈ e_gw := gw_t 714 (by decide +kernel) rfl
theorem s_Tb_isLaw : Cond.selects M_Tb_isLaw.1.cls M_Tb_isLaw.1 M_Tb_isLaw.1 ∈ e_gw := gw_s 62 (by decide +kernel) rfl
theorem k_Tb_forget : MK M_Tb_forget 0 := ⟨gw_t 720 (by decide +kernel) rfl, gw_t 1 (by decide +kernel) rfl, by decide +kernel, by decide⟩
theorem i_Tb_forget : Cond.instanceMethod M_Tb_forget.1 ∈ e_gw := gw_t 718 (by decide +kernel) rfl
theorem s_Tb_forget : Cond.selects M_Tb_forget.1.cls M_Tb_forget.1 M_Tb_forget.1 ∈ e_gw := gw_t 719 (by decide +kernel) rfl
theorem k_Tb_mark : MK M_Tb_mark 2 := ⟨gw_t 724 (by decide +kernel) rfl, gw_t 1 (by decide +kernel) rfl, by decide +kernel, by decide⟩
theorem i_Tb_mark : Cond.instanceMethod M_Tb_mark.1 ∈ e_gw := gw_t 722 (by decide +kernel) rfl
theorem s_Tb_mark : Cond.selects M_Tb_mark.1.cls M_Tb_mark.1 M_Tb_mark.1 ∈ e_gw := gw_t 723 (by decide +kernel) rfl
theorem k_Tb_markLover : MK M_Tb_markLover 1 := ⟨gw_t 728 (by decide +kernel) rfl, gw_t 1 (by decide +kernel) rfl, by decide +kernel, by decide⟩
theorem i_Tb_markLover : Cond.instanceMethod M_Tb_markLover.1 ∈ e_gw := gw_t 727 (by decide +kernel) rfl
theorem s_Tb_markLover : Cond.selects M_Tb_markLover.1.cls M_Tb_markLover.1 M_Tb_markLover.1 ∈ e_gw := gw_s 63 (by decide +kernel) rfl
theorem k_Tb_markOne : MK M_Tb_markOne 1 := ⟨gw_t 733 (by decide +kernel) rfl, gw_t 1 (by decide +kernel) rfl, by decide +kernel, by decide⟩
theorem i_Tb_markOne : Cond.instanceMethod M_Tb_markOne.1 ∈ e_gw := gw_t 732 (by decide +kernel) rfl
theorem s_Tb_markOne : Cond.selects M_Tb_markOne.1.cls M_Tb_markOne.1 M_Tb_markOne.1 ∈ e_gw := gw_s 64 (by decide +kernel) rfl
theorem k_Tb_markGrudge : MK M_Tb_markGrudge 1 := ⟨gw_t 737 (by decide +kernel) rfl, gw_t 1 (by decide +kernel) rfl, by decide +kernel, by decide⟩
theorem i_Tb_markGrudge : Cond.instanceMethod M_Tb_markGrudge.1 ∈ e_gw := gw_t 736 (by decide +kernel) rfl
theorem s_Tb_markGrudge : Cond.selects M_Tb_markGrudge.1.cls M_Tb_markGrudge.1 M_Tb_markGrudge.1 ∈ e_gw := gw_s 65 (by decide +kernel) rfl
theorem k_Tb_markPoet : MK M_Tb_markPoet 1 := ⟨gw_t 742 (by decide +kernel) rfl, gw_t 1 (by decide +kernel) rfl, by decide +kernel, by decide⟩
theorem i_Tb_markPoet : Cond.instanceMethod M_Tb_markPoet.1 ∈ e_gw := gw_t 741 (by decide +kernel) rfl
theorem s_Tb_markPoet : Cond.selects M_Tb_markPoet.1.cls M_Tb_markPoet.1 M_Tb_markPoet.1 ∈ e_gw := gw_s 66 (by decide +kernel) rfl
theorem k_Tb_markMiser : MK M_Tb_markMiser 1 := ⟨gw_t 747 (by decide +kernel) rfl, gw_t 1 (by decide +kernel) rfl, by decide +kernel, by decide⟩
theorem i_Tb_markMiser : Cond.instanceMethod M_Tb_markMiser.1 ∈ e_gw := gw_t 746 (by decide +kernel) rfl
theorem s_Tb_markMiser : Cond.selects M_Tb_markMiser.1.cls M_Tb_markMiser.1 M_Tb_markMiser.1 ∈ e_gw := gw_s 67 (by decide +kernel) rfl
theorem k_Tb_markWife : MK M_Tb_markWife 1 := ⟨gw_t 752 (by decide +kernel) rfl, gw_t 1 (by decide +kernel) rfl, by decide +kernel, by decide⟩
theorem i_Tb_markWife : Cond.instanceMethod M_Tb_markWife.1 ∈ e_gw := gw_t 751 (by decide +kernel) rfl
theorem s_Tb_markWife : Cond.selects M_Tb_markWife.1.cls M_Tb_markWife.1 M_Tb_markWife.1 ∈ e_gw := gw_s 68 (by decide +kernel) rfl
theorem k_Tb_keep : MK M_Tb_keep 1 := ⟨gw_t 757 (by decide +kernel) rfl, gw_t 1 (by decide +kernel) rfl, by decide +kernel, by decide⟩
theorem i_Tb_keep : Cond.instanceMethod M_Tb_keep.1 ∈ e_gw := gw_t 755 (by decide +kernel) rfl
theorem s_Tb_keep : Cond.selects M_Tb_keep.1.cls M_Tb_keep.1 M_Tb_keep.1 ∈ e_gw := gw_t 756 (by decide +kernel) rfl
theorem k_Im_take : MK M_Im_take 2 := ⟨gw_t 761 (by decide +kernel) rfl, gw_t 9 (by decide +kernel) rfl, by decide +kernel, by decide⟩
theorem i_Im_take : Cond.instanceMethod M_Im_take.1 ∈ e_gw := gw_t 760 (by decide +kernel) rfl
theorem s_Im_take : Cond.selects M_Im_take.1.cls M_Im_take.1 M_Im_take.1 ∈ e_gw := gw_s 69 (by decide +kernel) rfl
theorem k_Hi_copyFrom : MK M_Hi_copyFrom 1 := ⟨gw_t 766 (by decide +kernel) rfl, gw_t 5 (by decide +kernel) rfl, by decide +kernel, by decide⟩
theorem i_Hi_copyFrom : Cond.instanceMethod M_Hi_copyFrom.1 ∈ e_gw := gw_t 765 (by decide +kernel) rfl
theorem s_Hi_copyFrom : Cond.selects M_Hi_copyFrom.1.cls M_Hi_copyFrom.1 M_Hi_copyFrom.1 ∈ e_gw := gw_s 70 (by decide +kernel) rfl
theorem k_Tb_back : MK M_Tb_back 1 := ⟨gw_t 770 (by decide +kernel) rfl, gw_t 1 (by decide +kernel) rfl, by decide +kernel, by decide⟩
theorem i_Tb_back : Cond.instanceMethod M_Tb_back.1 ∈ e_gw := gw_t 768 (by decide +kernel) rfl
theorem s_Tb_back : Cond.selects M_Tb_back.1.cls M_Tb_back.1 M_Tb_back.1 ∈ e_gw := gw_t 769 (by decide +kernel) rfl
theorem k_Im_give : MK M_Im_give 2 := ⟨gw_t 774 (by decide +kernel) rfl, gw_t 9 (by decide +kernel) rfl, by decide +kernel, by decide⟩
theorem i_Im_give : Cond.instanceMethod M_Im_give.1 ∈ e_gw := gw_t 773 (by decide +kernel) rfl
theorem s_Im_give : Cond.selects M_Im_give.1.cls M_Im_give.1 M_Im_give.1 ∈ e_gw := gw_s 71 (by decide +kernel) rfl
theorem k_Tb_count : MK M_Tb_count 1 := ⟨gw_t 778 (by decide +kernel) rfl, gw_t 1 (by decide +kernel) rfl, by decide +kernel, by decide⟩
theorem i_Tb_count : Cond.instanceMethod M_Tb_count.1 ∈ e_gw := gw_t 776 (by decide +kernel) rfl
theorem s_Tb_count : Cond.selects M_Tb_count.1.cls M_Tb_count.1 M_Tb_count.1 ∈ e_gw := gw_t 777 (by decide +kernel) rfl
theorem k_Tb_trace : MK M_Tb_trace 0 := ⟨gw_t 782 (by decide +kernel) rfl, gw_t 1 (by decide +kernel) rfl, by decide +kernel, by decide⟩
theorem i_Tb_trace : Cond.instanceMethod M_Tb_trace.1 ∈ e_gw := gw_t 780 (by decide +kernel) rfl
theorem s_Tb_trace : Cond.selects M_Tb_trace.1.cls M_Tb_trace.1 M_Tb_trace.1 ∈ e_gw := gw_t 781 (by decide +kernel) rfl
theorem k_Mo_init : MK M_Mo_init 0 := ⟨gw_t 787 (by decide +kernel) rfl, gw_t 10 (by decide +kernel) rfl, by decide +kernel, by decide⟩
theorem i_Mo_init : Cond.instanceMethod M_Mo_init.1 ∈ e_gw := gw_t 786 (by decide +kernel) rfl
theorem k_Mo_type : MK M_Mo_type 1 := ⟨gw_t 894 (by decide +kernel) rfl, gw_t 10 (by decide +kernel) rfl, by decide +kernel, by decide⟩
theorem i_Mo_type : Cond.instanceMethod M_Mo_type.1 ∈ e_gw := gw_t 892 (by decide +kernel) rfl
theorem s_Mo_type : Cond.selects M_Mo_type.1.cls M_Mo_type.1 M_Mo_type.1 ∈ e_gw := gw_t 893 (by decide +kernel) rfl
theorem k_Mo_in : MK M_Mo_in 3 := ⟨gw_t 897 (by decide +kernel) rfl, gw_t 10 (by decide +kernel) rfl, by decide +kernel, by decide⟩
theorem i_Mo_in : Cond.static M_Mo_in.1 ∈ e_gw := gw_t 896 (by decide +kernel) rfl
theorem k_Mo_clear : MK M_Mo_clear 0 := ⟨gw_t 901 (by decide +kernel) rfl, gw_t 10 (by decide +kernel) rfl, by decide +kernel, by decide⟩
theorem i_Mo_clear : Cond.instanceMethod M_Mo_clear.1 ∈ e_gw := gw_t 899 (by decide +kernel) rfl
theorem s_Mo_clear : Cond.selects M_Mo_clear.1.cls M_Mo_clear.1 M_Mo_clear.1 ∈ e_gw := gw_t 900 (by decide +kernel) rfl
theorem k_Mo_sheds : MK M_Mo_sheds 0 := ⟨gw_t 905 (by decide +kernel) rfl, gw_t 10 (by decide +kernel) rfl, by decide +kernel, by decide⟩
theorem i_Mo_sheds : Cond.instanceMethod M_Mo_sheds.1 ∈ e_gw := gw_t 903 (by decide +kernel) rfl
theorem s_Mo_sheds : Cond.selects M_Mo_sheds.1.cls M_Mo_sheds.1 M_Mo_sheds.1 ∈ e_gw := gw_t 904 (by decide +kernel) rfl
theorem k_Mo_read : MK M_Mo_read 0 := ⟨gw_t 909 (by decide +kernel) rfl, gw_t 10 (by decide +kernel) rfl, by decide +kernel, by decide⟩
theorem i_Mo_read : Cond.instanceMethod M_Mo_read.1 ∈ e_gw := gw_t 908 (by decide +kernel) rfl
theorem s_Mo_read : Cond.selects M_Mo_read.1.cls M_Mo_read.1 M_Mo_read.1 ∈ e_gw := gw_s 72 (by decide +kernel) rfl
theorem k_Mo_step : MK M_Mo_step 0 := ⟨gw_t 913 (by decide +kernel) rfl, gw_t 10 (by decide +kernel) rfl, by decide +kernel, by decide⟩
theorem i_Mo_step : Cond.instanceMethod M_Mo_step.1 ∈ e_gw := gw_t 912 (by decide +kernel) rfl
theorem s_Mo_step : Cond.selects M_Mo_step.1.cls M_Mo_step.1 M_Mo_step.1 ∈ e_gw := gw_s 73 (by decide +kernel) rfl
theorem k_Mo_here : MK M_Mo_here 0 := ⟨gw_t 917 (by decide +kernel) rfl, gw_t 10 (by decide +kernel) rfl, by decide +kernel, by decide⟩
theorem i_Mo_here : Cond.instanceMethod M_Mo_here.1 ∈ e_gw := gw_t 916 (by decide +kernel) rfl
theorem s_Mo_here : Cond.selects M_Mo_here.1.cls M_Mo_here.1 M_Mo_here.1 ∈ e_gw := gw_s 74 (by decide +kernel) rfl
theorem k_Mo_may : MK M_Mo_may 1 := ⟨gw_t 921 (by decide +kernel) rfl, gw_t 10 (by decide +kernel) rfl, by decide +kernel, by decide⟩
theorem i_Mo_may : Cond.instanceMethod M_Mo_may.1 ∈ e_gw := gw_t 920 (by decide +kernel) rfl
theorem s_Mo_may : Cond.selects M_Mo_may.1.cls M_Mo_may.1 M_Mo_may.1 ∈ e_gw := gw_s 75 (by decide +kernel) rfl
theorem k_Mo_due : MK M_Mo_due 1 := ⟨gw_t 925 (by decide +kernel) rfl, gw_t 10 (by decide +kernel) rfl, by decide +kernel, by decide⟩
theorem i_Mo_due : Cond.instanceMethod M_Mo_due.1 ∈ e_gw := gw_t 924 (by decide +kernel) rfl
theorem s_Mo_due : Cond.selects M_Mo_due.1.cls M_Mo_due.1 M_Mo_due.1 ∈ e_gw := gw_s 76 (by decide +kernel) rfl
theorem k_Mo_item : MK M_Mo_item 1 := ⟨gw_t 929 (by decide +kernel) rfl, gw_t 10 (by decide +kernel) rfl, by decide +kernel, by decide⟩
theorem i_Mo_item : Cond.instanceMethod M_Mo_item.1 ∈ e_gw := gw_t 928 (by decide +kernel) rfl
theorem s_Mo_item : Cond.selects M_Mo_item.1.cls M_Mo_item.1 M_Mo_item.1 ∈ e_gw := gw_s 77 (by decide +kernel) rfl
theorem k_Mo_number : MK M_Mo_number 2 := ⟨gw_t 933 (by decide +kernel) rfl, gw_t 10 (by decide +kernel) rfl, by decide +kernel, by decide⟩
theorem i_Mo_number : Cond.instanceMethod M_Mo_number.1 ∈ e_gw := gw_t 932 (by decide +kernel) rfl
theorem s_Mo_number : Cond.selects M_Mo_number.1.cls M_Mo_number.1 M_Mo_number.1 ∈ e_gw := gw_s 78 (by decide +kernel) rfl
theorem k_Mo_wind : MK M_Mo_wind 1 := ⟨gw_t 937 (by decide +kernel) rfl, gw_t 10 (by decide +kernel) rfl, by decide +kernel, by decide⟩
theorem i_Mo_wind : Cond.instanceMethod M_Mo_wind.1 ∈ e_gw := gw_t 935 (by decide +kernel) rfl
theorem s_Mo_wind : Cond.selects M_Mo_wind.1.cls M_Mo_wind.1 M_Mo_wind.1 ∈ e_gw := gw_t 936 (by decide +kernel) rfl
theorem k_Mo_one : MK M_Mo_one 2 := ⟨gw_t 942 (by decide +kernel) rfl, gw_t 10 (by decide +kernel) rfl, by decide +kernel, by decide⟩
theorem i_Mo_one : Cond.instanceMethod M_Mo_one.1 ∈ e_gw := gw_t 940 (by decide +kernel) rfl
theorem s_Mo_one : Cond.selects M_Mo_one.1.cls M_Mo_one.1 M_Mo_one.1 ∈ e_gw := gw_t 941 (by decide +kernel) rfl
theorem k_Mo_isOne : MK M_Mo_isOne 1 := ⟨gw_t 946 (by decide +kernel) rfl, gw_t 10 (by decide +kernel) rfl, by decide +kernel, by decide⟩
theorem i_Mo_isOne : Cond.instanceMethod M_Mo_isOne.1 ∈ e_gw := gw_t 945 (by decide +kernel) rfl
theorem s_Mo_isOne : Cond.selects M_Mo_isOne.1.cls M_Mo_isOne.1 M_Mo_isOne.1 ∈ e_gw := gw_s 79 (by decide +kernel) rfl
theorem k_Mo_has : MK M_Mo_has 2 := ⟨gw_t 949 (by decide +kernel) rfl, gw_t 10 (by decide +kernel) rfl, by decide +kernel, by decide⟩
theorem i_Mo_has : Cond.static M_Mo_has.1 ∈ e_gw := gw_t 948 (by decide +kernel) rfl
theorem k_Mo_liftsOf : MK M_Mo_liftsOf 1 := ⟨gw_t 953 (by decide +kernel) rfl, gw_t 10 (by decide +kernel) rfl, by decide +kernel, by decide⟩
theorem i_Mo_liftsOf : Cond.instanceMethod M_Mo_liftsOf.1 ∈ e_gw := gw_t 952 (by decide +kernel) rfl
theorem s_Mo_liftsOf : Cond.selects M_Mo_liftsOf.1.cls M_Mo_liftsOf.1 M_Mo_liftsOf.1 ∈ e_gw := gw_s 80 (by decide +kernel) rfl
theorem k_Mo_thought : MK M_Mo_thought 2 := ⟨gw_t 957 (by decide +kernel) rfl, gw_t 10 (by decide +kernel) rfl, by decide +kernel, by decide⟩
theorem i_Mo_thought : Cond.instanceMethod M_Mo_thought.1 ∈ e_gw := gw_t 955 (by decide +kernel) rfl
theorem s_Mo_thought : Cond.selects M_Mo_thought.1.cls M_Mo_thought.1 M_Mo_thought.1 ∈ e_gw := gw_t 956 (by decide +kernel) rfl
theorem k_Mo_isThought : MK M_Mo_isThought 1 := ⟨gw_t 961 (by decide +kernel) rfl, gw_t 10 (by decide +kernel) rfl, by decide +kernel, by decide⟩
theorem i_Mo_isThought : Cond.instanceMethod M_Mo_isThought.1 ∈ e_gw := gw_t 960 (by decide +kernel) rfl
theorem s_Mo_isThought : Cond.selects M_Mo_isThought.1.cls M_Mo_isThought.1 M_Mo_isThought.1 ∈ e_gw := gw_s 81 (by decide +kernel) rfl
theorem k_Mo_begins : MK M_Mo_begins 2 := ⟨gw_t 965 (by decide +kernel) rfl, gw_t 10 (by decide +kernel) rfl, by decide +kernel, by decide⟩
theorem i_Mo_begins : Cond.instanceMethod M_Mo_begins.1 ∈ e_gw := gw_t 963 (by decide +kernel) rfl
theorem s_Mo_begins : Cond.selects M_Mo_begins.1.cls M_Mo_begins.1 M_Mo_begins.1 ∈ e_gw := gw_t 964 (by decide +kernel) rfl
theorem k_Mo_canBegin : MK M_Mo_canBegin 3 := ⟨gw_t 968 (by decide +kernel) rfl, gw_t 10 (by decide +kernel) rfl, by decide +kernel, by decide⟩
theorem i_Mo_canBegin : Cond.static M_Mo_canBegin.1 ∈ e_gw := gw_t 967 (by decide +kernel) rfl
theorem k_Mo_know : MK M_Mo_know 0 := ⟨gw_t 972 (by decide +kernel) rfl, gw_t 10 (by decide +kernel) rfl, by decide +kernel, by decide⟩
theorem i_Mo_know : Cond.instanceMethod M_Mo_know.1 ∈ e_gw := gw_t 971 (by decide +kernel) rfl
theorem s_Mo_know : Cond.selects M_Mo_know.1.cls M_Mo_know.1 M_Mo_know.1 ∈ e_gw := gw_s 82 (by decide +kernel) rfl
theorem k_Mo_begin : MK M_Mo_begin 3 := ⟨gw_t 975 (by decide +kernel) rfl, gw_t 10 (by decide +kernel) rfl, by decide +kernel, by decide⟩
theorem i_Mo_begin : Cond.static M_Mo_begin.1 ∈ e_gw := gw_t 974 (by decide +kernel) rfl
theorem k_Mo_hold : MK M_Mo_hold 1 := ⟨gw_t 979 (by decide +kernel) rfl, gw_t 10 (by decide +kernel) rfl, by decide +kernel, by decide⟩
theorem i_Mo_hold : Cond.instanceMethod M_Mo_hold.1 ∈ e_gw := gw_t 978 (by decide +kernel) rfl
theorem s_Mo_hold : Cond.selects M_Mo_hold.1.cls M_Mo_hold.1 M_Mo_hold.1 ∈ e_gw := gw_s 83 (by decide +kernel) rfl
theorem k_Mo_minutes : MK M_Mo_minutes 1 := ⟨gw_t 983 (by decide +kernel) rfl, gw_t 10 (by decide +kernel) rfl, by decide +kernel, by decide⟩
theorem i_Mo_minutes : Cond.instanceMethod M_Mo_minutes.1 ∈ e_gw := gw_t 981 (by decide +kernel) rfl
theorem s_Mo_minutes : Cond.selects M_Mo_minutes.1.cls M_Mo_minutes.1 M_Mo_minutes.1 ∈ e_gw := gw_t 982 (by decide +kernel) rfl
theorem k_Mo_passOn : MK M_Mo_passOn 1 := ⟨gw_t 987 (by decide +kernel) rfl, gw_t 10 (by decide +kernel) rfl, by decide +kernel, by decide⟩
theorem i_Mo_passOn : Cond.instanceMethod M_Mo_passOn.1 ∈ e_gw := gw_t 986 (by decide +kernel) rfl
theorem s_Mo_passOn : Cond.selects M_Mo_passOn.1.cls M_Mo_passOn.1 M_Mo_passOn.1 ∈ e_gw := gw_s 84 (by decide +kernel) rfl
theorem k_Mo_weights : MK M_Mo_weights 1 := ⟨gw_t 991 (by decide +kernel) rfl, gw_t 10 (by decide +kernel) rfl, by decide +kernel, by decide⟩
theorem i_Mo_weights : Cond.instanceMethod M_Mo_weights.1 ∈ e_gw := gw_t 990 (by decide +kernel) rfl
theorem s_Mo_weights : Cond.selects M_Mo_weights.1.cls M_Mo_weights.1 M_Mo_weights.1 ∈ e_gw := gw_s 85 (by decide +kernel) rfl
theorem k_Mo_enters : MK M_Mo_enters 1 := ⟨gw_t 995 (by decide +kernel) rfl, gw_t 10 (by decide +kernel) rfl, by decide +kernel, by decide⟩
theorem i_Mo_enters : Cond.instanceMethod M_Mo_enters.1 ∈ e_gw := gw_t 993 (by decide +kernel) rfl
theorem s_Mo_enters : Cond.selects M_Mo_enters.1.cls M_Mo_enters.1 M_Mo_enters.1 ∈ e_gw := gw_t 994 (by decide +kernel) rfl
theorem k_Mo_isAtRest : MK M_Mo_isAtRest 0 := ⟨gw_t 999 (by decide +kernel) rfl, gw_t 10 (by decide +kernel) rfl, by decide +kernel, by decide⟩
theorem i_Mo_isAtRest : Cond.instanceMethod M_Mo_isAtRest.1 ∈ e_gw := gw_t 998 (by decide +kernel) rfl
theorem s_Mo_isAtRest : Cond.selects M_Mo_isAtRest.1.cls M_Mo_isAtRest.1 M_Mo_isAtRest.1 ∈ e_gw := gw_s 86 (by decide +kernel) rfl
theorem k_Mo_bitsOf : MK M_Mo_bitsOf 1 := ⟨gw_t 1002 (by decide +kernel) rfl, gw_t 10 (by decide +kernel) rfl, by decide +kernel, by decide⟩
theorem i_Mo_bitsOf : Cond.static M_Mo_bitsOf.1 ∈ e_gw := gw_t 1001 (by decide +kernel) rfl
theorem k_Mo_leaves : MK M_Mo_leaves 1 := ⟨gw_t 1006 (by decide +kernel) rfl, gw_t 10 (by decide +kernel) rfl, by decide +kernel, by decide⟩
theorem i_Mo_leaves : Cond.instanceMethod M_Mo_leaves.1 ∈ e_gw := gw_t 1004 (by decide +kernel) rfl
theorem s_Mo_leaves : Cond.selects M_Mo_leaves.1.cls M_Mo_leaves.1 M_Mo_leaves.1 ∈ e_gw := gw_t 1005 (by decide +kernel) rfl
theorem k_Mo_undo : MK M_Mo_undo 0 := ⟨gw_t 1010 (by decide +kernel) rfl, gw_t 10 (by decide +kernel) rfl, by decide +kernel, by decide⟩
theorem i_Mo_undo : Cond.instanceMethod M_Mo_undo.1 ∈ e_gw := gw_t 1008 (by decide +kernel) rfl
theorem s_Mo_undo : Cond.selects M_Mo_undo.1.cls M_Mo_undo.1 M_Mo_undo.1 ∈ e_gw := gw_t 1009 (by decide +kernel) rfl
theorem k_Mo_now : MK M_Mo_now 1 := ⟨gw_t 1014 (by decide +kernel) rfl, gw_t 10 (by decide +kernel) rfl, by decide +kernel, by decide⟩
theorem i_Mo_now : Cond.instanceMethod M_Mo_now.1 ∈ e_gw := gw_t 1012 (by decide +kernel) rfl
theorem s_Mo_now : Cond.selects M_Mo_now.1.cls M_Mo_now.1 M_Mo_now.1 ∈ e_gw := gw_t 1013 (by decide +kernel) rfl
theorem k_Mo_cover : MK M_Mo_cover 0 := ⟨gw_t 1018 (by decide +kernel) rfl, gw_t 10 (by decide +kernel) rfl, by decide +kernel, by decide⟩
theorem i_Mo_cover : Cond.instanceMethod M_Mo_cover.1 ∈ e_gw := gw_t 1017 (by decide +kernel) rfl
theorem s_Mo_cover : Cond.selects M_Mo_cover.1.cls M_Mo_cover.1 M_Mo_cover.1 ∈ e_gw := gw_s 87 (by decide +kernel) rfl
theorem k_Mo_after : MK M_Mo_after 2 := ⟨gw_t 1022 (by decide +kernel) rfl, gw_t 10 (by decide +kernel) rfl, by decide +kernel, by decide⟩
theorem i_Mo_after : Cond.instanceMethod M_Mo_after.1 ∈ e_gw := gw_t 1020 (by decide +kernel) rfl
theorem s_Mo_after : Cond.selects M_Mo_after.1.cls M_Mo_after.1 M_Mo_after.1 ∈ e_gw := gw_t 1021 (by decide +kernel) rfl
theorem k_Mo_take : MK M_Mo_take 0 := ⟨gw_t 1026 (by decide +kernel) rfl, gw_t 10 (by decide +kernel) rfl, by decide +kernel, by decide⟩
theorem i_Mo_take : Cond.instanceMethod M_Mo_take.1 ∈ e_gw := gw_t 1025 (by decide +kernel) rfl
theorem s_Mo_take : Cond.selects M_Mo_take.1.cls M_Mo_take.1 M_Mo_take.1 ∈ e_gw := gw_s 88 (by decide +kernel) rfl
theorem k_Mo_down : MK M_Mo_down 0 := ⟨gw_t 1030 (by decide +kernel) rfl, gw_t 10 (by decide +kernel) rfl, by decide +kernel, by decide⟩
theorem i_Mo_down : Cond.instanceMethod M_Mo_down.1 ∈ e_gw := gw_t 1028 (by decide +kernel) rfl
theorem s_Mo_down : Cond.selects M_Mo_down.1.cls M_Mo_down.1 M_Mo_down.1 ∈ e_gw := gw_t 1029 (by decide +kernel) rfl
theorem k_Mo_best : MK M_Mo_best 3 := ⟨gw_t 1034 (by decide +kernel) rfl, gw_t 10 (by decide +kernel) rfl, by decide +kernel, by decide⟩
theorem i_Mo_best : Cond.instanceMethod M_Mo_best.1 ∈ e_gw := gw_t 1032 (by decide +kernel) rfl
theorem s_Mo_best : Cond.selects M_Mo_best.1.cls M_Mo_best.1 M_Mo_best.1 ∈ e_gw := gw_t 1033 (by decide +kernel) rfl
theorem k_Mo_goBy : MK M_Mo_goBy 4 := ⟨gw_t 1038 (by decide +kernel) rfl, gw_t 10 (by decide +kernel) rfl, by decide +kernel, by decide⟩
theorem i_Mo_goBy : Cond.instanceMethod M_Mo_goBy.1 ∈ e_gw := gw_t 1037 (by decide +kernel) rfl
theorem s_Mo_goBy : Cond.selects M_Mo_goBy.1.cls M_Mo_goBy.1 M_Mo_goBy.1 ∈ e_gw := gw_s 89 (by decide +kernel) rfl
theorem k_Mo_own : MK M_Mo_own 1 := ⟨gw_t 1042 (by decide +kernel) rfl, gw_t 10 (by decide +kernel) rfl, by decide +kernel, by decide⟩
theorem i_Mo_own : Cond.instanceMethod M_Mo_own.1 ∈ e_gw := gw_t 1040 (by decide +kernel) rfl
theorem s_Mo_own : Cond.selects M_Mo_own.1.cls M_Mo_own.1 M_Mo_own.1 ∈ e_gw := gw_t 1041 (by decide +kernel) rfl
theorem k_Mo_odds : MK M_Mo_odds 5 := ⟨gw_t 1046 (by decide +kernel) rfl, gw_t 10 (by decide +kernel) rfl, by decide +kernel, by decide⟩
theorem i_Mo_odds : Cond.instanceMethod M_Mo_odds.1 ∈ e_gw := gw_t 1044 (by decide +kernel) rfl
theorem s_Mo_odds : Cond.selects M_Mo_odds.1.cls M_Mo_odds.1 M_Mo_odds.1 ∈ e_gw := gw_t 1045 (by decide +kernel) rfl
theorem k_Mo_saw : MK M_Mo_saw 3 := ⟨gw_t 1050 (by decide +kernel) rfl, gw_t 10 (by decide +kernel) rfl, by decide +kernel, by decide⟩
theorem i_Mo_saw : Cond.instanceMethod M_Mo_saw.1 ∈ e_gw := gw_t 1048 (by decide +kernel) rfl
theorem s_Mo_saw : Cond.selects M_Mo_saw.1.cls M_Mo_saw.1 M_Mo_saw.1 ∈ e_gw := gw_t 1049 (by decide +kernel) rfl
theorem k_Mo_which : MK M_Mo_which 1 := ⟨gw_t 1054 (by decide +kernel) rfl, gw_t 10 (by decide +kernel) rfl, by decide +kernel, by decide⟩
theorem i_Mo_which : Cond.instanceMethod M_Mo_which.1 ∈ e_gw := gw_t 1052 (by decide +kernel) rfl
theorem s_Mo_which : Cond.selects M_Mo_which.1.cls M_Mo_which.1 M_Mo_which.1 ∈ e_gw := gw_t 1053 (by decide +kernel) rfl
theorem k_Mo_whichBy : MK M_Mo_whichBy 1 := ⟨gw_t 1058 (by decide +kernel) rfl, gw_t 10 (by decide +kernel) rfl, by decide +kernel, by decide⟩
theorem i_Mo_whichBy : Cond.instanceMethod M_Mo_whichBy.1 ∈ e_gw := gw_t 1057 (by decide +kernel) rfl
theorem s_Mo_whichBy : Cond.selects M_Mo_whichBy.1.cls M_Mo_whichBy.1 M_Mo_whichBy.1 ∈ e_gw := gw_s 90 (by decide +kernel) rfl
theorem k_Mo_heightBy : MK M_Mo_heightBy 3 := ⟨gw_t 1062 (by decide +kernel) rfl, gw_t 10 (by decide +kernel) rfl, by decide +kernel, by decide⟩
theorem i_Mo_heightBy : Cond.instanceMethod M_Mo_heightBy.1 ∈ e_gw := gw_t 1061 (by decide +kernel) rfl
theorem s_Mo_heightBy : Cond.selects M_Mo_heightBy.1.cls M_Mo_heightBy.1 M_Mo_heightBy.1 ∈ e_gw := gw_s 91 (by decide +kernel) rfl
theorem k_Mo_look : MK M_Mo_look 1 := ⟨gw_t 1066 (by decide +kernel) rfl, gw_t 10 (by decide +kernel) rfl, by decide +kernel, by decide⟩
theorem i_Mo_look : Cond.instanceMethod M_Mo_look.1 ∈ e_gw := gw_t 1064 (by decide +kernel) rfl
theorem s_Mo_look : Cond.selects M_Mo_look.1.cls M_Mo_look.1 M_Mo_look.1 ∈ e_gw := gw_t 1065 (by decide +kernel) rfl
theorem k_Mo_hears : MK M_Mo_hears 2 := ⟨gw_t 1070 (by decide +kernel) rfl, gw_t 10 (by decide +kernel) rfl, by decide +kernel, by decide⟩
theorem i_Mo_hears : Cond.instanceMethod M_Mo_hears.1 ∈ e_gw := gw_t 1068 (by decide +kernel) rfl
theorem s_Mo_hears : Cond.selects M_Mo_hears.1.cls M_Mo_hears.1 M_Mo_hears.1 ∈ e_gw := gw_t 1069 (by decide +kernel) rfl
theorem k_Mo_laws : MK M_Mo_laws 1 := ⟨gw_t 1074 (by decide +kernel) rfl, gw_t 10 (by decide +kernel) rfl, by decide +kernel, by decide⟩
theorem i_Mo_laws : Cond.instanceMethod M_Mo_laws.1 ∈ e_gw := gw_t 1072 (by decide +kernel) rfl
theorem s_Mo_laws : Cond.selects M_Mo_laws.1.cls M_Mo_laws.1 M_Mo_laws.1 ∈ e_gw := gw_t 1073 (by decide +kernel) rfl
theorem k_Mo_forget : MK M_Mo_forget 0 := ⟨gw_t 1078 (by decide +kernel) rfl, gw_t 10 (by decide +kernel) rfl, by decide +kernel, by decide⟩
theorem i_Mo_forget : Cond.instanceMethod M_Mo_forget.1 ∈ e_gw := gw_t 1076 (by decide +kernel) rfl
theorem s_Mo_forget : Cond.selects M_Mo_forget.1.cls M_Mo_forget.1 M_Mo_forget.1 ∈ e_gw := gw_t 1077 (by decide +kernel) rfl
theorem k_Mo_mark : MK M_Mo_mark 2 := ⟨gw_t 1082 (by decide +kernel) rfl, gw_t 10 (by decide +kernel) rfl, by decide +kernel, by decide⟩
theorem i_Mo_mark : Cond.instanceMethod M_Mo_mark.1 ∈ e_gw := gw_t 1080 (by decide +kernel) rfl
theorem s_Mo_mark : Cond.selects M_Mo_mark.1.cls M_Mo_mark.1 M_Mo_mark.1 ∈ e_gw := gw_t 1081 (by decide +kernel) rfl
theorem k_Mo_bodiesOf : MK M_Mo_bodiesOf 1 := ⟨gw_t 1085 (by decide +kernel) rfl, gw_t 10 (by decide +kernel) rfl, by decide +kernel, by decide⟩
theorem i_Mo_bodiesOf : Cond.static M_Mo_bodiesOf.1 ∈ e_gw := gw_t 1084 (by decide +kernel) rfl
theorem k_Mo_trace : MK M_Mo_trace 0 := ⟨gw_t 1090 (by decide +kernel) rfl, gw_t 10 (by decide +kernel) rfl, by decide +kernel, by decide⟩
theorem i_Mo_trace : Cond.instanceMethod M_Mo_trace.1 ∈ e_gw := gw_t 1088 (by decide +kernel) rfl
theorem s_Mo_trace : Cond.selects M_Mo_trace.1.cls M_Mo_trace.1 M_Mo_trace.1 ∈ e_gw := gw_t 1089 (by decide +kernel) rfl
theorem k_Mo_keep : MK M_Mo_keep 1 := ⟨gw_t 1094 (by decide +kernel) rfl, gw_t 10 (by decide +kernel) rfl, by decide +kernel, by decide⟩
theorem i_Mo_keep : Cond.instanceMethod M_Mo_keep.1 ∈ e_gw := gw_t 1092 (by decide +kernel) rfl
theorem s_Mo_keep : Cond.selects M_Mo_keep.1.cls M_Mo_keep.1 M_Mo_keep.1 ∈ e_gw := gw_t 1093 (by decide +kernel) rfl
theorem k_Mo_back : MK M_Mo_back 1 := ⟨gw_t 1098 (by decide +kernel) rfl, gw_t 10 (by decide +kernel) rfl, by decide +kernel, by decide⟩
theorem i_Mo_back : Cond.instanceMethod M_Mo_back.1 ∈ e_gw := gw_t 1096 (by decide +kernel) rfl
theorem s_Mo_back : Cond.selects M_Mo_back.1.cls M_Mo_back.1 M_Mo_back.1 ∈ e_gw := gw_t 1097 (by decide +kernel) rfl
theorem k_Mo_count : MK M_Mo_count 1 := ⟨gw_t 1102 (by decide +kernel) rfl, gw_t 10 (by decide +kernel) rfl, by decide +kernel, by decide⟩
theorem i_Mo_count : Cond.instanceMethod M_Mo_count.1 ∈ e_gw := gw_t 1100 (by decide +kernel) rfl
theorem s_Mo_count : Cond.selects M_Mo_count.1.cls M_Mo_count.1 M_Mo_count.1 ∈ e_gw := gw_t 1101 (by decide +kernel) rfl
theorem l_La_9 : CL R_La 9 M_Tb_init := Or.inl (gw_t 17 (by decide +kernel) rfl)
theorem ol_Tb_1 : Cond.methodLink R_Tb 1 Lib.objectInit ∈ e_gw := gw_t 20 (by decide +kernel) rfl
theorem ol_Tx_3 : Cond.methodLink R_Tx 3 Lib.objectInit ∈ e_gw := gw_t 28 (by decide +kernel) rfl
theorem ol_To_3 : Cond.methodLink R_To 3 Lib.objectInit ∈ e_gw := gw_t 61 (by decide +kernel) rfl
theorem ol_Fl_3 : Cond.methodLink R_Fl 3 Lib.objectInit ∈ e_gw := gw_t 108 (by decide +kernel) rfl
theorem ol_Hi_3 : Cond.methodLink R_Hi 3 Lib.objectInit ∈ e_gw := gw_t 158 (by decide +kernel) rfl
theorem ol_Se_3 : Cond.methodLink R_Se 3 Lib.objectInit ∈ e_gw := gw_t 177 (by decide +kernel) rfl
theorem ol_Od_3 : Cond.methodLink R_Od 3 Lib.objectInit ∈ e_gw := gw_t 211 (by decide +kernel) rfl
theorem ol_Re_3 : Cond.methodLink R_Re 3 Lib.objectInit ∈ e_gw := gw_t 227 (by decide +kernel) rfl
theorem ol_Im_1 : Cond.methodLink R_Im 1 Lib.objectInit ∈ e_gw := gw_t 249 (by decide +kernel) rfl
theorem l_Tb_82 : CL R_Tb 82 M_Tb_startAnew := Or.inl (gw_t 265 (by decide +kernel) rfl)
theorem l_Fl_21 : CL R_Fl 21 M_Fl_thinkNothing := Or.inl (gw_t 273 (by decide +kernel) rfl)
theorem l_La_13 : CL R_La 13 M_Tb_type := Or.inl (gw_t 321 (by decide +kernel) rfl)
theorem l_Tb_85 : CL R_Tb 85 M_Tb_within := Or.inl (gw_t 325 (by decide +kernel) rfl)
theorem l_La_18 : CL R_La 18 M_Tb_clear := Or.inl (gw_t 332 (by decide +kernel) rfl)
theorem l_La_23 : CL R_La 23 M_Tb_sheds := Or.inl (gw_t 340 (by decide +kernel) rfl)
theorem l_To_40 : CL R_To 40 M_Ar_fill := Or.inl (gw_t 352 (by decide +kernel) rfl)
theorem l_Tx_34 : CL R_Tx 34 M_Tx_readToken := Or.inl (gw_t 355 (by decide +kernel) rfl)
theorem l_Tx_91 : CL R_Tx 91 M_Tx_isLetter := Or.inl (gw_t 359 (by decide +kernel) rfl)
theorem l_Tx_95 : CL R_Tx 95 M_Tx_readLetters := Or.inl (gw_t 362 (by decide +kernel) rfl)
theorem l_Tx_98 : CL R_Tx 98 M_Tx_isDigit := Or.inl (gw_t 366 (by decide +kernel) rfl)
theorem l_Tx_101 : CL R_Tx 101 M_Tx_readNumber := Or.inl (gw_t 369 (by decide +kernel) rfl)
theorem l_Tx_104 : CL R_Tx 104 M_Ma_min := Or.inl (gw_t 373 (by decide +kernel) rfl)
theorem l_Tx_40 : CL R_Tx 40 M_Tx_readItem := Or.inl (gw_t 376 (by decide +kernel) rfl)
theorem l_Tx_47 : CL R_Tx 47 M_Tx_itemBegun := Or.inl (gw_t 380 (by decide +kernel) rfl)
theorem l_Tx_67 : CL R_Tx 67 M_Tx_tell := Or.inl (gw_t 391 (by decide +kernel) rfl)
theorem cp_To_46 : Cond.methodLink R_To 46 arraycopyName ∈ e_gw := gw_t 412 (by decide +kernel) rfl
theorem l_La_27 : CL R_La 27 M_Tb_wind := Or.inl (gw_t 415 (by decide +kernel) rfl)
theorem l_La_31 : CL R_La 31 M_Tb_one := Or.inl (gw_t 424 (by decide +kernel) rfl)
theorem l_To_119 : CL R_To 119 M_To_canLift := Or.inl (gw_t 444 (by decide +kernel) rfl)
theorem l_La_36 : CL R_La 36 M_Tb_thought := Or.inl (gw_t 448 (by decide +kernel) rfl)
theorem l_La_40 : CL R_La 40 M_Tb_begins := Or.inl (gw_t 456 (by decide +kernel) rfl)
theorem l_Fl_43 : CL R_Fl 43 M_Fl_hasAboard := Or.inl (gw_t 464 (by decide +kernel) rfl)
theorem l_Fl_47 : CL R_Fl 47 M_Fl_usedBy := Or.inl (gw_t 465 (by decide +kernel) rfl)
theorem l_Hi_22 : CL R_Hi 22 M_Hi_dropOldest := Or.inl (gw_t 470 (by decide +kernel) rfl)
theorem l_Fl_51 : CL R_Fl 51 M_Fl_think := Or.inl (gw_t 482 (by decide +kernel) rfl)
theorem l_To_76 : CL R_To 76 M_To_hasPerson := Or.inl (gw_t 490 (by decide +kernel) rfl)
theorem l_To_80 : CL R_To 80 M_To_hasThought := Or.inl (gw_t 491 (by decide +kernel) rfl)
theorem l_To_83 : CL R_To 83 M_To_faded := Or.inl (gw_t 492 (by decide +kernel) rfl)
theorem l_To_56 : CL R_To 56 M_Ma_max := Or.inl (gw_t 495 (by decide +kernel) rfl)
theorem l_La_44 : CL R_La 44 M_Tb_minutes := Or.inl (gw_t 498 (by decide +kernel) rfl)
theorem l_To_90 : CL R_To 90 M_To_passMinute := Or.inl (gw_t 506 (by decide +kernel) rfl)
theorem l_To_98 : CL R_To 98 M_To_hold := Or.inl (gw_t 510 (by decide +kernel) rfl)
theorem l_To_102 : CL R_To 102 M_To_load := Or.inl (gw_t 511 (by decide +kernel) rfl)
theorem l_Fl_55 : CL R_Fl 55 M_Ma_min := Or.inl (gw_t 520 (by decide +kernel) rfl)
theorem l_Fl_61 : CL R_Fl 61 M_Ma_max := Or.inl (gw_t 521 (by decide +kernel) rfl)
theorem l_To_112 : CL R_To 112 M_To_windAt := Or.inl (gw_t 522 (by decide +kernel) rfl)
theorem l_La_48 : CL R_La 48 M_Tb_enters := Or.inl (gw_t 527 (by decide +kernel) rfl)
theorem l_Tb_179 : CL R_Tb 179 M_In_bitCount := Or.inl (gw_t 539 (by decide +kernel) rfl)
theorem l_La_52 : CL R_La 52 M_Tb_leaves := Or.inl (gw_t 545 (by decide +kernel) rfl)
theorem l_La_56 : CL R_La 56 M_Tb_undo := Or.inl (gw_t 553 (by decide +kernel) rfl)
theorem l_La_60 : CL R_La 60 M_Tb_now := Or.inl (gw_t 561 (by decide +kernel) rfl)
theorem l_To_123 : CL R_To 123 M_To_covers := Or.inl (gw_t 570 (by decide +kernel) rfl)
theorem l_To_131 : CL R_To 131 M_To_liftsOf := Or.inl (gw_t 574 (by decide +kernel) rfl)
theorem l_To_126 : CL R_To 126 M_In_bitCount := Or.inl (gw_t 575 (by decide +kernel) rfl)
theorem l_La_64 : CL R_La 64 M_Tb_after := Or.inl (gw_t 576 (by decide +kernel) rfl)
theorem l_La_68 : CL R_La 68 M_Tb_down := Or.inl (gw_t 581 (by decide +kernel) rfl)
theorem l_La_72 : CL R_La 72 M_Tb_best := Or.inl (gw_t 586 (by decide +kernel) rfl)
theorem l_Se_30 : CL R_Se 30 M_Ma_min := Or.inl (gw_t 594 (by decide +kernel) rfl)
theorem l_Se_46 : CL R_Se 46 M_Se_fillReach := Or.inl (gw_t 595 (by decide +kernel) rfl)
theorem l_Se_58 : CL R_Se 58 M_Ar_fill := Or.inl (gw_t 599 (by decide +kernel) rfl)
theorem l_Se_70 : CL R_Se 70 M_Ma_max := Or.inl (gw_t 601 (by decide +kernel) rfl)
theorem l_Se_54 : CL R_Se 54 M_Se_tryTurns := Or.inl (gw_t 603 (by decide +kernel) rfl)
theorem l_Se_73 : CL R_Se 73 M_Se_bound := Or.inl (gw_t 607 (by decide +kernel) rfl)
theorem cp_Se_76 : Cond.methodLink R_Se 76 arraycopyName ∈ e_gw := gw_t 611 (by decide +kernel) rfl
theorem l_Se_82 : CL R_Se 82 M_Se_tryTurn := Or.inl (gw_t 612 (by decide +kernel) rfl)
theorem l_La_77 : CL R_La 77 M_Tb_own := Or.inl (gw_t 619 (by decide +kernel) rfl)
theorem l_To_134 : CL R_To 134 M_To_countOwn := Or.inl (gw_t 627 (by decide +kernel) rfl)
theorem l_To_137 : CL R_To 137 M_To_ownIn := Or.inl (gw_t 631 (by decide +kernel) rfl)
theorem l_La_81 : CL R_La 81 M_Tb_odds := Or.inl (gw_t 637 (by decide +kernel) rfl)
theorem l_Od_18 : CL R_Od 18 M_Ar_fill := Or.inl (gw_t 645 (by decide +kernel) rfl)
theorem cp_Od_32 : Cond.methodLink R_Od 32 arraycopyName ∈ e_gw := gw_t 651 (by decide +kernel) rfl
theorem l_Od_38 : CL R_Od 38 M_Od_carry := Or.inl (gw_t 652 (by decide +kernel) rfl)
theorem l_Od_42 : CL R_Od 42 M_Od_common := Or.inl (gw_t 660 (by decide +kernel) rfl)
theorem l_Od_46 : CL R_Od 46 M_Ma_max := Or.inl (gw_t 664 (by decide +kernel) rfl)
theorem l_La_86 : CL R_La 86 M_Tb_saw := Or.inl (gw_t 669 (by decide +kernel) rfl)
theorem l_La_90 : CL R_La 90 M_Tb_which := Or.inl (gw_t 677 (by decide +kernel) rfl)
theorem l_Tb_248 : CL R_Tb 248 M_Tb_fitting := Or.inl (gw_t 681 (by decide +kernel) rfl)
theorem l_Tb_304 : CL R_Tb 304 M_Tb_fits := Or.inl (gw_t 685 (by decide +kernel) rfl)
theorem l_Tb_312 : CL R_Tb 312 M_Tb_heightLater := Or.inl (gw_t 689 (by decide +kernel) rfl)
theorem l_La_94 : CL R_La 94 M_Tb_look := Or.inl (gw_t 694 (by decide +kernel) rfl)
theorem l_Tb_251 : CL R_Tb 251 M_Tb_greatestAlike := Or.inl (gw_t 698 (by decide +kernel) rfl)
theorem l_Tb_321 : CL R_Tb 321 M_Ar_fill := Or.inl (gw_t 702 (by decide +kernel) rfl)
theorem l_Tb_327 : CL R_Tb 327 M_Ma_max := Or.inl (gw_t 703 (by decide +kernel) rfl)
theorem l_La_98 : CL R_La 98 M_Tb_hears := Or.inl (gw_t 704 (by decide +kernel) rfl)
theorem l_La_102 : CL R_La 102 M_Tb_laws := Or.inl (gw_t 708 (by decide +kernel) rfl)
theorem l_Tb_254 : CL R_Tb 254 M_Tb_isLaw := Or.inl (gw_t 712 (by decide +kernel) rfl)
theorem l_La_106 : CL R_La 106 M_Tb_forget := Or.inl (gw_t 717 (by decide +kernel) rfl)
theorem l_La_110 : CL R_La 110 M_Tb_mark := Or.inl (gw_t 721 (by decide +kernel) rfl)
theorem l_Tb_258 : CL R_Tb 258 M_Tb_markLover := Or.inl (gw_t 725 (by decide +kernel) rfl)
theorem l_Tb_273 : CL R_Tb 273 M_Tb_markOne := Or.inl (gw_t 730 (by decide +kernel) rfl)
theorem l_Tb_261 : CL R_Tb 261 M_Tb_markGrudge := Or.inl (gw_t 734 (by decide +kernel) rfl)
theorem l_Tb_264 : CL R_Tb 264 M_Tb_markPoet := Or.inl (gw_t 739 (by decide +kernel) rfl)
theorem l_Tb_267 : CL R_Tb 267 M_Tb_markMiser := Or.inl (gw_t 744 (by decide +kernel) rfl)
theorem l_Tb_270 : CL R_Tb 270 M_Tb_markWife := Or.inl (gw_t 749 (by decide +kernel) rfl)
theorem l_La_114 : CL R_La 114 M_Tb_keep := Or.inl (gw_t 754 (by decide +kernel) rfl)
theorem l_La_118 : CL R_La 118 M_Tb_back := Or.inl (gw_t 767 (by decide +kernel) rfl)
theorem l_La_122 : CL R_La 122 M_Tb_count := Or.inl (gw_t 775 (by decide +kernel) rfl)
theorem l_La_126 : CL R_La 126 M_Tb_trace := Or.inl (gw_t 779 (by decide +kernel) rfl)
theorem l_La_12 : CL R_La 12 M_Mo_init := Or.inl (gw_t 785 (by decide +kernel) rfl)
theorem ol_Mo_1 : Cond.methodLink R_Mo 1 Lib.objectInit ∈ e_gw := gw_t 788 (by decide +kernel) rfl
theorem l_La_17 : CL R_La 17 M_Mo_type := Or.inl (gw_t 891 (by decide +kernel) rfl)
theorem l_Mo_78 : CL R_Mo 78 M_Mo_in := Or.inl (gw_t 895 (by decide +kernel) rfl)
theorem l_La_22 : CL R_La 22 M_Mo_clear := Or.inl (gw_t 898 (by decide +kernel) rfl)
theorem l_La_26 : CL R_La 26 M_Mo_sheds := Or.inl (gw_t 902 (by decide +kernel) rfl)
theorem l_Mo_131 : CL R_Mo 131 M_Mo_read := Or.inl (gw_t 906 (by decide +kernel) rfl)
theorem l_Mo_106 : CL R_Mo 106 M_Mo_step := Or.inl (gw_t 910 (by decide +kernel) rfl)
theorem l_Mo_89 : CL R_Mo 89 M_Mo_here := Or.inl (gw_t 914 (by decide +kernel) rfl)
theorem l_Mo_123 : CL R_Mo 123 M_Mo_may := Or.inl (gw_t 918 (by decide +kernel) rfl)
theorem l_Mo_109 : CL R_Mo 109 M_Mo_due := Or.inl (gw_t 922 (by decide +kernel) rfl)
theorem l_Mo_127 : CL R_Mo 127 M_Mo_item := Or.inl (gw_t 926 (by decide +kernel) rfl)
theorem l_Mo_113 : CL R_Mo 113 M_Mo_number := Or.inl (gw_t 930 (by decide +kernel) rfl)
theorem l_La_30 : CL R_La 30 M_Mo_wind := Or.inl (gw_t 934 (by decide +kernel) rfl)
theorem l_La_35 : CL R_La 35 M_Mo_one := Or.inl (gw_t 939 (by decide +kernel) rfl)
theorem l_Mo_152 : CL R_Mo 152 M_Mo_isOne := Or.inl (gw_t 943 (by decide +kernel) rfl)
theorem l_Mo_140 : CL R_Mo 140 M_Mo_has := Or.inl (gw_t 947 (by decide +kernel) rfl)
theorem l_Mo_155 : CL R_Mo 155 M_Mo_liftsOf := Or.inl (gw_t 950 (by decide +kernel) rfl)
theorem l_La_39 : CL R_La 39 M_Mo_thought := Or.inl (gw_t 954 (by decide +kernel) rfl)
theorem l_Mo_159 : CL R_Mo 159 M_Mo_isThought := Or.inl (gw_t 958 (by decide +kernel) rfl)
theorem l_La_43 : CL R_La 43 M_Mo_begins := Or.inl (gw_t 962 (by decide +kernel) rfl)
theorem l_Mo_162 : CL R_Mo 162 M_Mo_canBegin := Or.inl (gw_t 966 (by decide +kernel) rfl)
theorem l_Mo_166 : CL R_Mo 166 M_Mo_know := Or.inl (gw_t 969 (by decide +kernel) rfl)
theorem l_Mo_169 : CL R_Mo 169 M_Mo_begin := Or.inl (gw_t 973 (by decide +kernel) rfl)
theorem l_Mo_144 : CL R_Mo 144 M_Mo_hold := Or.inl (gw_t 976 (by decide +kernel) rfl)
theorem l_La_47 : CL R_La 47 M_Mo_minutes := Or.inl (gw_t 980 (by decide +kernel) rfl)
theorem l_Mo_173 : CL R_Mo 173 M_Mo_passOn := Or.inl (gw_t 984 (by decide +kernel) rfl)
theorem l_Mo_148 : CL R_Mo 148 M_Mo_weights := Or.inl (gw_t 988 (by decide +kernel) rfl)
theorem l_La_51 : CL R_La 51 M_Mo_enters := Or.inl (gw_t 992 (by decide +kernel) rfl)
theorem l_Mo_177 : CL R_Mo 177 M_Mo_isAtRest := Or.inl (gw_t 996 (by decide +kernel) rfl)
theorem l_Mo_181 : CL R_Mo 181 M_Mo_bitsOf := Or.inl (gw_t 1000 (by decide +kernel) rfl)
theorem l_La_55 : CL R_La 55 M_Mo_leaves := Or.inl (gw_t 1003 (by decide +kernel) rfl)
theorem l_La_59 : CL R_La 59 M_Mo_undo := Or.inl (gw_t 1007 (by decide +kernel) rfl)
theorem l_La_63 : CL R_La 63 M_Mo_now := Or.inl (gw_t 1011 (by decide +kernel) rfl)
theorem l_Mo_184 : CL R_Mo 184 M_Mo_cover := Or.inl (gw_t 1015 (by decide +kernel) rfl)
theorem l_La_67 : CL R_La 67 M_Mo_after := Or.inl (gw_t 1019 (by decide +kernel) rfl)
theorem l_Mo_187 : CL R_Mo 187 M_Mo_take := Or.inl (gw_t 1023 (by decide +kernel) rfl)
theorem l_La_71 : CL R_La 71 M_Mo_down := Or.inl (gw_t 1027 (by decide +kernel) rfl)
theorem l_La_76 : CL R_La 76 M_Mo_best := Or.inl (gw_t 1031 (by decide +kernel) rfl)
theorem l_Mo_190 : CL R_Mo 190 M_Mo_goBy := Or.inl (gw_t 1035 (by decide +kernel) rfl)
theorem l_La_80 : CL R_La 80 M_Mo_own := Or.inl (gw_t 1039 (by decide +kernel) rfl)
theorem l_La_85 : CL R_La 85 M_Mo_odds := Or.inl (gw_t 1043 (by decide +kernel) rfl)
theorem l_La_89 : CL R_La 89 M_Mo_saw := Or.inl (gw_t 1047 (by decide +kernel) rfl)
theorem l_La_93 : CL R_La 93 M_Mo_which := Or.inl (gw_t 1051 (by decide +kernel) rfl)
theorem l_Mo_198 : CL R_Mo 198 M_Mo_whichBy := Or.inl (gw_t 1055 (by decide +kernel) rfl)
theorem l_Mo_194 : CL R_Mo 194 M_Mo_heightBy := Or.inl (gw_t 1059 (by decide +kernel) rfl)
theorem l_La_97 : CL R_La 97 M_Mo_look := Or.inl (gw_t 1063 (by decide +kernel) rfl)
theorem l_La_101 : CL R_La 101 M_Mo_hears := Or.inl (gw_t 1067 (by decide +kernel) rfl)
theorem l_La_105 : CL R_La 105 M_Mo_laws := Or.inl (gw_t 1071 (by decide +kernel) rfl)
theorem l_La_109 : CL R_La 109 M_Mo_forget := Or.inl (gw_t 1075 (by decide +kernel) rfl)
theorem l_La_113 : CL R_La 113 M_Mo_mark := Or.inl (gw_t 1079 (by decide +kernel) rfl)
theorem l_Mo_201 : CL R_Mo 201 M_Mo_bodiesOf := Or.inl (gw_t 1083 (by decide +kernel) rfl)
theorem l_La_130 : CL R_La 130 M_Mo_trace := Or.inl (gw_t 1087 (by decide +kernel) rfl)
theorem l_La_117 : CL R_La 117 M_Mo_keep := Or.inl (gw_t 1091 (by decide +kernel) rfl)
theorem l_La_121 : CL R_La 121 M_Mo_back := Or.inl (gw_t 1095 (by decide +kernel) rfl)
theorem l_La_125 : CL R_La 125 M_Mo_count := Or.inl (gw_t 1099 (by decide +kernel) rfl)
theorem l_Tb_9 : CL R_Tb 9 M_Tx_init := Or.inr ⟨"ThoughtBalloon", nw_t 25 (by decide +kernel) rfl⟩
theorem l_Tb_18 : CL R_Tb 18 M_To_init := Or.inr ⟨"ThoughtBalloon", nw_t 58 (by decide +kernel) rfl⟩
theorem l_Tb_28 : CL R_Tb 28 M_Fl_init := Or.inr ⟨"ThoughtBalloon", nw_t 105 (by decide +kernel) rfl⟩
theorem l_Tb_38 : CL R_Tb 38 M_Hi_init := Or.inr ⟨"ThoughtBalloon", nw_t 155 (by decide +kernel) rfl⟩
theorem l_Hi_21 : CL R_Hi 21 M_Fl_init := Or.inr ⟨"ThoughtBalloon", nw_t 161 (by decide +kernel) rfl⟩
theorem l_Tb_51 : CL R_Tb 51 M_Se_init := Or.inr ⟨"ThoughtBalloon", nw_t 174 (by decide +kernel) rfl⟩
theorem l_Se_29 : CL R_Se 29 M_Fl_init := Or.inr ⟨"ThoughtBalloon", nw_t 181 (by decide +kernel) rfl⟩
theorem l_Tb_58 : CL R_Tb 58 M_Od_init := Or.inr ⟨"ThoughtBalloon", nw_t 208 (by decide +kernel) rfl⟩
theorem l_Tb_65 : CL R_Tb 65 M_Re_init := Or.inr ⟨"ThoughtBalloon", nw_t 224 (by decide +kernel) rfl⟩
theorem l_Tb_81 : CL R_Tb 81 M_Im_init := Or.inr ⟨"ThoughtBalloon", nw_t 246 (by decide +kernel) rfl⟩
theorem l_Im_9 : CL R_Im 9 M_Fl_init := Or.inr ⟨"ThoughtBalloon", nw_t 251 (by decide +kernel) rfl⟩
theorem l_Im_18 : CL R_Im 18 M_Hi_init := Or.inr ⟨"ThoughtBalloon", nw_t 253 (by decide +kernel) rfl⟩
theorem l_Tb_302 : CL R_Tb 302 M_Fl_start := Or.inr ⟨"ThoughtBalloon", nw_t 269 (by decide +kernel) rfl⟩
theorem l_Tb_257 : CL R_Tb 257 M_Re_drop := Or.inr ⟨"ThoughtBalloon", nw_t 277 (by decide +kernel) rfl⟩
theorem l_Tb_89 : CL R_Tb 89 M_Tx_add := Or.inr ⟨"ThoughtBalloon", nw_t 328 (by decide +kernel) rfl⟩
theorem l_Tb_93 : CL R_Tb 93 M_Tx_drop := Or.inr ⟨"ThoughtBalloon", nw_t 336 (by decide +kernel) rfl⟩
theorem l_Tb_97 : CL R_Tb 97 M_Tx_readInto := Or.inr ⟨"ThoughtBalloon", nw_t 344 (by decide +kernel) rfl⟩
theorem l_Tx_22 : CL R_Tx 22 M_To_tellNothing := Or.inr ⟨"ThoughtBalloon", nw_t 348 (by decide +kernel) rfl⟩
theorem l_Tx_63 : CL R_Tx 63 M_Tb_within := Or.inr ⟨"ThoughtBalloon", nw_t 390 (by decide +kernel) rfl⟩
theorem l_Tx_77 : CL R_Tx 77 M_To_tellWind := Or.inr ⟨"ThoughtBalloon", nw_t 395 (by decide +kernel) rfl⟩
theorem l_To_52 : CL R_To 52 M_Tb_within := Or.inr ⟨"ThoughtBalloon", nw_t 399 (by decide +kernel) rfl⟩
theorem l_Tx_81 : CL R_Tx 81 M_To_tellPerson := Or.inr ⟨"ThoughtBalloon", nw_t 400 (by decide +kernel) rfl⟩
theorem l_Tx_85 : CL R_Tx 85 M_To_tellThought := Or.inr ⟨"ThoughtBalloon", nw_t 404 (by decide +kernel) rfl⟩
theorem l_Tb_101 : CL R_Tb 101 M_To_copyFrom := Or.inr ⟨"ThoughtBalloon", nw_t 408 (by decide +kernel) rfl⟩
theorem l_Tb_105 : CL R_Tb 105 M_To_windAt := Or.inr ⟨"ThoughtBalloon", nw_t 419 (by decide +kernel) rfl⟩
theorem l_Tb_109 : CL R_Tb 109 M_To_hasPerson := Or.inr ⟨"ThoughtBalloon", nw_t 428 (by decide +kernel) rfl⟩
theorem l_Tb_119 : CL R_Tb 119 M_Fl_hasAboard := Or.inr ⟨"ThoughtBalloon", nw_t 432 (by decide +kernel) rfl⟩
theorem l_Tb_122 : CL R_Tb 122 M_Fl_usedBy := Or.inr ⟨"ThoughtBalloon", nw_t 436 (by decide +kernel) rfl⟩
theorem l_Tb_125 : CL R_Tb 125 M_To_liftsOf := Or.inr ⟨"ThoughtBalloon", nw_t 440 (by decide +kernel) rfl⟩
theorem l_Tb_128 : CL R_Tb 128 M_To_hasThought := Or.inr ⟨"ThoughtBalloon", nw_t 452 (by decide +kernel) rfl⟩
theorem l_Tb_141 : CL R_Tb 141 M_Fl_mayBegin := Or.inr ⟨"ThoughtBalloon", nw_t 460 (by decide +kernel) rfl⟩
theorem l_Tb_145 : CL R_Tb 145 M_Hi_push := Or.inr ⟨"ThoughtBalloon", nw_t 466 (by decide +kernel) rfl⟩
theorem l_Hi_25 : CL R_Hi 25 M_Fl_copyFrom := Or.inr ⟨"ThoughtBalloon", nw_t 474 (by decide +kernel) rfl⟩
theorem l_Tb_149 : CL R_Tb 149 M_Fl_begin := Or.inr ⟨"ThoughtBalloon", nw_t 478 (by decide +kernel) rfl⟩
theorem l_Tb_153 : CL R_Tb 153 M_To_hold := Or.inr ⟨"ThoughtBalloon", nw_t 486 (by decide +kernel) rfl⟩
theorem l_Tb_161 : CL R_Tb 161 M_To_passMinutes := Or.inr ⟨"ThoughtBalloon", nw_t 502 (by decide +kernel) rfl⟩
theorem l_To_87 : CL R_To 87 M_Fl_hasAboard := Or.inr ⟨"ThoughtBalloon", nw_t 515 (by decide +kernel) rfl⟩
theorem l_To_105 : CL R_To 105 M_Fl_climb := Or.inr ⟨"ThoughtBalloon", nw_t 516 (by decide +kernel) rfl⟩
theorem l_To_116 : CL R_To 116 M_Fl_drift := Or.inr ⟨"ThoughtBalloon", nw_t 523 (by decide +kernel) rfl⟩
theorem l_Tb_168 : CL R_Tb 168 M_Fl_mayBeBoarded := Or.inr ⟨"ThoughtBalloon", nw_t 531 (by decide +kernel) rfl⟩
theorem l_Tb_172 : CL R_Tb 172 M_Fl_takeIn := Or.inr ⟨"ThoughtBalloon", nw_t 535 (by decide +kernel) rfl⟩
theorem l_Tb_184 : CL R_Tb 184 M_Fl_letOut := Or.inr ⟨"ThoughtBalloon", nw_t 549 (by decide +kernel) rfl⟩
theorem l_Tb_190 : CL R_Tb 190 M_Hi_pop := Or.inr ⟨"ThoughtBalloon", nw_t 557 (by decide +kernel) rfl⟩
theorem l_Tb_202 : CL R_Tb 202 M_To_load := Or.inr ⟨"ThoughtBalloon", nw_t 565 (by decide +kernel) rfl⟩
theorem l_Tb_205 : CL R_Tb 205 M_To_cover := Or.inr ⟨"ThoughtBalloon", nw_t 566 (by decide +kernel) rfl⟩
theorem l_Tb_208 : CL R_Tb 208 M_Fl_copyFrom := Or.inr ⟨"ThoughtBalloon", nw_t 580 (by decide +kernel) rfl⟩
theorem l_Tb_210 : CL R_Tb 210 M_To_passMinute := Or.inr ⟨"ThoughtBalloon", nw_t 585 (by decide +kernel) rfl⟩
theorem l_Tb_213 : CL R_Tb 213 M_Se_run := Or.inr ⟨"ThoughtBalloon", nw_t 590 (by decide +kernel) rfl⟩
theorem l_Se_64 : CL R_Se 64 M_To_windAt := Or.inr ⟨"ThoughtBalloon", nw_t 600 (by decide +kernel) rfl⟩
theorem l_Se_50 : CL R_Se 50 M_Fl_copyFrom := Or.inr ⟨"ThoughtBalloon", nw_t 602 (by decide +kernel) rfl⟩
theorem l_Se_100 : CL R_Se 100 M_Fl_begin := Or.inr ⟨"ThoughtBalloon", nw_t 616 (by decide +kernel) rfl⟩
theorem l_Se_104 : CL R_Se 104 M_To_passMinute := Or.inr ⟨"ThoughtBalloon", nw_t 617 (by decide +kernel) rfl⟩
theorem l_Se_96 : CL R_Se 96 M_Fl_mayBegin := Or.inr ⟨"ThoughtBalloon", nw_t 618 (by decide +kernel) rfl⟩
theorem l_Tb_223 : CL R_Tb 223 M_To_firstOwnWay := Or.inr ⟨"ThoughtBalloon", nw_t 623 (by decide +kernel) rfl⟩
theorem l_Tb_226 : CL R_Tb 226 M_To_countOwn := Or.inr ⟨"ThoughtBalloon", nw_t 635 (by decide +kernel) rfl⟩
theorem l_Tb_229 : CL R_Tb 229 M_To_ownIn := Or.inr ⟨"ThoughtBalloon", nw_t 636 (by decide +kernel) rfl⟩
theorem l_Tb_233 : CL R_Tb 233 M_Od_startAt := Or.inr ⟨"ThoughtBalloon", nw_t 641 (by decide +kernel) rfl⟩
theorem l_Od_24 : CL R_Od 24 M_Tb_within := Or.inr ⟨"ThoughtBalloon", nw_t 646 (by decide +kernel) rfl⟩
theorem l_Tb_236 : CL R_Tb 236 M_Od_spread := Or.inr ⟨"ThoughtBalloon", nw_t 647 (by decide +kernel) rfl⟩
theorem l_Tb_239 : CL R_Tb 239 M_Od_upper := Or.inr ⟨"ThoughtBalloon", nw_t 656 (by decide +kernel) rfl⟩
theorem l_Tb_242 : CL R_Tb 242 M_Od_lower := Or.inr ⟨"ThoughtBalloon", nw_t 665 (by decide +kernel) rfl⟩
theorem l_Tb_245 : CL R_Tb 245 M_Re_add := Or.inr ⟨"ThoughtBalloon", nw_t 673 (by decide +kernel) rfl⟩
theorem l_Tb_318 : CL R_Tb 318 M_Fl_think := Or.inr ⟨"ThoughtBalloon", nw_t 693 (by decide +kernel) rfl⟩
theorem l_Tb_332 : CL R_Tb 332 M_To_faded := Or.inr ⟨"ThoughtBalloon", nw_t 716 (by decide +kernel) rfl⟩
theorem l_Tb_276 : CL R_Tb 276 M_Im_take := Or.inr ⟨"ThoughtBalloon", nw_t 758 (by decide +kernel) rfl⟩
theorem l_Im_27 : CL R_Im 27 M_Fl_copyFrom := Or.inr ⟨"ThoughtBalloon", nw_t 762 (by decide +kernel) rfl⟩
theorem l_Im_31 : CL R_Im 31 M_Hi_copyFrom := Or.inr ⟨"ThoughtBalloon", nw_t 763 (by decide +kernel) rfl⟩
theorem l_Tb_283 : CL R_Tb 283 M_Im_give := Or.inr ⟨"ThoughtBalloon", nw_t 771 (by decide +kernel) rfl⟩
theorem cl_La_7 : Cond.classLink R_La 7 R_Tb ∈ e_gw := gw_t 15 (by decide +kernel) rfl
theorem cl_Tb_7 : Cond.classLink R_Tb 7 R_Tx ∈ e_gw := gw_t 23 (by decide +kernel) rfl
theorem cl_Tb_16 : Cond.classLink R_Tb 16 R_To ∈ e_gw := gw_t 56 (by decide +kernel) rfl
theorem cl_Tb_26 : Cond.classLink R_Tb 26 R_Fl ∈ e_gw := gw_t 103 (by decide +kernel) rfl
theorem cl_Tb_36 : Cond.classLink R_Tb 36 R_Hi ∈ e_gw := gw_t 153 (by decide +kernel) rfl
theorem cl_Hi_9 : Cond.classLink R_Hi 9 R_Fl ∈ e_gw := gw_t 159 (by decide +kernel) rfl
theorem cl_Tb_43 : Cond.classLink R_Tb 43 R_Im ∈ e_gw := gw_t 170 (by decide +kernel) rfl
theorem cl_Tb_49 : Cond.classLink R_Tb 49 R_Se ∈ e_gw := gw_t 172 (by decide +kernel) rfl
theorem cl_Se_9 : Cond.classLink R_Se 9 R_Fl ∈ e_gw := gw_t 178 (by decide +kernel) rfl
theorem cl_Se_24 : Cond.classLink R_Se 24 "[[I" ∈ e_gw := gw_t 179 (by decide +kernel) rfl
theorem cl_Tb_56 : Cond.classLink R_Tb 56 R_Od ∈ e_gw := gw_t 206 (by decide +kernel) rfl
theorem cl_Tb_63 : Cond.classLink R_Tb 63 R_Re ∈ e_gw := gw_t 222 (by decide +kernel) rfl
theorem cl_Im_7 : Cond.classLink R_Im 7 R_Fl ∈ e_gw := gw_t 250 (by decide +kernel) rfl
theorem cl_Im_16 : Cond.classLink R_Im 16 R_Hi ∈ e_gw := gw_t 252 (by decide +kernel) rfl
theorem cl_La_10 : Cond.classLink R_La 10 R_Mo ∈ e_gw := gw_t 783 (by decide +kernel) rfl
theorem in_Tb : Cond.instantiable R_Tb 13 ∈ e_gw := gw_t 16 (by decide +kernel) rfl
theorem in_Tx : Cond.instantiable R_Tx 8 ∈ e_gw := gw_t 24 (by decide +kernel) rfl
theorem in_To : Cond.instantiable R_To 9 ∈ e_gw := gw_t 57 (by decide +kernel) rfl
theorem in_Fl : Cond.instantiable R_Fl 9 ∈ e_gw := gw_t 104 (by decide +kernel) rfl
theorem in_Hi : Cond.instantiable R_Hi 2 ∈ e_gw := gw_t 154 (by decide +kernel) rfl
theorem in_Se : Cond.instantiable R_Se 7 ∈ e_gw := gw_t 173 (by decide +kernel) rfl
theorem in_Od : Cond.instantiable R_Od 3 ∈ e_gw := gw_t 207 (by decide +kernel) rfl
theorem in_Re : Cond.instantiable R_Re 4 ∈ e_gw := gw_t 223 (by decide +kernel) rfl
theorem in_Im : Cond.instantiable R_Im 3 ∈ e_gw := gw_t 245 (by decide +kernel) rfl
theorem in_Mo : Cond.instantiable R_Mo 33 ∈ e_gw := gw_t 784 (by decide +kernel) rfl
theorem it_Fl : Cond.initialized R_Fl ∈ e_gw := gw_t 4 (by decide +kernel) rfl
theorem it_Hi : Cond.initialized R_Hi ∈ e_gw := gw_t 5 (by decide +kernel) rfl
theorem it_Im : Cond.initialized R_Im ∈ e_gw := gw_t 9 (by decide +kernel) rfl
theorem it_Od : Cond.initialized R_Od ∈ e_gw := gw_t 7 (by decide +kernel) rfl
theorem it_Re : Cond.initialized R_Re ∈ e_gw := gw_t 8 (by decide +kernel) rfl
theorem it_Se : Cond.initialized R_Se ∈ e_gw := gw_t 6 (by decide +kernel) rfl
theorem it_Tx : Cond.initialized R_Tx ∈ e_gw := gw_t 2 (by decide +kernel) rfl
theorem it_To : Cond.initialized R_To ∈ e_gw := gw_t 3 (by decide +kernel) rfl
theorem it_Tb : Cond.initialized R_Tb ∈ e_gw := gw_t 1 (by decide +kernel) rfl
theorem it_Mo : Cond.initialized R_Mo ∈ e_gw := gw_t 10 (by decide +kernel) rfl
theorem ck_Tb_108 : Cond.constant R_Tb 108 (-1000000) ∈ e_gw := gw_t 423 (by decide +kernel) rfl
theorem ck_In_265 : Cond.constant R_In 265 (1431655765) ∈ e_gw := gw_t 542 (by decide +kernel) rfl
theorem ck_In_266 : Cond.constant R_In 266 (858993459) ∈ e_gw := gw_t 543 (by decide +kernel) rfl
theorem ck_In_267 : Cond.constant R_In 267 (252645135) ∈ e_gw := gw_t 544 (by decide +kernel) rfl
theorem ck_Mo_151 : Cond.constant R_Mo 151 (-1000000) ∈ e_gw := gw_t 938 (by decide +kernel) rfl
theorem ck_Tb_335 : Cond.constantLong R_Tb 335 (10) ∈ e_gw := gw_t 729 (by decide +kernel) rfl
theorem ck_Tb_337 : Cond.constantLong R_Tb 337 (100) ∈ e_gw := gw_t 738 (by decide +kernel) rfl
theorem ck_Tb_339 : Cond.constantLong R_Tb 339 (1000) ∈ e_gw := gw_t 743 (by decide +kernel) rfl
theorem ck_Tb_341 : Cond.constantLong R_Tb 341 (10000) ∈ e_gw := gw_t 748 (by decide +kernel) rfl
theorem ck_Tb_343 : Cond.constantLong R_Tb 343 (100000) ∈ e_gw := gw_t 753 (by decide +kernel) rfl
theorem ck_Mo_208 : Cond.constantLong R_Mo 208 (10) ∈ e_gw := gw_t 1086 (by decide +kernel) rfl
theorem ac_int : Cond.arrayClass .int ∈ e_gw := gw_t 55 (by decide +kernel) rfl
theorem ac_byte : Cond.arrayClass .byte ∈ e_gw := gw_t 889 (by decide +kernel) rfl
theorem ac_boolean : Cond.arrayClass .boolean ∈ e_gw := gw_t 890 (by decide +kernel) rfl
theorem oi_i : Cond.instanceMethod Lib.objectInit ∈ e_gw := gw_t 21 (by decide +kernel) rfl
theorem oi_c : Cond.code Lib.objectInit ⟨#[0xb1]⟩ 1 none ∈ e_gw := gw_t 22 (by decide +kernel) rfl
theorem cp_w : Cond.native arraycopyName ∈ e_gw ∧ Cond.static arraycopyName ∈ e_gw ∧ Cond.initialized "java/lang/System" ∈ e_gw := ⟨gw_t 414 (by decide +kernel) rfl, gw_t 413 (by decide +kernel) rfl, gw_t 13 (by decide +kernel) rfl⟩
