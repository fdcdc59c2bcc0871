/-! the switches, one by one -/
section SW
variable {X : EX} {d : Nat} {ls st : List Value} {h : AH} {Q : Option Value → AH → Prop} {x : Int32}
theorem sw_Tx_itemBegun_15 (k0 : x = 112 → T X d M_Tx_itemBegun 66 ls st h Q) (k1 : x = 116 → T X d M_Tx_itemBegun 81 ls st h Q) (k2 : x = 119 → T X d M_Tx_itemBegun 64 ls st h Q) (k3 : x = 120 → T X d M_Tx_itemBegun 96 ls st h Q) (kd : ¬ x = 112 → ¬ x = 116 → ¬ x = 119 → ¬ x = 120 → T X d M_Tx_itemBegun 110 ls st h Q) : T X d M_Tx_itemBegun 15 ls (.int x :: st) h Q := by
  by_cases h112 : x = 112
  · subst h112; exact T_tableIn (off := 51) d_Tx_itemBegun_15 (by decide) (by decide) rfl (by decide) (k0 rfl)
  by_cases h113 : x = 113
  · subst h113; exact T_tableIn (off := 95) d_Tx_itemBegun_15 (by decide) (by decide) rfl (by decide) (kd (by decide) (by decide) (by decide) (by decide))
  by_cases h114 : x = 114
  · subst h114; exact T_tableIn (off := 95) d_Tx_itemBegun_15 (by decide) (by decide) rfl (by decide) (kd (by decide) (by decide) (by decide) (by decide))
  by_cases h115 : x = 115
  · subst h115; exact T_tableIn (off := 95) d_Tx_itemBegun_15 (by decide) (by decide) rfl (by decide) (kd (by decide) (by decide) (by decide) (by decide))
  by_cases h116 : x = 116
  · subst h116; exact T_tableIn (off := 66) d_Tx_itemBegun_15 (by decide) (by decide) rfl (by decide) (k1 rfl)
  by_cases h117 : x = 117
  · subst h117; exact T_tableIn (off := 95) d_Tx_itemBegun_15 (by decide) (by decide) rfl (by decide) (kd (by decide) (by decide) (by decide) (by decide))
  by_cases h118 : x = 118
  · subst h118; exact T_tableIn (off := 95) d_Tx_itemBegun_15 (by decide) (by decide) rfl (by decide) (kd (by decide) (by decide) (by decide) (by decide))
  by_cases h119 : x = 119
  · subst h119; exact T_tableIn (off := 49) d_Tx_itemBegun_15 (by decide) (by decide) rfl (by decide) (k2 rfl)
  by_cases h120 : x = 120
  · subst h120; exact T_tableIn (off := 81) d_Tx_itemBegun_15 (by decide) (by decide) rfl (by decide) (k3 rfl)
  have nh112 : ¬ x.toInt = 112 := fun q => h112 (Int32.toInt_inj.mp (q.trans (by decide)))
  have nh113 : ¬ x.toInt = 113 := fun q => h113 (Int32.toInt_inj.mp (q.trans (by decide)))
  have nh114 : ¬ x.toInt = 114 := fun q => h114 (Int32.toInt_inj.mp (q.trans (by decide)))
  have nh115 : ¬ x.toInt = 115 := fun q => h115 (Int32.toInt_inj.mp (q.trans (by decide)))
  have nh116 : ¬ x.toInt = 116 := fun q => h116 (Int32.toInt_inj.mp (q.trans (by decide)))
  have nh117 : ¬ x.toInt = 117 := fun q => h117 (Int32.toInt_inj.mp (q.trans (by decide)))
  have nh118 : ¬ x.toInt = 118 := fun q => h118 (Int32.toInt_inj.mp (q.trans (by decide)))
  have nh119 : ¬ x.toInt = 119 := fun q => h119 (Int32.toInt_inj.mp (q.trans (by decide)))
  have nh120 : ¬ x.toInt = 120 := fun q => h120 (Int32.toInt_inj.mp (q.trans (by decide)))
  exact T_tableOut d_Tx_itemBegun_15 (by omega) (by decide) (kd h112 h116 h119 h120)
theorem sw_Tx_tell_1 (k0 : x = 0 → T X d M_Tx_tell 28 ls st h Q) (k1 : x = 1 → T X d M_Tx_tell 47 ls st h Q) (k2 : x = 2 → T X d M_Tx_tell 72 ls st h Q) (kd : ¬ x = 0 → ¬ x = 1 → ¬ x = 2 → T X d M_Tx_tell 91 ls st h Q) : T X d M_Tx_tell 1 ls (.int x :: st) h Q := by
  by_cases h0 : x = 0
  · subst h0; exact T_tableIn (off := 27) d_Tx_tell_1 (by decide) (by decide) rfl (by decide) (k0 rfl)
  by_cases h1 : x = 1
  · subst h1; exact T_tableIn (off := 46) d_Tx_tell_1 (by decide) (by decide) rfl (by decide) (k1 rfl)
  by_cases h2 : x = 2
  · subst h2; exact T_tableIn (off := 71) d_Tx_tell_1 (by decide) (by decide) rfl (by decide) (k2 rfl)
  have nh0 : ¬ x.toInt = 0 := fun q => h0 (Int32.toInt_inj.mp (q.trans (by decide)))
  have nh1 : ¬ x.toInt = 1 := fun q => h1 (Int32.toInt_inj.mp (q.trans (by decide)))
  have nh2 : ¬ x.toInt = 2 := fun q => h2 (Int32.toInt_inj.mp (q.trans (by decide)))
  exact T_tableOut d_Tx_tell_1 (by omega) (by decide) (kd h0 h1 h2)
theorem sw_Tb_one_14 (k0 : x = 0 → T X d M_Tb_one 48 ls st h Q) (k1 : x = 1 → T X d M_Tb_one 58 ls st h Q) (k2 : x = 2 → T X d M_Tb_one 68 ls st h Q) (k3 : x = 3 → T X d M_Tb_one 85 ls st h Q) (k4 : x = 4 → T X d M_Tb_one 94 ls st h Q) (kd : ¬ x = 0 → ¬ x = 1 → ¬ x = 2 → ¬ x = 3 → ¬ x = 4 → T X d M_Tb_one 103 ls st h Q) : T X d M_Tb_one 14 ls (.int x :: st) h Q := by
  by_cases h0 : x = 0
  · subst h0; exact T_tableIn (off := 34) d_Tb_one_14 (by decide) (by decide) rfl (by decide) (k0 rfl)
  by_cases h1 : x = 1
  · subst h1; exact T_tableIn (off := 44) d_Tb_one_14 (by decide) (by decide) rfl (by decide) (k1 rfl)
  by_cases h2 : x = 2
  · subst h2; exact T_tableIn (off := 54) d_Tb_one_14 (by decide) (by decide) rfl (by decide) (k2 rfl)
  by_cases h3 : x = 3
  · subst h3; exact T_tableIn (off := 71) d_Tb_one_14 (by decide) (by decide) rfl (by decide) (k3 rfl)
  by_cases h4 : x = 4
  · subst h4; exact T_tableIn (off := 80) d_Tb_one_14 (by decide) (by decide) rfl (by decide) (k4 rfl)
  have nh0 : ¬ x.toInt = 0 := fun q => h0 (Int32.toInt_inj.mp (q.trans (by decide)))
  have nh1 : ¬ x.toInt = 1 := fun q => h1 (Int32.toInt_inj.mp (q.trans (by decide)))
  have nh2 : ¬ x.toInt = 2 := fun q => h2 (Int32.toInt_inj.mp (q.trans (by decide)))
  have nh3 : ¬ x.toInt = 3 := fun q => h3 (Int32.toInt_inj.mp (q.trans (by decide)))
  have nh4 : ¬ x.toInt = 4 := fun q => h4 (Int32.toInt_inj.mp (q.trans (by decide)))
  exact T_tableOut d_Tb_one_14 (by omega) (by decide) (kd h0 h1 h2 h3 h4)
theorem sw_Tb_thought_14 (k0 : x = 0 → T X d M_Tb_thought 40 ls st h Q) (k1 : x = 1 → T X d M_Tb_thought 50 ls st h Q) (kd : ¬ x = 0 → ¬ x = 1 → T X d M_Tb_thought 60 ls st h Q) : T X d M_Tb_thought 14 ls (.int x :: st) h Q := by
  by_cases h0 : x = 0
  · subst h0; exact T_lookup (off := 26) d_Tb_thought_14 (by decide) (by decide) (by decide) (k0 rfl)
  by_cases h1 : x = 1
  · subst h1; exact T_lookup (off := 36) d_Tb_thought_14 (by decide) (by decide) (by decide) (k1 rfl)
  exact T_lookup (off := 46) d_Tb_thought_14 (by decide) (by show Op.lookupswitch.offset [(0, 26), (1, 36)] 46 x.toInt = 46; rw [lv_osw h0 (by decide), lv_osw h1 (by decide)]; rfl) (by decide) (kd h0 h1)
theorem sw_Tb_now_1 (k0 : x = 0 → T X d M_Tb_now 52 ls st h Q) (k1 : x = 1 → T X d M_Tb_now 60 ls st h Q) (k2 : x = 2 → T X d M_Tb_now 68 ls st h Q) (k3 : x = 3 → T X d M_Tb_now 76 ls st h Q) (k4 : x = 4 → T X d M_Tb_now 84 ls st h Q) (k5 : x = 5 → T X d M_Tb_now 92 ls st h Q) (k6 : x = 6 → T X d M_Tb_now 104 ls st h Q) (k7 : x = 7 → T X d M_Tb_now 116 ls st h Q) (k8 : x = 8 → T X d M_Tb_now 132 ls st h Q) (kd : ¬ x = 0 → ¬ x = 1 → ¬ x = 2 → ¬ x = 3 → ¬ x = 4 → ¬ x = 5 → ¬ x = 6 → ¬ x = 7 → ¬ x = 8 → T X d M_Tb_now 140 ls st h Q) : T X d M_Tb_now 1 ls (.int x :: st) h Q := by
  by_cases h0 : x = 0
  · subst h0; exact T_tableIn (off := 51) d_Tb_now_1 (by decide) (by decide) rfl (by decide) (k0 rfl)
  by_cases h1 : x = 1
  · subst h1; exact T_tableIn (off := 59) d_Tb_now_1 (by decide) (by decide) rfl (by decide) (k1 rfl)
  by_cases h2 : x = 2
  · subst h2; exact T_tableIn (off := 67) d_Tb_now_1 (by decide) (by decide) rfl (by decide) (k2 rfl)
  by_cases h3 : x = 3
  · subst h3; exact T_tableIn (off := 75) d_Tb_now_1 (by decide) (by decide) rfl (by decide) (k3 rfl)
  by_cases h4 : x = 4
  · subst h4; exact T_tableIn (off := 83) d_Tb_now_1 (by decide) (by decide) rfl (by decide) (k4 rfl)
  by_cases h5 : x = 5
  · subst h5; exact T_tableIn (off := 91) d_Tb_now_1 (by decide) (by decide) rfl (by decide) (k5 rfl)
  by_cases h6 : x = 6
  · subst h6; exact T_tableIn (off := 103) d_Tb_now_1 (by decide) (by decide) rfl (by decide) (k6 rfl)
  by_cases h7 : x = 7
  · subst h7; exact T_tableIn (off := 115) d_Tb_now_1 (by decide) (by decide) rfl (by decide) (k7 rfl)
  by_cases h8 : x = 8
  · subst h8; exact T_tableIn (off := 131) d_Tb_now_1 (by decide) (by decide) rfl (by decide) (k8 rfl)
  have nh0 : ¬ x.toInt = 0 := fun q => h0 (Int32.toInt_inj.mp (q.trans (by decide)))
  have nh1 : ¬ x.toInt = 1 := fun q => h1 (Int32.toInt_inj.mp (q.trans (by decide)))
  have nh2 : ¬ x.toInt = 2 := fun q => h2 (Int32.toInt_inj.mp (q.trans (by decide)))
  have nh3 : ¬ x.toInt = 3 := fun q => h3 (Int32.toInt_inj.mp (q.trans (by decide)))
  have nh4 : ¬ x.toInt = 4 := fun q => h4 (Int32.toInt_inj.mp (q.trans (by decide)))
  have nh5 : ¬ x.toInt = 5 := fun q => h5 (Int32.toInt_inj.mp (q.trans (by decide)))
  have nh6 : ¬ x.toInt = 6 := fun q => h6 (Int32.toInt_inj.mp (q.trans (by decide)))
  have nh7 : ¬ x.toInt = 7 := fun q => h7 (Int32.toInt_inj.mp (q.trans (by decide)))
  have nh8 : ¬ x.toInt = 8 := fun q => h8 (Int32.toInt_inj.mp (q.trans (by decide)))
  exact T_tableOut d_Tb_now_1 (by omega) (by decide) (kd h0 h1 h2 h3 h4 h5 h6 h7 h8)
theorem sw_Tb_mark_24 (k0 : x = 1 → T X d M_Tb_mark 60 ls st h Q) (k1 : x = 2 → T X d M_Tb_mark 66 ls st h Q) (k2 : x = 3 → T X d M_Tb_mark 72 ls st h Q) (k3 : x = 4 → T X d M_Tb_mark 78 ls st h Q) (k4 : x = 5 → T X d M_Tb_mark 84 ls st h Q) (kd : ¬ x = 1 → ¬ x = 2 → ¬ x = 3 → ¬ x = 4 → ¬ x = 5 → T X d M_Tb_mark 90 ls st h Q) : T X d M_Tb_mark 24 ls (.int x :: st) h Q := by
  by_cases h1 : x = 1
  · subst h1; exact T_tableIn (off := 36) d_Tb_mark_24 (by decide) (by decide) rfl (by decide) (k0 rfl)
  by_cases h2 : x = 2
  · subst h2; exact T_tableIn (off := 42) d_Tb_mark_24 (by decide) (by decide) rfl (by decide) (k1 rfl)
  by_cases h3 : x = 3
  · subst h3; exact T_tableIn (off := 48) d_Tb_mark_24 (by decide) (by decide) rfl (by decide) (k2 rfl)
  by_cases h4 : x = 4
  · subst h4; exact T_tableIn (off := 54) d_Tb_mark_24 (by decide) (by decide) rfl (by decide) (k3 rfl)
  by_cases h5 : x = 5
  · subst h5; exact T_tableIn (off := 60) d_Tb_mark_24 (by decide) (by decide) rfl (by decide) (k4 rfl)
  have nh1 : ¬ x.toInt = 1 := fun q => h1 (Int32.toInt_inj.mp (q.trans (by decide)))
  have nh2 : ¬ x.toInt = 2 := fun q => h2 (Int32.toInt_inj.mp (q.trans (by decide)))
  have nh3 : ¬ x.toInt = 3 := fun q => h3 (Int32.toInt_inj.mp (q.trans (by decide)))
  have nh4 : ¬ x.toInt = 4 := fun q => h4 (Int32.toInt_inj.mp (q.trans (by decide)))
  have nh5 : ¬ x.toInt = 5 := fun q => h5 (Int32.toInt_inj.mp (q.trans (by decide)))
  exact T_tableOut d_Tb_mark_24 (by omega) (by decide) (kd h1 h2 h3 h4 h5)
theorem sw_Tb_count_1 (k0 : x = 0 → T X d M_Tb_count 44 ls st h Q) (k1 : x = 1 → T X d M_Tb_count 52 ls st h Q) (k2 : x = 2 → T X d M_Tb_count 60 ls st h Q) (k3 : x = 3 → T X d M_Tb_count 68 ls st h Q) (k4 : x = 4 → T X d M_Tb_count 76 ls st h Q) (k5 : x = 5 → T X d M_Tb_count 84 ls st h Q) (k6 : x = 6 → T X d M_Tb_count 92 ls st h Q) (kd : ¬ x = 0 → ¬ x = 1 → ¬ x = 2 → ¬ x = 3 → ¬ x = 4 → ¬ x = 5 → ¬ x = 6 → T X d M_Tb_count 100 ls st h Q) : T X d M_Tb_count 1 ls (.int x :: st) h Q := by
  by_cases h0 : x = 0
  · subst h0; exact T_tableIn (off := 43) d_Tb_count_1 (by decide) (by decide) rfl (by decide) (k0 rfl)
  by_cases h1 : x = 1
  · subst h1; exact T_tableIn (off := 51) d_Tb_count_1 (by decide) (by decide) rfl (by decide) (k1 rfl)
  by_cases h2 : x = 2
  · subst h2; exact T_tableIn (off := 59) d_Tb_count_1 (by decide) (by decide) rfl (by decide) (k2 rfl)
  by_cases h3 : x = 3
  · subst h3; exact T_tableIn (off := 67) d_Tb_count_1 (by decide) (by decide) rfl (by decide) (k3 rfl)
  by_cases h4 : x = 4
  · subst h4; exact T_tableIn (off := 75) d_Tb_count_1 (by decide) (by decide) rfl (by decide) (k4 rfl)
  by_cases h5 : x = 5
  · subst h5; exact T_tableIn (off := 83) d_Tb_count_1 (by decide) (by decide) rfl (by decide) (k5 rfl)
  by_cases h6 : x = 6
  · subst h6; exact T_tableIn (off := 91) d_Tb_count_1 (by decide) (by decide) rfl (by decide) (k6 rfl)
  have nh0 : ¬ x.toInt = 0 := fun q => h0 (Int32.toInt_inj.mp (q.trans (by decide)))
  have nh1 : ¬ x.toInt = 1 := fun q => h1 (Int32.toInt_inj.mp (q.trans (by decide)))
  have nh2 : ¬ x.toInt = 2 := fun q => h2 (Int32.toInt_inj.mp (q.trans (by decide)))
  have nh3 : ¬ x.toInt = 3 := fun q => h3 (Int32.toInt_inj.mp (q.trans (by decide)))
  have nh4 : ¬ x.toInt = 4 := fun q => h4 (Int32.toInt_inj.mp (q.trans (by decide)))
  have nh5 : ¬ x.toInt = 5 := fun q => h5 (Int32.toInt_inj.mp (q.trans (by decide)))
  have nh6 : ¬ x.toInt = 6 := fun q => h6 (Int32.toInt_inj.mp (q.trans (by decide)))
  exact T_tableOut d_Tb_count_1 (by omega) (by decide) (kd h0 h1 h2 h3 h4 h5 h6)
theorem sw_Mo_item_1 (k0 : x = 112 → T X d M_Mo_item 74 ls st h Q) (k1 : x = 116 → T X d M_Mo_item 138 ls st h Q) (k2 : x = 119 → T X d M_Mo_item 36 ls st h Q) (kd : ¬ x = 112 → ¬ x = 116 → ¬ x = 119 → T X d M_Mo_item 188 ls st h Q) : T X d M_Mo_item 1 ls (.int x :: st) h Q := by
  by_cases h112 : x = 112
  · subst h112; exact T_lookup (off := 73) d_Mo_item_1 (by decide) (by decide) (by decide) (k0 rfl)
  by_cases h116 : x = 116
  · subst h116; exact T_lookup (off := 137) d_Mo_item_1 (by decide) (by decide) (by decide) (k1 rfl)
  by_cases h119 : x = 119
  · subst h119; exact T_lookup (off := 35) d_Mo_item_1 (by decide) (by decide) (by decide) (k2 rfl)
  exact T_lookup (off := 187) d_Mo_item_1 (by decide) (by show Op.lookupswitch.offset [(112, 73), (116, 137), (119, 35)] 187 x.toInt = 187; rw [lv_osw h112 (by decide), lv_osw h116 (by decide), lv_osw h119 (by decide)]; rfl) (by decide) (kd h112 h116 h119)
theorem sw_Mo_may_1 (k0 : x = 112 → T X d M_Mo_may 38 ls st h Q) (k1 : x = 116 → T X d M_Mo_may 54 ls st h Q) (k2 : x = 119 → T X d M_Mo_may 36 ls st h Q) (kd : ¬ x = 112 → ¬ x = 116 → ¬ x = 119 → T X d M_Mo_may 70 ls st h Q) : T X d M_Mo_may 1 ls (.int x :: st) h Q := by
  by_cases h112 : x = 112
  · subst h112; exact T_lookup (off := 37) d_Mo_may_1 (by decide) (by decide) (by decide) (k0 rfl)
  by_cases h116 : x = 116
  · subst h116; exact T_lookup (off := 53) d_Mo_may_1 (by decide) (by decide) (by decide) (k1 rfl)
  by_cases h119 : x = 119
  · subst h119; exact T_lookup (off := 35) d_Mo_may_1 (by decide) (by decide) (by decide) (k2 rfl)
  exact T_lookup (off := 69) d_Mo_may_1 (by decide) (by show Op.lookupswitch.offset [(112, 37), (116, 53), (119, 35)] 69 x.toInt = 69; rw [lv_osw h112 (by decide), lv_osw h116 (by decide), lv_osw h119 (by decide)]; rfl) (by decide) (kd h112 h116 h119)
theorem sw_Mo_one_11 (k0 : x = 0 → T X d M_Mo_one 44 ls st h Q) (k1 : x = 1 → T X d M_Mo_one 51 ls st h Q) (k2 : x = 2 → T X d M_Mo_one 58 ls st h Q) (k3 : x = 3 → T X d M_Mo_one 78 ls st h Q) (k4 : x = 4 → T X d M_Mo_one 88 ls st h Q) (kd : ¬ x = 0 → ¬ x = 1 → ¬ x = 2 → ¬ x = 3 → ¬ x = 4 → T X d M_Mo_one 94 ls st h Q) : T X d M_Mo_one 11 ls (.int x :: st) h Q := by
  by_cases h0 : x = 0
  · subst h0; exact T_tableIn (off := 33) d_Mo_one_11 (by decide) (by decide) rfl (by decide) (k0 rfl)
  by_cases h1 : x = 1
  · subst h1; exact T_tableIn (off := 40) d_Mo_one_11 (by decide) (by decide) rfl (by decide) (k1 rfl)
  by_cases h2 : x = 2
  · subst h2; exact T_tableIn (off := 47) d_Mo_one_11 (by decide) (by decide) rfl (by decide) (k2 rfl)
  by_cases h3 : x = 3
  · subst h3; exact T_tableIn (off := 67) d_Mo_one_11 (by decide) (by decide) rfl (by decide) (k3 rfl)
  by_cases h4 : x = 4
  · subst h4; exact T_tableIn (off := 77) d_Mo_one_11 (by decide) (by decide) rfl (by decide) (k4 rfl)
  have nh0 : ¬ x.toInt = 0 := fun q => h0 (Int32.toInt_inj.mp (q.trans (by decide)))
  have nh1 : ¬ x.toInt = 1 := fun q => h1 (Int32.toInt_inj.mp (q.trans (by decide)))
  have nh2 : ¬ x.toInt = 2 := fun q => h2 (Int32.toInt_inj.mp (q.trans (by decide)))
  have nh3 : ¬ x.toInt = 3 := fun q => h3 (Int32.toInt_inj.mp (q.trans (by decide)))
  have nh4 : ¬ x.toInt = 4 := fun q => h4 (Int32.toInt_inj.mp (q.trans (by decide)))
  exact T_tableOut d_Mo_one_11 (by omega) (by decide) (kd h0 h1 h2 h3 h4)
theorem sw_Mo_now_1 (k0 : x = 0 → T X d M_Mo_now 52 ls st h Q) (k1 : x = 1 → T X d M_Mo_now 52 ls st h Q) (k2 : x = 2 → T X d M_Mo_now 52 ls st h Q) (k3 : x = 3 → T X d M_Mo_now 52 ls st h Q) (k4 : x = 4 → T X d M_Mo_now 52 ls st h Q) (k5 : x = 5 → T X d M_Mo_now 59 ls st h Q) (k6 : x = 6 → T X d M_Mo_now 68 ls st h Q) (k7 : x = 7 → T X d M_Mo_now 77 ls st h Q) (k8 : x = 8 → T X d M_Mo_now 85 ls st h Q) (kd : ¬ x = 0 → ¬ x = 1 → ¬ x = 2 → ¬ x = 3 → ¬ x = 4 → ¬ x = 5 → ¬ x = 6 → ¬ x = 7 → ¬ x = 8 → T X d M_Mo_now 90 ls st h Q) : T X d M_Mo_now 1 ls (.int x :: st) h Q := by
  by_cases h0 : x = 0
  · subst h0; exact T_tableIn (off := 51) d_Mo_now_1 (by decide) (by decide) rfl (by decide) (k0 rfl)
  by_cases h1 : x = 1
  · subst h1; exact T_tableIn (off := 51) d_Mo_now_1 (by decide) (by decide) rfl (by decide) (k1 rfl)
  by_cases h2 : x = 2
  · subst h2; exact T_tableIn (off := 51) d_Mo_now_1 (by decide) (by decide) rfl (by decide) (k2 rfl)
  by_cases h3 : x = 3
  · subst h3; exact T_tableIn (off := 51) d_Mo_now_1 (by decide) (by decide) rfl (by decide) (k3 rfl)
  by_cases h4 : x = 4
  · subst h4; exact T_tableIn (off := 51) d_Mo_now_1 (by decide) (by decide) rfl (by decide) (k4 rfl)
  by_cases h5 : x = 5
  · subst h5; exact T_tableIn (off := 58) d_Mo_now_1 (by decide) (by decide) rfl (by decide) (k5 rfl)
  by_cases h6 : x = 6
  · subst h6; exact T_tableIn (off := 67) d_Mo_now_1 (by decide) (by decide) rfl (by decide) (k6 rfl)
  by_cases h7 : x = 7
  · subst h7; exact T_tableIn (off := 76) d_Mo_now_1 (by decide) (by decide) rfl (by decide) (k7 rfl)
  by_cases h8 : x = 8
  · subst h8; exact T_tableIn (off := 84) d_Mo_now_1 (by decide) (by decide) rfl (by decide) (k8 rfl)
  have nh0 : ¬ x.toInt = 0 := fun q => h0 (Int32.toInt_inj.mp (q.trans (by decide)))
  have nh1 : ¬ x.toInt = 1 := fun q => h1 (Int32.toInt_inj.mp (q.trans (by decide)))
  have nh2 : ¬ x.toInt = 2 := fun q => h2 (Int32.toInt_inj.mp (q.trans (by decide)))
  have nh3 : ¬ x.toInt = 3 := fun q => h3 (Int32.toInt_inj.mp (q.trans (by decide)))
  have nh4 : ¬ x.toInt = 4 := fun q => h4 (Int32.toInt_inj.mp (q.trans (by decide)))
  have nh5 : ¬ x.toInt = 5 := fun q => h5 (Int32.toInt_inj.mp (q.trans (by decide)))
  have nh6 : ¬ x.toInt = 6 := fun q => h6 (Int32.toInt_inj.mp (q.trans (by decide)))
  have nh7 : ¬ x.toInt = 7 := fun q => h7 (Int32.toInt_inj.mp (q.trans (by decide)))
  have nh8 : ¬ x.toInt = 8 := fun q => h8 (Int32.toInt_inj.mp (q.trans (by decide)))
  exact T_tableOut d_Mo_now_1 (by omega) (by decide) (kd h0 h1 h2 h3 h4 h5 h6 h7 h8)
theorem sw_Mo_bodiesOf_1 (k0 : x = 0 → T X d M_Mo_bodiesOf 36 ls st h Q) (k1 : x = 1 → T X d M_Mo_bodiesOf 38 ls st h Q) (k2 : x = 2 → T X d M_Mo_bodiesOf 40 ls st h Q) (k3 : x = 3 → T X d M_Mo_bodiesOf 42 ls st h Q) (k4 : x = 4 → T X d M_Mo_bodiesOf 45 ls st h Q) (kd : ¬ x = 0 → ¬ x = 1 → ¬ x = 2 → ¬ x = 3 → ¬ x = 4 → T X d M_Mo_bodiesOf 48 ls st h Q) : T X d M_Mo_bodiesOf 1 ls (.int x :: st) h Q := by
  by_cases h0 : x = 0
  · subst h0; exact T_tableIn (off := 35) d_Mo_bodiesOf_1 (by decide) (by decide) rfl (by decide) (k0 rfl)
  by_cases h1 : x = 1
  · subst h1; exact T_tableIn (off := 37) d_Mo_bodiesOf_1 (by decide) (by decide) rfl (by decide) (k1 rfl)
  by_cases h2 : x = 2
  · subst h2; exact T_tableIn (off := 39) d_Mo_bodiesOf_1 (by decide) (by decide) rfl (by decide) (k2 rfl)
  by_cases h3 : x = 3
  · subst h3; exact T_tableIn (off := 41) d_Mo_bodiesOf_1 (by decide) (by decide) rfl (by decide) (k3 rfl)
  by_cases h4 : x = 4
  · subst h4; exact T_tableIn (off := 44) d_Mo_bodiesOf_1 (by decide) (by decide) rfl (by decide) (k4 rfl)
  have nh0 : ¬ x.toInt = 0 := fun q => h0 (Int32.toInt_inj.mp (q.trans (by decide)))
  have nh1 : ¬ x.toInt = 1 := fun q => h1 (Int32.toInt_inj.mp (q.trans (by decide)))
  have nh2 : ¬ x.toInt = 2 := fun q => h2 (Int32.toInt_inj.mp (q.trans (by decide)))
  have nh3 : ¬ x.toInt = 3 := fun q => h3 (Int32.toInt_inj.mp (q.trans (by decide)))
  have nh4 : ¬ x.toInt = 4 := fun q => h4 (Int32.toInt_inj.mp (q.trans (by decide)))
  exact T_tableOut d_Mo_bodiesOf_1 (by omega) (by decide) (kd h0 h1 h2 h3 h4)
theorem sw_Mo_count_1 (k0 : x = 0 → T X d M_Mo_count 44 ls st h Q) (k1 : x = 1 → T X d M_Mo_count 51 ls st h Q) (k2 : x = 2 → T X d M_Mo_count 58 ls st h Q) (k3 : x = 3 → T X d M_Mo_count 65 ls st h Q) (k4 : x = 4 → T X d M_Mo_count 70 ls st h Q) (k5 : x = 5 → T X d M_Mo_count 75 ls st h Q) (k6 : x = 6 → T X d M_Mo_count 82 ls st h Q) (kd : ¬ x = 0 → ¬ x = 1 → ¬ x = 2 → ¬ x = 3 → ¬ x = 4 → ¬ x = 5 → ¬ x = 6 → T X d M_Mo_count 87 ls st h Q) : T X d M_Mo_count 1 ls (.int x :: st) h Q := by
  by_cases h0 : x = 0
  · subst h0; exact T_tableIn (off := 43) d_Mo_count_1 (by decide) (by decide) rfl (by decide) (k0 rfl)
  by_cases h1 : x = 1
  · subst h1; exact T_tableIn (off := 50) d_Mo_count_1 (by decide) (by decide) rfl (by decide) (k1 rfl)
  by_cases h2 : x = 2
  · subst h2; exact T_tableIn (off := 57) d_Mo_count_1 (by decide) (by decide) rfl (by decide) (k2 rfl)
  by_cases h3 : x = 3
  · subst h3; exact T_tableIn (off := 64) d_Mo_count_1 (by decide) (by decide) rfl (by decide) (k3 rfl)
  by_cases h4 : x = 4
  · subst h4; exact T_tableIn (off := 69) d_Mo_count_1 (by decide) (by decide) rfl (by decide) (k4 rfl)
  by_cases h5 : x = 5
  · subst h5; exact T_tableIn (off := 74) d_Mo_count_1 (by decide) (by decide) rfl (by decide) (k5 rfl)
  by_cases h6 : x = 6
  · subst h6; exact T_tableIn (off := 81) d_Mo_count_1 (by decide) (by decide) rfl (by decide) (k6 rfl)
  have nh0 : ¬ x.toInt = 0 := fun q => h0 (Int32.toInt_inj.mp (q.trans (by decide)))
  have nh1 : ¬ x.toInt = 1 := fun q => h1 (Int32.toInt_inj.mp (q.trans (by decide)))
  have nh2 : ¬ x.toInt = 2 := fun q => h2 (Int32.toInt_inj.mp (q.trans (by decide)))
  have nh3 : ¬ x.toInt = 3 := fun q => h3 (Int32.toInt_inj.mp (q.trans (by decide)))
  have nh4 : ¬ x.toInt = 4 := fun q => h4 (Int32.toInt_inj.mp (q.trans (by decide)))
  have nh5 : ¬ x.toInt = 5 := fun q => h5 (Int32.toInt_inj.mp (q.trans (by decide)))
  have nh6 : ¬ x.toInt = 6 := fun q => h6 (Int32.toInt_inj.mp (q.trans (by decide)))
  exact T_tableOut d_Mo_count_1 (by omega) (by decide) (kd h0 h1 h2 h3 h4 h5 h6)
theorem sw_La_law_33 (k0 : x = 0 → T X d M_La_law 160 ls st h Q) (k1 : x = 1 → T X d M_La_law 183 ls st h Q) (k2 : x = 2 → T X d M_La_law 196 ls st h Q) (k3 : x = 3 → T X d M_La_law 209 ls st h Q) (k4 : x = 4 → T X d M_La_law 232 ls st h Q) (k5 : x = 5 → T X d M_La_law 265 ls st h Q) (k6 : x = 6 → T X d M_La_law 298 ls st h Q) (k7 : x = 7 → T X d M_La_law 331 ls st h Q) (k8 : x = 8 → T X d M_La_law 354 ls st h Q) (k9 : x = 9 → T X d M_La_law 377 ls st h Q) (k10 : x = 10 → T X d M_La_law 400 ls st h Q) (k11 : x = 11 → T X d M_La_law 413 ls st h Q) (k12 : x = 12 → T X d M_La_law 436 ls st h Q) (k13 : x = 13 → T X d M_La_law 469 ls st h Q) (k14 : x = 14 → T X d M_La_law 482 ls st h Q) (k15 : x = 15 → T X d M_La_law 525 ls st h Q) (k16 : x = 16 → T X d M_La_law 548 ls st h Q) (k17 : x = 17 → T X d M_La_law 611 ls st h Q) (k18 : x = 18 → T X d M_La_law 654 ls st h Q) (k19 : x = 19 → T X d M_La_law 677 ls st h Q) (k20 : x = 20 → T X d M_La_law 700 ls st h Q) (k21 : x = 21 → T X d M_La_law 733 ls st h Q) (k22 : x = 22 → T X d M_La_law 756 ls st h Q) (k23 : x = 23 → T X d M_La_law 769 ls st h Q) (k24 : x = 24 → T X d M_La_law 802 ls st h Q) (k25 : x = 25 → T X d M_La_law 825 ls st h Q) (k26 : x = 26 → T X d M_La_law 848 ls st h Q) (k27 : x = 27 → T X d M_La_law 871 ls st h Q) (kd : ¬ x = 0 → ¬ x = 1 → ¬ x = 2 → ¬ x = 3 → ¬ x = 4 → ¬ x = 5 → ¬ x = 6 → ¬ x = 7 → ¬ x = 8 → ¬ x = 9 → ¬ x = 10 → ¬ x = 11 → ¬ x = 12 → ¬ x = 13 → ¬ x = 14 → ¬ x = 15 → ¬ x = 16 → ¬ x = 17 → ¬ x = 18 → ¬ x = 19 → ¬ x = 20 → ¬ x = 21 → ¬ x = 22 → ¬ x = 23 → ¬ x = 24 → ¬ x = 25 → ¬ x = 26 → ¬ x = 27 → T X d M_La_law 885 ls st h Q) : T X d M_La_law 33 ls (.int x :: st) h Q := by
  by_cases h0 : x = 0
  · subst h0; exact T_tableIn (off := 127) d_La_law_33 (by decide) (by decide) rfl (by decide) (k0 rfl)
  by_cases h1 : x = 1
  · subst h1; exact T_tableIn (off := 150) d_La_law_33 (by decide) (by decide) rfl (by decide) (k1 rfl)
  by_cases h2 : x = 2
  · subst h2; exact T_tableIn (off := 163) d_La_law_33 (by decide) (by decide) rfl (by decide) (k2 rfl)
  by_cases h3 : x = 3
  · subst h3; exact T_tableIn (off := 176) d_La_law_33 (by decide) (by decide) rfl (by decide) (k3 rfl)
  by_cases h4 : x = 4
  · subst h4; exact T_tableIn (off := 199) d_La_law_33 (by decide) (by decide) rfl (by decide) (k4 rfl)
  by_cases h5 : x = 5
  · subst h5; exact T_tableIn (off := 232) d_La_law_33 (by decide) (by decide) rfl (by decide) (k5 rfl)
  by_cases h6 : x = 6
  · subst h6; exact T_tableIn (off := 265) d_La_law_33 (by decide) (by decide) rfl (by decide) (k6 rfl)
  by_cases h7 : x = 7
  · subst h7; exact T_tableIn (off := 298) d_La_law_33 (by decide) (by decide) rfl (by decide) (k7 rfl)
  by_cases h8 : x = 8
  · subst h8; exact T_tableIn (off := 321) d_La_law_33 (by decide) (by decide) rfl (by decide) (k8 rfl)
  by_cases h9 : x = 9
  · subst h9; exact T_tableIn (off := 344) d_La_law_33 (by decide) (by decide) rfl (by decide) (k9 rfl)
  by_cases h10 : x = 10
  · subst h10; exact T_tableIn (off := 367) d_La_law_33 (by decide) (by decide) rfl (by decide) (k10 rfl)
  by_cases h11 : x = 11
  · subst h11; exact T_tableIn (off := 380) d_La_law_33 (by decide) (by decide) rfl (by decide) (k11 rfl)
  by_cases h12 : x = 12
  · subst h12; exact T_tableIn (off := 403) d_La_law_33 (by decide) (by decide) rfl (by decide) (k12 rfl)
  by_cases h13 : x = 13
  · subst h13; exact T_tableIn (off := 436) d_La_law_33 (by decide) (by decide) rfl (by decide) (k13 rfl)
  by_cases h14 : x = 14
  · subst h14; exact T_tableIn (off := 449) d_La_law_33 (by decide) (by decide) rfl (by decide) (k14 rfl)
  by_cases h15 : x = 15
  · subst h15; exact T_tableIn (off := 492) d_La_law_33 (by decide) (by decide) rfl (by decide) (k15 rfl)
  by_cases h16 : x = 16
  · subst h16; exact T_tableIn (off := 515) d_La_law_33 (by decide) (by decide) rfl (by decide) (k16 rfl)
  by_cases h17 : x = 17
  · subst h17; exact T_tableIn (off := 578) d_La_law_33 (by decide) (by decide) rfl (by decide) (k17 rfl)
  by_cases h18 : x = 18
  · subst h18; exact T_tableIn (off := 621) d_La_law_33 (by decide) (by decide) rfl (by decide) (k18 rfl)
  by_cases h19 : x = 19
  · subst h19; exact T_tableIn (off := 644) d_La_law_33 (by decide) (by decide) rfl (by decide) (k19 rfl)
  by_cases h20 : x = 20
  · subst h20; exact T_tableIn (off := 667) d_La_law_33 (by decide) (by decide) rfl (by decide) (k20 rfl)
  by_cases h21 : x = 21
  · subst h21; exact T_tableIn (off := 700) d_La_law_33 (by decide) (by decide) rfl (by decide) (k21 rfl)
  by_cases h22 : x = 22
  · subst h22; exact T_tableIn (off := 723) d_La_law_33 (by decide) (by decide) rfl (by decide) (k22 rfl)
  by_cases h23 : x = 23
  · subst h23; exact T_tableIn (off := 736) d_La_law_33 (by decide) (by decide) rfl (by decide) (k23 rfl)
  by_cases h24 : x = 24
  · subst h24; exact T_tableIn (off := 769) d_La_law_33 (by decide) (by decide) rfl (by decide) (k24 rfl)
  by_cases h25 : x = 25
  · subst h25; exact T_tableIn (off := 792) d_La_law_33 (by decide) (by decide) rfl (by decide) (k25 rfl)
  by_cases h26 : x = 26
  · subst h26; exact T_tableIn (off := 815) d_La_law_33 (by decide) (by decide) rfl (by decide) (k26 rfl)
  by_cases h27 : x = 27
  · subst h27; exact T_tableIn (off := 838) d_La_law_33 (by decide) (by decide) rfl (by decide) (k27 rfl)
  have nh0 : ¬ x.toInt = 0 := fun q => h0 (Int32.toInt_inj.mp (q.trans (by decide)))
  have nh1 : ¬ x.toInt = 1 := fun q => h1 (Int32.toInt_inj.mp (q.trans (by decide)))
  have nh2 : ¬ x.toInt = 2 := fun q => h2 (Int32.toInt_inj.mp (q.trans (by decide)))
  have nh3 : ¬ x.toInt = 3 := fun q => h3 (Int32.toInt_inj.mp (q.trans (by decide)))
  have nh4 : ¬ x.toInt = 4 := fun q => h4 (Int32.toInt_inj.mp (q.trans (by decide)))
  have nh5 : ¬ x.toInt = 5 := fun q => h5 (Int32.toInt_inj.mp (q.trans (by decide)))
  have nh6 : ¬ x.toInt = 6 := fun q => h6 (Int32.toInt_inj.mp (q.trans (by decide)))
  have nh7 : ¬ x.toInt = 7 := fun q => h7 (Int32.toInt_inj.mp (q.trans (by decide)))
  have nh8 : ¬ x.toInt = 8 := fun q => h8 (Int32.toInt_inj.mp (q.trans (by decide)))
  have nh9 : ¬ x.toInt = 9 := fun q => h9 (Int32.toInt_inj.mp (q.trans (by decide)))
  have nh10 : ¬ x.toInt = 10 := fun q => h10 (Int32.toInt_inj.mp (q.trans (by decide)))
  have nh11 : ¬ x.toInt = 11 := fun q => h11 (Int32.toInt_inj.mp (q.trans (by decide)))
  have nh12 : ¬ x.toInt = 12 := fun q => h12 (Int32.toInt_inj.mp (q.trans (by decide)))
  have nh13 : ¬ x.toInt = 13 := fun q => h13 (Int32.toInt_inj.mp (q.trans (by decide)))
  have nh14 : ¬ x.toInt = 14 := fun q => h14 (Int32.toInt_inj.mp (q.trans (by decide)))
  have nh15 : ¬ x.toInt = 15 := fun q => h15 (Int32.toInt_inj.mp (q.trans (by decide)))
  have nh16 : ¬ x.toInt = 16 := fun q => h16 (Int32.toInt_inj.mp (q.trans (by decide)))
  have nh17 : ¬ x.toInt = 17 := fun q => h17 (Int32.toInt_inj.mp (q.trans (by decide)))
  have nh18 : ¬ x.toInt = 18 := fun q => h18 (Int32.toInt_inj.mp (q.trans (by decide)))
  have nh19 : ¬ x.toInt = 19 := fun q => h19 (Int32.toInt_inj.mp (q.trans (by decide)))
  have nh20 : ¬ x.toInt = 20 := fun q => h20 (Int32.toInt_inj.mp (q.trans (by decide)))
  have nh21 : ¬ x.toInt = 21 := fun q => h21 (Int32.toInt_inj.mp (q.trans (by decide)))
  have nh22 : ¬ x.toInt = 22 := fun q => h22 (Int32.toInt_inj.mp (q.trans (by decide)))
  have nh23 : ¬ x.toInt = 23 := fun q => h23 (Int32.toInt_inj.mp (q.trans (by decide)))
  have nh24 : ¬ x.toInt = 24 := fun q => h24 (Int32.toInt_inj.mp (q.trans (by decide)))
  have nh25 : ¬ x.toInt = 25 := fun q => h25 (Int32.toInt_inj.mp (q.trans (by decide)))
  have nh26 : ¬ x.toInt = 26 := fun q => h26 (Int32.toInt_inj.mp (q.trans (by decide)))
  have nh27 : ¬ x.toInt = 27 := fun q => h27 (Int32.toInt_inj.mp (q.trans (by decide)))
  exact T_tableOut d_La_law_33 (by omega) (by decide) (kd h0 h1 h2 h3 h4 h5 h6 h7 h8 h9 h10 h11 h12 h13 h14 h15 h16 h17 h18 h19 h20 h21 h22 h23 h24 h25 h26 h27)
end SW
