theorem d_Tb_init_0 : decode M_Tb_init.2.1 0 = .ok (.aload_n 0, 1) := by decide +kernel
theorem d_Tb_init_1 : decode M_Tb_init.2.1 1 = .ok (.invokespecial 1, 3) := by decide +kernel
theorem d_Tb_init_4 : decode M_Tb_init.2.1 4 = .ok (.aload_n 0, 1) := by decide +kernel
theorem d_Tb_init_5 : decode M_Tb_init.2.1 5 = .ok (.new 7, 3) := by decide +kernel
theorem d_Tb_init_8 : decode M_Tb_init.2.1 8 = .ok (.dup, 1) := by decide +kernel
theorem d_Tb_init_9 : decode M_Tb_init.2.1 9 = .ok (.invokespecial 9, 3) := by decide +kernel
theorem d_Tb_init_12 : decode M_Tb_init.2.1 12 = .ok (.putfield 10, 3) := by decide +kernel
theorem d_Tb_init_15 : decode M_Tb_init.2.1 15 = .ok (.aload_n 0, 1) := by decide +kernel
theorem d_Tb_init_16 : decode M_Tb_init.2.1 16 = .ok (.new 16, 3) := by decide +kernel
theorem d_Tb_init_19 : decode M_Tb_init.2.1 19 = .ok (.dup, 1) := by decide +kernel
theorem d_Tb_init_20 : decode M_Tb_init.2.1 20 = .ok (.invokespecial 18, 3) := by decide +kernel
theorem d_Tb_init_23 : decode M_Tb_init.2.1 23 = .ok (.putfield 19, 3) := by decide +kernel
theorem d_Tb_init_26 : decode M_Tb_init.2.1 26 = .ok (.aload_n 0, 1) := by decide +kernel
theorem d_Tb_init_27 : decode M_Tb_init.2.1 27 = .ok (.new 16, 3) := by decide +kernel
theorem d_Tb_init_30 : decode M_Tb_init.2.1 30 = .ok (.dup, 1) := by decide +kernel
theorem d_Tb_init_31 : decode M_Tb_init.2.1 31 = .ok (.invokespecial 18, 3) := by decide +kernel
theorem d_Tb_init_34 : decode M_Tb_init.2.1 34 = .ok (.putfield 23, 3) := by decide +kernel
theorem d_Tb_init_37 : decode M_Tb_init.2.1 37 = .ok (.aload_n 0, 1) := by decide +kernel
theorem d_Tb_init_38 : decode M_Tb_init.2.1 38 = .ok (.new 26, 3) := by decide +kernel
theorem d_Tb_init_41 : decode M_Tb_init.2.1 41 = .ok (.dup, 1) := by decide +kernel
theorem d_Tb_init_42 : decode M_Tb_init.2.1 42 = .ok (.invokespecial 28, 3) := by decide +kernel
theorem d_Tb_init_45 : decode M_Tb_init.2.1 45 = .ok (.putfield 29, 3) := by decide +kernel
theorem d_Tb_init_48 : decode M_Tb_init.2.1 48 = .ok (.aload_n 0, 1) := by decide +kernel
theorem d_Tb_init_49 : decode M_Tb_init.2.1 49 = .ok (.new 26, 3) := by decide +kernel
theorem d_Tb_init_52 : decode M_Tb_init.2.1 52 = .ok (.dup, 1) := by decide +kernel
theorem d_Tb_init_53 : decode M_Tb_init.2.1 53 = .ok (.invokespecial 28, 3) := by decide +kernel
theorem d_Tb_init_56 : decode M_Tb_init.2.1 56 = .ok (.putfield 33, 3) := by decide +kernel
theorem d_Tb_init_59 : decode M_Tb_init.2.1 59 = .ok (.aload_n 0, 1) := by decide +kernel
theorem d_Tb_init_60 : decode M_Tb_init.2.1 60 = .ok (.new 36, 3) := by decide +kernel
theorem d_Tb_init_63 : decode M_Tb_init.2.1 63 = .ok (.dup, 1) := by decide +kernel
theorem d_Tb_init_64 : decode M_Tb_init.2.1 64 = .ok (.invokespecial 38, 3) := by decide +kernel
theorem d_Tb_init_67 : decode M_Tb_init.2.1 67 = .ok (.putfield 39, 3) := by decide +kernel
theorem d_Tb_init_70 : decode M_Tb_init.2.1 70 = .ok (.aload_n 0, 1) := by decide +kernel
theorem d_Tb_init_71 : decode M_Tb_init.2.1 71 = .ok (.iconst 2, 1) := by decide +kernel
theorem d_Tb_init_72 : decode M_Tb_init.2.1 72 = .ok (.anewarray 43, 3) := by decide +kernel
theorem d_Tb_init_75 : decode M_Tb_init.2.1 75 = .ok (.putfield 45, 3) := by decide +kernel
theorem d_Tb_init_78 : decode M_Tb_init.2.1 78 = .ok (.aload_n 0, 1) := by decide +kernel
theorem d_Tb_init_79 : decode M_Tb_init.2.1 79 = .ok (.new 49, 3) := by decide +kernel
theorem d_Tb_init_82 : decode M_Tb_init.2.1 82 = .ok (.dup, 1) := by decide +kernel
theorem d_Tb_init_83 : decode M_Tb_init.2.1 83 = .ok (.invokespecial 51, 3) := by decide +kernel
theorem d_Tb_init_86 : decode M_Tb_init.2.1 86 = .ok (.putfield 52, 3) := by decide +kernel
theorem d_Tb_init_89 : decode M_Tb_init.2.1 89 = .ok (.aload_n 0, 1) := by decide +kernel
theorem d_Tb_init_90 : decode M_Tb_init.2.1 90 = .ok (.new 56, 3) := by decide +kernel
theorem d_Tb_init_93 : decode M_Tb_init.2.1 93 = .ok (.dup, 1) := by decide +kernel
theorem d_Tb_init_94 : decode M_Tb_init.2.1 94 = .ok (.invokespecial 58, 3) := by decide +kernel
theorem d_Tb_init_97 : decode M_Tb_init.2.1 97 = .ok (.putfield 59, 3) := by decide +kernel
theorem d_Tb_init_100 : decode M_Tb_init.2.1 100 = .ok (.aload_n 0, 1) := by decide +kernel
theorem d_Tb_init_101 : decode M_Tb_init.2.1 101 = .ok (.new 63, 3) := by decide +kernel
theorem d_Tb_init_104 : decode M_Tb_init.2.1 104 = .ok (.dup, 1) := by decide +kernel
theorem d_Tb_init_105 : decode M_Tb_init.2.1 105 = .ok (.invokespecial 65, 3) := by decide +kernel
theorem d_Tb_init_108 : decode M_Tb_init.2.1 108 = .ok (.putfield 66, 3) := by decide +kernel
theorem d_Tb_init_111 : decode M_Tb_init.2.1 111 = .ok (.aload_n 0, 1) := by decide +kernel
theorem d_Tb_init_112 : decode M_Tb_init.2.1 112 = .ok (.new 63, 3) := by decide +kernel
theorem d_Tb_init_115 : decode M_Tb_init.2.1 115 = .ok (.dup, 1) := by decide +kernel
theorem d_Tb_init_116 : decode M_Tb_init.2.1 116 = .ok (.invokespecial 65, 3) := by decide +kernel
theorem d_Tb_init_119 : decode M_Tb_init.2.1 119 = .ok (.putfield 70, 3) := by decide +kernel
theorem d_Tb_init_122 : decode M_Tb_init.2.1 122 = .ok (.aload_n 0, 1) := by decide +kernel
theorem d_Tb_init_123 : decode M_Tb_init.2.1 123 = .ok (.bipush 10, 2) := by decide +kernel
theorem d_Tb_init_125 : decode M_Tb_init.2.1 125 = .ok (.newarray .int, 2) := by decide +kernel
theorem d_Tb_init_127 : decode M_Tb_init.2.1 127 = .ok (.putfield 73, 3) := by decide +kernel
theorem d_Tb_init_130 : decode M_Tb_init.2.1 130 = .ok (.aload_n 0, 1) := by decide +kernel
theorem d_Tb_init_131 : decode M_Tb_init.2.1 131 = .ok (.lconst 0, 1) := by decide +kernel
theorem d_Tb_init_132 : decode M_Tb_init.2.1 132 = .ok (.putfield 77, 3) := by decide +kernel
theorem d_Tb_init_135 : decode M_Tb_init.2.1 135 = .ok (.iconst 0, 1) := by decide +kernel
theorem d_Tb_init_136 : decode M_Tb_init.2.1 136 = .ok (.istore_n 1, 1) := by decide +kernel
theorem d_Tb_init_137 : decode M_Tb_init.2.1 137 = .ok (.iload_n 1, 1) := by decide +kernel
theorem d_Tb_init_138 : decode M_Tb_init.2.1 138 = .ok (.iconst 2, 1) := by decide +kernel
theorem d_Tb_init_139 : decode M_Tb_init.2.1 139 = .ok (.if_icmp .ge 22, 3) := by decide +kernel
theorem d_Tb_init_142 : decode M_Tb_init.2.1 142 = .ok (.aload_n 0, 1) := by decide +kernel
theorem d_Tb_init_143 : decode M_Tb_init.2.1 143 = .ok (.getfield 45, 3) := by decide +kernel
theorem d_Tb_init_146 : decode M_Tb_init.2.1 146 = .ok (.iload_n 1, 1) := by decide +kernel
theorem d_Tb_init_147 : decode M_Tb_init.2.1 147 = .ok (.new 43, 3) := by decide +kernel
theorem d_Tb_init_150 : decode M_Tb_init.2.1 150 = .ok (.dup, 1) := by decide +kernel
theorem d_Tb_init_151 : decode M_Tb_init.2.1 151 = .ok (.invokespecial 81, 3) := by decide +kernel
theorem d_Tb_init_154 : decode M_Tb_init.2.1 154 = .ok (.aastore, 1) := by decide +kernel
theorem d_Tb_init_155 : decode M_Tb_init.2.1 155 = .ok (.iinc 1 1, 3) := by decide +kernel
theorem d_Tb_init_158 : decode M_Tb_init.2.1 158 = .ok (.goto (-21), 3) := by decide +kernel
theorem d_Tb_init_161 : decode M_Tb_init.2.1 161 = .ok (.aload_n 0, 1) := by decide +kernel
theorem d_Tb_init_162 : decode M_Tb_init.2.1 162 = .ok (.invokevirtual 82, 3) := by decide +kernel
theorem d_Tb_init_165 : decode M_Tb_init.2.1 165 = .ok (.return_, 1) := by decide +kernel
theorem d_Tb_type_0 : decode M_Tb_type.2.1 0 = .ok (.iload_n 1, 1) := by decide +kernel
theorem d_Tb_type_1 : decode M_Tb_type.2.1 1 = .ok (.iconst 0, 1) := by decide +kernel
theorem d_Tb_type_2 : decode M_Tb_type.2.1 2 = .ok (.sipush 255, 3) := by decide +kernel
theorem d_Tb_type_5 : decode M_Tb_type.2.1 5 = .ok (.invokestatic 85, 3) := by decide +kernel
theorem d_Tb_type_8 : decode M_Tb_type.2.1 8 = .ok (.ifCond .ne 5, 3) := by decide +kernel
theorem d_Tb_type_11 : decode M_Tb_type.2.1 11 = .ok (.iconst (-1), 1) := by decide +kernel
theorem d_Tb_type_12 : decode M_Tb_type.2.1 12 = .ok (.ireturn, 1) := by decide +kernel
theorem d_Tb_type_13 : decode M_Tb_type.2.1 13 = .ok (.aload_n 0, 1) := by decide +kernel
theorem d_Tb_type_14 : decode M_Tb_type.2.1 14 = .ok (.getfield 10, 3) := by decide +kernel
theorem d_Tb_type_17 : decode M_Tb_type.2.1 17 = .ok (.iload_n 1, 1) := by decide +kernel
theorem d_Tb_type_18 : decode M_Tb_type.2.1 18 = .ok (.invokevirtual 89, 3) := by decide +kernel
theorem d_Tb_type_21 : decode M_Tb_type.2.1 21 = .ok (.ireturn, 1) := by decide +kernel
theorem d_Tb_clear_0 : decode M_Tb_clear.2.1 0 = .ok (.aload_n 0, 1) := by decide +kernel
theorem d_Tb_clear_1 : decode M_Tb_clear.2.1 1 = .ok (.getfield 10, 3) := by decide +kernel
theorem d_Tb_clear_4 : decode M_Tb_clear.2.1 4 = .ok (.invokevirtual 93, 3) := by decide +kernel
theorem d_Tb_clear_7 : decode M_Tb_clear.2.1 7 = .ok (.ireturn, 1) := by decide +kernel
theorem d_Tb_sheds_0 : decode M_Tb_sheds.2.1 0 = .ok (.aload_n 0, 1) := by decide +kernel
theorem d_Tb_sheds_1 : decode M_Tb_sheds.2.1 1 = .ok (.getfield 10, 3) := by decide +kernel
theorem d_Tb_sheds_4 : decode M_Tb_sheds.2.1 4 = .ok (.aload_n 0, 1) := by decide +kernel
theorem d_Tb_sheds_5 : decode M_Tb_sheds.2.1 5 = .ok (.getfield 23, 3) := by decide +kernel
theorem d_Tb_sheds_8 : decode M_Tb_sheds.2.1 8 = .ok (.invokevirtual 97, 3) := by decide +kernel
theorem d_Tb_sheds_11 : decode M_Tb_sheds.2.1 11 = .ok (.istore_n 1, 1) := by decide +kernel
theorem d_Tb_sheds_12 : decode M_Tb_sheds.2.1 12 = .ok (.iload_n 1, 1) := by decide +kernel
theorem d_Tb_sheds_13 : decode M_Tb_sheds.2.1 13 = .ok (.ifCond .ge 5, 3) := by decide +kernel
theorem d_Tb_sheds_16 : decode M_Tb_sheds.2.1 16 = .ok (.iload_n 1, 1) := by decide +kernel
theorem d_Tb_sheds_17 : decode M_Tb_sheds.2.1 17 = .ok (.ireturn, 1) := by decide +kernel
theorem d_Tb_sheds_18 : decode M_Tb_sheds.2.1 18 = .ok (.aload_n 0, 1) := by decide +kernel
theorem d_Tb_sheds_19 : decode M_Tb_sheds.2.1 19 = .ok (.getfield 19, 3) := by decide +kernel
theorem d_Tb_sheds_22 : decode M_Tb_sheds.2.1 22 = .ok (.aload_n 0, 1) := by decide +kernel
theorem d_Tb_sheds_23 : decode M_Tb_sheds.2.1 23 = .ok (.getfield 23, 3) := by decide +kernel
theorem d_Tb_sheds_26 : decode M_Tb_sheds.2.1 26 = .ok (.invokevirtual 101, 3) := by decide +kernel
theorem d_Tb_sheds_29 : decode M_Tb_sheds.2.1 29 = .ok (.aload_n 0, 1) := by decide +kernel
theorem d_Tb_sheds_30 : decode M_Tb_sheds.2.1 30 = .ok (.getfield 10, 3) := by decide +kernel
theorem d_Tb_sheds_33 : decode M_Tb_sheds.2.1 33 = .ok (.invokevirtual 93, 3) := by decide +kernel
theorem d_Tb_sheds_36 : decode M_Tb_sheds.2.1 36 = .ok (.pop, 1) := by decide +kernel
theorem d_Tb_sheds_37 : decode M_Tb_sheds.2.1 37 = .ok (.aload_n 0, 1) := by decide +kernel
theorem d_Tb_sheds_38 : decode M_Tb_sheds.2.1 38 = .ok (.invokevirtual 82, 3) := by decide +kernel
theorem d_Tb_sheds_41 : decode M_Tb_sheds.2.1 41 = .ok (.iload_n 1, 1) := by decide +kernel
theorem d_Tb_sheds_42 : decode M_Tb_sheds.2.1 42 = .ok (.ireturn, 1) := by decide +kernel
theorem d_Tb_wind_0 : decode M_Tb_wind.2.1 0 = .ok (.iload_n 1, 1) := by decide +kernel
theorem d_Tb_wind_1 : decode M_Tb_wind.2.1 1 = .ok (.iconst 0, 1) := by decide +kernel
theorem d_Tb_wind_2 : decode M_Tb_wind.2.1 2 = .ok (.bipush 9, 2) := by decide +kernel
theorem d_Tb_wind_4 : decode M_Tb_wind.2.1 4 = .ok (.invokestatic 85, 3) := by decide +kernel
theorem d_Tb_wind_7 : decode M_Tb_wind.2.1 7 = .ok (.ifCond .eq 14, 3) := by decide +kernel
theorem d_Tb_wind_10 : decode M_Tb_wind.2.1 10 = .ok (.aload_n 0, 1) := by decide +kernel
theorem d_Tb_wind_11 : decode M_Tb_wind.2.1 11 = .ok (.getfield 19, 3) := by decide +kernel
theorem d_Tb_wind_14 : decode M_Tb_wind.2.1 14 = .ok (.iload_n 1, 1) := by decide +kernel
theorem d_Tb_wind_15 : decode M_Tb_wind.2.1 15 = .ok (.invokevirtual 105, 3) := by decide +kernel
theorem d_Tb_wind_18 : decode M_Tb_wind.2.1 18 = .ok (.goto 5, 3) := by decide +kernel
theorem d_Tb_wind_21 : decode M_Tb_wind.2.1 21 = .ok (.ldc 108, 2) := by decide +kernel
theorem d_Tb_wind_23 : decode M_Tb_wind.2.1 23 = .ok (.ireturn, 1) := by decide +kernel
theorem d_Tb_one_0 : decode M_Tb_one.2.1 0 = .ok (.aload_n 0, 1) := by decide +kernel
theorem d_Tb_one_1 : decode M_Tb_one.2.1 1 = .ok (.getfield 19, 3) := by decide +kernel
theorem d_Tb_one_4 : decode M_Tb_one.2.1 4 = .ok (.iload_n 1, 1) := by decide +kernel
theorem d_Tb_one_5 : decode M_Tb_one.2.1 5 = .ok (.invokevirtual 109, 3) := by decide +kernel
theorem d_Tb_one_8 : decode M_Tb_one.2.1 8 = .ok (.ifCond .ne 5, 3) := by decide +kernel
theorem d_Tb_one_11 : decode M_Tb_one.2.1 11 = .ok (.iconst (-1), 1) := by decide +kernel
theorem d_Tb_one_12 : decode M_Tb_one.2.1 12 = .ok (.ireturn, 1) := by decide +kernel
theorem d_Tb_one_13 : decode M_Tb_one.2.1 13 = .ok (.iload_n 2, 1) := by decide +kernel
theorem d_Tb_one_14 : decode M_Tb_one.2.1 14 = .ok (.tableswitch 89 0 4 #[34, 44, 54, 71, 80], 34) := by decide +kernel
theorem d_Tb_one_48 : decode M_Tb_one.2.1 48 = .ok (.aload_n 0, 1) := by decide +kernel
theorem d_Tb_one_49 : decode M_Tb_one.2.1 49 = .ok (.getfield 19, 3) := by decide +kernel
theorem d_Tb_one_52 : decode M_Tb_one.2.1 52 = .ok (.getfield 113, 3) := by decide +kernel
theorem d_Tb_one_55 : decode M_Tb_one.2.1 55 = .ok (.iload_n 1, 1) := by decide +kernel
theorem d_Tb_one_56 : decode M_Tb_one.2.1 56 = .ok (.iaload, 1) := by decide +kernel
theorem d_Tb_one_57 : decode M_Tb_one.2.1 57 = .ok (.ireturn, 1) := by decide +kernel
theorem d_Tb_one_58 : decode M_Tb_one.2.1 58 = .ok (.aload_n 0, 1) := by decide +kernel
theorem d_Tb_one_59 : decode M_Tb_one.2.1 59 = .ok (.getfield 19, 3) := by decide +kernel
theorem d_Tb_one_62 : decode M_Tb_one.2.1 62 = .ok (.getfield 116, 3) := by decide +kernel
theorem d_Tb_one_65 : decode M_Tb_one.2.1 65 = .ok (.iload_n 1, 1) := by decide +kernel
theorem d_Tb_one_66 : decode M_Tb_one.2.1 66 = .ok (.iaload, 1) := by decide +kernel
theorem d_Tb_one_67 : decode M_Tb_one.2.1 67 = .ok (.ireturn, 1) := by decide +kernel
theorem d_Tb_one_68 : decode M_Tb_one.2.1 68 = .ok (.aload_n 0, 1) := by decide +kernel
theorem d_Tb_one_69 : decode M_Tb_one.2.1 69 = .ok (.getfield 29, 3) := by decide +kernel
theorem d_Tb_one_72 : decode M_Tb_one.2.1 72 = .ok (.iload_n 1, 1) := by decide +kernel
theorem d_Tb_one_73 : decode M_Tb_one.2.1 73 = .ok (.invokevirtual 119, 3) := by decide +kernel
theorem d_Tb_one_76 : decode M_Tb_one.2.1 76 = .ok (.ifCond .eq 7, 3) := by decide +kernel
theorem d_Tb_one_79 : decode M_Tb_one.2.1 79 = .ok (.iconst 1, 1) := by decide +kernel
theorem d_Tb_one_80 : decode M_Tb_one.2.1 80 = .ok (.goto 4, 3) := by decide +kernel
theorem d_Tb_one_83 : decode M_Tb_one.2.1 83 = .ok (.iconst 0, 1) := by decide +kernel
theorem d_Tb_one_84 : decode M_Tb_one.2.1 84 = .ok (.ireturn, 1) := by decide +kernel
theorem d_Tb_one_85 : decode M_Tb_one.2.1 85 = .ok (.aload_n 0, 1) := by decide +kernel
theorem d_Tb_one_86 : decode M_Tb_one.2.1 86 = .ok (.getfield 29, 3) := by decide +kernel
theorem d_Tb_one_89 : decode M_Tb_one.2.1 89 = .ok (.iload_n 1, 1) := by decide +kernel
theorem d_Tb_one_90 : decode M_Tb_one.2.1 90 = .ok (.invokevirtual 122, 3) := by decide +kernel
theorem d_Tb_one_93 : decode M_Tb_one.2.1 93 = .ok (.ireturn, 1) := by decide +kernel
theorem d_Tb_one_94 : decode M_Tb_one.2.1 94 = .ok (.aload_n 0, 1) := by decide +kernel
theorem d_Tb_one_95 : decode M_Tb_one.2.1 95 = .ok (.getfield 19, 3) := by decide +kernel
theorem d_Tb_one_98 : decode M_Tb_one.2.1 98 = .ok (.iload_n 1, 1) := by decide +kernel
theorem d_Tb_one_99 : decode M_Tb_one.2.1 99 = .ok (.invokevirtual 125, 3) := by decide +kernel
theorem d_Tb_one_102 : decode M_Tb_one.2.1 102 = .ok (.ireturn, 1) := by decide +kernel
theorem d_Tb_one_103 : decode M_Tb_one.2.1 103 = .ok (.iconst (-1), 1) := by decide +kernel
theorem d_Tb_one_104 : decode M_Tb_one.2.1 104 = .ok (.ireturn, 1) := by decide +kernel
theorem d_Tb_thought_0 : decode M_Tb_thought.2.1 0 = .ok (.aload_n 0, 1) := by decide +kernel
theorem d_Tb_thought_1 : decode M_Tb_thought.2.1 1 = .ok (.getfield 19, 3) := by decide +kernel
theorem d_Tb_thought_4 : decode M_Tb_thought.2.1 4 = .ok (.iload_n 1, 1) := by decide +kernel
theorem d_Tb_thought_5 : decode M_Tb_thought.2.1 5 = .ok (.invokevirtual 128, 3) := by decide +kernel
theorem d_Tb_thought_8 : decode M_Tb_thought.2.1 8 = .ok (.ifCond .ne 5, 3) := by decide +kernel
theorem d_Tb_thought_11 : decode M_Tb_thought.2.1 11 = .ok (.iconst (-1), 1) := by decide +kernel
theorem d_Tb_thought_12 : decode M_Tb_thought.2.1 12 = .ok (.ireturn, 1) := by decide +kernel
theorem d_Tb_thought_13 : decode M_Tb_thought.2.1 13 = .ok (.iload_n 2, 1) := by decide +kernel
theorem d_Tb_thought_14 : decode M_Tb_thought.2.1 14 = .ok (.lookupswitch 46 #[(0, 26), (1, 36)], 26) := by decide +kernel
theorem d_Tb_thought_40 : decode M_Tb_thought.2.1 40 = .ok (.aload_n 0, 1) := by decide +kernel
theorem d_Tb_thought_41 : decode M_Tb_thought.2.1 41 = .ok (.getfield 19, 3) := by decide +kernel
theorem d_Tb_thought_44 : decode M_Tb_thought.2.1 44 = .ok (.getfield 131, 3) := by decide +kernel
theorem d_Tb_thought_47 : decode M_Tb_thought.2.1 47 = .ok (.iload_n 1, 1) := by decide +kernel
theorem d_Tb_thought_48 : decode M_Tb_thought.2.1 48 = .ok (.iaload, 1) := by decide +kernel
theorem d_Tb_thought_49 : decode M_Tb_thought.2.1 49 = .ok (.ireturn, 1) := by decide +kernel
theorem d_Tb_thought_50 : decode M_Tb_thought.2.1 50 = .ok (.aload_n 0, 1) := by decide +kernel
theorem d_Tb_thought_51 : decode M_Tb_thought.2.1 51 = .ok (.getfield 19, 3) := by decide +kernel
theorem d_Tb_thought_54 : decode M_Tb_thought.2.1 54 = .ok (.getfield 134, 3) := by decide +kernel
theorem d_Tb_thought_57 : decode M_Tb_thought.2.1 57 = .ok (.iload_n 1, 1) := by decide +kernel
theorem d_Tb_thought_58 : decode M_Tb_thought.2.1 58 = .ok (.iaload, 1) := by decide +kernel
theorem d_Tb_thought_59 : decode M_Tb_thought.2.1 59 = .ok (.ireturn, 1) := by decide +kernel
theorem d_Tb_thought_60 : decode M_Tb_thought.2.1 60 = .ok (.iconst (-1), 1) := by decide +kernel
theorem d_Tb_thought_61 : decode M_Tb_thought.2.1 61 = .ok (.ireturn, 1) := by decide +kernel
theorem d_Tb_begins_0 : decode M_Tb_begins.2.1 0 = .ok (.aload_n 0, 1) := by decide +kernel
theorem d_Tb_begins_1 : decode M_Tb_begins.2.1 1 = .ok (.getfield 19, 3) := by decide +kernel
theorem d_Tb_begins_4 : decode M_Tb_begins.2.1 4 = .ok (.iload_n 1, 1) := by decide +kernel
theorem d_Tb_begins_5 : decode M_Tb_begins.2.1 5 = .ok (.invokevirtual 109, 3) := by decide +kernel
theorem d_Tb_begins_8 : decode M_Tb_begins.2.1 8 = .ok (.ifCond .eq 14, 3) := by decide +kernel
theorem d_Tb_begins_11 : decode M_Tb_begins.2.1 11 = .ok (.aload_n 0, 1) := by decide +kernel
theorem d_Tb_begins_12 : decode M_Tb_begins.2.1 12 = .ok (.getfield 19, 3) := by decide +kernel
theorem d_Tb_begins_15 : decode M_Tb_begins.2.1 15 = .ok (.iload_n 2, 1) := by decide +kernel
theorem d_Tb_begins_16 : decode M_Tb_begins.2.1 16 = .ok (.invokevirtual 128, 3) := by decide +kernel
theorem d_Tb_begins_19 : decode M_Tb_begins.2.1 19 = .ok (.ifCond .ne 5, 3) := by decide +kernel
theorem d_Tb_begins_22 : decode M_Tb_begins.2.1 22 = .ok (.iconst (-1), 1) := by decide +kernel
theorem d_Tb_begins_23 : decode M_Tb_begins.2.1 23 = .ok (.ireturn, 1) := by decide +kernel
theorem d_Tb_begins_24 : decode M_Tb_begins.2.1 24 = .ok (.aload_n 0, 1) := by decide +kernel
theorem d_Tb_begins_25 : decode M_Tb_begins.2.1 25 = .ok (.getfield 29, 3) := by decide +kernel
theorem d_Tb_begins_28 : decode M_Tb_begins.2.1 28 = .ok (.getfield 137, 3) := by decide +kernel
theorem d_Tb_begins_31 : decode M_Tb_begins.2.1 31 = .ok (.ifCond .ne 15, 3) := by decide +kernel
theorem d_Tb_begins_34 : decode M_Tb_begins.2.1 34 = .ok (.aload_n 0, 1) := by decide +kernel
theorem d_Tb_begins_35 : decode M_Tb_begins.2.1 35 = .ok (.getfield 29, 3) := by decide +kernel
theorem d_Tb_begins_38 : decode M_Tb_begins.2.1 38 = .ok (.iload_n 1, 1) := by decide +kernel
theorem d_Tb_begins_39 : decode M_Tb_begins.2.1 39 = .ok (.iload_n 2, 1) := by decide +kernel
theorem d_Tb_begins_40 : decode M_Tb_begins.2.1 40 = .ok (.invokevirtual 141, 3) := by decide +kernel
theorem d_Tb_begins_43 : decode M_Tb_begins.2.1 43 = .ok (.ifCond .ne 6, 3) := by decide +kernel
theorem d_Tb_begins_46 : decode M_Tb_begins.2.1 46 = .ok (.bipush (-2), 2) := by decide +kernel
theorem d_Tb_begins_48 : decode M_Tb_begins.2.1 48 = .ok (.ireturn, 1) := by decide +kernel
theorem d_Tb_begins_49 : decode M_Tb_begins.2.1 49 = .ok (.aload_n 0, 1) := by decide +kernel
theorem d_Tb_begins_50 : decode M_Tb_begins.2.1 50 = .ok (.getfield 39, 3) := by decide +kernel
theorem d_Tb_begins_53 : decode M_Tb_begins.2.1 53 = .ok (.aload_n 0, 1) := by decide +kernel
theorem d_Tb_begins_54 : decode M_Tb_begins.2.1 54 = .ok (.getfield 29, 3) := by decide +kernel
theorem d_Tb_begins_57 : decode M_Tb_begins.2.1 57 = .ok (.invokevirtual 145, 3) := by decide +kernel
theorem d_Tb_begins_60 : decode M_Tb_begins.2.1 60 = .ok (.aload_n 0, 1) := by decide +kernel
theorem d_Tb_begins_61 : decode M_Tb_begins.2.1 61 = .ok (.getfield 29, 3) := by decide +kernel
theorem d_Tb_begins_64 : decode M_Tb_begins.2.1 64 = .ok (.iload_n 1, 1) := by decide +kernel
theorem d_Tb_begins_65 : decode M_Tb_begins.2.1 65 = .ok (.iload_n 2, 1) := by decide +kernel
theorem d_Tb_begins_66 : decode M_Tb_begins.2.1 66 = .ok (.invokevirtual 149, 3) := by decide +kernel
theorem d_Tb_begins_69 : decode M_Tb_begins.2.1 69 = .ok (.aload_n 0, 1) := by decide +kernel
theorem d_Tb_begins_70 : decode M_Tb_begins.2.1 70 = .ok (.getfield 19, 3) := by decide +kernel
theorem d_Tb_begins_73 : decode M_Tb_begins.2.1 73 = .ok (.aload_n 0, 1) := by decide +kernel
theorem d_Tb_begins_74 : decode M_Tb_begins.2.1 74 = .ok (.getfield 29, 3) := by decide +kernel
theorem d_Tb_begins_77 : decode M_Tb_begins.2.1 77 = .ok (.invokevirtual 153, 3) := by decide +kernel
theorem d_Tb_begins_80 : decode M_Tb_begins.2.1 80 = .ok (.ireturn, 1) := by decide +kernel
theorem d_Tb_minutes_0 : decode M_Tb_minutes.2.1 0 = .ok (.iload_n 1, 1) := by decide +kernel
theorem d_Tb_minutes_1 : decode M_Tb_minutes.2.1 1 = .ok (.iconst 1, 1) := by decide +kernel
theorem d_Tb_minutes_2 : decode M_Tb_minutes.2.1 2 = .ok (.bipush 9, 2) := by decide +kernel
theorem d_Tb_minutes_4 : decode M_Tb_minutes.2.1 4 = .ok (.invokestatic 85, 3) := by decide +kernel
theorem d_Tb_minutes_7 : decode M_Tb_minutes.2.1 7 = .ok (.ifCond .ne 5, 3) := by decide +kernel
theorem d_Tb_minutes_10 : decode M_Tb_minutes.2.1 10 = .ok (.iconst (-1), 1) := by decide +kernel
theorem d_Tb_minutes_11 : decode M_Tb_minutes.2.1 11 = .ok (.ireturn, 1) := by decide +kernel
theorem d_Tb_minutes_12 : decode M_Tb_minutes.2.1 12 = .ok (.aload_n 0, 1) := by decide +kernel
theorem d_Tb_minutes_13 : decode M_Tb_minutes.2.1 13 = .ok (.getfield 29, 3) := by decide +kernel
theorem d_Tb_minutes_16 : decode M_Tb_minutes.2.1 16 = .ok (.getfield 157, 3) := by decide +kernel
theorem d_Tb_minutes_19 : decode M_Tb_minutes.2.1 19 = .ok (.iload_n 1, 1) := by decide +kernel
theorem d_Tb_minutes_20 : decode M_Tb_minutes.2.1 20 = .ok (.iadd, 1) := by decide +kernel
theorem d_Tb_minutes_21 : decode M_Tb_minutes.2.1 21 = .ok (.bipush 99, 2) := by decide +kernel
theorem d_Tb_minutes_23 : decode M_Tb_minutes.2.1 23 = .ok (.if_icmp .le 6, 3) := by decide +kernel
theorem d_Tb_minutes_26 : decode M_Tb_minutes.2.1 26 = .ok (.bipush (-2), 2) := by decide +kernel
theorem d_Tb_minutes_28 : decode M_Tb_minutes.2.1 28 = .ok (.ireturn, 1) := by decide +kernel
theorem d_Tb_minutes_29 : decode M_Tb_minutes.2.1 29 = .ok (.aload_n 0, 1) := by decide +kernel
theorem d_Tb_minutes_30 : decode M_Tb_minutes.2.1 30 = .ok (.getfield 39, 3) := by decide +kernel
theorem d_Tb_minutes_33 : decode M_Tb_minutes.2.1 33 = .ok (.aload_n 0, 1) := by decide +kernel
theorem d_Tb_minutes_34 : decode M_Tb_minutes.2.1 34 = .ok (.getfield 29, 3) := by decide +kernel
theorem d_Tb_minutes_37 : decode M_Tb_minutes.2.1 37 = .ok (.invokevirtual 145, 3) := by decide +kernel
theorem d_Tb_minutes_40 : decode M_Tb_minutes.2.1 40 = .ok (.aload_n 0, 1) := by decide +kernel
theorem d_Tb_minutes_41 : decode M_Tb_minutes.2.1 41 = .ok (.getfield 19, 3) := by decide +kernel
theorem d_Tb_minutes_44 : decode M_Tb_minutes.2.1 44 = .ok (.aload_n 0, 1) := by decide +kernel
theorem d_Tb_minutes_45 : decode M_Tb_minutes.2.1 45 = .ok (.getfield 29, 3) := by decide +kernel
theorem d_Tb_minutes_48 : decode M_Tb_minutes.2.1 48 = .ok (.iload_n 1, 1) := by decide +kernel
theorem d_Tb_minutes_49 : decode M_Tb_minutes.2.1 49 = .ok (.invokevirtual 161, 3) := by decide +kernel
theorem d_Tb_minutes_52 : decode M_Tb_minutes.2.1 52 = .ok (.aload_n 0, 1) := by decide +kernel
theorem d_Tb_minutes_53 : decode M_Tb_minutes.2.1 53 = .ok (.getfield 29, 3) := by decide +kernel
theorem d_Tb_minutes_56 : decode M_Tb_minutes.2.1 56 = .ok (.getfield 165, 3) := by decide +kernel
theorem d_Tb_minutes_59 : decode M_Tb_minutes.2.1 59 = .ok (.ireturn, 1) := by decide +kernel
theorem d_Tb_enters_0 : decode M_Tb_enters.2.1 0 = .ok (.aload_n 0, 1) := by decide +kernel
theorem d_Tb_enters_1 : decode M_Tb_enters.2.1 1 = .ok (.getfield 19, 3) := by decide +kernel
theorem d_Tb_enters_4 : decode M_Tb_enters.2.1 4 = .ok (.iload_n 1, 1) := by decide +kernel
theorem d_Tb_enters_5 : decode M_Tb_enters.2.1 5 = .ok (.invokevirtual 109, 3) := by decide +kernel
theorem d_Tb_enters_8 : decode M_Tb_enters.2.1 8 = .ok (.ifCond .ne 5, 3) := by decide +kernel
theorem d_Tb_enters_11 : decode M_Tb_enters.2.1 11 = .ok (.iconst (-1), 1) := by decide +kernel
theorem d_Tb_enters_12 : decode M_Tb_enters.2.1 12 = .ok (.ireturn, 1) := by decide +kernel
theorem d_Tb_enters_13 : decode M_Tb_enters.2.1 13 = .ok (.aload_n 0, 1) := by decide +kernel
theorem d_Tb_enters_14 : decode M_Tb_enters.2.1 14 = .ok (.getfield 29, 3) := by decide +kernel
theorem d_Tb_enters_17 : decode M_Tb_enters.2.1 17 = .ok (.iload_n 1, 1) := by decide +kernel
theorem d_Tb_enters_18 : decode M_Tb_enters.2.1 18 = .ok (.invokevirtual 119, 3) := by decide +kernel
theorem d_Tb_enters_21 : decode M_Tb_enters.2.1 21 = .ok (.ifCond .ne 13, 3) := by decide +kernel
theorem d_Tb_enters_24 : decode M_Tb_enters.2.1 24 = .ok (.aload_n 0, 1) := by decide +kernel
theorem d_Tb_enters_25 : decode M_Tb_enters.2.1 25 = .ok (.getfield 29, 3) := by decide +kernel
theorem d_Tb_enters_28 : decode M_Tb_enters.2.1 28 = .ok (.invokevirtual 168, 3) := by decide +kernel
theorem d_Tb_enters_31 : decode M_Tb_enters.2.1 31 = .ok (.ifCond .ne 6, 3) := by decide +kernel
theorem d_Tb_enters_34 : decode M_Tb_enters.2.1 34 = .ok (.bipush (-2), 2) := by decide +kernel
theorem d_Tb_enters_36 : decode M_Tb_enters.2.1 36 = .ok (.ireturn, 1) := by decide +kernel
theorem d_Tb_enters_37 : decode M_Tb_enters.2.1 37 = .ok (.aload_n 0, 1) := by decide +kernel
theorem d_Tb_enters_38 : decode M_Tb_enters.2.1 38 = .ok (.getfield 39, 3) := by decide +kernel
theorem d_Tb_enters_41 : decode M_Tb_enters.2.1 41 = .ok (.aload_n 0, 1) := by decide +kernel
theorem d_Tb_enters_42 : decode M_Tb_enters.2.1 42 = .ok (.getfield 29, 3) := by decide +kernel
theorem d_Tb_enters_45 : decode M_Tb_enters.2.1 45 = .ok (.invokevirtual 145, 3) := by decide +kernel
theorem d_Tb_enters_48 : decode M_Tb_enters.2.1 48 = .ok (.aload_n 0, 1) := by decide +kernel
theorem d_Tb_enters_49 : decode M_Tb_enters.2.1 49 = .ok (.getfield 29, 3) := by decide +kernel
theorem d_Tb_enters_52 : decode M_Tb_enters.2.1 52 = .ok (.iload_n 1, 1) := by decide +kernel
theorem d_Tb_enters_53 : decode M_Tb_enters.2.1 53 = .ok (.invokevirtual 172, 3) := by decide +kernel
theorem d_Tb_enters_56 : decode M_Tb_enters.2.1 56 = .ok (.aload_n 0, 1) := by decide +kernel
theorem d_Tb_enters_57 : decode M_Tb_enters.2.1 57 = .ok (.getfield 29, 3) := by decide +kernel
theorem d_Tb_enters_60 : decode M_Tb_enters.2.1 60 = .ok (.getfield 176, 3) := by decide +kernel
theorem d_Tb_enters_63 : decode M_Tb_enters.2.1 63 = .ok (.invokestatic 179, 3) := by decide +kernel
theorem d_Tb_enters_66 : decode M_Tb_enters.2.1 66 = .ok (.ireturn, 1) := by decide +kernel
theorem d_Tb_leaves_0 : decode M_Tb_leaves.2.1 0 = .ok (.aload_n 0, 1) := by decide +kernel
theorem d_Tb_leaves_1 : decode M_Tb_leaves.2.1 1 = .ok (.getfield 19, 3) := by decide +kernel
theorem d_Tb_leaves_4 : decode M_Tb_leaves.2.1 4 = .ok (.iload_n 1, 1) := by decide +kernel
theorem d_Tb_leaves_5 : decode M_Tb_leaves.2.1 5 = .ok (.invokevirtual 109, 3) := by decide +kernel
theorem d_Tb_leaves_8 : decode M_Tb_leaves.2.1 8 = .ok (.ifCond .ne 5, 3) := by decide +kernel
theorem d_Tb_leaves_11 : decode M_Tb_leaves.2.1 11 = .ok (.iconst (-1), 1) := by decide +kernel
theorem d_Tb_leaves_12 : decode M_Tb_leaves.2.1 12 = .ok (.ireturn, 1) := by decide +kernel
theorem d_Tb_leaves_13 : decode M_Tb_leaves.2.1 13 = .ok (.aload_n 0, 1) := by decide +kernel
theorem d_Tb_leaves_14 : decode M_Tb_leaves.2.1 14 = .ok (.getfield 29, 3) := by decide +kernel
theorem d_Tb_leaves_17 : decode M_Tb_leaves.2.1 17 = .ok (.iload_n 1, 1) := by decide +kernel
theorem d_Tb_leaves_18 : decode M_Tb_leaves.2.1 18 = .ok (.invokevirtual 119, 3) := by decide +kernel
theorem d_Tb_leaves_21 : decode M_Tb_leaves.2.1 21 = .ok (.ifCond .eq 13, 3) := by decide +kernel
theorem d_Tb_leaves_24 : decode M_Tb_leaves.2.1 24 = .ok (.aload_n 0, 1) := by decide +kernel
theorem d_Tb_leaves_25 : decode M_Tb_leaves.2.1 25 = .ok (.getfield 29, 3) := by decide +kernel
theorem d_Tb_leaves_28 : decode M_Tb_leaves.2.1 28 = .ok (.invokevirtual 168, 3) := by decide +kernel
theorem d_Tb_leaves_31 : decode M_Tb_leaves.2.1 31 = .ok (.ifCond .ne 6, 3) := by decide +kernel
theorem d_Tb_leaves_34 : decode M_Tb_leaves.2.1 34 = .ok (.bipush (-2), 2) := by decide +kernel
theorem d_Tb_leaves_36 : decode M_Tb_leaves.2.1 36 = .ok (.ireturn, 1) := by decide +kernel
theorem d_Tb_leaves_37 : decode M_Tb_leaves.2.1 37 = .ok (.aload_n 0, 1) := by decide +kernel
theorem d_Tb_leaves_38 : decode M_Tb_leaves.2.1 38 = .ok (.getfield 39, 3) := by decide +kernel
theorem d_Tb_leaves_41 : decode M_Tb_leaves.2.1 41 = .ok (.aload_n 0, 1) := by decide +kernel
theorem d_Tb_leaves_42 : decode M_Tb_leaves.2.1 42 = .ok (.getfield 29, 3) := by decide +kernel
theorem d_Tb_leaves_45 : decode M_Tb_leaves.2.1 45 = .ok (.invokevirtual 145, 3) := by decide +kernel
theorem d_Tb_leaves_48 : decode M_Tb_leaves.2.1 48 = .ok (.aload_n 0, 1) := by decide +kernel
theorem d_Tb_leaves_49 : decode M_Tb_leaves.2.1 49 = .ok (.getfield 29, 3) := by decide +kernel
theorem d_Tb_leaves_52 : decode M_Tb_leaves.2.1 52 = .ok (.iload_n 1, 1) := by decide +kernel
theorem d_Tb_leaves_53 : decode M_Tb_leaves.2.1 53 = .ok (.invokevirtual 184, 3) := by decide +kernel
theorem d_Tb_leaves_56 : decode M_Tb_leaves.2.1 56 = .ok (.aload_n 0, 1) := by decide +kernel
theorem d_Tb_leaves_57 : decode M_Tb_leaves.2.1 57 = .ok (.getfield 29, 3) := by decide +kernel
theorem d_Tb_leaves_60 : decode M_Tb_leaves.2.1 60 = .ok (.getfield 176, 3) := by decide +kernel
theorem d_Tb_leaves_63 : decode M_Tb_leaves.2.1 63 = .ok (.invokestatic 179, 3) := by decide +kernel
theorem d_Tb_leaves_66 : decode M_Tb_leaves.2.1 66 = .ok (.ireturn, 1) := by decide +kernel
theorem d_Tb_undo_0 : decode M_Tb_undo.2.1 0 = .ok (.aload_n 0, 1) := by decide +kernel
theorem d_Tb_undo_1 : decode M_Tb_undo.2.1 1 = .ok (.getfield 39, 3) := by decide +kernel
theorem d_Tb_undo_4 : decode M_Tb_undo.2.1 4 = .ok (.getfield 187, 3) := by decide +kernel
theorem d_Tb_undo_7 : decode M_Tb_undo.2.1 7 = .ok (.ifCond .ne 6, 3) := by decide +kernel
theorem d_Tb_undo_10 : decode M_Tb_undo.2.1 10 = .ok (.bipush (-2), 2) := by decide +kernel
theorem d_Tb_undo_12 : decode M_Tb_undo.2.1 12 = .ok (.ireturn, 1) := by decide +kernel
theorem d_Tb_undo_13 : decode M_Tb_undo.2.1 13 = .ok (.aload_n 0, 1) := by decide +kernel
theorem d_Tb_undo_14 : decode M_Tb_undo.2.1 14 = .ok (.getfield 39, 3) := by decide +kernel
theorem d_Tb_undo_17 : decode M_Tb_undo.2.1 17 = .ok (.aload_n 0, 1) := by decide +kernel
theorem d_Tb_undo_18 : decode M_Tb_undo.2.1 18 = .ok (.getfield 29, 3) := by decide +kernel
theorem d_Tb_undo_21 : decode M_Tb_undo.2.1 21 = .ok (.invokevirtual 190, 3) := by decide +kernel
theorem d_Tb_undo_24 : decode M_Tb_undo.2.1 24 = .ok (.aload_n 0, 1) := by decide +kernel
theorem d_Tb_undo_25 : decode M_Tb_undo.2.1 25 = .ok (.getfield 39, 3) := by decide +kernel
theorem d_Tb_undo_28 : decode M_Tb_undo.2.1 28 = .ok (.getfield 187, 3) := by decide +kernel
theorem d_Tb_undo_31 : decode M_Tb_undo.2.1 31 = .ok (.ireturn, 1) := by decide +kernel
theorem d_Tb_now_0 : decode M_Tb_now.2.1 0 = .ok (.iload_n 1, 1) := by decide +kernel
theorem d_Tb_now_1 : decode M_Tb_now.2.1 1 = .ok (.tableswitch 139 0 8 #[51, 59, 67, 75, 83, 91, 103, 115, 131], 51) := by decide +kernel
theorem d_Tb_now_52 : decode M_Tb_now.2.1 52 = .ok (.aload_n 0, 1) := by decide +kernel
theorem d_Tb_now_53 : decode M_Tb_now.2.1 53 = .ok (.getfield 29, 3) := by decide +kernel
theorem d_Tb_now_56 : decode M_Tb_now.2.1 56 = .ok (.getfield 157, 3) := by decide +kernel
theorem d_Tb_now_59 : decode M_Tb_now.2.1 59 = .ok (.ireturn, 1) := by decide +kernel
theorem d_Tb_now_60 : decode M_Tb_now.2.1 60 = .ok (.aload_n 0, 1) := by decide +kernel
theorem d_Tb_now_61 : decode M_Tb_now.2.1 61 = .ok (.getfield 29, 3) := by decide +kernel
theorem d_Tb_now_64 : decode M_Tb_now.2.1 64 = .ok (.getfield 165, 3) := by decide +kernel
theorem d_Tb_now_67 : decode M_Tb_now.2.1 67 = .ok (.ireturn, 1) := by decide +kernel
theorem d_Tb_now_68 : decode M_Tb_now.2.1 68 = .ok (.aload_n 0, 1) := by decide +kernel
theorem d_Tb_now_69 : decode M_Tb_now.2.1 69 = .ok (.getfield 29, 3) := by decide +kernel
theorem d_Tb_now_72 : decode M_Tb_now.2.1 72 = .ok (.getfield 193, 3) := by decide +kernel
theorem d_Tb_now_75 : decode M_Tb_now.2.1 75 = .ok (.ireturn, 1) := by decide +kernel
theorem d_Tb_now_76 : decode M_Tb_now.2.1 76 = .ok (.aload_n 0, 1) := by decide +kernel
theorem d_Tb_now_77 : decode M_Tb_now.2.1 77 = .ok (.getfield 29, 3) := by decide +kernel
theorem d_Tb_now_80 : decode M_Tb_now.2.1 80 = .ok (.getfield 196, 3) := by decide +kernel
theorem d_Tb_now_83 : decode M_Tb_now.2.1 83 = .ok (.ireturn, 1) := by decide +kernel
theorem d_Tb_now_84 : decode M_Tb_now.2.1 84 = .ok (.aload_n 0, 1) := by decide +kernel
theorem d_Tb_now_85 : decode M_Tb_now.2.1 85 = .ok (.getfield 29, 3) := by decide +kernel
theorem d_Tb_now_88 : decode M_Tb_now.2.1 88 = .ok (.getfield 199, 3) := by decide +kernel
theorem d_Tb_now_91 : decode M_Tb_now.2.1 91 = .ok (.ireturn, 1) := by decide +kernel
theorem d_Tb_now_92 : decode M_Tb_now.2.1 92 = .ok (.aload_n 0, 1) := by decide +kernel
theorem d_Tb_now_93 : decode M_Tb_now.2.1 93 = .ok (.getfield 19, 3) := by decide +kernel
theorem d_Tb_now_96 : decode M_Tb_now.2.1 96 = .ok (.aload_n 0, 1) := by decide +kernel
theorem d_Tb_now_97 : decode M_Tb_now.2.1 97 = .ok (.getfield 29, 3) := by decide +kernel
theorem d_Tb_now_100 : decode M_Tb_now.2.1 100 = .ok (.invokevirtual 153, 3) := by decide +kernel
theorem d_Tb_now_103 : decode M_Tb_now.2.1 103 = .ok (.ireturn, 1) := by decide +kernel
theorem d_Tb_now_104 : decode M_Tb_now.2.1 104 = .ok (.aload_n 0, 1) := by decide +kernel
theorem d_Tb_now_105 : decode M_Tb_now.2.1 105 = .ok (.getfield 19, 3) := by decide +kernel
theorem d_Tb_now_108 : decode M_Tb_now.2.1 108 = .ok (.aload_n 0, 1) := by decide +kernel
theorem d_Tb_now_109 : decode M_Tb_now.2.1 109 = .ok (.getfield 29, 3) := by decide +kernel
theorem d_Tb_now_112 : decode M_Tb_now.2.1 112 = .ok (.invokevirtual 202, 3) := by decide +kernel
theorem d_Tb_now_115 : decode M_Tb_now.2.1 115 = .ok (.ireturn, 1) := by decide +kernel
theorem d_Tb_now_116 : decode M_Tb_now.2.1 116 = .ok (.aload_n 0, 1) := by decide +kernel
theorem d_Tb_now_117 : decode M_Tb_now.2.1 117 = .ok (.getfield 29, 3) := by decide +kernel
theorem d_Tb_now_120 : decode M_Tb_now.2.1 120 = .ok (.getfield 137, 3) := by decide +kernel
theorem d_Tb_now_123 : decode M_Tb_now.2.1 123 = .ok (.ifCond .eq 7, 3) := by decide +kernel
theorem d_Tb_now_126 : decode M_Tb_now.2.1 126 = .ok (.iconst 1, 1) := by decide +kernel
theorem d_Tb_now_127 : decode M_Tb_now.2.1 127 = .ok (.goto 4, 3) := by decide +kernel
theorem d_Tb_now_130 : decode M_Tb_now.2.1 130 = .ok (.iconst 0, 1) := by decide +kernel
theorem d_Tb_now_131 : decode M_Tb_now.2.1 131 = .ok (.ireturn, 1) := by decide +kernel
theorem d_Tb_now_132 : decode M_Tb_now.2.1 132 = .ok (.aload_n 0, 1) := by decide +kernel
theorem d_Tb_now_133 : decode M_Tb_now.2.1 133 = .ok (.getfield 19, 3) := by decide +kernel
theorem d_Tb_now_136 : decode M_Tb_now.2.1 136 = .ok (.invokevirtual 205, 3) := by decide +kernel
theorem d_Tb_now_139 : decode M_Tb_now.2.1 139 = .ok (.ireturn, 1) := by decide +kernel
theorem d_Tb_now_140 : decode M_Tb_now.2.1 140 = .ok (.iconst (-1), 1) := by decide +kernel
theorem d_Tb_now_141 : decode M_Tb_now.2.1 141 = .ok (.ireturn, 1) := by decide +kernel
theorem d_Tb_after_0 : decode M_Tb_after.2.1 0 = .ok (.iload_n 1, 1) := by decide +kernel
theorem d_Tb_after_1 : decode M_Tb_after.2.1 1 = .ok (.iconst 0, 1) := by decide +kernel
theorem d_Tb_after_2 : decode M_Tb_after.2.1 2 = .ok (.bipush 30, 2) := by decide +kernel
theorem d_Tb_after_4 : decode M_Tb_after.2.1 4 = .ok (.invokestatic 85, 3) := by decide +kernel
theorem d_Tb_after_7 : decode M_Tb_after.2.1 7 = .ok (.ifCond .eq 12, 3) := by decide +kernel
theorem d_Tb_after_10 : decode M_Tb_after.2.1 10 = .ok (.iload_n 2, 1) := by decide +kernel
theorem d_Tb_after_11 : decode M_Tb_after.2.1 11 = .ok (.iconst 0, 1) := by decide +kernel
theorem d_Tb_after_12 : decode M_Tb_after.2.1 12 = .ok (.iconst 1, 1) := by decide +kernel
theorem d_Tb_after_13 : decode M_Tb_after.2.1 13 = .ok (.invokestatic 85, 3) := by decide +kernel
theorem d_Tb_after_16 : decode M_Tb_after.2.1 16 = .ok (.ifCond .ne 5, 3) := by decide +kernel
theorem d_Tb_after_19 : decode M_Tb_after.2.1 19 = .ok (.iconst (-1), 1) := by decide +kernel
theorem d_Tb_after_20 : decode M_Tb_after.2.1 20 = .ok (.ireturn, 1) := by decide +kernel
theorem d_Tb_after_21 : decode M_Tb_after.2.1 21 = .ok (.aload_n 0, 1) := by decide +kernel
theorem d_Tb_after_22 : decode M_Tb_after.2.1 22 = .ok (.getfield 33, 3) := by decide +kernel
theorem d_Tb_after_25 : decode M_Tb_after.2.1 25 = .ok (.aload_n 0, 1) := by decide +kernel
theorem d_Tb_after_26 : decode M_Tb_after.2.1 26 = .ok (.getfield 29, 3) := by decide +kernel
theorem d_Tb_after_29 : decode M_Tb_after.2.1 29 = .ok (.invokevirtual 208, 3) := by decide +kernel
theorem d_Tb_after_32 : decode M_Tb_after.2.1 32 = .ok (.aload_n 0, 1) := by decide +kernel
theorem d_Tb_after_33 : decode M_Tb_after.2.1 33 = .ok (.getfield 19, 3) := by decide +kernel
theorem d_Tb_after_36 : decode M_Tb_after.2.1 36 = .ok (.aload_n 0, 1) := by decide +kernel
theorem d_Tb_after_37 : decode M_Tb_after.2.1 37 = .ok (.getfield 33, 3) := by decide +kernel
theorem d_Tb_after_40 : decode M_Tb_after.2.1 40 = .ok (.iload_n 1, 1) := by decide +kernel
theorem d_Tb_after_41 : decode M_Tb_after.2.1 41 = .ok (.invokevirtual 161, 3) := by decide +kernel
theorem d_Tb_after_44 : decode M_Tb_after.2.1 44 = .ok (.iload_n 2, 1) := by decide +kernel
theorem d_Tb_after_45 : decode M_Tb_after.2.1 45 = .ok (.ifCond .ne 13, 3) := by decide +kernel
theorem d_Tb_after_48 : decode M_Tb_after.2.1 48 = .ok (.aload_n 0, 1) := by decide +kernel
theorem d_Tb_after_49 : decode M_Tb_after.2.1 49 = .ok (.getfield 33, 3) := by decide +kernel
theorem d_Tb_after_52 : decode M_Tb_after.2.1 52 = .ok (.getfield 165, 3) := by decide +kernel
theorem d_Tb_after_55 : decode M_Tb_after.2.1 55 = .ok (.goto 10, 3) := by decide +kernel
theorem d_Tb_after_58 : decode M_Tb_after.2.1 58 = .ok (.aload_n 0, 1) := by decide +kernel
theorem d_Tb_after_59 : decode M_Tb_after.2.1 59 = .ok (.getfield 33, 3) := by decide +kernel
theorem d_Tb_after_62 : decode M_Tb_after.2.1 62 = .ok (.getfield 193, 3) := by decide +kernel
theorem d_Tb_after_65 : decode M_Tb_after.2.1 65 = .ok (.ireturn, 1) := by decide +kernel
theorem d_Tb_down_0 : decode M_Tb_down.2.1 0 = .ok (.aload_n 0, 1) := by decide +kernel
theorem d_Tb_down_1 : decode M_Tb_down.2.1 1 = .ok (.getfield 33, 3) := by decide +kernel
theorem d_Tb_down_4 : decode M_Tb_down.2.1 4 = .ok (.aload_n 0, 1) := by decide +kernel
theorem d_Tb_down_5 : decode M_Tb_down.2.1 5 = .ok (.getfield 29, 3) := by decide +kernel
theorem d_Tb_down_8 : decode M_Tb_down.2.1 8 = .ok (.invokevirtual 208, 3) := by decide +kernel
theorem d_Tb_down_11 : decode M_Tb_down.2.1 11 = .ok (.iconst 1, 1) := by decide +kernel
theorem d_Tb_down_12 : decode M_Tb_down.2.1 12 = .ok (.istore_n 1, 1) := by decide +kernel
theorem d_Tb_down_13 : decode M_Tb_down.2.1 13 = .ok (.iload_n 1, 1) := by decide +kernel
theorem d_Tb_down_14 : decode M_Tb_down.2.1 14 = .ok (.bipush 60, 2) := by decide +kernel
theorem d_Tb_down_16 : decode M_Tb_down.2.1 16 = .ok (.if_icmp .gt 45, 3) := by decide +kernel
theorem d_Tb_down_19 : decode M_Tb_down.2.1 19 = .ok (.aload_n 0, 1) := by decide +kernel
theorem d_Tb_down_20 : decode M_Tb_down.2.1 20 = .ok (.getfield 19, 3) := by decide +kernel
theorem d_Tb_down_23 : decode M_Tb_down.2.1 23 = .ok (.aload_n 0, 1) := by decide +kernel
theorem d_Tb_down_24 : decode M_Tb_down.2.1 24 = .ok (.getfield 33, 3) := by decide +kernel
theorem d_Tb_down_27 : decode M_Tb_down.2.1 27 = .ok (.invokevirtual 210, 3) := by decide +kernel
theorem d_Tb_down_30 : decode M_Tb_down.2.1 30 = .ok (.aload_n 0, 1) := by decide +kernel
theorem d_Tb_down_31 : decode M_Tb_down.2.1 31 = .ok (.getfield 33, 3) := by decide +kernel
theorem d_Tb_down_34 : decode M_Tb_down.2.1 34 = .ok (.getfield 137, 3) := by decide +kernel
theorem d_Tb_down_37 : decode M_Tb_down.2.1 37 = .ok (.ifCond .eq 6, 3) := by decide +kernel
theorem d_Tb_down_40 : decode M_Tb_down.2.1 40 = .ok (.bipush (-9), 2) := by decide +kernel
theorem d_Tb_down_42 : decode M_Tb_down.2.1 42 = .ok (.ireturn, 1) := by decide +kernel
theorem d_Tb_down_43 : decode M_Tb_down.2.1 43 = .ok (.aload_n 0, 1) := by decide +kernel
theorem d_Tb_down_44 : decode M_Tb_down.2.1 44 = .ok (.getfield 33, 3) := by decide +kernel
theorem d_Tb_down_47 : decode M_Tb_down.2.1 47 = .ok (.getfield 193, 3) := by decide +kernel
theorem d_Tb_down_50 : decode M_Tb_down.2.1 50 = .ok (.ifCond .ne 5, 3) := by decide +kernel
theorem d_Tb_down_53 : decode M_Tb_down.2.1 53 = .ok (.iload_n 1, 1) := by decide +kernel
theorem d_Tb_down_54 : decode M_Tb_down.2.1 54 = .ok (.ireturn, 1) := by decide +kernel
theorem d_Tb_down_55 : decode M_Tb_down.2.1 55 = .ok (.iinc 1 1, 3) := by decide +kernel
theorem d_Tb_down_58 : decode M_Tb_down.2.1 58 = .ok (.goto (-45), 3) := by decide +kernel
theorem d_Tb_down_61 : decode M_Tb_down.2.1 61 = .ok (.bipush (-9), 2) := by decide +kernel
theorem d_Tb_down_63 : decode M_Tb_down.2.1 63 = .ok (.ireturn, 1) := by decide +kernel
theorem d_Tb_best_0 : decode M_Tb_best.2.1 0 = .ok (.iload_n 1, 1) := by decide +kernel
theorem d_Tb_best_1 : decode M_Tb_best.2.1 1 = .ok (.iconst 0, 1) := by decide +kernel
theorem d_Tb_best_2 : decode M_Tb_best.2.1 2 = .ok (.iconst 4, 1) := by decide +kernel
theorem d_Tb_best_3 : decode M_Tb_best.2.1 3 = .ok (.invokestatic 85, 3) := by decide +kernel
theorem d_Tb_best_6 : decode M_Tb_best.2.1 6 = .ok (.ifCond .eq 21, 3) := by decide +kernel
theorem d_Tb_best_9 : decode M_Tb_best.2.1 9 = .ok (.iload_n 2, 1) := by decide +kernel
theorem d_Tb_best_10 : decode M_Tb_best.2.1 10 = .ok (.iconst 0, 1) := by decide +kernel
theorem d_Tb_best_11 : decode M_Tb_best.2.1 11 = .ok (.iconst 1, 1) := by decide +kernel
theorem d_Tb_best_12 : decode M_Tb_best.2.1 12 = .ok (.invokestatic 85, 3) := by decide +kernel
theorem d_Tb_best_15 : decode M_Tb_best.2.1 15 = .ok (.ifCond .eq 12, 3) := by decide +kernel
theorem d_Tb_best_18 : decode M_Tb_best.2.1 18 = .ok (.iload_n 3, 1) := by decide +kernel
theorem d_Tb_best_19 : decode M_Tb_best.2.1 19 = .ok (.iconst (-1), 1) := by decide +kernel
theorem d_Tb_best_20 : decode M_Tb_best.2.1 20 = .ok (.iconst 3, 1) := by decide +kernel
theorem d_Tb_best_21 : decode M_Tb_best.2.1 21 = .ok (.invokestatic 85, 3) := by decide +kernel
theorem d_Tb_best_24 : decode M_Tb_best.2.1 24 = .ok (.ifCond .ne 5, 3) := by decide +kernel
theorem d_Tb_best_27 : decode M_Tb_best.2.1 27 = .ok (.iconst (-1), 1) := by decide +kernel
theorem d_Tb_best_28 : decode M_Tb_best.2.1 28 = .ok (.ireturn, 1) := by decide +kernel
theorem d_Tb_best_29 : decode M_Tb_best.2.1 29 = .ok (.aload_n 0, 1) := by decide +kernel
theorem d_Tb_best_30 : decode M_Tb_best.2.1 30 = .ok (.getfield 52, 3) := by decide +kernel
theorem d_Tb_best_33 : decode M_Tb_best.2.1 33 = .ok (.aload_n 0, 1) := by decide +kernel
theorem d_Tb_best_34 : decode M_Tb_best.2.1 34 = .ok (.getfield 19, 3) := by decide +kernel
theorem d_Tb_best_37 : decode M_Tb_best.2.1 37 = .ok (.aload_n 0, 1) := by decide +kernel
theorem d_Tb_best_38 : decode M_Tb_best.2.1 38 = .ok (.getfield 29, 3) := by decide +kernel
theorem d_Tb_best_41 : decode M_Tb_best.2.1 41 = .ok (.iload_n 1, 1) := by decide +kernel
theorem d_Tb_best_42 : decode M_Tb_best.2.1 42 = .ok (.iload_n 2, 1) := by decide +kernel
theorem d_Tb_best_43 : decode M_Tb_best.2.1 43 = .ok (.invokevirtual 213, 3) := by decide +kernel
theorem d_Tb_best_46 : decode M_Tb_best.2.1 46 = .ok (.iload_n 3, 1) := by decide +kernel
theorem d_Tb_best_47 : decode M_Tb_best.2.1 47 = .ok (.iconst (-1), 1) := by decide +kernel
theorem d_Tb_best_48 : decode M_Tb_best.2.1 48 = .ok (.if_icmp .ne 11, 3) := by decide +kernel
theorem d_Tb_best_51 : decode M_Tb_best.2.1 51 = .ok (.aload_n 0, 1) := by decide +kernel
theorem d_Tb_best_52 : decode M_Tb_best.2.1 52 = .ok (.getfield 52, 3) := by decide +kernel
theorem d_Tb_best_55 : decode M_Tb_best.2.1 55 = .ok (.getfield 217, 3) := by decide +kernel
theorem d_Tb_best_58 : decode M_Tb_best.2.1 58 = .ok (.ireturn, 1) := by decide +kernel
theorem d_Tb_best_59 : decode M_Tb_best.2.1 59 = .ok (.iload_n 3, 1) := by decide +kernel
theorem d_Tb_best_60 : decode M_Tb_best.2.1 60 = .ok (.iload_n 1, 1) := by decide +kernel
theorem d_Tb_best_61 : decode M_Tb_best.2.1 61 = .ok (.if_icmp .ge 15, 3) := by decide +kernel
theorem d_Tb_best_64 : decode M_Tb_best.2.1 64 = .ok (.aload_n 0, 1) := by decide +kernel
theorem d_Tb_best_65 : decode M_Tb_best.2.1 65 = .ok (.getfield 52, 3) := by decide +kernel
theorem d_Tb_best_68 : decode M_Tb_best.2.1 68 = .ok (.getfield 220, 3) := by decide +kernel
theorem d_Tb_best_71 : decode M_Tb_best.2.1 71 = .ok (.iload_n 3, 1) := by decide +kernel
theorem d_Tb_best_72 : decode M_Tb_best.2.1 72 = .ok (.iaload, 1) := by decide +kernel
theorem d_Tb_best_73 : decode M_Tb_best.2.1 73 = .ok (.goto 5, 3) := by decide +kernel
theorem d_Tb_best_76 : decode M_Tb_best.2.1 76 = .ok (.bipush (-9), 2) := by decide +kernel
theorem d_Tb_best_78 : decode M_Tb_best.2.1 78 = .ok (.ireturn, 1) := by decide +kernel
theorem d_Tb_own_0 : decode M_Tb_own.2.1 0 = .ok (.iload_n 1, 1) := by decide +kernel
theorem d_Tb_own_1 : decode M_Tb_own.2.1 1 = .ok (.iconst (-1), 1) := by decide +kernel
theorem d_Tb_own_2 : decode M_Tb_own.2.1 2 = .ok (.if_icmp .eq 16, 3) := by decide +kernel
theorem d_Tb_own_5 : decode M_Tb_own.2.1 5 = .ok (.aload_n 0, 1) := by decide +kernel
theorem d_Tb_own_6 : decode M_Tb_own.2.1 6 = .ok (.getfield 19, 3) := by decide +kernel
theorem d_Tb_own_9 : decode M_Tb_own.2.1 9 = .ok (.iload_n 1, 1) := by decide +kernel
theorem d_Tb_own_10 : decode M_Tb_own.2.1 10 = .ok (.invokevirtual 109, 3) := by decide +kernel
theorem d_Tb_own_13 : decode M_Tb_own.2.1 13 = .ok (.ifCond .ne 5, 3) := by decide +kernel
theorem d_Tb_own_16 : decode M_Tb_own.2.1 16 = .ok (.iconst (-1), 1) := by decide +kernel
theorem d_Tb_own_17 : decode M_Tb_own.2.1 17 = .ok (.ireturn, 1) := by decide +kernel
theorem d_Tb_own_18 : decode M_Tb_own.2.1 18 = .ok (.aload_n 0, 1) := by decide +kernel
theorem d_Tb_own_19 : decode M_Tb_own.2.1 19 = .ok (.getfield 19, 3) := by decide +kernel
theorem d_Tb_own_22 : decode M_Tb_own.2.1 22 = .ok (.invokevirtual 223, 3) := by decide +kernel
theorem d_Tb_own_25 : decode M_Tb_own.2.1 25 = .ok (.istore_n 2, 1) := by decide +kernel
theorem d_Tb_own_26 : decode M_Tb_own.2.1 26 = .ok (.iload_n 1, 1) := by decide +kernel
theorem d_Tb_own_27 : decode M_Tb_own.2.1 27 = .ok (.iconst (-1), 1) := by decide +kernel
theorem d_Tb_own_28 : decode M_Tb_own.2.1 28 = .ok (.if_icmp .ne 14, 3) := by decide +kernel
theorem d_Tb_own_31 : decode M_Tb_own.2.1 31 = .ok (.aload_n 0, 1) := by decide +kernel
theorem d_Tb_own_32 : decode M_Tb_own.2.1 32 = .ok (.getfield 19, 3) := by decide +kernel
theorem d_Tb_own_35 : decode M_Tb_own.2.1 35 = .ok (.iload_n 2, 1) := by decide +kernel
theorem d_Tb_own_36 : decode M_Tb_own.2.1 36 = .ok (.invokevirtual 226, 3) := by decide +kernel
theorem d_Tb_own_39 : decode M_Tb_own.2.1 39 = .ok (.goto 12, 3) := by decide +kernel
theorem d_Tb_own_42 : decode M_Tb_own.2.1 42 = .ok (.aload_n 0, 1) := by decide +kernel
theorem d_Tb_own_43 : decode M_Tb_own.2.1 43 = .ok (.getfield 19, 3) := by decide +kernel
theorem d_Tb_own_46 : decode M_Tb_own.2.1 46 = .ok (.iload_n 2, 1) := by decide +kernel
theorem d_Tb_own_47 : decode M_Tb_own.2.1 47 = .ok (.iload_n 1, 1) := by decide +kernel
theorem d_Tb_own_48 : decode M_Tb_own.2.1 48 = .ok (.invokevirtual 229, 3) := by decide +kernel
theorem d_Tb_own_51 : decode M_Tb_own.2.1 51 = .ok (.ireturn, 1) := by decide +kernel
theorem d_Tb_odds_0 : decode M_Tb_odds.2.1 0 = .ok (.iload_n 1, 1) := by decide +kernel
theorem d_Tb_odds_1 : decode M_Tb_odds.2.1 1 = .ok (.iconst 1, 1) := by decide +kernel
theorem d_Tb_odds_2 : decode M_Tb_odds.2.1 2 = .ok (.bipush 9, 2) := by decide +kernel
theorem d_Tb_odds_4 : decode M_Tb_odds.2.1 4 = .ok (.invokestatic 85, 3) := by decide +kernel
theorem d_Tb_odds_7 : decode M_Tb_odds.2.1 7 = .ok (.ifCond .eq 23, 3) := by decide +kernel
theorem d_Tb_odds_10 : decode M_Tb_odds.2.1 10 = .ok (.iload_n 2, 1) := by decide +kernel
theorem d_Tb_odds_11 : decode M_Tb_odds.2.1 11 = .ok (.iconst 0, 1) := by decide +kernel
theorem d_Tb_odds_12 : decode M_Tb_odds.2.1 12 = .ok (.bipush 40, 2) := by decide +kernel
theorem d_Tb_odds_14 : decode M_Tb_odds.2.1 14 = .ok (.invokestatic 85, 3) := by decide +kernel
theorem d_Tb_odds_17 : decode M_Tb_odds.2.1 17 = .ok (.ifCond .eq 13, 3) := by decide +kernel
theorem d_Tb_odds_20 : decode M_Tb_odds.2.1 20 = .ok (.iload_n 3, 1) := by decide +kernel
theorem d_Tb_odds_21 : decode M_Tb_odds.2.1 21 = .ok (.iconst 0, 1) := by decide +kernel
theorem d_Tb_odds_22 : decode M_Tb_odds.2.1 22 = .ok (.bipush 6, 2) := by decide +kernel
theorem d_Tb_odds_24 : decode M_Tb_odds.2.1 24 = .ok (.invokestatic 85, 3) := by decide +kernel
theorem d_Tb_odds_27 : decode M_Tb_odds.2.1 27 = .ok (.ifCond .ne 5, 3) := by decide +kernel
theorem d_Tb_odds_30 : decode M_Tb_odds.2.1 30 = .ok (.iconst (-1), 1) := by decide +kernel
theorem d_Tb_odds_31 : decode M_Tb_odds.2.1 31 = .ok (.ireturn, 1) := by decide +kernel
theorem d_Tb_odds_32 : decode M_Tb_odds.2.1 32 = .ok (.iload 4, 2) := by decide +kernel
theorem d_Tb_odds_34 : decode M_Tb_odds.2.1 34 = .ok (.iconst 0, 1) := by decide +kernel
theorem d_Tb_odds_35 : decode M_Tb_odds.2.1 35 = .ok (.bipush 10, 2) := by decide +kernel
theorem d_Tb_odds_37 : decode M_Tb_odds.2.1 37 = .ok (.invokestatic 85, 3) := by decide +kernel
theorem d_Tb_odds_40 : decode M_Tb_odds.2.1 40 = .ok (.ifCond .eq 13, 3) := by decide +kernel
theorem d_Tb_odds_43 : decode M_Tb_odds.2.1 43 = .ok (.iload 5, 2) := by decide +kernel
theorem d_Tb_odds_45 : decode M_Tb_odds.2.1 45 = .ok (.iconst 0, 1) := by decide +kernel
theorem d_Tb_odds_46 : decode M_Tb_odds.2.1 46 = .ok (.iconst 1, 1) := by decide +kernel
theorem d_Tb_odds_47 : decode M_Tb_odds.2.1 47 = .ok (.invokestatic 85, 3) := by decide +kernel
theorem d_Tb_odds_50 : decode M_Tb_odds.2.1 50 = .ok (.ifCond .ne 5, 3) := by decide +kernel
theorem d_Tb_odds_53 : decode M_Tb_odds.2.1 53 = .ok (.iconst (-1), 1) := by decide +kernel
theorem d_Tb_odds_54 : decode M_Tb_odds.2.1 54 = .ok (.ireturn, 1) := by decide +kernel
theorem d_Tb_odds_55 : decode M_Tb_odds.2.1 55 = .ok (.aload_n 0, 1) := by decide +kernel
theorem d_Tb_odds_56 : decode M_Tb_odds.2.1 56 = .ok (.getfield 59, 3) := by decide +kernel
theorem d_Tb_odds_59 : decode M_Tb_odds.2.1 59 = .ok (.aload_n 0, 1) := by decide +kernel
theorem d_Tb_odds_60 : decode M_Tb_odds.2.1 60 = .ok (.getfield 29, 3) := by decide +kernel
theorem d_Tb_odds_63 : decode M_Tb_odds.2.1 63 = .ok (.getfield 165, 3) := by decide +kernel
theorem d_Tb_odds_66 : decode M_Tb_odds.2.1 66 = .ok (.invokevirtual 233, 3) := by decide +kernel
theorem d_Tb_odds_69 : decode M_Tb_odds.2.1 69 = .ok (.iconst 0, 1) := by decide +kernel
theorem d_Tb_odds_70 : decode M_Tb_odds.2.1 70 = .ok (.istore 6, 2) := by decide +kernel
theorem d_Tb_odds_72 : decode M_Tb_odds.2.1 72 = .ok (.iload 6, 2) := by decide +kernel
theorem d_Tb_odds_74 : decode M_Tb_odds.2.1 74 = .ok (.iload_n 3, 1) := by decide +kernel
theorem d_Tb_odds_75 : decode M_Tb_odds.2.1 75 = .ok (.if_icmp .ge 26, 3) := by decide +kernel
theorem d_Tb_odds_78 : decode M_Tb_odds.2.1 78 = .ok (.aload_n 0, 1) := by decide +kernel
theorem d_Tb_odds_79 : decode M_Tb_odds.2.1 79 = .ok (.getfield 59, 3) := by decide +kernel
theorem d_Tb_odds_82 : decode M_Tb_odds.2.1 82 = .ok (.aload_n 0, 1) := by decide +kernel
theorem d_Tb_odds_83 : decode M_Tb_odds.2.1 83 = .ok (.getfield 19, 3) := by decide +kernel
theorem d_Tb_odds_86 : decode M_Tb_odds.2.1 86 = .ok (.iload_n 1, 1) := by decide +kernel
theorem d_Tb_odds_87 : decode M_Tb_odds.2.1 87 = .ok (.invokevirtual 105, 3) := by decide +kernel
theorem d_Tb_odds_90 : decode M_Tb_odds.2.1 90 = .ok (.iload 4, 2) := by decide +kernel
theorem d_Tb_odds_92 : decode M_Tb_odds.2.1 92 = .ok (.invokevirtual 236, 3) := by decide +kernel
theorem d_Tb_odds_95 : decode M_Tb_odds.2.1 95 = .ok (.iinc 6 1, 3) := by decide +kernel
theorem d_Tb_odds_98 : decode M_Tb_odds.2.1 98 = .ok (.goto (-26), 3) := by decide +kernel
theorem d_Tb_odds_101 : decode M_Tb_odds.2.1 101 = .ok (.iload 5, 2) := by decide +kernel
theorem d_Tb_odds_103 : decode M_Tb_odds.2.1 103 = .ok (.ifCond .ne 14, 3) := by decide +kernel
theorem d_Tb_odds_106 : decode M_Tb_odds.2.1 106 = .ok (.aload_n 0, 1) := by decide +kernel
theorem d_Tb_odds_107 : decode M_Tb_odds.2.1 107 = .ok (.getfield 59, 3) := by decide +kernel
theorem d_Tb_odds_110 : decode M_Tb_odds.2.1 110 = .ok (.iload_n 2, 1) := by decide +kernel
theorem d_Tb_odds_111 : decode M_Tb_odds.2.1 111 = .ok (.invokevirtual 239, 3) := by decide +kernel
theorem d_Tb_odds_114 : decode M_Tb_odds.2.1 114 = .ok (.goto 11, 3) := by decide +kernel
theorem d_Tb_odds_117 : decode M_Tb_odds.2.1 117 = .ok (.aload_n 0, 1) := by decide +kernel
theorem d_Tb_odds_118 : decode M_Tb_odds.2.1 118 = .ok (.getfield 59, 3) := by decide +kernel
theorem d_Tb_odds_121 : decode M_Tb_odds.2.1 121 = .ok (.iload_n 2, 1) := by decide +kernel
theorem d_Tb_odds_122 : decode M_Tb_odds.2.1 122 = .ok (.invokevirtual 242, 3) := by decide +kernel
theorem d_Tb_odds_125 : decode M_Tb_odds.2.1 125 = .ok (.ireturn, 1) := by decide +kernel
theorem d_Tb_saw_0 : decode M_Tb_saw.2.1 0 = .ok (.aload_n 0, 1) := by decide +kernel
theorem d_Tb_saw_1 : decode M_Tb_saw.2.1 1 = .ok (.getfield 19, 3) := by decide +kernel
theorem d_Tb_saw_4 : decode M_Tb_saw.2.1 4 = .ok (.iload_n 1, 1) := by decide +kernel
theorem d_Tb_saw_5 : decode M_Tb_saw.2.1 5 = .ok (.invokevirtual 109, 3) := by decide +kernel
theorem d_Tb_saw_8 : decode M_Tb_saw.2.1 8 = .ok (.ifCond .eq 23, 3) := by decide +kernel
theorem d_Tb_saw_11 : decode M_Tb_saw.2.1 11 = .ok (.iload_n 2, 1) := by decide +kernel
theorem d_Tb_saw_12 : decode M_Tb_saw.2.1 12 = .ok (.iconst 1, 1) := by decide +kernel
theorem d_Tb_saw_13 : decode M_Tb_saw.2.1 13 = .ok (.bipush 9, 2) := by decide +kernel
theorem d_Tb_saw_15 : decode M_Tb_saw.2.1 15 = .ok (.invokestatic 85, 3) := by decide +kernel
theorem d_Tb_saw_18 : decode M_Tb_saw.2.1 18 = .ok (.ifCond .eq 13, 3) := by decide +kernel
theorem d_Tb_saw_21 : decode M_Tb_saw.2.1 21 = .ok (.iload_n 3, 1) := by decide +kernel
theorem d_Tb_saw_22 : decode M_Tb_saw.2.1 22 = .ok (.iconst 0, 1) := by decide +kernel
theorem d_Tb_saw_23 : decode M_Tb_saw.2.1 23 = .ok (.bipush 9, 2) := by decide +kernel
theorem d_Tb_saw_25 : decode M_Tb_saw.2.1 25 = .ok (.invokestatic 85, 3) := by decide +kernel
theorem d_Tb_saw_28 : decode M_Tb_saw.2.1 28 = .ok (.ifCond .ne 5, 3) := by decide +kernel
theorem d_Tb_saw_31 : decode M_Tb_saw.2.1 31 = .ok (.iconst (-1), 1) := by decide +kernel
theorem d_Tb_saw_32 : decode M_Tb_saw.2.1 32 = .ok (.ireturn, 1) := by decide +kernel
theorem d_Tb_saw_33 : decode M_Tb_saw.2.1 33 = .ok (.aload_n 0, 1) := by decide +kernel
theorem d_Tb_saw_34 : decode M_Tb_saw.2.1 34 = .ok (.getfield 66, 3) := by decide +kernel
theorem d_Tb_saw_37 : decode M_Tb_saw.2.1 37 = .ok (.iload_n 1, 1) := by decide +kernel
theorem d_Tb_saw_38 : decode M_Tb_saw.2.1 38 = .ok (.iload_n 2, 1) := by decide +kernel
theorem d_Tb_saw_39 : decode M_Tb_saw.2.1 39 = .ok (.iload_n 3, 1) := by decide +kernel
theorem d_Tb_saw_40 : decode M_Tb_saw.2.1 40 = .ok (.invokevirtual 245, 3) := by decide +kernel
theorem d_Tb_saw_43 : decode M_Tb_saw.2.1 43 = .ok (.ireturn, 1) := by decide +kernel
theorem d_Tb_which_0 : decode M_Tb_which.2.1 0 = .ok (.aload_n 0, 1) := by decide +kernel
theorem d_Tb_which_1 : decode M_Tb_which.2.1 1 = .ok (.getfield 19, 3) := by decide +kernel
theorem d_Tb_which_4 : decode M_Tb_which.2.1 4 = .ok (.iload_n 1, 1) := by decide +kernel
theorem d_Tb_which_5 : decode M_Tb_which.2.1 5 = .ok (.invokevirtual 109, 3) := by decide +kernel
theorem d_Tb_which_8 : decode M_Tb_which.2.1 8 = .ok (.ifCond .eq 11, 3) := by decide +kernel
theorem d_Tb_which_11 : decode M_Tb_which.2.1 11 = .ok (.aload_n 0, 1) := by decide +kernel
theorem d_Tb_which_12 : decode M_Tb_which.2.1 12 = .ok (.iload_n 1, 1) := by decide +kernel
theorem d_Tb_which_13 : decode M_Tb_which.2.1 13 = .ok (.invokevirtual 248, 3) := by decide +kernel
theorem d_Tb_which_16 : decode M_Tb_which.2.1 16 = .ok (.goto 4, 3) := by decide +kernel
theorem d_Tb_which_19 : decode M_Tb_which.2.1 19 = .ok (.iconst (-1), 1) := by decide +kernel
theorem d_Tb_which_20 : decode M_Tb_which.2.1 20 = .ok (.ireturn, 1) := by decide +kernel
theorem d_Tb_look_0 : decode M_Tb_look.2.1 0 = .ok (.aload_n 0, 1) := by decide +kernel
theorem d_Tb_look_1 : decode M_Tb_look.2.1 1 = .ok (.getfield 19, 3) := by decide +kernel
theorem d_Tb_look_4 : decode M_Tb_look.2.1 4 = .ok (.iload_n 1, 1) := by decide +kernel
theorem d_Tb_look_5 : decode M_Tb_look.2.1 5 = .ok (.invokevirtual 109, 3) := by decide +kernel
theorem d_Tb_look_8 : decode M_Tb_look.2.1 8 = .ok (.ifCond .ne 5, 3) := by decide +kernel
theorem d_Tb_look_11 : decode M_Tb_look.2.1 11 = .ok (.iconst (-1), 1) := by decide +kernel
theorem d_Tb_look_12 : decode M_Tb_look.2.1 12 = .ok (.ireturn, 1) := by decide +kernel
theorem d_Tb_look_13 : decode M_Tb_look.2.1 13 = .ok (.aload_n 0, 1) := by decide +kernel
theorem d_Tb_look_14 : decode M_Tb_look.2.1 14 = .ok (.iload_n 1, 1) := by decide +kernel
theorem d_Tb_look_15 : decode M_Tb_look.2.1 15 = .ok (.invokevirtual 248, 3) := by decide +kernel
theorem d_Tb_look_18 : decode M_Tb_look.2.1 18 = .ok (.istore_n 2, 1) := by decide +kernel
theorem d_Tb_look_19 : decode M_Tb_look.2.1 19 = .ok (.iload_n 2, 1) := by decide +kernel
theorem d_Tb_look_20 : decode M_Tb_look.2.1 20 = .ok (.ifCond .ne 6, 3) := by decide +kernel
theorem d_Tb_look_23 : decode M_Tb_look.2.1 23 = .ok (.bipush (-9), 2) := by decide +kernel
theorem d_Tb_look_25 : decode M_Tb_look.2.1 25 = .ok (.ireturn, 1) := by decide +kernel
theorem d_Tb_look_26 : decode M_Tb_look.2.1 26 = .ok (.iconst 1, 1) := by decide +kernel
theorem d_Tb_look_27 : decode M_Tb_look.2.1 27 = .ok (.istore_n 3, 1) := by decide +kernel
theorem d_Tb_look_28 : decode M_Tb_look.2.1 28 = .ok (.aload_n 0, 1) := by decide +kernel
theorem d_Tb_look_29 : decode M_Tb_look.2.1 29 = .ok (.iload_n 1, 1) := by decide +kernel
theorem d_Tb_look_30 : decode M_Tb_look.2.1 30 = .ok (.iload_n 2, 1) := by decide +kernel
theorem d_Tb_look_31 : decode M_Tb_look.2.1 31 = .ok (.iconst 1, 1) := by decide +kernel
theorem d_Tb_look_32 : decode M_Tb_look.2.1 32 = .ok (.invokevirtual 251, 3) := by decide +kernel
theorem d_Tb_look_35 : decode M_Tb_look.2.1 35 = .ok (.istore 4, 2) := by decide +kernel
theorem d_Tb_look_37 : decode M_Tb_look.2.1 37 = .ok (.iconst 2, 1) := by decide +kernel
theorem d_Tb_look_38 : decode M_Tb_look.2.1 38 = .ok (.istore 5, 2) := by decide +kernel
theorem d_Tb_look_40 : decode M_Tb_look.2.1 40 = .ok (.iload 5, 2) := by decide +kernel
theorem d_Tb_look_42 : decode M_Tb_look.2.1 42 = .ok (.bipush 9, 2) := by decide +kernel
theorem d_Tb_look_44 : decode M_Tb_look.2.1 44 = .ok (.if_icmp .gt 33, 3) := by decide +kernel
theorem d_Tb_look_47 : decode M_Tb_look.2.1 47 = .ok (.aload_n 0, 1) := by decide +kernel
theorem d_Tb_look_48 : decode M_Tb_look.2.1 48 = .ok (.iload_n 1, 1) := by decide +kernel
theorem d_Tb_look_49 : decode M_Tb_look.2.1 49 = .ok (.iload_n 2, 1) := by decide +kernel
theorem d_Tb_look_50 : decode M_Tb_look.2.1 50 = .ok (.iload 5, 2) := by decide +kernel
theorem d_Tb_look_52 : decode M_Tb_look.2.1 52 = .ok (.invokevirtual 251, 3) := by decide +kernel
theorem d_Tb_look_55 : decode M_Tb_look.2.1 55 = .ok (.istore 6, 2) := by decide +kernel
theorem d_Tb_look_57 : decode M_Tb_look.2.1 57 = .ok (.iload 6, 2) := by decide +kernel
theorem d_Tb_look_59 : decode M_Tb_look.2.1 59 = .ok (.iload 4, 2) := by decide +kernel
theorem d_Tb_look_61 : decode M_Tb_look.2.1 61 = .ok (.if_icmp .ge 10, 3) := by decide +kernel
theorem d_Tb_look_64 : decode M_Tb_look.2.1 64 = .ok (.iload 6, 2) := by decide +kernel
theorem d_Tb_look_66 : decode M_Tb_look.2.1 66 = .ok (.istore 4, 2) := by decide +kernel
theorem d_Tb_look_68 : decode M_Tb_look.2.1 68 = .ok (.iload 5, 2) := by decide +kernel
theorem d_Tb_look_70 : decode M_Tb_look.2.1 70 = .ok (.istore_n 3, 1) := by decide +kernel
theorem d_Tb_look_71 : decode M_Tb_look.2.1 71 = .ok (.iinc 5 1, 3) := by decide +kernel
theorem d_Tb_look_74 : decode M_Tb_look.2.1 74 = .ok (.goto (-34), 3) := by decide +kernel
theorem d_Tb_look_77 : decode M_Tb_look.2.1 77 = .ok (.iload_n 3, 1) := by decide +kernel
theorem d_Tb_look_78 : decode M_Tb_look.2.1 78 = .ok (.ireturn, 1) := by decide +kernel
theorem d_Tb_hears_0 : decode M_Tb_hears.2.1 0 = .ok (.iload_n 1, 1) := by decide +kernel
theorem d_Tb_hears_1 : decode M_Tb_hears.2.1 1 = .ok (.iconst 0, 1) := by decide +kernel
theorem d_Tb_hears_2 : decode M_Tb_hears.2.1 2 = .ok (.bipush 9, 2) := by decide +kernel
theorem d_Tb_hears_4 : decode M_Tb_hears.2.1 4 = .ok (.invokestatic 85, 3) := by decide +kernel
theorem d_Tb_hears_7 : decode M_Tb_hears.2.1 7 = .ok (.ifCond .eq 13, 3) := by decide +kernel
theorem d_Tb_hears_10 : decode M_Tb_hears.2.1 10 = .ok (.iload_n 2, 1) := by decide +kernel
theorem d_Tb_hears_11 : decode M_Tb_hears.2.1 11 = .ok (.iconst 0, 1) := by decide +kernel
theorem d_Tb_hears_12 : decode M_Tb_hears.2.1 12 = .ok (.bipush 30, 2) := by decide +kernel
theorem d_Tb_hears_14 : decode M_Tb_hears.2.1 14 = .ok (.invokestatic 85, 3) := by decide +kernel
theorem d_Tb_hears_17 : decode M_Tb_hears.2.1 17 = .ok (.ifCond .ne 5, 3) := by decide +kernel
theorem d_Tb_hears_20 : decode M_Tb_hears.2.1 20 = .ok (.iconst (-1), 1) := by decide +kernel
theorem d_Tb_hears_21 : decode M_Tb_hears.2.1 21 = .ok (.ireturn, 1) := by decide +kernel
theorem d_Tb_hears_22 : decode M_Tb_hears.2.1 22 = .ok (.aload_n 0, 1) := by decide +kernel
theorem d_Tb_hears_23 : decode M_Tb_hears.2.1 23 = .ok (.getfield 70, 3) := by decide +kernel
theorem d_Tb_hears_26 : decode M_Tb_hears.2.1 26 = .ok (.bipush (-9), 2) := by decide +kernel
theorem d_Tb_hears_28 : decode M_Tb_hears.2.1 28 = .ok (.iload_n 1, 1) := by decide +kernel
theorem d_Tb_hears_29 : decode M_Tb_hears.2.1 29 = .ok (.iload_n 2, 1) := by decide +kernel
theorem d_Tb_hears_30 : decode M_Tb_hears.2.1 30 = .ok (.invokevirtual 245, 3) := by decide +kernel
theorem d_Tb_hears_33 : decode M_Tb_hears.2.1 33 = .ok (.ireturn, 1) := by decide +kernel
theorem d_Tb_laws_0 : decode M_Tb_laws.2.1 0 = .ok (.iload_n 1, 1) := by decide +kernel
theorem d_Tb_laws_1 : decode M_Tb_laws.2.1 1 = .ok (.iconst 0, 1) := by decide +kernel
theorem d_Tb_laws_2 : decode M_Tb_laws.2.1 2 = .ok (.iconst 1, 1) := by decide +kernel
theorem d_Tb_laws_3 : decode M_Tb_laws.2.1 3 = .ok (.invokestatic 85, 3) := by decide +kernel
theorem d_Tb_laws_6 : decode M_Tb_laws.2.1 6 = .ok (.ifCond .ne 5, 3) := by decide +kernel
theorem d_Tb_laws_9 : decode M_Tb_laws.2.1 9 = .ok (.iconst (-1), 1) := by decide +kernel
theorem d_Tb_laws_10 : decode M_Tb_laws.2.1 10 = .ok (.ireturn, 1) := by decide +kernel
theorem d_Tb_laws_11 : decode M_Tb_laws.2.1 11 = .ok (.iconst 0, 1) := by decide +kernel
theorem d_Tb_laws_12 : decode M_Tb_laws.2.1 12 = .ok (.istore_n 2, 1) := by decide +kernel
theorem d_Tb_laws_13 : decode M_Tb_laws.2.1 13 = .ok (.bipush (-9), 2) := by decide +kernel
theorem d_Tb_laws_15 : decode M_Tb_laws.2.1 15 = .ok (.istore_n 3, 1) := by decide +kernel
theorem d_Tb_laws_16 : decode M_Tb_laws.2.1 16 = .ok (.iconst 1, 1) := by decide +kernel
theorem d_Tb_laws_17 : decode M_Tb_laws.2.1 17 = .ok (.istore 4, 2) := by decide +kernel
theorem d_Tb_laws_19 : decode M_Tb_laws.2.1 19 = .ok (.iload 4, 2) := by decide +kernel
theorem d_Tb_laws_21 : decode M_Tb_laws.2.1 21 = .ok (.bipush 30, 2) := by decide +kernel
theorem d_Tb_laws_23 : decode M_Tb_laws.2.1 23 = .ok (.if_icmp .gt 57, 3) := by decide +kernel
theorem d_Tb_laws_26 : decode M_Tb_laws.2.1 26 = .ok (.iconst 0, 1) := by decide +kernel
theorem d_Tb_laws_27 : decode M_Tb_laws.2.1 27 = .ok (.istore 5, 2) := by decide +kernel
theorem d_Tb_laws_29 : decode M_Tb_laws.2.1 29 = .ok (.iload 5, 2) := by decide +kernel
theorem d_Tb_laws_31 : decode M_Tb_laws.2.1 31 = .ok (.iconst 5, 1) := by decide +kernel
theorem d_Tb_laws_32 : decode M_Tb_laws.2.1 32 = .ok (.if_icmp .gt 42, 3) := by decide +kernel
theorem d_Tb_laws_35 : decode M_Tb_laws.2.1 35 = .ok (.aload_n 0, 1) := by decide +kernel
theorem d_Tb_laws_36 : decode M_Tb_laws.2.1 36 = .ok (.iload 4, 2) := by decide +kernel
theorem d_Tb_laws_38 : decode M_Tb_laws.2.1 38 = .ok (.iload 5, 2) := by decide +kernel
theorem d_Tb_laws_40 : decode M_Tb_laws.2.1 40 = .ok (.invokevirtual 254, 3) := by decide +kernel
theorem d_Tb_laws_43 : decode M_Tb_laws.2.1 43 = .ok (.ifCond .eq 25, 3) := by decide +kernel
theorem d_Tb_laws_46 : decode M_Tb_laws.2.1 46 = .ok (.iinc 2 1, 3) := by decide +kernel
theorem d_Tb_laws_49 : decode M_Tb_laws.2.1 49 = .ok (.iload_n 3, 1) := by decide +kernel
theorem d_Tb_laws_50 : decode M_Tb_laws.2.1 50 = .ok (.bipush (-9), 2) := by decide +kernel
theorem d_Tb_laws_52 : decode M_Tb_laws.2.1 52 = .ok (.if_icmp .ne 14, 3) := by decide +kernel
theorem d_Tb_laws_55 : decode M_Tb_laws.2.1 55 = .ok (.bipush 10, 2) := by decide +kernel
theorem d_Tb_laws_57 : decode M_Tb_laws.2.1 57 = .ok (.iload 4, 2) := by decide +kernel
theorem d_Tb_laws_59 : decode M_Tb_laws.2.1 59 = .ok (.imul, 1) := by decide +kernel
theorem d_Tb_laws_60 : decode M_Tb_laws.2.1 60 = .ok (.iload 5, 2) := by decide +kernel
theorem d_Tb_laws_62 : decode M_Tb_laws.2.1 62 = .ok (.iadd, 1) := by decide +kernel
theorem d_Tb_laws_63 : decode M_Tb_laws.2.1 63 = .ok (.goto 4, 3) := by decide +kernel
theorem d_Tb_laws_66 : decode M_Tb_laws.2.1 66 = .ok (.iload_n 3, 1) := by decide +kernel
theorem d_Tb_laws_67 : decode M_Tb_laws.2.1 67 = .ok (.istore_n 3, 1) := by decide +kernel
theorem d_Tb_laws_68 : decode M_Tb_laws.2.1 68 = .ok (.iinc 5 1, 3) := by decide +kernel
theorem d_Tb_laws_71 : decode M_Tb_laws.2.1 71 = .ok (.goto (-42), 3) := by decide +kernel
theorem d_Tb_laws_74 : decode M_Tb_laws.2.1 74 = .ok (.iinc 4 1, 3) := by decide +kernel
theorem d_Tb_laws_77 : decode M_Tb_laws.2.1 77 = .ok (.goto (-58), 3) := by decide +kernel
theorem d_Tb_laws_80 : decode M_Tb_laws.2.1 80 = .ok (.iload_n 1, 1) := by decide +kernel
theorem d_Tb_laws_81 : decode M_Tb_laws.2.1 81 = .ok (.ifCond .ne 7, 3) := by decide +kernel
theorem d_Tb_laws_84 : decode M_Tb_laws.2.1 84 = .ok (.iload_n 2, 1) := by decide +kernel
theorem d_Tb_laws_85 : decode M_Tb_laws.2.1 85 = .ok (.goto 4, 3) := by decide +kernel
theorem d_Tb_laws_88 : decode M_Tb_laws.2.1 88 = .ok (.iload_n 3, 1) := by decide +kernel
theorem d_Tb_laws_89 : decode M_Tb_laws.2.1 89 = .ok (.ireturn, 1) := by decide +kernel
theorem d_Tb_forget_0 : decode M_Tb_forget.2.1 0 = .ok (.aload_n 0, 1) := by decide +kernel
theorem d_Tb_forget_1 : decode M_Tb_forget.2.1 1 = .ok (.getfield 66, 3) := by decide +kernel
theorem d_Tb_forget_4 : decode M_Tb_forget.2.1 4 = .ok (.invokevirtual 257, 3) := by decide +kernel
theorem d_Tb_forget_7 : decode M_Tb_forget.2.1 7 = .ok (.aload_n 0, 1) := by decide +kernel
theorem d_Tb_forget_8 : decode M_Tb_forget.2.1 8 = .ok (.getfield 70, 3) := by decide +kernel
theorem d_Tb_forget_11 : decode M_Tb_forget.2.1 11 = .ok (.invokevirtual 257, 3) := by decide +kernel
theorem d_Tb_forget_14 : decode M_Tb_forget.2.1 14 = .ok (.iadd, 1) := by decide +kernel
theorem d_Tb_forget_15 : decode M_Tb_forget.2.1 15 = .ok (.ireturn, 1) := by decide +kernel
theorem d_Tb_mark_0 : decode M_Tb_mark.2.1 0 = .ok (.iload_n 1, 1) := by decide +kernel
theorem d_Tb_mark_1 : decode M_Tb_mark.2.1 1 = .ok (.iconst 0, 1) := by decide +kernel
theorem d_Tb_mark_2 : decode M_Tb_mark.2.1 2 = .ok (.iconst 5, 1) := by decide +kernel
theorem d_Tb_mark_3 : decode M_Tb_mark.2.1 3 = .ok (.invokestatic 85, 3) := by decide +kernel
theorem d_Tb_mark_6 : decode M_Tb_mark.2.1 6 = .ok (.ifCond .eq 14, 3) := by decide +kernel
theorem d_Tb_mark_9 : decode M_Tb_mark.2.1 9 = .ok (.aload_n 0, 1) := by decide +kernel
theorem d_Tb_mark_10 : decode M_Tb_mark.2.1 10 = .ok (.getfield 19, 3) := by decide +kernel
theorem d_Tb_mark_13 : decode M_Tb_mark.2.1 13 = .ok (.iload_n 2, 1) := by decide +kernel
theorem d_Tb_mark_14 : decode M_Tb_mark.2.1 14 = .ok (.invokevirtual 109, 3) := by decide +kernel
theorem d_Tb_mark_17 : decode M_Tb_mark.2.1 17 = .ok (.ifCond .ne 6, 3) := by decide +kernel
theorem d_Tb_mark_20 : decode M_Tb_mark.2.1 20 = .ok (.ldc 108, 2) := by decide +kernel
theorem d_Tb_mark_22 : decode M_Tb_mark.2.1 22 = .ok (.ireturn, 1) := by decide +kernel
theorem d_Tb_mark_23 : decode M_Tb_mark.2.1 23 = .ok (.iload_n 1, 1) := by decide +kernel
theorem d_Tb_mark_24 : decode M_Tb_mark.2.1 24 = .ok (.tableswitch 66 1 5 #[36, 42, 48, 54, 60], 36) := by decide +kernel
theorem d_Tb_mark_60 : decode M_Tb_mark.2.1 60 = .ok (.aload_n 0, 1) := by decide +kernel
theorem d_Tb_mark_61 : decode M_Tb_mark.2.1 61 = .ok (.iload_n 2, 1) := by decide +kernel
theorem d_Tb_mark_62 : decode M_Tb_mark.2.1 62 = .ok (.invokevirtual 258, 3) := by decide +kernel
theorem d_Tb_mark_65 : decode M_Tb_mark.2.1 65 = .ok (.ireturn, 1) := by decide +kernel
theorem d_Tb_mark_66 : decode M_Tb_mark.2.1 66 = .ok (.aload_n 0, 1) := by decide +kernel
theorem d_Tb_mark_67 : decode M_Tb_mark.2.1 67 = .ok (.iload_n 2, 1) := by decide +kernel
theorem d_Tb_mark_68 : decode M_Tb_mark.2.1 68 = .ok (.invokevirtual 261, 3) := by decide +kernel
theorem d_Tb_mark_71 : decode M_Tb_mark.2.1 71 = .ok (.ireturn, 1) := by decide +kernel
theorem d_Tb_mark_72 : decode M_Tb_mark.2.1 72 = .ok (.aload_n 0, 1) := by decide +kernel
theorem d_Tb_mark_73 : decode M_Tb_mark.2.1 73 = .ok (.iload_n 2, 1) := by decide +kernel
theorem d_Tb_mark_74 : decode M_Tb_mark.2.1 74 = .ok (.invokevirtual 264, 3) := by decide +kernel
theorem d_Tb_mark_77 : decode M_Tb_mark.2.1 77 = .ok (.ireturn, 1) := by decide +kernel
theorem d_Tb_mark_78 : decode M_Tb_mark.2.1 78 = .ok (.aload_n 0, 1) := by decide +kernel
theorem d_Tb_mark_79 : decode M_Tb_mark.2.1 79 = .ok (.iload_n 2, 1) := by decide +kernel
theorem d_Tb_mark_80 : decode M_Tb_mark.2.1 80 = .ok (.invokevirtual 267, 3) := by decide +kernel
theorem d_Tb_mark_83 : decode M_Tb_mark.2.1 83 = .ok (.ireturn, 1) := by decide +kernel
theorem d_Tb_mark_84 : decode M_Tb_mark.2.1 84 = .ok (.aload_n 0, 1) := by decide +kernel
theorem d_Tb_mark_85 : decode M_Tb_mark.2.1 85 = .ok (.iload_n 2, 1) := by decide +kernel
theorem d_Tb_mark_86 : decode M_Tb_mark.2.1 86 = .ok (.invokevirtual 270, 3) := by decide +kernel
theorem d_Tb_mark_89 : decode M_Tb_mark.2.1 89 = .ok (.ireturn, 1) := by decide +kernel
theorem d_Tb_mark_90 : decode M_Tb_mark.2.1 90 = .ok (.aload_n 0, 1) := by decide +kernel
theorem d_Tb_mark_91 : decode M_Tb_mark.2.1 91 = .ok (.iload_n 2, 1) := by decide +kernel
theorem d_Tb_mark_92 : decode M_Tb_mark.2.1 92 = .ok (.invokevirtual 273, 3) := by decide +kernel
theorem d_Tb_mark_95 : decode M_Tb_mark.2.1 95 = .ok (.ireturn, 1) := by decide +kernel
theorem d_Tb_keep_0 : decode M_Tb_keep.2.1 0 = .ok (.iload_n 1, 1) := by decide +kernel
theorem d_Tb_keep_1 : decode M_Tb_keep.2.1 1 = .ok (.iconst 0, 1) := by decide +kernel
theorem d_Tb_keep_2 : decode M_Tb_keep.2.1 2 = .ok (.iconst 1, 1) := by decide +kernel
theorem d_Tb_keep_3 : decode M_Tb_keep.2.1 3 = .ok (.invokestatic 85, 3) := by decide +kernel
theorem d_Tb_keep_6 : decode M_Tb_keep.2.1 6 = .ok (.ifCond .ne 5, 3) := by decide +kernel
theorem d_Tb_keep_9 : decode M_Tb_keep.2.1 9 = .ok (.iconst (-1), 1) := by decide +kernel
theorem d_Tb_keep_10 : decode M_Tb_keep.2.1 10 = .ok (.ireturn, 1) := by decide +kernel
theorem d_Tb_keep_11 : decode M_Tb_keep.2.1 11 = .ok (.aload_n 0, 1) := by decide +kernel
theorem d_Tb_keep_12 : decode M_Tb_keep.2.1 12 = .ok (.getfield 45, 3) := by decide +kernel
theorem d_Tb_keep_15 : decode M_Tb_keep.2.1 15 = .ok (.iload_n 1, 1) := by decide +kernel
theorem d_Tb_keep_16 : decode M_Tb_keep.2.1 16 = .ok (.aaload, 1) := by decide +kernel
theorem d_Tb_keep_17 : decode M_Tb_keep.2.1 17 = .ok (.aload_n 0, 1) := by decide +kernel
theorem d_Tb_keep_18 : decode M_Tb_keep.2.1 18 = .ok (.getfield 29, 3) := by decide +kernel
theorem d_Tb_keep_21 : decode M_Tb_keep.2.1 21 = .ok (.aload_n 0, 1) := by decide +kernel
theorem d_Tb_keep_22 : decode M_Tb_keep.2.1 22 = .ok (.getfield 39, 3) := by decide +kernel
theorem d_Tb_keep_25 : decode M_Tb_keep.2.1 25 = .ok (.invokevirtual 276, 3) := by decide +kernel
theorem d_Tb_keep_28 : decode M_Tb_keep.2.1 28 = .ok (.aload_n 0, 1) := by decide +kernel
theorem d_Tb_keep_29 : decode M_Tb_keep.2.1 29 = .ok (.getfield 29, 3) := by decide +kernel
theorem d_Tb_keep_32 : decode M_Tb_keep.2.1 32 = .ok (.getfield 157, 3) := by decide +kernel
theorem d_Tb_keep_35 : decode M_Tb_keep.2.1 35 = .ok (.ireturn, 1) := by decide +kernel
theorem d_Tb_back_0 : decode M_Tb_back.2.1 0 = .ok (.iload_n 1, 1) := by decide +kernel
theorem d_Tb_back_1 : decode M_Tb_back.2.1 1 = .ok (.iconst 0, 1) := by decide +kernel
theorem d_Tb_back_2 : decode M_Tb_back.2.1 2 = .ok (.iconst 1, 1) := by decide +kernel
theorem d_Tb_back_3 : decode M_Tb_back.2.1 3 = .ok (.invokestatic 85, 3) := by decide +kernel
theorem d_Tb_back_6 : decode M_Tb_back.2.1 6 = .ok (.ifCond .ne 5, 3) := by decide +kernel
theorem d_Tb_back_9 : decode M_Tb_back.2.1 9 = .ok (.iconst (-1), 1) := by decide +kernel
theorem d_Tb_back_10 : decode M_Tb_back.2.1 10 = .ok (.ireturn, 1) := by decide +kernel
theorem d_Tb_back_11 : decode M_Tb_back.2.1 11 = .ok (.aload_n 0, 1) := by decide +kernel
theorem d_Tb_back_12 : decode M_Tb_back.2.1 12 = .ok (.getfield 45, 3) := by decide +kernel
theorem d_Tb_back_15 : decode M_Tb_back.2.1 15 = .ok (.iload_n 1, 1) := by decide +kernel
theorem d_Tb_back_16 : decode M_Tb_back.2.1 16 = .ok (.aaload, 1) := by decide +kernel
theorem d_Tb_back_17 : decode M_Tb_back.2.1 17 = .ok (.getfield 280, 3) := by decide +kernel
theorem d_Tb_back_20 : decode M_Tb_back.2.1 20 = .ok (.ifCond .ne 6, 3) := by decide +kernel
theorem d_Tb_back_23 : decode M_Tb_back.2.1 23 = .ok (.bipush (-2), 2) := by decide +kernel
theorem d_Tb_back_25 : decode M_Tb_back.2.1 25 = .ok (.ireturn, 1) := by decide +kernel
theorem d_Tb_back_26 : decode M_Tb_back.2.1 26 = .ok (.aload_n 0, 1) := by decide +kernel
theorem d_Tb_back_27 : decode M_Tb_back.2.1 27 = .ok (.getfield 45, 3) := by decide +kernel
theorem d_Tb_back_30 : decode M_Tb_back.2.1 30 = .ok (.iload_n 1, 1) := by decide +kernel
theorem d_Tb_back_31 : decode M_Tb_back.2.1 31 = .ok (.aaload, 1) := by decide +kernel
theorem d_Tb_back_32 : decode M_Tb_back.2.1 32 = .ok (.aload_n 0, 1) := by decide +kernel
theorem d_Tb_back_33 : decode M_Tb_back.2.1 33 = .ok (.getfield 29, 3) := by decide +kernel
theorem d_Tb_back_36 : decode M_Tb_back.2.1 36 = .ok (.aload_n 0, 1) := by decide +kernel
theorem d_Tb_back_37 : decode M_Tb_back.2.1 37 = .ok (.getfield 39, 3) := by decide +kernel
theorem d_Tb_back_40 : decode M_Tb_back.2.1 40 = .ok (.invokevirtual 283, 3) := by decide +kernel
theorem d_Tb_back_43 : decode M_Tb_back.2.1 43 = .ok (.aload_n 0, 1) := by decide +kernel
theorem d_Tb_back_44 : decode M_Tb_back.2.1 44 = .ok (.getfield 29, 3) := by decide +kernel
theorem d_Tb_back_47 : decode M_Tb_back.2.1 47 = .ok (.getfield 157, 3) := by decide +kernel
theorem d_Tb_back_50 : decode M_Tb_back.2.1 50 = .ok (.ireturn, 1) := by decide +kernel
theorem d_Tb_count_0 : decode M_Tb_count.2.1 0 = .ok (.iload_n 1, 1) := by decide +kernel
theorem d_Tb_count_1 : decode M_Tb_count.2.1 1 = .ok (.tableswitch 99 0 6 #[43, 51, 59, 67, 75, 83, 91], 43) := by decide +kernel
theorem d_Tb_count_44 : decode M_Tb_count.2.1 44 = .ok (.aload_n 0, 1) := by decide +kernel
theorem d_Tb_count_45 : decode M_Tb_count.2.1 45 = .ok (.getfield 19, 3) := by decide +kernel
theorem d_Tb_count_48 : decode M_Tb_count.2.1 48 = .ok (.getfield 286, 3) := by decide +kernel
theorem d_Tb_count_51 : decode M_Tb_count.2.1 51 = .ok (.ireturn, 1) := by decide +kernel
theorem d_Tb_count_52 : decode M_Tb_count.2.1 52 = .ok (.aload_n 0, 1) := by decide +kernel
theorem d_Tb_count_53 : decode M_Tb_count.2.1 53 = .ok (.getfield 19, 3) := by decide +kernel
theorem d_Tb_count_56 : decode M_Tb_count.2.1 56 = .ok (.getfield 289, 3) := by decide +kernel
theorem d_Tb_count_59 : decode M_Tb_count.2.1 59 = .ok (.ireturn, 1) := by decide +kernel
theorem d_Tb_count_60 : decode M_Tb_count.2.1 60 = .ok (.aload_n 0, 1) := by decide +kernel
theorem d_Tb_count_61 : decode M_Tb_count.2.1 61 = .ok (.getfield 19, 3) := by decide +kernel
theorem d_Tb_count_64 : decode M_Tb_count.2.1 64 = .ok (.getfield 292, 3) := by decide +kernel
theorem d_Tb_count_67 : decode M_Tb_count.2.1 67 = .ok (.ireturn, 1) := by decide +kernel
theorem d_Tb_count_68 : decode M_Tb_count.2.1 68 = .ok (.aload_n 0, 1) := by decide +kernel
theorem d_Tb_count_69 : decode M_Tb_count.2.1 69 = .ok (.getfield 66, 3) := by decide +kernel
theorem d_Tb_count_72 : decode M_Tb_count.2.1 72 = .ok (.getfield 295, 3) := by decide +kernel
theorem d_Tb_count_75 : decode M_Tb_count.2.1 75 = .ok (.ireturn, 1) := by decide +kernel
theorem d_Tb_count_76 : decode M_Tb_count.2.1 76 = .ok (.aload_n 0, 1) := by decide +kernel
theorem d_Tb_count_77 : decode M_Tb_count.2.1 77 = .ok (.getfield 70, 3) := by decide +kernel
theorem d_Tb_count_80 : decode M_Tb_count.2.1 80 = .ok (.getfield 295, 3) := by decide +kernel
theorem d_Tb_count_83 : decode M_Tb_count.2.1 83 = .ok (.ireturn, 1) := by decide +kernel
theorem d_Tb_count_84 : decode M_Tb_count.2.1 84 = .ok (.aload_n 0, 1) := by decide +kernel
theorem d_Tb_count_85 : decode M_Tb_count.2.1 85 = .ok (.getfield 39, 3) := by decide +kernel
theorem d_Tb_count_88 : decode M_Tb_count.2.1 88 = .ok (.getfield 187, 3) := by decide +kernel
theorem d_Tb_count_91 : decode M_Tb_count.2.1 91 = .ok (.ireturn, 1) := by decide +kernel
theorem d_Tb_count_92 : decode M_Tb_count.2.1 92 = .ok (.aload_n 0, 1) := by decide +kernel
theorem d_Tb_count_93 : decode M_Tb_count.2.1 93 = .ok (.getfield 10, 3) := by decide +kernel
theorem d_Tb_count_96 : decode M_Tb_count.2.1 96 = .ok (.getfield 296, 3) := by decide +kernel
theorem d_Tb_count_99 : decode M_Tb_count.2.1 99 = .ok (.ireturn, 1) := by decide +kernel
theorem d_Tb_count_100 : decode M_Tb_count.2.1 100 = .ok (.iconst (-1), 1) := by decide +kernel
theorem d_Tb_count_101 : decode M_Tb_count.2.1 101 = .ok (.ireturn, 1) := by decide +kernel
theorem d_Tb_trace_0 : decode M_Tb_trace.2.1 0 = .ok (.aload_n 0, 1) := by decide +kernel
theorem d_Tb_trace_1 : decode M_Tb_trace.2.1 1 = .ok (.getfield 77, 3) := by decide +kernel
theorem d_Tb_trace_4 : decode M_Tb_trace.2.1 4 = .ok (.lreturn, 1) := by decide +kernel
theorem d_Tb_within_0 : decode M_Tb_within.2.1 0 = .ok (.iload_n 0, 1) := by decide +kernel
theorem d_Tb_within_1 : decode M_Tb_within.2.1 1 = .ok (.iload_n 1, 1) := by decide +kernel
theorem d_Tb_within_2 : decode M_Tb_within.2.1 2 = .ok (.if_icmp .lt 12, 3) := by decide +kernel
theorem d_Tb_within_5 : decode M_Tb_within.2.1 5 = .ok (.iload_n 0, 1) := by decide +kernel
theorem d_Tb_within_6 : decode M_Tb_within.2.1 6 = .ok (.iload_n 2, 1) := by decide +kernel
theorem d_Tb_within_7 : decode M_Tb_within.2.1 7 = .ok (.if_icmp .gt 7, 3) := by decide +kernel
theorem d_Tb_within_10 : decode M_Tb_within.2.1 10 = .ok (.iconst 1, 1) := by decide +kernel
theorem d_Tb_within_11 : decode M_Tb_within.2.1 11 = .ok (.goto 4, 3) := by decide +kernel
theorem d_Tb_within_14 : decode M_Tb_within.2.1 14 = .ok (.iconst 0, 1) := by decide +kernel
theorem d_Tb_within_15 : decode M_Tb_within.2.1 15 = .ok (.ireturn, 1) := by decide +kernel
theorem d_Tb_startAnew_0 : decode M_Tb_startAnew.2.1 0 = .ok (.aload_n 0, 1) := by decide +kernel
theorem d_Tb_startAnew_1 : decode M_Tb_startAnew.2.1 1 = .ok (.getfield 29, 3) := by decide +kernel
theorem d_Tb_startAnew_4 : decode M_Tb_startAnew.2.1 4 = .ok (.aload_n 0, 1) := by decide +kernel
theorem d_Tb_startAnew_5 : decode M_Tb_startAnew.2.1 5 = .ok (.getfield 19, 3) := by decide +kernel
theorem d_Tb_startAnew_8 : decode M_Tb_startAnew.2.1 8 = .ok (.getfield 292, 3) := by decide +kernel
theorem d_Tb_startAnew_11 : decode M_Tb_startAnew.2.1 11 = .ok (.aload_n 0, 1) := by decide +kernel
theorem d_Tb_startAnew_12 : decode M_Tb_startAnew.2.1 12 = .ok (.getfield 19, 3) := by decide +kernel
theorem d_Tb_startAnew_15 : decode M_Tb_startAnew.2.1 15 = .ok (.getfield 299, 3) := by decide +kernel
theorem d_Tb_startAnew_18 : decode M_Tb_startAnew.2.1 18 = .ok (.invokevirtual 302, 3) := by decide +kernel
theorem d_Tb_startAnew_21 : decode M_Tb_startAnew.2.1 21 = .ok (.aload_n 0, 1) := by decide +kernel
theorem d_Tb_startAnew_22 : decode M_Tb_startAnew.2.1 22 = .ok (.getfield 39, 3) := by decide +kernel
theorem d_Tb_startAnew_25 : decode M_Tb_startAnew.2.1 25 = .ok (.iconst 0, 1) := by decide +kernel
theorem d_Tb_startAnew_26 : decode M_Tb_startAnew.2.1 26 = .ok (.putfield 187, 3) := by decide +kernel
theorem d_Tb_startAnew_29 : decode M_Tb_startAnew.2.1 29 = .ok (.aload_n 0, 1) := by decide +kernel
theorem d_Tb_startAnew_30 : decode M_Tb_startAnew.2.1 30 = .ok (.getfield 66, 3) := by decide +kernel
theorem d_Tb_startAnew_33 : decode M_Tb_startAnew.2.1 33 = .ok (.invokevirtual 257, 3) := by decide +kernel
theorem d_Tb_startAnew_36 : decode M_Tb_startAnew.2.1 36 = .ok (.pop, 1) := by decide +kernel
theorem d_Tb_startAnew_37 : decode M_Tb_startAnew.2.1 37 = .ok (.aload_n 0, 1) := by decide +kernel
theorem d_Tb_startAnew_38 : decode M_Tb_startAnew.2.1 38 = .ok (.getfield 70, 3) := by decide +kernel
theorem d_Tb_startAnew_41 : decode M_Tb_startAnew.2.1 41 = .ok (.invokevirtual 257, 3) := by decide +kernel
theorem d_Tb_startAnew_44 : decode M_Tb_startAnew.2.1 44 = .ok (.pop, 1) := by decide +kernel
theorem d_Tb_startAnew_45 : decode M_Tb_startAnew.2.1 45 = .ok (.iconst 0, 1) := by decide +kernel
theorem d_Tb_startAnew_46 : decode M_Tb_startAnew.2.1 46 = .ok (.istore_n 1, 1) := by decide +kernel
theorem d_Tb_startAnew_47 : decode M_Tb_startAnew.2.1 47 = .ok (.iload_n 1, 1) := by decide +kernel
theorem d_Tb_startAnew_48 : decode M_Tb_startAnew.2.1 48 = .ok (.iconst 2, 1) := by decide +kernel
theorem d_Tb_startAnew_49 : decode M_Tb_startAnew.2.1 49 = .ok (.if_icmp .ge 19, 3) := by decide +kernel
theorem d_Tb_startAnew_52 : decode M_Tb_startAnew.2.1 52 = .ok (.aload_n 0, 1) := by decide +kernel
theorem d_Tb_startAnew_53 : decode M_Tb_startAnew.2.1 53 = .ok (.getfield 45, 3) := by decide +kernel
theorem d_Tb_startAnew_56 : decode M_Tb_startAnew.2.1 56 = .ok (.iload_n 1, 1) := by decide +kernel
theorem d_Tb_startAnew_57 : decode M_Tb_startAnew.2.1 57 = .ok (.aaload, 1) := by decide +kernel
theorem d_Tb_startAnew_58 : decode M_Tb_startAnew.2.1 58 = .ok (.iconst 0, 1) := by decide +kernel
theorem d_Tb_startAnew_59 : decode M_Tb_startAnew.2.1 59 = .ok (.putfield 280, 3) := by decide +kernel
theorem d_Tb_startAnew_62 : decode M_Tb_startAnew.2.1 62 = .ok (.iinc 1 1, 3) := by decide +kernel
theorem d_Tb_startAnew_65 : decode M_Tb_startAnew.2.1 65 = .ok (.goto (-18), 3) := by decide +kernel
theorem d_Tb_startAnew_68 : decode M_Tb_startAnew.2.1 68 = .ok (.return_, 1) := by decide +kernel
theorem d_Tb_fitting_0 : decode M_Tb_fitting.2.1 0 = .ok (.iconst 0, 1) := by decide +kernel
theorem d_Tb_fitting_1 : decode M_Tb_fitting.2.1 1 = .ok (.istore_n 2, 1) := by decide +kernel
theorem d_Tb_fitting_2 : decode M_Tb_fitting.2.1 2 = .ok (.iconst 0, 1) := by decide +kernel
theorem d_Tb_fitting_3 : decode M_Tb_fitting.2.1 3 = .ok (.istore_n 3, 1) := by decide +kernel
theorem d_Tb_fitting_4 : decode M_Tb_fitting.2.1 4 = .ok (.iload_n 3, 1) := by decide +kernel
theorem d_Tb_fitting_5 : decode M_Tb_fitting.2.1 5 = .ok (.aload_n 0, 1) := by decide +kernel
theorem d_Tb_fitting_6 : decode M_Tb_fitting.2.1 6 = .ok (.getfield 19, 3) := by decide +kernel
theorem d_Tb_fitting_9 : decode M_Tb_fitting.2.1 9 = .ok (.getfield 289, 3) := by decide +kernel
theorem d_Tb_fitting_12 : decode M_Tb_fitting.2.1 12 = .ok (.if_icmp .ge 24, 3) := by decide +kernel
theorem d_Tb_fitting_15 : decode M_Tb_fitting.2.1 15 = .ok (.aload_n 0, 1) := by decide +kernel
theorem d_Tb_fitting_16 : decode M_Tb_fitting.2.1 16 = .ok (.iload_n 1, 1) := by decide +kernel
theorem d_Tb_fitting_17 : decode M_Tb_fitting.2.1 17 = .ok (.iload_n 3, 1) := by decide +kernel
theorem d_Tb_fitting_18 : decode M_Tb_fitting.2.1 18 = .ok (.invokevirtual 304, 3) := by decide +kernel
theorem d_Tb_fitting_21 : decode M_Tb_fitting.2.1 21 = .ok (.ifCond .eq 9, 3) := by decide +kernel
theorem d_Tb_fitting_24 : decode M_Tb_fitting.2.1 24 = .ok (.iload_n 2, 1) := by decide +kernel
theorem d_Tb_fitting_25 : decode M_Tb_fitting.2.1 25 = .ok (.iconst 1, 1) := by decide +kernel
theorem d_Tb_fitting_26 : decode M_Tb_fitting.2.1 26 = .ok (.iload_n 3, 1) := by decide +kernel
theorem d_Tb_fitting_27 : decode M_Tb_fitting.2.1 27 = .ok (.ishl, 1) := by decide +kernel
theorem d_Tb_fitting_28 : decode M_Tb_fitting.2.1 28 = .ok (.ior, 1) := by decide +kernel
theorem d_Tb_fitting_29 : decode M_Tb_fitting.2.1 29 = .ok (.istore_n 2, 1) := by decide +kernel
theorem d_Tb_fitting_30 : decode M_Tb_fitting.2.1 30 = .ok (.iinc 3 1, 3) := by decide +kernel
theorem d_Tb_fitting_33 : decode M_Tb_fitting.2.1 33 = .ok (.goto (-29), 3) := by decide +kernel
theorem d_Tb_fitting_36 : decode M_Tb_fitting.2.1 36 = .ok (.iload_n 2, 1) := by decide +kernel
theorem d_Tb_fitting_37 : decode M_Tb_fitting.2.1 37 = .ok (.ireturn, 1) := by decide +kernel
theorem d_Tb_fits_0 : decode M_Tb_fits.2.1 0 = .ok (.iconst 0, 1) := by decide +kernel
theorem d_Tb_fits_1 : decode M_Tb_fits.2.1 1 = .ok (.istore_n 3, 1) := by decide +kernel
theorem d_Tb_fits_2 : decode M_Tb_fits.2.1 2 = .ok (.iload_n 3, 1) := by decide +kernel
theorem d_Tb_fits_3 : decode M_Tb_fits.2.1 3 = .ok (.aload_n 0, 1) := by decide +kernel
theorem d_Tb_fits_4 : decode M_Tb_fits.2.1 4 = .ok (.getfield 66, 3) := by decide +kernel
theorem d_Tb_fits_7 : decode M_Tb_fits.2.1 7 = .ok (.getfield 295, 3) := by decide +kernel
theorem d_Tb_fits_10 : decode M_Tb_fits.2.1 10 = .ok (.if_icmp .ge 51, 3) := by decide +kernel
theorem d_Tb_fits_13 : decode M_Tb_fits.2.1 13 = .ok (.aload_n 0, 1) := by decide +kernel
theorem d_Tb_fits_14 : decode M_Tb_fits.2.1 14 = .ok (.getfield 66, 3) := by decide +kernel
theorem d_Tb_fits_17 : decode M_Tb_fits.2.1 17 = .ok (.getfield 307, 3) := by decide +kernel
theorem d_Tb_fits_20 : decode M_Tb_fits.2.1 20 = .ok (.iload_n 3, 1) := by decide +kernel
theorem d_Tb_fits_21 : decode M_Tb_fits.2.1 21 = .ok (.iaload, 1) := by decide +kernel
theorem d_Tb_fits_22 : decode M_Tb_fits.2.1 22 = .ok (.iload_n 1, 1) := by decide +kernel
theorem d_Tb_fits_23 : decode M_Tb_fits.2.1 23 = .ok (.if_icmp .ne 32, 3) := by decide +kernel
theorem d_Tb_fits_26 : decode M_Tb_fits.2.1 26 = .ok (.aload_n 0, 1) := by decide +kernel
theorem d_Tb_fits_27 : decode M_Tb_fits.2.1 27 = .ok (.iload_n 1, 1) := by decide +kernel
theorem d_Tb_fits_28 : decode M_Tb_fits.2.1 28 = .ok (.iload_n 2, 1) := by decide +kernel
theorem d_Tb_fits_29 : decode M_Tb_fits.2.1 29 = .ok (.aload_n 0, 1) := by decide +kernel
theorem d_Tb_fits_30 : decode M_Tb_fits.2.1 30 = .ok (.getfield 66, 3) := by decide +kernel
theorem d_Tb_fits_33 : decode M_Tb_fits.2.1 33 = .ok (.getfield 309, 3) := by decide +kernel
theorem d_Tb_fits_36 : decode M_Tb_fits.2.1 36 = .ok (.iload_n 3, 1) := by decide +kernel
theorem d_Tb_fits_37 : decode M_Tb_fits.2.1 37 = .ok (.iaload, 1) := by decide +kernel
theorem d_Tb_fits_38 : decode M_Tb_fits.2.1 38 = .ok (.invokevirtual 312, 3) := by decide +kernel
theorem d_Tb_fits_41 : decode M_Tb_fits.2.1 41 = .ok (.aload_n 0, 1) := by decide +kernel
theorem d_Tb_fits_42 : decode M_Tb_fits.2.1 42 = .ok (.getfield 66, 3) := by decide +kernel
theorem d_Tb_fits_45 : decode M_Tb_fits.2.1 45 = .ok (.getfield 315, 3) := by decide +kernel
theorem d_Tb_fits_48 : decode M_Tb_fits.2.1 48 = .ok (.iload_n 3, 1) := by decide +kernel
theorem d_Tb_fits_49 : decode M_Tb_fits.2.1 49 = .ok (.iaload, 1) := by decide +kernel
theorem d_Tb_fits_50 : decode M_Tb_fits.2.1 50 = .ok (.if_icmp .eq 5, 3) := by decide +kernel
theorem d_Tb_fits_53 : decode M_Tb_fits.2.1 53 = .ok (.iconst 0, 1) := by decide +kernel
theorem d_Tb_fits_54 : decode M_Tb_fits.2.1 54 = .ok (.ireturn, 1) := by decide +kernel
theorem d_Tb_fits_55 : decode M_Tb_fits.2.1 55 = .ok (.iinc 3 1, 3) := by decide +kernel
theorem d_Tb_fits_58 : decode M_Tb_fits.2.1 58 = .ok (.goto (-56), 3) := by decide +kernel
theorem d_Tb_fits_61 : decode M_Tb_fits.2.1 61 = .ok (.iconst 1, 1) := by decide +kernel
theorem d_Tb_fits_62 : decode M_Tb_fits.2.1 62 = .ok (.ireturn, 1) := by decide +kernel
theorem d_Tb_heightLater_0 : decode M_Tb_heightLater.2.1 0 = .ok (.aload_n 0, 1) := by decide +kernel
theorem d_Tb_heightLater_1 : decode M_Tb_heightLater.2.1 1 = .ok (.getfield 33, 3) := by decide +kernel
theorem d_Tb_heightLater_4 : decode M_Tb_heightLater.2.1 4 = .ok (.aload_n 0, 1) := by decide +kernel
theorem d_Tb_heightLater_5 : decode M_Tb_heightLater.2.1 5 = .ok (.getfield 29, 3) := by decide +kernel
theorem d_Tb_heightLater_8 : decode M_Tb_heightLater.2.1 8 = .ok (.invokevirtual 208, 3) := by decide +kernel
theorem d_Tb_heightLater_11 : decode M_Tb_heightLater.2.1 11 = .ok (.aload_n 0, 1) := by decide +kernel
theorem d_Tb_heightLater_12 : decode M_Tb_heightLater.2.1 12 = .ok (.getfield 33, 3) := by decide +kernel
theorem d_Tb_heightLater_15 : decode M_Tb_heightLater.2.1 15 = .ok (.iload_n 1, 1) := by decide +kernel
theorem d_Tb_heightLater_16 : decode M_Tb_heightLater.2.1 16 = .ok (.iload_n 2, 1) := by decide +kernel
theorem d_Tb_heightLater_17 : decode M_Tb_heightLater.2.1 17 = .ok (.invokevirtual 318, 3) := by decide +kernel
theorem d_Tb_heightLater_20 : decode M_Tb_heightLater.2.1 20 = .ok (.iconst 0, 1) := by decide +kernel
theorem d_Tb_heightLater_21 : decode M_Tb_heightLater.2.1 21 = .ok (.istore 4, 2) := by decide +kernel
theorem d_Tb_heightLater_23 : decode M_Tb_heightLater.2.1 23 = .ok (.iload 4, 2) := by decide +kernel
theorem d_Tb_heightLater_25 : decode M_Tb_heightLater.2.1 25 = .ok (.iload_n 3, 1) := by decide +kernel
theorem d_Tb_heightLater_26 : decode M_Tb_heightLater.2.1 26 = .ok (.if_icmp .ge 20, 3) := by decide +kernel
theorem d_Tb_heightLater_29 : decode M_Tb_heightLater.2.1 29 = .ok (.aload_n 0, 1) := by decide +kernel
theorem d_Tb_heightLater_30 : decode M_Tb_heightLater.2.1 30 = .ok (.getfield 19, 3) := by decide +kernel
theorem d_Tb_heightLater_33 : decode M_Tb_heightLater.2.1 33 = .ok (.aload_n 0, 1) := by decide +kernel
theorem d_Tb_heightLater_34 : decode M_Tb_heightLater.2.1 34 = .ok (.getfield 33, 3) := by decide +kernel
theorem d_Tb_heightLater_37 : decode M_Tb_heightLater.2.1 37 = .ok (.invokevirtual 210, 3) := by decide +kernel
theorem d_Tb_heightLater_40 : decode M_Tb_heightLater.2.1 40 = .ok (.iinc 4 1, 3) := by decide +kernel
theorem d_Tb_heightLater_43 : decode M_Tb_heightLater.2.1 43 = .ok (.goto (-20), 3) := by decide +kernel
theorem d_Tb_heightLater_46 : decode M_Tb_heightLater.2.1 46 = .ok (.aload_n 0, 1) := by decide +kernel
theorem d_Tb_heightLater_47 : decode M_Tb_heightLater.2.1 47 = .ok (.getfield 33, 3) := by decide +kernel
theorem d_Tb_heightLater_50 : decode M_Tb_heightLater.2.1 50 = .ok (.getfield 193, 3) := by decide +kernel
theorem d_Tb_heightLater_53 : decode M_Tb_heightLater.2.1 53 = .ok (.ireturn, 1) := by decide +kernel
theorem d_Tb_greatestAlike_0 : decode M_Tb_greatestAlike.2.1 0 = .ok (.aload_n 0, 1) := by decide +kernel
theorem d_Tb_greatestAlike_1 : decode M_Tb_greatestAlike.2.1 1 = .ok (.getfield 73, 3) := by decide +kernel
theorem d_Tb_greatestAlike_4 : decode M_Tb_greatestAlike.2.1 4 = .ok (.iconst 0, 1) := by decide +kernel
theorem d_Tb_greatestAlike_5 : decode M_Tb_greatestAlike.2.1 5 = .ok (.invokestatic 321, 3) := by decide +kernel
theorem d_Tb_greatestAlike_8 : decode M_Tb_greatestAlike.2.1 8 = .ok (.iconst 0, 1) := by decide +kernel
theorem d_Tb_greatestAlike_9 : decode M_Tb_greatestAlike.2.1 9 = .ok (.istore 4, 2) := by decide +kernel
theorem d_Tb_greatestAlike_11 : decode M_Tb_greatestAlike.2.1 11 = .ok (.iconst 0, 1) := by decide +kernel
theorem d_Tb_greatestAlike_12 : decode M_Tb_greatestAlike.2.1 12 = .ok (.istore 5, 2) := by decide +kernel
theorem d_Tb_greatestAlike_14 : decode M_Tb_greatestAlike.2.1 14 = .ok (.iload 5, 2) := by decide +kernel
theorem d_Tb_greatestAlike_16 : decode M_Tb_greatestAlike.2.1 16 = .ok (.aload_n 0, 1) := by decide +kernel
theorem d_Tb_greatestAlike_17 : decode M_Tb_greatestAlike.2.1 17 = .ok (.getfield 19, 3) := by decide +kernel
theorem d_Tb_greatestAlike_20 : decode M_Tb_greatestAlike.2.1 20 = .ok (.getfield 289, 3) := by decide +kernel
theorem d_Tb_greatestAlike_23 : decode M_Tb_greatestAlike.2.1 23 = .ok (.if_icmp .ge 54, 3) := by decide +kernel
theorem d_Tb_greatestAlike_26 : decode M_Tb_greatestAlike.2.1 26 = .ok (.iload_n 2, 1) := by decide +kernel
theorem d_Tb_greatestAlike_27 : decode M_Tb_greatestAlike.2.1 27 = .ok (.iload 5, 2) := by decide +kernel
theorem d_Tb_greatestAlike_29 : decode M_Tb_greatestAlike.2.1 29 = .ok (.ishr, 1) := by decide +kernel
theorem d_Tb_greatestAlike_30 : decode M_Tb_greatestAlike.2.1 30 = .ok (.iconst 1, 1) := by decide +kernel
theorem d_Tb_greatestAlike_31 : decode M_Tb_greatestAlike.2.1 31 = .ok (.iand, 1) := by decide +kernel
theorem d_Tb_greatestAlike_32 : decode M_Tb_greatestAlike.2.1 32 = .ok (.iconst 1, 1) := by decide +kernel
theorem d_Tb_greatestAlike_33 : decode M_Tb_greatestAlike.2.1 33 = .ok (.if_icmp .ne 38, 3) := by decide +kernel
theorem d_Tb_greatestAlike_36 : decode M_Tb_greatestAlike.2.1 36 = .ok (.aload_n 0, 1) := by decide +kernel
theorem d_Tb_greatestAlike_37 : decode M_Tb_greatestAlike.2.1 37 = .ok (.iload_n 1, 1) := by decide +kernel
theorem d_Tb_greatestAlike_38 : decode M_Tb_greatestAlike.2.1 38 = .ok (.iload 5, 2) := by decide +kernel
theorem d_Tb_greatestAlike_40 : decode M_Tb_greatestAlike.2.1 40 = .ok (.iload_n 3, 1) := by decide +kernel
theorem d_Tb_greatestAlike_41 : decode M_Tb_greatestAlike.2.1 41 = .ok (.invokevirtual 312, 3) := by decide +kernel
theorem d_Tb_greatestAlike_44 : decode M_Tb_greatestAlike.2.1 44 = .ok (.istore 6, 2) := by decide +kernel
theorem d_Tb_greatestAlike_46 : decode M_Tb_greatestAlike.2.1 46 = .ok (.aload_n 0, 1) := by decide +kernel
theorem d_Tb_greatestAlike_47 : decode M_Tb_greatestAlike.2.1 47 = .ok (.getfield 73, 3) := by decide +kernel
theorem d_Tb_greatestAlike_50 : decode M_Tb_greatestAlike.2.1 50 = .ok (.iload 6, 2) := by decide +kernel
theorem d_Tb_greatestAlike_52 : decode M_Tb_greatestAlike.2.1 52 = .ok (.dup2, 1) := by decide +kernel
theorem d_Tb_greatestAlike_53 : decode M_Tb_greatestAlike.2.1 53 = .ok (.iaload, 1) := by decide +kernel
theorem d_Tb_greatestAlike_54 : decode M_Tb_greatestAlike.2.1 54 = .ok (.iconst 1, 1) := by decide +kernel
theorem d_Tb_greatestAlike_55 : decode M_Tb_greatestAlike.2.1 55 = .ok (.iadd, 1) := by decide +kernel
theorem d_Tb_greatestAlike_56 : decode M_Tb_greatestAlike.2.1 56 = .ok (.iastore, 1) := by decide +kernel
theorem d_Tb_greatestAlike_57 : decode M_Tb_greatestAlike.2.1 57 = .ok (.iload 4, 2) := by decide +kernel
theorem d_Tb_greatestAlike_59 : decode M_Tb_greatestAlike.2.1 59 = .ok (.aload_n 0, 1) := by decide +kernel
theorem d_Tb_greatestAlike_60 : decode M_Tb_greatestAlike.2.1 60 = .ok (.getfield 73, 3) := by decide +kernel
theorem d_Tb_greatestAlike_63 : decode M_Tb_greatestAlike.2.1 63 = .ok (.iload 6, 2) := by decide +kernel
theorem d_Tb_greatestAlike_65 : decode M_Tb_greatestAlike.2.1 65 = .ok (.iaload, 1) := by decide +kernel
theorem d_Tb_greatestAlike_66 : decode M_Tb_greatestAlike.2.1 66 = .ok (.invokestatic 327, 3) := by decide +kernel
theorem d_Tb_greatestAlike_69 : decode M_Tb_greatestAlike.2.1 69 = .ok (.istore 4, 2) := by decide +kernel
theorem d_Tb_greatestAlike_71 : decode M_Tb_greatestAlike.2.1 71 = .ok (.iinc 5 1, 3) := by decide +kernel
theorem d_Tb_greatestAlike_74 : decode M_Tb_greatestAlike.2.1 74 = .ok (.goto (-60), 3) := by decide +kernel
theorem d_Tb_greatestAlike_77 : decode M_Tb_greatestAlike.2.1 77 = .ok (.iload 4, 2) := by decide +kernel
theorem d_Tb_greatestAlike_79 : decode M_Tb_greatestAlike.2.1 79 = .ok (.ireturn, 1) := by decide +kernel
theorem d_Tb_isLaw_0 : decode M_Tb_isLaw.2.1 0 = .ok (.iconst 0, 1) := by decide +kernel
theorem d_Tb_isLaw_1 : decode M_Tb_isLaw.2.1 1 = .ok (.istore_n 3, 1) := by decide +kernel
theorem d_Tb_isLaw_2 : decode M_Tb_isLaw.2.1 2 = .ok (.iload_n 3, 1) := by decide +kernel
theorem d_Tb_isLaw_3 : decode M_Tb_isLaw.2.1 3 = .ok (.aload_n 0, 1) := by decide +kernel
theorem d_Tb_isLaw_4 : decode M_Tb_isLaw.2.1 4 = .ok (.getfield 70, 3) := by decide +kernel
theorem d_Tb_isLaw_7 : decode M_Tb_isLaw.2.1 7 = .ok (.getfield 295, 3) := by decide +kernel
theorem d_Tb_isLaw_10 : decode M_Tb_isLaw.2.1 10 = .ok (.if_icmp .ge 37, 3) := by decide +kernel
theorem d_Tb_isLaw_13 : decode M_Tb_isLaw.2.1 13 = .ok (.iload_n 1, 1) := by decide +kernel
theorem d_Tb_isLaw_14 : decode M_Tb_isLaw.2.1 14 = .ok (.iload_n 2, 1) := by decide +kernel
theorem d_Tb_isLaw_15 : decode M_Tb_isLaw.2.1 15 = .ok (.aload_n 0, 1) := by decide +kernel
theorem d_Tb_isLaw_16 : decode M_Tb_isLaw.2.1 16 = .ok (.getfield 70, 3) := by decide +kernel
theorem d_Tb_isLaw_19 : decode M_Tb_isLaw.2.1 19 = .ok (.getfield 309, 3) := by decide +kernel
theorem d_Tb_isLaw_22 : decode M_Tb_isLaw.2.1 22 = .ok (.iload_n 3, 1) := by decide +kernel
theorem d_Tb_isLaw_23 : decode M_Tb_isLaw.2.1 23 = .ok (.iaload, 1) := by decide +kernel
theorem d_Tb_isLaw_24 : decode M_Tb_isLaw.2.1 24 = .ok (.invokestatic 332, 3) := by decide +kernel
theorem d_Tb_isLaw_27 : decode M_Tb_isLaw.2.1 27 = .ok (.aload_n 0, 1) := by decide +kernel
theorem d_Tb_isLaw_28 : decode M_Tb_isLaw.2.1 28 = .ok (.getfield 70, 3) := by decide +kernel
theorem d_Tb_isLaw_31 : decode M_Tb_isLaw.2.1 31 = .ok (.getfield 315, 3) := by decide +kernel
theorem d_Tb_isLaw_34 : decode M_Tb_isLaw.2.1 34 = .ok (.iload_n 3, 1) := by decide +kernel
theorem d_Tb_isLaw_35 : decode M_Tb_isLaw.2.1 35 = .ok (.iaload, 1) := by decide +kernel
theorem d_Tb_isLaw_36 : decode M_Tb_isLaw.2.1 36 = .ok (.if_icmp .eq 5, 3) := by decide +kernel
theorem d_Tb_isLaw_39 : decode M_Tb_isLaw.2.1 39 = .ok (.iconst 0, 1) := by decide +kernel
theorem d_Tb_isLaw_40 : decode M_Tb_isLaw.2.1 40 = .ok (.ireturn, 1) := by decide +kernel
theorem d_Tb_isLaw_41 : decode M_Tb_isLaw.2.1 41 = .ok (.iinc 3 1, 3) := by decide +kernel
theorem d_Tb_isLaw_44 : decode M_Tb_isLaw.2.1 44 = .ok (.goto (-42), 3) := by decide +kernel
theorem d_Tb_isLaw_47 : decode M_Tb_isLaw.2.1 47 = .ok (.iconst 1, 1) := by decide +kernel
theorem d_Tb_isLaw_48 : decode M_Tb_isLaw.2.1 48 = .ok (.ireturn, 1) := by decide +kernel
theorem d_Tb_markOne_0 : decode M_Tb_markOne.2.1 0 = .ok (.aload_n 0, 1) := by decide +kernel
theorem d_Tb_markOne_1 : decode M_Tb_markOne.2.1 1 = .ok (.dup, 1) := by decide +kernel
theorem d_Tb_markOne_2 : decode M_Tb_markOne.2.1 2 = .ok (.getfield 77, 3) := by decide +kernel
theorem d_Tb_markOne_5 : decode M_Tb_markOne.2.1 5 = .ok (.lconst 1, 1) := by decide +kernel
theorem d_Tb_markOne_6 : decode M_Tb_markOne.2.1 6 = .ok (.ladd, 1) := by decide +kernel
theorem d_Tb_markOne_7 : decode M_Tb_markOne.2.1 7 = .ok (.putfield 77, 3) := by decide +kernel
theorem d_Tb_markOne_10 : decode M_Tb_markOne.2.1 10 = .ok (.aload_n 0, 1) := by decide +kernel
theorem d_Tb_markOne_11 : decode M_Tb_markOne.2.1 11 = .ok (.getfield 19, 3) := by decide +kernel
theorem d_Tb_markOne_14 : decode M_Tb_markOne.2.1 14 = .ok (.getfield 113, 3) := by decide +kernel
theorem d_Tb_markOne_17 : decode M_Tb_markOne.2.1 17 = .ok (.iload_n 1, 1) := by decide +kernel
theorem d_Tb_markOne_18 : decode M_Tb_markOne.2.1 18 = .ok (.iaload, 1) := by decide +kernel
theorem d_Tb_markOne_19 : decode M_Tb_markOne.2.1 19 = .ok (.ireturn, 1) := by decide +kernel
theorem d_Tb_markLover_0 : decode M_Tb_markLover.2.1 0 = .ok (.aload_n 0, 1) := by decide +kernel
theorem d_Tb_markLover_1 : decode M_Tb_markLover.2.1 1 = .ok (.dup, 1) := by decide +kernel
theorem d_Tb_markLover_2 : decode M_Tb_markLover.2.1 2 = .ok (.getfield 77, 3) := by decide +kernel
theorem d_Tb_markLover_5 : decode M_Tb_markLover.2.1 5 = .ok (.ldc2_w 335, 3) := by decide +kernel
theorem d_Tb_markLover_8 : decode M_Tb_markLover.2.1 8 = .ok (.ladd, 1) := by decide +kernel
theorem d_Tb_markLover_9 : decode M_Tb_markLover.2.1 9 = .ok (.putfield 77, 3) := by decide +kernel
theorem d_Tb_markLover_12 : decode M_Tb_markLover.2.1 12 = .ok (.aload_n 0, 1) := by decide +kernel
theorem d_Tb_markLover_13 : decode M_Tb_markLover.2.1 13 = .ok (.iload_n 1, 1) := by decide +kernel
theorem d_Tb_markLover_14 : decode M_Tb_markLover.2.1 14 = .ok (.invokevirtual 273, 3) := by decide +kernel
theorem d_Tb_markLover_17 : decode M_Tb_markLover.2.1 17 = .ok (.aload_n 0, 1) := by decide +kernel
theorem d_Tb_markLover_18 : decode M_Tb_markLover.2.1 18 = .ok (.getfield 29, 3) := by decide +kernel
theorem d_Tb_markLover_21 : decode M_Tb_markLover.2.1 21 = .ok (.iload_n 1, 1) := by decide +kernel
theorem d_Tb_markLover_22 : decode M_Tb_markLover.2.1 22 = .ok (.invokevirtual 122, 3) := by decide +kernel
theorem d_Tb_markLover_25 : decode M_Tb_markLover.2.1 25 = .ok (.invokestatic 179, 3) := by decide +kernel
theorem d_Tb_markLover_28 : decode M_Tb_markLover.2.1 28 = .ok (.iadd, 1) := by decide +kernel
theorem d_Tb_markLover_29 : decode M_Tb_markLover.2.1 29 = .ok (.ireturn, 1) := by decide +kernel
theorem d_Tb_markGrudge_0 : decode M_Tb_markGrudge.2.1 0 = .ok (.aload_n 0, 1) := by decide +kernel
theorem d_Tb_markGrudge_1 : decode M_Tb_markGrudge.2.1 1 = .ok (.dup, 1) := by decide +kernel
theorem d_Tb_markGrudge_2 : decode M_Tb_markGrudge.2.1 2 = .ok (.getfield 77, 3) := by decide +kernel
theorem d_Tb_markGrudge_5 : decode M_Tb_markGrudge.2.1 5 = .ok (.ldc2_w 337, 3) := by decide +kernel
theorem d_Tb_markGrudge_8 : decode M_Tb_markGrudge.2.1 8 = .ok (.ladd, 1) := by decide +kernel
theorem d_Tb_markGrudge_9 : decode M_Tb_markGrudge.2.1 9 = .ok (.putfield 77, 3) := by decide +kernel
theorem d_Tb_markGrudge_12 : decode M_Tb_markGrudge.2.1 12 = .ok (.aload_n 0, 1) := by decide +kernel
theorem d_Tb_markGrudge_13 : decode M_Tb_markGrudge.2.1 13 = .ok (.iload_n 1, 1) := by decide +kernel
theorem d_Tb_markGrudge_14 : decode M_Tb_markGrudge.2.1 14 = .ok (.invokevirtual 273, 3) := by decide +kernel
theorem d_Tb_markGrudge_17 : decode M_Tb_markGrudge.2.1 17 = .ok (.aload_n 0, 1) := by decide +kernel
theorem d_Tb_markGrudge_18 : decode M_Tb_markGrudge.2.1 18 = .ok (.getfield 19, 3) := by decide +kernel
theorem d_Tb_markGrudge_21 : decode M_Tb_markGrudge.2.1 21 = .ok (.aload_n 0, 1) := by decide +kernel
theorem d_Tb_markGrudge_22 : decode M_Tb_markGrudge.2.1 22 = .ok (.getfield 29, 3) := by decide +kernel
theorem d_Tb_markGrudge_25 : decode M_Tb_markGrudge.2.1 25 = .ok (.invokevirtual 153, 3) := by decide +kernel
theorem d_Tb_markGrudge_28 : decode M_Tb_markGrudge.2.1 28 = .ok (.isub, 1) := by decide +kernel
theorem d_Tb_markGrudge_29 : decode M_Tb_markGrudge.2.1 29 = .ok (.ireturn, 1) := by decide +kernel
theorem d_Tb_markPoet_0 : decode M_Tb_markPoet.2.1 0 = .ok (.aload_n 0, 1) := by decide +kernel
theorem d_Tb_markPoet_1 : decode M_Tb_markPoet.2.1 1 = .ok (.dup, 1) := by decide +kernel
theorem d_Tb_markPoet_2 : decode M_Tb_markPoet.2.1 2 = .ok (.getfield 77, 3) := by decide +kernel
theorem d_Tb_markPoet_5 : decode M_Tb_markPoet.2.1 5 = .ok (.ldc2_w 339, 3) := by decide +kernel
theorem d_Tb_markPoet_8 : decode M_Tb_markPoet.2.1 8 = .ok (.ladd, 1) := by decide +kernel
theorem d_Tb_markPoet_9 : decode M_Tb_markPoet.2.1 9 = .ok (.putfield 77, 3) := by decide +kernel
theorem d_Tb_markPoet_12 : decode M_Tb_markPoet.2.1 12 = .ok (.aload_n 0, 1) := by decide +kernel
theorem d_Tb_markPoet_13 : decode M_Tb_markPoet.2.1 13 = .ok (.iload_n 1, 1) := by decide +kernel
theorem d_Tb_markPoet_14 : decode M_Tb_markPoet.2.1 14 = .ok (.invokevirtual 258, 3) := by decide +kernel
theorem d_Tb_markPoet_17 : decode M_Tb_markPoet.2.1 17 = .ok (.iconst 2, 1) := by decide +kernel
theorem d_Tb_markPoet_18 : decode M_Tb_markPoet.2.1 18 = .ok (.imul, 1) := by decide +kernel
theorem d_Tb_markPoet_19 : decode M_Tb_markPoet.2.1 19 = .ok (.ireturn, 1) := by decide +kernel
theorem d_Tb_markMiser_0 : decode M_Tb_markMiser.2.1 0 = .ok (.aload_n 0, 1) := by decide +kernel
theorem d_Tb_markMiser_1 : decode M_Tb_markMiser.2.1 1 = .ok (.dup, 1) := by decide +kernel
theorem d_Tb_markMiser_2 : decode M_Tb_markMiser.2.1 2 = .ok (.getfield 77, 3) := by decide +kernel
theorem d_Tb_markMiser_5 : decode M_Tb_markMiser.2.1 5 = .ok (.ldc2_w 341, 3) := by decide +kernel
theorem d_Tb_markMiser_8 : decode M_Tb_markMiser.2.1 8 = .ok (.ladd, 1) := by decide +kernel
theorem d_Tb_markMiser_9 : decode M_Tb_markMiser.2.1 9 = .ok (.putfield 77, 3) := by decide +kernel
theorem d_Tb_markMiser_12 : decode M_Tb_markMiser.2.1 12 = .ok (.aload_n 0, 1) := by decide +kernel
theorem d_Tb_markMiser_13 : decode M_Tb_markMiser.2.1 13 = .ok (.iload_n 1, 1) := by decide +kernel
theorem d_Tb_markMiser_14 : decode M_Tb_markMiser.2.1 14 = .ok (.invokevirtual 261, 3) := by decide +kernel
theorem d_Tb_markMiser_17 : decode M_Tb_markMiser.2.1 17 = .ok (.iload_n 1, 1) := by decide +kernel
theorem d_Tb_markMiser_18 : decode M_Tb_markMiser.2.1 18 = .ok (.iadd, 1) := by decide +kernel
theorem d_Tb_markMiser_19 : decode M_Tb_markMiser.2.1 19 = .ok (.ireturn, 1) := by decide +kernel
theorem d_Tb_markWife_0 : decode M_Tb_markWife.2.1 0 = .ok (.aload_n 0, 1) := by decide +kernel
theorem d_Tb_markWife_1 : decode M_Tb_markWife.2.1 1 = .ok (.dup, 1) := by decide +kernel
theorem d_Tb_markWife_2 : decode M_Tb_markWife.2.1 2 = .ok (.getfield 77, 3) := by decide +kernel
theorem d_Tb_markWife_5 : decode M_Tb_markWife.2.1 5 = .ok (.ldc2_w 343, 3) := by decide +kernel
theorem d_Tb_markWife_8 : decode M_Tb_markWife.2.1 8 = .ok (.ladd, 1) := by decide +kernel
theorem d_Tb_markWife_9 : decode M_Tb_markWife.2.1 9 = .ok (.putfield 77, 3) := by decide +kernel
theorem d_Tb_markWife_12 : decode M_Tb_markWife.2.1 12 = .ok (.aload_n 0, 1) := by decide +kernel
theorem d_Tb_markWife_13 : decode M_Tb_markWife.2.1 13 = .ok (.iload_n 1, 1) := by decide +kernel
theorem d_Tb_markWife_14 : decode M_Tb_markWife.2.1 14 = .ok (.invokevirtual 273, 3) := by decide +kernel
theorem d_Tb_markWife_17 : decode M_Tb_markWife.2.1 17 = .ok (.aload_n 0, 1) := by decide +kernel
theorem d_Tb_markWife_18 : decode M_Tb_markWife.2.1 18 = .ok (.getfield 29, 3) := by decide +kernel
theorem d_Tb_markWife_21 : decode M_Tb_markWife.2.1 21 = .ok (.getfield 193, 3) := by decide +kernel
theorem d_Tb_markWife_24 : decode M_Tb_markWife.2.1 24 = .ok (.iadd, 1) := by decide +kernel
theorem d_Tb_markWife_25 : decode M_Tb_markWife.2.1 25 = .ok (.ireturn, 1) := by decide +kernel
