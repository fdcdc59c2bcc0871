theorem d_Mo_init_0 : decode M_Mo_init.2.1 0 = .ok (.aload_n 0, 1) := by decide +kernel
theorem d_Mo_init_1 : decode M_Mo_init.2.1 1 = .ok (.invokespecial 1, 3) := by decide +kernel
theorem d_Mo_init_4 : decode M_Mo_init.2.1 4 = .ok (.aload_n 0, 1) := by decide +kernel
theorem d_Mo_init_5 : decode M_Mo_init.2.1 5 = .ok (.bipush 120, 2) := by decide +kernel
theorem d_Mo_init_7 : decode M_Mo_init.2.1 7 = .ok (.newarray .byte, 2) := by decide +kernel
theorem d_Mo_init_9 : decode M_Mo_init.2.1 9 = .ok (.putfield 7, 3) := by decide +kernel
theorem d_Mo_init_12 : decode M_Mo_init.2.1 12 = .ok (.aload_n 0, 1) := by decide +kernel
theorem d_Mo_init_13 : decode M_Mo_init.2.1 13 = .ok (.bipush 20, 2) := by decide +kernel
theorem d_Mo_init_15 : decode M_Mo_init.2.1 15 = .ok (.newarray .int, 2) := by decide +kernel
theorem d_Mo_init_17 : decode M_Mo_init.2.1 17 = .ok (.putfield 13, 3) := by decide +kernel
theorem d_Mo_init_20 : decode M_Mo_init.2.1 20 = .ok (.aload_n 0, 1) := by decide +kernel
theorem d_Mo_init_21 : decode M_Mo_init.2.1 21 = .ok (.iconst 2, 1) := by decide +kernel
theorem d_Mo_init_22 : decode M_Mo_init.2.1 22 = .ok (.newarray .int, 2) := by decide +kernel
theorem d_Mo_init_24 : decode M_Mo_init.2.1 24 = .ok (.putfield 17, 3) := by decide +kernel
theorem d_Mo_init_27 : decode M_Mo_init.2.1 27 = .ok (.aload_n 0, 1) := by decide +kernel
theorem d_Mo_init_28 : decode M_Mo_init.2.1 28 = .ok (.bipush 6, 2) := by decide +kernel
theorem d_Mo_init_30 : decode M_Mo_init.2.1 30 = .ok (.newarray .int, 2) := by decide +kernel
theorem d_Mo_init_32 : decode M_Mo_init.2.1 32 = .ok (.putfield 20, 3) := by decide +kernel
theorem d_Mo_init_35 : decode M_Mo_init.2.1 35 = .ok (.aload_n 0, 1) := by decide +kernel
theorem d_Mo_init_36 : decode M_Mo_init.2.1 36 = .ok (.bipush 6, 2) := by decide +kernel
theorem d_Mo_init_38 : decode M_Mo_init.2.1 38 = .ok (.newarray .int, 2) := by decide +kernel
theorem d_Mo_init_40 : decode M_Mo_init.2.1 40 = .ok (.putfield 23, 3) := by decide +kernel
theorem d_Mo_init_43 : decode M_Mo_init.2.1 43 = .ok (.aload_n 0, 1) := by decide +kernel
theorem d_Mo_init_44 : decode M_Mo_init.2.1 44 = .ok (.bipush 6, 2) := by decide +kernel
theorem d_Mo_init_46 : decode M_Mo_init.2.1 46 = .ok (.newarray .int, 2) := by decide +kernel
theorem d_Mo_init_48 : decode M_Mo_init.2.1 48 = .ok (.putfield 26, 3) := by decide +kernel
theorem d_Mo_init_51 : decode M_Mo_init.2.1 51 = .ok (.aload_n 0, 1) := by decide +kernel
theorem d_Mo_init_52 : decode M_Mo_init.2.1 52 = .ok (.iconst 2, 1) := by decide +kernel
theorem d_Mo_init_53 : decode M_Mo_init.2.1 53 = .ok (.newarray .int, 2) := by decide +kernel
theorem d_Mo_init_55 : decode M_Mo_init.2.1 55 = .ok (.putfield 29, 3) := by decide +kernel
theorem d_Mo_init_58 : decode M_Mo_init.2.1 58 = .ok (.aload_n 0, 1) := by decide +kernel
theorem d_Mo_init_59 : decode M_Mo_init.2.1 59 = .ok (.bipush 8, 2) := by decide +kernel
theorem d_Mo_init_61 : decode M_Mo_init.2.1 61 = .ok (.newarray .int, 2) := by decide +kernel
theorem d_Mo_init_63 : decode M_Mo_init.2.1 63 = .ok (.putfield 32, 3) := by decide +kernel
theorem d_Mo_init_66 : decode M_Mo_init.2.1 66 = .ok (.aload_n 0, 1) := by decide +kernel
theorem d_Mo_init_67 : decode M_Mo_init.2.1 67 = .ok (.bipush 8, 2) := by decide +kernel
theorem d_Mo_init_69 : decode M_Mo_init.2.1 69 = .ok (.newarray .int, 2) := by decide +kernel
theorem d_Mo_init_71 : decode M_Mo_init.2.1 71 = .ok (.putfield 35, 3) := by decide +kernel
theorem d_Mo_init_74 : decode M_Mo_init.2.1 74 = .ok (.aload_n 0, 1) := by decide +kernel
theorem d_Mo_init_75 : decode M_Mo_init.2.1 75 = .ok (.iconst 2, 1) := by decide +kernel
theorem d_Mo_init_76 : decode M_Mo_init.2.1 76 = .ok (.newarray .int, 2) := by decide +kernel
theorem d_Mo_init_78 : decode M_Mo_init.2.1 78 = .ok (.putfield 38, 3) := by decide +kernel
theorem d_Mo_init_81 : decode M_Mo_init.2.1 81 = .ok (.aload_n 0, 1) := by decide +kernel
theorem d_Mo_init_82 : decode M_Mo_init.2.1 82 = .ok (.bipush 11, 2) := by decide +kernel
theorem d_Mo_init_84 : decode M_Mo_init.2.1 84 = .ok (.newarray .int, 2) := by decide +kernel
theorem d_Mo_init_86 : decode M_Mo_init.2.1 86 = .ok (.putfield 41, 3) := by decide +kernel
theorem d_Mo_init_89 : decode M_Mo_init.2.1 89 = .ok (.aload_n 0, 1) := by decide +kernel
theorem d_Mo_init_90 : decode M_Mo_init.2.1 90 = .ok (.iconst 3, 1) := by decide +kernel
theorem d_Mo_init_91 : decode M_Mo_init.2.1 91 = .ok (.newarray .int, 2) := by decide +kernel
theorem d_Mo_init_93 : decode M_Mo_init.2.1 93 = .ok (.putfield 44, 3) := by decide +kernel
theorem d_Mo_init_96 : decode M_Mo_init.2.1 96 = .ok (.aload_n 0, 1) := by decide +kernel
theorem d_Mo_init_97 : decode M_Mo_init.2.1 97 = .ok (.sipush 330, 3) := by decide +kernel
theorem d_Mo_init_100 : decode M_Mo_init.2.1 100 = .ok (.newarray .int, 2) := by decide +kernel
theorem d_Mo_init_102 : decode M_Mo_init.2.1 102 = .ok (.putfield 47, 3) := by decide +kernel
theorem d_Mo_init_105 : decode M_Mo_init.2.1 105 = .ok (.aload_n 0, 1) := by decide +kernel
theorem d_Mo_init_106 : decode M_Mo_init.2.1 106 = .ok (.bipush 22, 2) := by decide +kernel
theorem d_Mo_init_108 : decode M_Mo_init.2.1 108 = .ok (.newarray .int, 2) := by decide +kernel
theorem d_Mo_init_110 : decode M_Mo_init.2.1 110 = .ok (.putfield 50, 3) := by decide +kernel
theorem d_Mo_init_113 : decode M_Mo_init.2.1 113 = .ok (.aload_n 0, 1) := by decide +kernel
theorem d_Mo_init_114 : decode M_Mo_init.2.1 114 = .ok (.iconst 2, 1) := by decide +kernel
theorem d_Mo_init_115 : decode M_Mo_init.2.1 115 = .ok (.newarray .boolean, 2) := by decide +kernel
theorem d_Mo_init_117 : decode M_Mo_init.2.1 117 = .ok (.putfield 53, 3) := by decide +kernel
theorem d_Mo_init_120 : decode M_Mo_init.2.1 120 = .ok (.aload_n 0, 1) := by decide +kernel
theorem d_Mo_init_121 : decode M_Mo_init.2.1 121 = .ok (.bipush 11, 2) := by decide +kernel
theorem d_Mo_init_123 : decode M_Mo_init.2.1 123 = .ok (.newarray .int, 2) := by decide +kernel
theorem d_Mo_init_125 : decode M_Mo_init.2.1 125 = .ok (.putfield 57, 3) := by decide +kernel
theorem d_Mo_init_128 : decode M_Mo_init.2.1 128 = .ok (.aload_n 0, 1) := by decide +kernel
theorem d_Mo_init_129 : decode M_Mo_init.2.1 129 = .ok (.bipush 64, 2) := by decide +kernel
theorem d_Mo_init_131 : decode M_Mo_init.2.1 131 = .ok (.newarray .int, 2) := by decide +kernel
theorem d_Mo_init_133 : decode M_Mo_init.2.1 133 = .ok (.putfield 60, 3) := by decide +kernel
theorem d_Mo_init_136 : decode M_Mo_init.2.1 136 = .ok (.aload_n 0, 1) := by decide +kernel
theorem d_Mo_init_137 : decode M_Mo_init.2.1 137 = .ok (.bipush 6, 2) := by decide +kernel
theorem d_Mo_init_139 : decode M_Mo_init.2.1 139 = .ok (.newarray .int, 2) := by decide +kernel
theorem d_Mo_init_141 : decode M_Mo_init.2.1 141 = .ok (.putfield 63, 3) := by decide +kernel
theorem d_Mo_init_144 : decode M_Mo_init.2.1 144 = .ok (.aload_n 0, 1) := by decide +kernel
theorem d_Mo_init_145 : decode M_Mo_init.2.1 145 = .ok (.bipush 6, 2) := by decide +kernel
theorem d_Mo_init_147 : decode M_Mo_init.2.1 147 = .ok (.newarray .int, 2) := by decide +kernel
theorem d_Mo_init_149 : decode M_Mo_init.2.1 149 = .ok (.putfield 66, 3) := by decide +kernel
theorem d_Mo_init_152 : decode M_Mo_init.2.1 152 = .ok (.aload_n 0, 1) := by decide +kernel
theorem d_Mo_init_153 : decode M_Mo_init.2.1 153 = .ok (.bipush 6, 2) := by decide +kernel
theorem d_Mo_init_155 : decode M_Mo_init.2.1 155 = .ok (.newarray .int, 2) := by decide +kernel
theorem d_Mo_init_157 : decode M_Mo_init.2.1 157 = .ok (.putfield 69, 3) := by decide +kernel
theorem d_Mo_init_160 : decode M_Mo_init.2.1 160 = .ok (.aload_n 0, 1) := by decide +kernel
theorem d_Mo_init_161 : decode M_Mo_init.2.1 161 = .ok (.bipush 6, 2) := by decide +kernel
theorem d_Mo_init_163 : decode M_Mo_init.2.1 163 = .ok (.newarray .int, 2) := by decide +kernel
theorem d_Mo_init_165 : decode M_Mo_init.2.1 165 = .ok (.putfield 72, 3) := by decide +kernel
theorem d_Mo_init_168 : decode M_Mo_init.2.1 168 = .ok (.aload_n 0, 1) := by decide +kernel
theorem d_Mo_init_169 : decode M_Mo_init.2.1 169 = .ok (.bipush 6, 2) := by decide +kernel
theorem d_Mo_init_171 : decode M_Mo_init.2.1 171 = .ok (.newarray .int, 2) := by decide +kernel
theorem d_Mo_init_173 : decode M_Mo_init.2.1 173 = .ok (.putfield 75, 3) := by decide +kernel
theorem d_Mo_init_176 : decode M_Mo_init.2.1 176 = .ok (.aload_n 0, 1) := by decide +kernel
theorem d_Mo_init_177 : decode M_Mo_init.2.1 177 = .ok (.getfield 38, 3) := by decide +kernel
theorem d_Mo_init_180 : decode M_Mo_init.2.1 180 = .ok (.iconst 0, 1) := by decide +kernel
theorem d_Mo_init_181 : decode M_Mo_init.2.1 181 = .ok (.bipush 20, 2) := by decide +kernel
theorem d_Mo_init_183 : decode M_Mo_init.2.1 183 = .ok (.iastore, 1) := by decide +kernel
theorem d_Mo_init_184 : decode M_Mo_init.2.1 184 = .ok (.aload_n 0, 1) := by decide +kernel
theorem d_Mo_init_185 : decode M_Mo_init.2.1 185 = .ok (.getfield 41, 3) := by decide +kernel
theorem d_Mo_init_188 : decode M_Mo_init.2.1 188 = .ok (.iconst 1, 1) := by decide +kernel
theorem d_Mo_init_189 : decode M_Mo_init.2.1 189 = .ok (.bipush 20, 2) := by decide +kernel
theorem d_Mo_init_191 : decode M_Mo_init.2.1 191 = .ok (.iastore, 1) := by decide +kernel
theorem d_Mo_init_192 : decode M_Mo_init.2.1 192 = .ok (.aload_n 0, 1) := by decide +kernel
theorem d_Mo_init_193 : decode M_Mo_init.2.1 193 = .ok (.getfield 41, 3) := by decide +kernel
theorem d_Mo_init_196 : decode M_Mo_init.2.1 196 = .ok (.iconst 3, 1) := by decide +kernel
theorem d_Mo_init_197 : decode M_Mo_init.2.1 197 = .ok (.bipush (-9), 2) := by decide +kernel
theorem d_Mo_init_199 : decode M_Mo_init.2.1 199 = .ok (.iastore, 1) := by decide +kernel
theorem d_Mo_init_200 : decode M_Mo_init.2.1 200 = .ok (.aload_n 0, 1) := by decide +kernel
theorem d_Mo_init_201 : decode M_Mo_init.2.1 201 = .ok (.getfield 41, 3) := by decide +kernel
theorem d_Mo_init_204 : decode M_Mo_init.2.1 204 = .ok (.iconst 4, 1) := by decide +kernel
theorem d_Mo_init_205 : decode M_Mo_init.2.1 205 = .ok (.bipush (-9), 2) := by decide +kernel
theorem d_Mo_init_207 : decode M_Mo_init.2.1 207 = .ok (.iastore, 1) := by decide +kernel
theorem d_Mo_init_208 : decode M_Mo_init.2.1 208 = .ok (.return_, 1) := by decide +kernel
theorem d_Mo_in_0 : decode M_Mo_in.2.1 0 = .ok (.iload_n 0, 1) := by decide +kernel
theorem d_Mo_in_1 : decode M_Mo_in.2.1 1 = .ok (.iload_n 1, 1) := by decide +kernel
theorem d_Mo_in_2 : decode M_Mo_in.2.1 2 = .ok (.if_icmp .lt 12, 3) := by decide +kernel
theorem d_Mo_in_5 : decode M_Mo_in.2.1 5 = .ok (.iload_n 0, 1) := by decide +kernel
theorem d_Mo_in_6 : decode M_Mo_in.2.1 6 = .ok (.iload_n 2, 1) := by decide +kernel
theorem d_Mo_in_7 : decode M_Mo_in.2.1 7 = .ok (.if_icmp .gt 7, 3) := by decide +kernel
theorem d_Mo_in_10 : decode M_Mo_in.2.1 10 = .ok (.iconst 1, 1) := by decide +kernel
theorem d_Mo_in_11 : decode M_Mo_in.2.1 11 = .ok (.goto 4, 3) := by decide +kernel
theorem d_Mo_in_14 : decode M_Mo_in.2.1 14 = .ok (.iconst 0, 1) := by decide +kernel
theorem d_Mo_in_15 : decode M_Mo_in.2.1 15 = .ok (.ireturn, 1) := by decide +kernel
theorem d_Mo_has_0 : decode M_Mo_has.2.1 0 = .ok (.iload_n 0, 1) := by decide +kernel
theorem d_Mo_has_1 : decode M_Mo_has.2.1 1 = .ok (.iload_n 1, 1) := by decide +kernel
theorem d_Mo_has_2 : decode M_Mo_has.2.1 2 = .ok (.ishr, 1) := by decide +kernel
theorem d_Mo_has_3 : decode M_Mo_has.2.1 3 = .ok (.iconst 1, 1) := by decide +kernel
theorem d_Mo_has_4 : decode M_Mo_has.2.1 4 = .ok (.iand, 1) := by decide +kernel
theorem d_Mo_has_5 : decode M_Mo_has.2.1 5 = .ok (.iconst 1, 1) := by decide +kernel
theorem d_Mo_has_6 : decode M_Mo_has.2.1 6 = .ok (.if_icmp .ne 7, 3) := by decide +kernel
theorem d_Mo_has_9 : decode M_Mo_has.2.1 9 = .ok (.iconst 1, 1) := by decide +kernel
theorem d_Mo_has_10 : decode M_Mo_has.2.1 10 = .ok (.goto 4, 3) := by decide +kernel
theorem d_Mo_has_13 : decode M_Mo_has.2.1 13 = .ok (.iconst 0, 1) := by decide +kernel
theorem d_Mo_has_14 : decode M_Mo_has.2.1 14 = .ok (.ireturn, 1) := by decide +kernel
theorem d_Mo_bitsOf_0 : decode M_Mo_bitsOf.2.1 0 = .ok (.iconst 0, 1) := by decide +kernel
theorem d_Mo_bitsOf_1 : decode M_Mo_bitsOf.2.1 1 = .ok (.istore_n 1, 1) := by decide +kernel
theorem d_Mo_bitsOf_2 : decode M_Mo_bitsOf.2.1 2 = .ok (.iconst 0, 1) := by decide +kernel
theorem d_Mo_bitsOf_3 : decode M_Mo_bitsOf.2.1 3 = .ok (.istore_n 2, 1) := by decide +kernel
theorem d_Mo_bitsOf_4 : decode M_Mo_bitsOf.2.1 4 = .ok (.iload_n 2, 1) := by decide +kernel
theorem d_Mo_bitsOf_5 : decode M_Mo_bitsOf.2.1 5 = .ok (.bipush 8, 2) := by decide +kernel
theorem d_Mo_bitsOf_7 : decode M_Mo_bitsOf.2.1 7 = .ok (.if_icmp .ge 17, 3) := by decide +kernel
theorem d_Mo_bitsOf_10 : decode M_Mo_bitsOf.2.1 10 = .ok (.iload_n 1, 1) := by decide +kernel
theorem d_Mo_bitsOf_11 : decode M_Mo_bitsOf.2.1 11 = .ok (.iload_n 0, 1) := by decide +kernel
theorem d_Mo_bitsOf_12 : decode M_Mo_bitsOf.2.1 12 = .ok (.iload_n 2, 1) := by decide +kernel
theorem d_Mo_bitsOf_13 : decode M_Mo_bitsOf.2.1 13 = .ok (.ishr, 1) := by decide +kernel
theorem d_Mo_bitsOf_14 : decode M_Mo_bitsOf.2.1 14 = .ok (.iconst 1, 1) := by decide +kernel
theorem d_Mo_bitsOf_15 : decode M_Mo_bitsOf.2.1 15 = .ok (.iand, 1) := by decide +kernel
theorem d_Mo_bitsOf_16 : decode M_Mo_bitsOf.2.1 16 = .ok (.iadd, 1) := by decide +kernel
theorem d_Mo_bitsOf_17 : decode M_Mo_bitsOf.2.1 17 = .ok (.istore_n 1, 1) := by decide +kernel
theorem d_Mo_bitsOf_18 : decode M_Mo_bitsOf.2.1 18 = .ok (.iinc 2 1, 3) := by decide +kernel
theorem d_Mo_bitsOf_21 : decode M_Mo_bitsOf.2.1 21 = .ok (.goto (-17), 3) := by decide +kernel
theorem d_Mo_bitsOf_24 : decode M_Mo_bitsOf.2.1 24 = .ok (.iload_n 1, 1) := by decide +kernel
theorem d_Mo_bitsOf_25 : decode M_Mo_bitsOf.2.1 25 = .ok (.ireturn, 1) := by decide +kernel
theorem d_Mo_type_0 : decode M_Mo_type.2.1 0 = .ok (.iload_n 1, 1) := by decide +kernel
theorem d_Mo_type_1 : decode M_Mo_type.2.1 1 = .ok (.iconst 0, 1) := by decide +kernel
theorem d_Mo_type_2 : decode M_Mo_type.2.1 2 = .ok (.sipush 255, 3) := by decide +kernel
theorem d_Mo_type_5 : decode M_Mo_type.2.1 5 = .ok (.invokestatic 78, 3) := by decide +kernel
theorem d_Mo_type_8 : decode M_Mo_type.2.1 8 = .ok (.ifCond .ne 5, 3) := by decide +kernel
theorem d_Mo_type_11 : decode M_Mo_type.2.1 11 = .ok (.iconst (-1), 1) := by decide +kernel
theorem d_Mo_type_12 : decode M_Mo_type.2.1 12 = .ok (.ireturn, 1) := by decide +kernel
theorem d_Mo_type_13 : decode M_Mo_type.2.1 13 = .ok (.aload_n 0, 1) := by decide +kernel
theorem d_Mo_type_14 : decode M_Mo_type.2.1 14 = .ok (.getfield 82, 3) := by decide +kernel
theorem d_Mo_type_17 : decode M_Mo_type.2.1 17 = .ok (.bipush 120, 2) := by decide +kernel
theorem d_Mo_type_19 : decode M_Mo_type.2.1 19 = .ok (.if_icmp .ne 6, 3) := by decide +kernel
theorem d_Mo_type_22 : decode M_Mo_type.2.1 22 = .ok (.bipush (-3), 2) := by decide +kernel
theorem d_Mo_type_24 : decode M_Mo_type.2.1 24 = .ok (.ireturn, 1) := by decide +kernel
theorem d_Mo_type_25 : decode M_Mo_type.2.1 25 = .ok (.aload_n 0, 1) := by decide +kernel
theorem d_Mo_type_26 : decode M_Mo_type.2.1 26 = .ok (.getfield 7, 3) := by decide +kernel
theorem d_Mo_type_29 : decode M_Mo_type.2.1 29 = .ok (.aload_n 0, 1) := by decide +kernel
theorem d_Mo_type_30 : decode M_Mo_type.2.1 30 = .ok (.getfield 82, 3) := by decide +kernel
theorem d_Mo_type_33 : decode M_Mo_type.2.1 33 = .ok (.iload_n 1, 1) := by decide +kernel
theorem d_Mo_type_34 : decode M_Mo_type.2.1 34 = .ok (.i2b, 1) := by decide +kernel
theorem d_Mo_type_35 : decode M_Mo_type.2.1 35 = .ok (.bastore, 1) := by decide +kernel
theorem d_Mo_type_36 : decode M_Mo_type.2.1 36 = .ok (.aload_n 0, 1) := by decide +kernel
theorem d_Mo_type_37 : decode M_Mo_type.2.1 37 = .ok (.dup, 1) := by decide +kernel
theorem d_Mo_type_38 : decode M_Mo_type.2.1 38 = .ok (.getfield 82, 3) := by decide +kernel
theorem d_Mo_type_41 : decode M_Mo_type.2.1 41 = .ok (.iconst 1, 1) := by decide +kernel
theorem d_Mo_type_42 : decode M_Mo_type.2.1 42 = .ok (.iadd, 1) := by decide +kernel
theorem d_Mo_type_43 : decode M_Mo_type.2.1 43 = .ok (.putfield 82, 3) := by decide +kernel
theorem d_Mo_type_46 : decode M_Mo_type.2.1 46 = .ok (.aload_n 0, 1) := by decide +kernel
theorem d_Mo_type_47 : decode M_Mo_type.2.1 47 = .ok (.getfield 82, 3) := by decide +kernel
theorem d_Mo_type_50 : decode M_Mo_type.2.1 50 = .ok (.ireturn, 1) := by decide +kernel
theorem d_Mo_clear_0 : decode M_Mo_clear.2.1 0 = .ok (.aload_n 0, 1) := by decide +kernel
theorem d_Mo_clear_1 : decode M_Mo_clear.2.1 1 = .ok (.getfield 82, 3) := by decide +kernel
theorem d_Mo_clear_4 : decode M_Mo_clear.2.1 4 = .ok (.istore_n 1, 1) := by decide +kernel
theorem d_Mo_clear_5 : decode M_Mo_clear.2.1 5 = .ok (.aload_n 0, 1) := by decide +kernel
theorem d_Mo_clear_6 : decode M_Mo_clear.2.1 6 = .ok (.iconst 0, 1) := by decide +kernel
theorem d_Mo_clear_7 : decode M_Mo_clear.2.1 7 = .ok (.putfield 82, 3) := by decide +kernel
theorem d_Mo_clear_10 : decode M_Mo_clear.2.1 10 = .ok (.iload_n 1, 1) := by decide +kernel
theorem d_Mo_clear_11 : decode M_Mo_clear.2.1 11 = .ok (.ireturn, 1) := by decide +kernel
theorem d_Mo_here_0 : decode M_Mo_here.2.1 0 = .ok (.aload_n 0, 1) := by decide +kernel
theorem d_Mo_here_1 : decode M_Mo_here.2.1 1 = .ok (.getfield 86, 3) := by decide +kernel
theorem d_Mo_here_4 : decode M_Mo_here.2.1 4 = .ok (.aload_n 0, 1) := by decide +kernel
theorem d_Mo_here_5 : decode M_Mo_here.2.1 5 = .ok (.getfield 82, 3) := by decide +kernel
theorem d_Mo_here_8 : decode M_Mo_here.2.1 8 = .ok (.if_icmp .ge 19, 3) := by decide +kernel
theorem d_Mo_here_11 : decode M_Mo_here.2.1 11 = .ok (.aload_n 0, 1) := by decide +kernel
theorem d_Mo_here_12 : decode M_Mo_here.2.1 12 = .ok (.getfield 7, 3) := by decide +kernel
theorem d_Mo_here_15 : decode M_Mo_here.2.1 15 = .ok (.aload_n 0, 1) := by decide +kernel
theorem d_Mo_here_16 : decode M_Mo_here.2.1 16 = .ok (.getfield 86, 3) := by decide +kernel
theorem d_Mo_here_19 : decode M_Mo_here.2.1 19 = .ok (.baload, 1) := by decide +kernel
theorem d_Mo_here_20 : decode M_Mo_here.2.1 20 = .ok (.sipush 255, 3) := by decide +kernel
theorem d_Mo_here_23 : decode M_Mo_here.2.1 23 = .ok (.iand, 1) := by decide +kernel
theorem d_Mo_here_24 : decode M_Mo_here.2.1 24 = .ok (.goto 5, 3) := by decide +kernel
theorem d_Mo_here_27 : decode M_Mo_here.2.1 27 = .ok (.bipush (-9), 2) := by decide +kernel
theorem d_Mo_here_29 : decode M_Mo_here.2.1 29 = .ok (.ireturn, 1) := by decide +kernel
theorem d_Mo_step_0 : decode M_Mo_step.2.1 0 = .ok (.aload_n 0, 1) := by decide +kernel
theorem d_Mo_step_1 : decode M_Mo_step.2.1 1 = .ok (.invokevirtual 89, 3) := by decide +kernel
theorem d_Mo_step_4 : decode M_Mo_step.2.1 4 = .ok (.bipush 32, 2) := by decide +kernel
theorem d_Mo_step_6 : decode M_Mo_step.2.1 6 = .ok (.if_icmp .ne 16, 3) := by decide +kernel
theorem d_Mo_step_9 : decode M_Mo_step.2.1 9 = .ok (.aload_n 0, 1) := by decide +kernel
theorem d_Mo_step_10 : decode M_Mo_step.2.1 10 = .ok (.dup, 1) := by decide +kernel
theorem d_Mo_step_11 : decode M_Mo_step.2.1 11 = .ok (.getfield 86, 3) := by decide +kernel
theorem d_Mo_step_14 : decode M_Mo_step.2.1 14 = .ok (.iconst 1, 1) := by decide +kernel
theorem d_Mo_step_15 : decode M_Mo_step.2.1 15 = .ok (.iadd, 1) := by decide +kernel
theorem d_Mo_step_16 : decode M_Mo_step.2.1 16 = .ok (.putfield 86, 3) := by decide +kernel
theorem d_Mo_step_19 : decode M_Mo_step.2.1 19 = .ok (.goto (-19), 3) := by decide +kernel
theorem d_Mo_step_22 : decode M_Mo_step.2.1 22 = .ok (.aload_n 0, 1) := by decide +kernel
theorem d_Mo_step_23 : decode M_Mo_step.2.1 23 = .ok (.aload_n 0, 1) := by decide +kernel
theorem d_Mo_step_24 : decode M_Mo_step.2.1 24 = .ok (.getfield 86, 3) := by decide +kernel
theorem d_Mo_step_27 : decode M_Mo_step.2.1 27 = .ok (.putfield 93, 3) := by decide +kernel
theorem d_Mo_step_30 : decode M_Mo_step.2.1 30 = .ok (.aload_n 0, 1) := by decide +kernel
theorem d_Mo_step_31 : decode M_Mo_step.2.1 31 = .ok (.iconst 0, 1) := by decide +kernel
theorem d_Mo_step_32 : decode M_Mo_step.2.1 32 = .ok (.putfield 96, 3) := by decide +kernel
theorem d_Mo_step_35 : decode M_Mo_step.2.1 35 = .ok (.aload_n 0, 1) := by decide +kernel
theorem d_Mo_step_36 : decode M_Mo_step.2.1 36 = .ok (.invokevirtual 89, 3) := by decide +kernel
theorem d_Mo_step_39 : decode M_Mo_step.2.1 39 = .ok (.istore_n 1, 1) := by decide +kernel
theorem d_Mo_step_40 : decode M_Mo_step.2.1 40 = .ok (.iload_n 1, 1) := by decide +kernel
theorem d_Mo_step_41 : decode M_Mo_step.2.1 41 = .ok (.bipush (-9), 2) := by decide +kernel
theorem d_Mo_step_43 : decode M_Mo_step.2.1 43 = .ok (.if_icmp .ne 11, 3) := by decide +kernel
theorem d_Mo_step_46 : decode M_Mo_step.2.1 46 = .ok (.aload_n 0, 1) := by decide +kernel
theorem d_Mo_step_47 : decode M_Mo_step.2.1 47 = .ok (.iconst 4, 1) := by decide +kernel
theorem d_Mo_step_48 : decode M_Mo_step.2.1 48 = .ok (.putfield 99, 3) := by decide +kernel
theorem d_Mo_step_51 : decode M_Mo_step.2.1 51 = .ok (.goto 209, 3) := by decide +kernel
theorem d_Mo_step_54 : decode M_Mo_step.2.1 54 = .ok (.iload_n 1, 1) := by decide +kernel
theorem d_Mo_step_55 : decode M_Mo_step.2.1 55 = .ok (.bipush 48, 2) := by decide +kernel
theorem d_Mo_step_57 : decode M_Mo_step.2.1 57 = .ok (.bipush 57, 2) := by decide +kernel
theorem d_Mo_step_59 : decode M_Mo_step.2.1 59 = .ok (.invokestatic 78, 3) := by decide +kernel
theorem d_Mo_step_62 : decode M_Mo_step.2.1 62 = .ok (.ifCond .eq 105, 3) := by decide +kernel
theorem d_Mo_step_65 : decode M_Mo_step.2.1 65 = .ok (.aload_n 0, 1) := by decide +kernel
theorem d_Mo_step_66 : decode M_Mo_step.2.1 66 = .ok (.invokevirtual 89, 3) := by decide +kernel
theorem d_Mo_step_69 : decode M_Mo_step.2.1 69 = .ok (.bipush 48, 2) := by decide +kernel
theorem d_Mo_step_71 : decode M_Mo_step.2.1 71 = .ok (.bipush 57, 2) := by decide +kernel
theorem d_Mo_step_73 : decode M_Mo_step.2.1 73 = .ok (.invokestatic 78, 3) := by decide +kernel
theorem d_Mo_step_76 : decode M_Mo_step.2.1 76 = .ok (.ifCond .eq 51, 3) := by decide +kernel
theorem d_Mo_step_79 : decode M_Mo_step.2.1 79 = .ok (.aload_n 0, 1) := by decide +kernel
theorem d_Mo_step_80 : decode M_Mo_step.2.1 80 = .ok (.aload_n 0, 1) := by decide +kernel
theorem d_Mo_step_81 : decode M_Mo_step.2.1 81 = .ok (.getfield 96, 3) := by decide +kernel
theorem d_Mo_step_84 : decode M_Mo_step.2.1 84 = .ok (.bipush 99, 2) := by decide +kernel
theorem d_Mo_step_86 : decode M_Mo_step.2.1 86 = .ok (.if_icmp .le 10, 3) := by decide +kernel
theorem d_Mo_step_89 : decode M_Mo_step.2.1 89 = .ok (.aload_n 0, 1) := by decide +kernel
theorem d_Mo_step_90 : decode M_Mo_step.2.1 90 = .ok (.getfield 96, 3) := by decide +kernel
theorem d_Mo_step_93 : decode M_Mo_step.2.1 93 = .ok (.goto 18, 3) := by decide +kernel
theorem d_Mo_step_96 : decode M_Mo_step.2.1 96 = .ok (.bipush 10, 2) := by decide +kernel
theorem d_Mo_step_98 : decode M_Mo_step.2.1 98 = .ok (.aload_n 0, 1) := by decide +kernel
theorem d_Mo_step_99 : decode M_Mo_step.2.1 99 = .ok (.getfield 96, 3) := by decide +kernel
theorem d_Mo_step_102 : decode M_Mo_step.2.1 102 = .ok (.imul, 1) := by decide +kernel
theorem d_Mo_step_103 : decode M_Mo_step.2.1 103 = .ok (.aload_n 0, 1) := by decide +kernel
theorem d_Mo_step_104 : decode M_Mo_step.2.1 104 = .ok (.invokevirtual 89, 3) := by decide +kernel
theorem d_Mo_step_107 : decode M_Mo_step.2.1 107 = .ok (.iadd, 1) := by decide +kernel
theorem d_Mo_step_108 : decode M_Mo_step.2.1 108 = .ok (.bipush 48, 2) := by decide +kernel
theorem d_Mo_step_110 : decode M_Mo_step.2.1 110 = .ok (.isub, 1) := by decide +kernel
theorem d_Mo_step_111 : decode M_Mo_step.2.1 111 = .ok (.putfield 96, 3) := by decide +kernel
theorem d_Mo_step_114 : decode M_Mo_step.2.1 114 = .ok (.aload_n 0, 1) := by decide +kernel
theorem d_Mo_step_115 : decode M_Mo_step.2.1 115 = .ok (.dup, 1) := by decide +kernel
theorem d_Mo_step_116 : decode M_Mo_step.2.1 116 = .ok (.getfield 86, 3) := by decide +kernel
theorem d_Mo_step_119 : decode M_Mo_step.2.1 119 = .ok (.iconst 1, 1) := by decide +kernel
theorem d_Mo_step_120 : decode M_Mo_step.2.1 120 = .ok (.iadd, 1) := by decide +kernel
theorem d_Mo_step_121 : decode M_Mo_step.2.1 121 = .ok (.putfield 86, 3) := by decide +kernel
theorem d_Mo_step_124 : decode M_Mo_step.2.1 124 = .ok (.goto (-59), 3) := by decide +kernel
theorem d_Mo_step_127 : decode M_Mo_step.2.1 127 = .ok (.aload_n 0, 1) := by decide +kernel
theorem d_Mo_step_128 : decode M_Mo_step.2.1 128 = .ok (.aload_n 0, 1) := by decide +kernel
theorem d_Mo_step_129 : decode M_Mo_step.2.1 129 = .ok (.getfield 96, 3) := by decide +kernel
theorem d_Mo_step_132 : decode M_Mo_step.2.1 132 = .ok (.bipush 99, 2) := by decide +kernel
theorem d_Mo_step_134 : decode M_Mo_step.2.1 134 = .ok (.if_icmp .gt 22, 3) := by decide +kernel
theorem d_Mo_step_137 : decode M_Mo_step.2.1 137 = .ok (.iload_n 1, 1) := by decide +kernel
theorem d_Mo_step_138 : decode M_Mo_step.2.1 138 = .ok (.bipush 48, 2) := by decide +kernel
theorem d_Mo_step_140 : decode M_Mo_step.2.1 140 = .ok (.if_icmp .ne 20, 3) := by decide +kernel
theorem d_Mo_step_143 : decode M_Mo_step.2.1 143 = .ok (.aload_n 0, 1) := by decide +kernel
theorem d_Mo_step_144 : decode M_Mo_step.2.1 144 = .ok (.getfield 86, 3) := by decide +kernel
theorem d_Mo_step_147 : decode M_Mo_step.2.1 147 = .ok (.aload_n 0, 1) := by decide +kernel
theorem d_Mo_step_148 : decode M_Mo_step.2.1 148 = .ok (.getfield 93, 3) := by decide +kernel
theorem d_Mo_step_151 : decode M_Mo_step.2.1 151 = .ok (.isub, 1) := by decide +kernel
theorem d_Mo_step_152 : decode M_Mo_step.2.1 152 = .ok (.iconst 1, 1) := by decide +kernel
theorem d_Mo_step_153 : decode M_Mo_step.2.1 153 = .ok (.if_icmp .le 7, 3) := by decide +kernel
theorem d_Mo_step_156 : decode M_Mo_step.2.1 156 = .ok (.iconst 5, 1) := by decide +kernel
theorem d_Mo_step_157 : decode M_Mo_step.2.1 157 = .ok (.goto 4, 3) := by decide +kernel
theorem d_Mo_step_160 : decode M_Mo_step.2.1 160 = .ok (.iconst 2, 1) := by decide +kernel
theorem d_Mo_step_161 : decode M_Mo_step.2.1 161 = .ok (.putfield 99, 3) := by decide +kernel
theorem d_Mo_step_164 : decode M_Mo_step.2.1 164 = .ok (.goto 96, 3) := by decide +kernel
theorem d_Mo_step_167 : decode M_Mo_step.2.1 167 = .ok (.iload_n 1, 1) := by decide +kernel
theorem d_Mo_step_168 : decode M_Mo_step.2.1 168 = .ok (.bipush 97, 2) := by decide +kernel
theorem d_Mo_step_170 : decode M_Mo_step.2.1 170 = .ok (.bipush 122, 2) := by decide +kernel
theorem d_Mo_step_172 : decode M_Mo_step.2.1 172 = .ok (.invokestatic 78, 3) := by decide +kernel
theorem d_Mo_step_175 : decode M_Mo_step.2.1 175 = .ok (.ifCond .eq 60, 3) := by decide +kernel
theorem d_Mo_step_178 : decode M_Mo_step.2.1 178 = .ok (.aload_n 0, 1) := by decide +kernel
theorem d_Mo_step_179 : decode M_Mo_step.2.1 179 = .ok (.invokevirtual 89, 3) := by decide +kernel
theorem d_Mo_step_182 : decode M_Mo_step.2.1 182 = .ok (.bipush 97, 2) := by decide +kernel
theorem d_Mo_step_184 : decode M_Mo_step.2.1 184 = .ok (.bipush 122, 2) := by decide +kernel
theorem d_Mo_step_186 : decode M_Mo_step.2.1 186 = .ok (.invokestatic 78, 3) := by decide +kernel
theorem d_Mo_step_189 : decode M_Mo_step.2.1 189 = .ok (.ifCond .eq 16, 3) := by decide +kernel
theorem d_Mo_step_192 : decode M_Mo_step.2.1 192 = .ok (.aload_n 0, 1) := by decide +kernel
theorem d_Mo_step_193 : decode M_Mo_step.2.1 193 = .ok (.dup, 1) := by decide +kernel
theorem d_Mo_step_194 : decode M_Mo_step.2.1 194 = .ok (.getfield 86, 3) := by decide +kernel
theorem d_Mo_step_197 : decode M_Mo_step.2.1 197 = .ok (.iconst 1, 1) := by decide +kernel
theorem d_Mo_step_198 : decode M_Mo_step.2.1 198 = .ok (.iadd, 1) := by decide +kernel
theorem d_Mo_step_199 : decode M_Mo_step.2.1 199 = .ok (.putfield 86, 3) := by decide +kernel
theorem d_Mo_step_202 : decode M_Mo_step.2.1 202 = .ok (.goto (-24), 3) := by decide +kernel
theorem d_Mo_step_205 : decode M_Mo_step.2.1 205 = .ok (.aload_n 0, 1) := by decide +kernel
theorem d_Mo_step_206 : decode M_Mo_step.2.1 206 = .ok (.aload_n 0, 1) := by decide +kernel
theorem d_Mo_step_207 : decode M_Mo_step.2.1 207 = .ok (.getfield 86, 3) := by decide +kernel
theorem d_Mo_step_210 : decode M_Mo_step.2.1 210 = .ok (.aload_n 0, 1) := by decide +kernel
theorem d_Mo_step_211 : decode M_Mo_step.2.1 211 = .ok (.getfield 93, 3) := by decide +kernel
theorem d_Mo_step_214 : decode M_Mo_step.2.1 214 = .ok (.isub, 1) := by decide +kernel
theorem d_Mo_step_215 : decode M_Mo_step.2.1 215 = .ok (.iconst 1, 1) := by decide +kernel
theorem d_Mo_step_216 : decode M_Mo_step.2.1 216 = .ok (.if_icmp .ne 7, 3) := by decide +kernel
theorem d_Mo_step_219 : decode M_Mo_step.2.1 219 = .ok (.iload_n 1, 1) := by decide +kernel
theorem d_Mo_step_220 : decode M_Mo_step.2.1 220 = .ok (.goto 4, 3) := by decide +kernel
theorem d_Mo_step_223 : decode M_Mo_step.2.1 223 = .ok (.iconst 0, 1) := by decide +kernel
theorem d_Mo_step_224 : decode M_Mo_step.2.1 224 = .ok (.putfield 96, 3) := by decide +kernel
theorem d_Mo_step_227 : decode M_Mo_step.2.1 227 = .ok (.aload_n 0, 1) := by decide +kernel
theorem d_Mo_step_228 : decode M_Mo_step.2.1 228 = .ok (.iconst 1, 1) := by decide +kernel
theorem d_Mo_step_229 : decode M_Mo_step.2.1 229 = .ok (.putfield 99, 3) := by decide +kernel
theorem d_Mo_step_232 : decode M_Mo_step.2.1 232 = .ok (.goto 28, 3) := by decide +kernel
theorem d_Mo_step_235 : decode M_Mo_step.2.1 235 = .ok (.aload_n 0, 1) := by decide +kernel
theorem d_Mo_step_236 : decode M_Mo_step.2.1 236 = .ok (.dup, 1) := by decide +kernel
theorem d_Mo_step_237 : decode M_Mo_step.2.1 237 = .ok (.getfield 86, 3) := by decide +kernel
theorem d_Mo_step_240 : decode M_Mo_step.2.1 240 = .ok (.iconst 1, 1) := by decide +kernel
theorem d_Mo_step_241 : decode M_Mo_step.2.1 241 = .ok (.iadd, 1) := by decide +kernel
theorem d_Mo_step_242 : decode M_Mo_step.2.1 242 = .ok (.putfield 86, 3) := by decide +kernel
theorem d_Mo_step_245 : decode M_Mo_step.2.1 245 = .ok (.aload_n 0, 1) := by decide +kernel
theorem d_Mo_step_246 : decode M_Mo_step.2.1 246 = .ok (.iload_n 1, 1) := by decide +kernel
theorem d_Mo_step_247 : decode M_Mo_step.2.1 247 = .ok (.bipush 59, 2) := by decide +kernel
theorem d_Mo_step_249 : decode M_Mo_step.2.1 249 = .ok (.if_icmp .ne 7, 3) := by decide +kernel
theorem d_Mo_step_252 : decode M_Mo_step.2.1 252 = .ok (.iconst 3, 1) := by decide +kernel
theorem d_Mo_step_253 : decode M_Mo_step.2.1 253 = .ok (.goto 4, 3) := by decide +kernel
theorem d_Mo_step_256 : decode M_Mo_step.2.1 256 = .ok (.iconst 5, 1) := by decide +kernel
theorem d_Mo_step_257 : decode M_Mo_step.2.1 257 = .ok (.putfield 99, 3) := by decide +kernel
theorem d_Mo_step_260 : decode M_Mo_step.2.1 260 = .ok (.return_, 1) := by decide +kernel
theorem d_Mo_due_0 : decode M_Mo_due.2.1 0 = .ok (.aload_n 0, 1) := by decide +kernel
theorem d_Mo_due_1 : decode M_Mo_due.2.1 1 = .ok (.getfield 102, 3) := by decide +kernel
theorem d_Mo_due_4 : decode M_Mo_due.2.1 4 = .ok (.ifCond .eq 4, 3) := by decide +kernel
theorem d_Mo_due_7 : decode M_Mo_due.2.1 7 = .ok (.return_, 1) := by decide +kernel
theorem d_Mo_due_8 : decode M_Mo_due.2.1 8 = .ok (.iload_n 1, 1) := by decide +kernel
theorem d_Mo_due_9 : decode M_Mo_due.2.1 9 = .ok (.ifCond .eq 10, 3) := by decide +kernel
theorem d_Mo_due_12 : decode M_Mo_due.2.1 12 = .ok (.aload_n 0, 1) := by decide +kernel
theorem d_Mo_due_13 : decode M_Mo_due.2.1 13 = .ok (.invokevirtual 106, 3) := by decide +kernel
theorem d_Mo_due_16 : decode M_Mo_due.2.1 16 = .ok (.goto 8, 3) := by decide +kernel
theorem d_Mo_due_19 : decode M_Mo_due.2.1 19 = .ok (.aload_n 0, 1) := by decide +kernel
theorem d_Mo_due_20 : decode M_Mo_due.2.1 20 = .ok (.iconst 1, 1) := by decide +kernel
theorem d_Mo_due_21 : decode M_Mo_due.2.1 21 = .ok (.putfield 102, 3) := by decide +kernel
theorem d_Mo_due_24 : decode M_Mo_due.2.1 24 = .ok (.return_, 1) := by decide +kernel
theorem d_Mo_number_0 : decode M_Mo_number.2.1 0 = .ok (.aload_n 0, 1) := by decide +kernel
theorem d_Mo_number_1 : decode M_Mo_number.2.1 1 = .ok (.getfield 96, 3) := by decide +kernel
theorem d_Mo_number_4 : decode M_Mo_number.2.1 4 = .ok (.istore_n 3, 1) := by decide +kernel
theorem d_Mo_number_5 : decode M_Mo_number.2.1 5 = .ok (.aload_n 0, 1) := by decide +kernel
theorem d_Mo_number_6 : decode M_Mo_number.2.1 6 = .ok (.aload_n 0, 1) := by decide +kernel
theorem d_Mo_number_7 : decode M_Mo_number.2.1 7 = .ok (.getfield 99, 3) := by decide +kernel
theorem d_Mo_number_10 : decode M_Mo_number.2.1 10 = .ok (.iconst 2, 1) := by decide +kernel
theorem d_Mo_number_11 : decode M_Mo_number.2.1 11 = .ok (.if_icmp .ne 16, 3) := by decide +kernel
theorem d_Mo_number_14 : decode M_Mo_number.2.1 14 = .ok (.iload_n 3, 1) := by decide +kernel
theorem d_Mo_number_15 : decode M_Mo_number.2.1 15 = .ok (.iload_n 1, 1) := by decide +kernel
theorem d_Mo_number_16 : decode M_Mo_number.2.1 16 = .ok (.iload_n 2, 1) := by decide +kernel
theorem d_Mo_number_17 : decode M_Mo_number.2.1 17 = .ok (.invokestatic 78, 3) := by decide +kernel
theorem d_Mo_number_20 : decode M_Mo_number.2.1 20 = .ok (.ifCond .eq 7, 3) := by decide +kernel
theorem d_Mo_number_23 : decode M_Mo_number.2.1 23 = .ok (.iconst 1, 1) := by decide +kernel
theorem d_Mo_number_24 : decode M_Mo_number.2.1 24 = .ok (.goto 4, 3) := by decide +kernel
theorem d_Mo_number_27 : decode M_Mo_number.2.1 27 = .ok (.iconst 0, 1) := by decide +kernel
theorem d_Mo_number_28 : decode M_Mo_number.2.1 28 = .ok (.invokevirtual 109, 3) := by decide +kernel
theorem d_Mo_number_31 : decode M_Mo_number.2.1 31 = .ok (.iload_n 3, 1) := by decide +kernel
theorem d_Mo_number_32 : decode M_Mo_number.2.1 32 = .ok (.ireturn, 1) := by decide +kernel
theorem d_Mo_item_0 : decode M_Mo_item.2.1 0 = .ok (.iload_n 1, 1) := by decide +kernel
theorem d_Mo_item_1 : decode M_Mo_item.2.1 1 = .ok (.lookupswitch 187 #[(112, 73), (116, 137), (119, 35)], 35) := by decide +kernel
theorem d_Mo_item_36 : decode M_Mo_item.2.1 36 = .ok (.aload_n 0, 1) := by decide +kernel
theorem d_Mo_item_37 : decode M_Mo_item.2.1 37 = .ok (.iconst 1, 1) := by decide +kernel
theorem d_Mo_item_38 : decode M_Mo_item.2.1 38 = .ok (.bipush 9, 2) := by decide +kernel
theorem d_Mo_item_40 : decode M_Mo_item.2.1 40 = .ok (.invokevirtual 113, 3) := by decide +kernel
theorem d_Mo_item_43 : decode M_Mo_item.2.1 43 = .ok (.istore_n 2, 1) := by decide +kernel
theorem d_Mo_item_44 : decode M_Mo_item.2.1 44 = .ok (.aload_n 0, 1) := by decide +kernel
theorem d_Mo_item_45 : decode M_Mo_item.2.1 45 = .ok (.iconst 0, 1) := by decide +kernel
theorem d_Mo_item_46 : decode M_Mo_item.2.1 46 = .ok (.bipush 6, 2) := by decide +kernel
theorem d_Mo_item_48 : decode M_Mo_item.2.1 48 = .ok (.invokevirtual 113, 3) := by decide +kernel
theorem d_Mo_item_51 : decode M_Mo_item.2.1 51 = .ok (.istore_n 3, 1) := by decide +kernel
theorem d_Mo_item_52 : decode M_Mo_item.2.1 52 = .ok (.aload_n 0, 1) := by decide +kernel
theorem d_Mo_item_53 : decode M_Mo_item.2.1 53 = .ok (.getfield 102, 3) := by decide +kernel
theorem d_Mo_item_56 : decode M_Mo_item.2.1 56 = .ok (.ifCond .ne 150, 3) := by decide +kernel
theorem d_Mo_item_59 : decode M_Mo_item.2.1 59 = .ok (.aload_n 0, 1) := by decide +kernel
theorem d_Mo_item_60 : decode M_Mo_item.2.1 60 = .ok (.getfield 13, 3) := by decide +kernel
theorem d_Mo_item_63 : decode M_Mo_item.2.1 63 = .ok (.bipush 10, 2) := by decide +kernel
theorem d_Mo_item_65 : decode M_Mo_item.2.1 65 = .ok (.iload_n 2, 1) := by decide +kernel
theorem d_Mo_item_66 : decode M_Mo_item.2.1 66 = .ok (.iadd, 1) := by decide +kernel
theorem d_Mo_item_67 : decode M_Mo_item.2.1 67 = .ok (.iload_n 3, 1) := by decide +kernel
theorem d_Mo_item_68 : decode M_Mo_item.2.1 68 = .ok (.iconst 3, 1) := by decide +kernel
theorem d_Mo_item_69 : decode M_Mo_item.2.1 69 = .ok (.isub, 1) := by decide +kernel
theorem d_Mo_item_70 : decode M_Mo_item.2.1 70 = .ok (.iastore, 1) := by decide +kernel
theorem d_Mo_item_71 : decode M_Mo_item.2.1 71 = .ok (.goto 135, 3) := by decide +kernel
theorem d_Mo_item_74 : decode M_Mo_item.2.1 74 = .ok (.iconst 3, 1) := by decide +kernel
theorem d_Mo_item_75 : decode M_Mo_item.2.1 75 = .ok (.aload_n 0, 1) := by decide +kernel
theorem d_Mo_item_76 : decode M_Mo_item.2.1 76 = .ok (.getfield 17, 3) := by decide +kernel
theorem d_Mo_item_79 : decode M_Mo_item.2.1 79 = .ok (.iconst 1, 1) := by decide +kernel
theorem d_Mo_item_80 : decode M_Mo_item.2.1 80 = .ok (.iaload, 1) := by decide +kernel
theorem d_Mo_item_81 : decode M_Mo_item.2.1 81 = .ok (.iadd, 1) := by decide +kernel
theorem d_Mo_item_82 : decode M_Mo_item.2.1 82 = .ok (.istore 4, 2) := by decide +kernel
theorem d_Mo_item_84 : decode M_Mo_item.2.1 84 = .ok (.aload_n 0, 1) := by decide +kernel
theorem d_Mo_item_85 : decode M_Mo_item.2.1 85 = .ok (.getfield 20, 3) := by decide +kernel
theorem d_Mo_item_88 : decode M_Mo_item.2.1 88 = .ok (.iload 4, 2) := by decide +kernel
theorem d_Mo_item_90 : decode M_Mo_item.2.1 90 = .ok (.aload_n 0, 1) := by decide +kernel
theorem d_Mo_item_91 : decode M_Mo_item.2.1 91 = .ok (.iconst 0, 1) := by decide +kernel
theorem d_Mo_item_92 : decode M_Mo_item.2.1 92 = .ok (.bipush 9, 2) := by decide +kernel
theorem d_Mo_item_94 : decode M_Mo_item.2.1 94 = .ok (.invokevirtual 113, 3) := by decide +kernel
theorem d_Mo_item_97 : decode M_Mo_item.2.1 97 = .ok (.iastore, 1) := by decide +kernel
theorem d_Mo_item_98 : decode M_Mo_item.2.1 98 = .ok (.aload_n 0, 1) := by decide +kernel
theorem d_Mo_item_99 : decode M_Mo_item.2.1 99 = .ok (.getfield 23, 3) := by decide +kernel
theorem d_Mo_item_102 : decode M_Mo_item.2.1 102 = .ok (.iload 4, 2) := by decide +kernel
theorem d_Mo_item_104 : decode M_Mo_item.2.1 104 = .ok (.aload_n 0, 1) := by decide +kernel
theorem d_Mo_item_105 : decode M_Mo_item.2.1 105 = .ok (.iconst 1, 1) := by decide +kernel
theorem d_Mo_item_106 : decode M_Mo_item.2.1 106 = .ok (.bipush 9, 2) := by decide +kernel
theorem d_Mo_item_108 : decode M_Mo_item.2.1 108 = .ok (.invokevirtual 113, 3) := by decide +kernel
theorem d_Mo_item_111 : decode M_Mo_item.2.1 111 = .ok (.iastore, 1) := by decide +kernel
theorem d_Mo_item_112 : decode M_Mo_item.2.1 112 = .ok (.aload_n 0, 1) := by decide +kernel
theorem d_Mo_item_113 : decode M_Mo_item.2.1 113 = .ok (.getfield 26, 3) := by decide +kernel
theorem d_Mo_item_116 : decode M_Mo_item.2.1 116 = .ok (.iload 4, 2) := by decide +kernel
theorem d_Mo_item_118 : decode M_Mo_item.2.1 118 = .ok (.aload_n 0, 1) := by decide +kernel
theorem d_Mo_item_119 : decode M_Mo_item.2.1 119 = .ok (.iconst 0, 1) := by decide +kernel
theorem d_Mo_item_120 : decode M_Mo_item.2.1 120 = .ok (.iconst 1, 1) := by decide +kernel
theorem d_Mo_item_121 : decode M_Mo_item.2.1 121 = .ok (.invokevirtual 113, 3) := by decide +kernel
theorem d_Mo_item_124 : decode M_Mo_item.2.1 124 = .ok (.iastore, 1) := by decide +kernel
theorem d_Mo_item_125 : decode M_Mo_item.2.1 125 = .ok (.aload_n 0, 1) := by decide +kernel
theorem d_Mo_item_126 : decode M_Mo_item.2.1 126 = .ok (.getfield 17, 3) := by decide +kernel
theorem d_Mo_item_129 : decode M_Mo_item.2.1 129 = .ok (.iconst 1, 1) := by decide +kernel
theorem d_Mo_item_130 : decode M_Mo_item.2.1 130 = .ok (.dup2, 1) := by decide +kernel
theorem d_Mo_item_131 : decode M_Mo_item.2.1 131 = .ok (.iaload, 1) := by decide +kernel
theorem d_Mo_item_132 : decode M_Mo_item.2.1 132 = .ok (.iconst 1, 1) := by decide +kernel
theorem d_Mo_item_133 : decode M_Mo_item.2.1 133 = .ok (.iadd, 1) := by decide +kernel
theorem d_Mo_item_134 : decode M_Mo_item.2.1 134 = .ok (.iastore, 1) := by decide +kernel
theorem d_Mo_item_135 : decode M_Mo_item.2.1 135 = .ok (.goto 71, 3) := by decide +kernel
theorem d_Mo_item_138 : decode M_Mo_item.2.1 138 = .ok (.iconst 4, 1) := by decide +kernel
theorem d_Mo_item_139 : decode M_Mo_item.2.1 139 = .ok (.aload_n 0, 1) := by decide +kernel
theorem d_Mo_item_140 : decode M_Mo_item.2.1 140 = .ok (.getfield 29, 3) := by decide +kernel
theorem d_Mo_item_143 : decode M_Mo_item.2.1 143 = .ok (.iconst 1, 1) := by decide +kernel
theorem d_Mo_item_144 : decode M_Mo_item.2.1 144 = .ok (.iaload, 1) := by decide +kernel
theorem d_Mo_item_145 : decode M_Mo_item.2.1 145 = .ok (.iadd, 1) := by decide +kernel
theorem d_Mo_item_146 : decode M_Mo_item.2.1 146 = .ok (.istore 5, 2) := by decide +kernel
theorem d_Mo_item_148 : decode M_Mo_item.2.1 148 = .ok (.aload_n 0, 1) := by decide +kernel
theorem d_Mo_item_149 : decode M_Mo_item.2.1 149 = .ok (.getfield 32, 3) := by decide +kernel
theorem d_Mo_item_152 : decode M_Mo_item.2.1 152 = .ok (.iload 5, 2) := by decide +kernel
theorem d_Mo_item_154 : decode M_Mo_item.2.1 154 = .ok (.aload_n 0, 1) := by decide +kernel
theorem d_Mo_item_155 : decode M_Mo_item.2.1 155 = .ok (.iconst 1, 1) := by decide +kernel
theorem d_Mo_item_156 : decode M_Mo_item.2.1 156 = .ok (.bipush 30, 2) := by decide +kernel
theorem d_Mo_item_158 : decode M_Mo_item.2.1 158 = .ok (.invokevirtual 113, 3) := by decide +kernel
theorem d_Mo_item_161 : decode M_Mo_item.2.1 161 = .ok (.iastore, 1) := by decide +kernel
theorem d_Mo_item_162 : decode M_Mo_item.2.1 162 = .ok (.aload_n 0, 1) := by decide +kernel
theorem d_Mo_item_163 : decode M_Mo_item.2.1 163 = .ok (.getfield 35, 3) := by decide +kernel
theorem d_Mo_item_166 : decode M_Mo_item.2.1 166 = .ok (.iload 5, 2) := by decide +kernel
theorem d_Mo_item_168 : decode M_Mo_item.2.1 168 = .ok (.aload_n 0, 1) := by decide +kernel
theorem d_Mo_item_169 : decode M_Mo_item.2.1 169 = .ok (.iconst 0, 1) := by decide +kernel
theorem d_Mo_item_170 : decode M_Mo_item.2.1 170 = .ok (.iconst 5, 1) := by decide +kernel
theorem d_Mo_item_171 : decode M_Mo_item.2.1 171 = .ok (.invokevirtual 113, 3) := by decide +kernel
theorem d_Mo_item_174 : decode M_Mo_item.2.1 174 = .ok (.iastore, 1) := by decide +kernel
theorem d_Mo_item_175 : decode M_Mo_item.2.1 175 = .ok (.aload_n 0, 1) := by decide +kernel
theorem d_Mo_item_176 : decode M_Mo_item.2.1 176 = .ok (.getfield 29, 3) := by decide +kernel
theorem d_Mo_item_179 : decode M_Mo_item.2.1 179 = .ok (.iconst 1, 1) := by decide +kernel
theorem d_Mo_item_180 : decode M_Mo_item.2.1 180 = .ok (.dup2, 1) := by decide +kernel
theorem d_Mo_item_181 : decode M_Mo_item.2.1 181 = .ok (.iaload, 1) := by decide +kernel
theorem d_Mo_item_182 : decode M_Mo_item.2.1 182 = .ok (.iconst 1, 1) := by decide +kernel
theorem d_Mo_item_183 : decode M_Mo_item.2.1 183 = .ok (.iadd, 1) := by decide +kernel
theorem d_Mo_item_184 : decode M_Mo_item.2.1 184 = .ok (.iastore, 1) := by decide +kernel
theorem d_Mo_item_185 : decode M_Mo_item.2.1 185 = .ok (.goto 21, 3) := by decide +kernel
theorem d_Mo_item_188 : decode M_Mo_item.2.1 188 = .ok (.aload_n 0, 1) := by decide +kernel
theorem d_Mo_item_189 : decode M_Mo_item.2.1 189 = .ok (.getfield 38, 3) := by decide +kernel
theorem d_Mo_item_192 : decode M_Mo_item.2.1 192 = .ok (.iconst 1, 1) := by decide +kernel
theorem d_Mo_item_193 : decode M_Mo_item.2.1 193 = .ok (.aload_n 0, 1) := by decide +kernel
theorem d_Mo_item_194 : decode M_Mo_item.2.1 194 = .ok (.iconst 0, 1) := by decide +kernel
theorem d_Mo_item_195 : decode M_Mo_item.2.1 195 = .ok (.bipush 40, 2) := by decide +kernel
theorem d_Mo_item_197 : decode M_Mo_item.2.1 197 = .ok (.invokevirtual 113, 3) := by decide +kernel
theorem d_Mo_item_200 : decode M_Mo_item.2.1 200 = .ok (.iastore, 1) := by decide +kernel
theorem d_Mo_item_201 : decode M_Mo_item.2.1 201 = .ok (.aload_n 0, 1) := by decide +kernel
theorem d_Mo_item_202 : decode M_Mo_item.2.1 202 = .ok (.iconst 1, 1) := by decide +kernel
theorem d_Mo_item_203 : decode M_Mo_item.2.1 203 = .ok (.putfield 117, 3) := by decide +kernel
theorem d_Mo_item_206 : decode M_Mo_item.2.1 206 = .ok (.return_, 1) := by decide +kernel
theorem d_Mo_may_0 : decode M_Mo_may.2.1 0 = .ok (.iload_n 1, 1) := by decide +kernel
theorem d_Mo_may_1 : decode M_Mo_may.2.1 1 = .ok (.lookupswitch 69 #[(112, 37), (116, 53), (119, 35)], 35) := by decide +kernel
theorem d_Mo_may_36 : decode M_Mo_may.2.1 36 = .ok (.iconst 1, 1) := by decide +kernel
theorem d_Mo_may_37 : decode M_Mo_may.2.1 37 = .ok (.ireturn, 1) := by decide +kernel
theorem d_Mo_may_38 : decode M_Mo_may.2.1 38 = .ok (.aload_n 0, 1) := by decide +kernel
theorem d_Mo_may_39 : decode M_Mo_may.2.1 39 = .ok (.getfield 17, 3) := by decide +kernel
theorem d_Mo_may_42 : decode M_Mo_may.2.1 42 = .ok (.iconst 1, 1) := by decide +kernel
theorem d_Mo_may_43 : decode M_Mo_may.2.1 43 = .ok (.iaload, 1) := by decide +kernel
theorem d_Mo_may_44 : decode M_Mo_may.2.1 44 = .ok (.iconst 3, 1) := by decide +kernel
theorem d_Mo_may_45 : decode M_Mo_may.2.1 45 = .ok (.if_icmp .ge 7, 3) := by decide +kernel
theorem d_Mo_may_48 : decode M_Mo_may.2.1 48 = .ok (.iconst 1, 1) := by decide +kernel
theorem d_Mo_may_49 : decode M_Mo_may.2.1 49 = .ok (.goto 4, 3) := by decide +kernel
theorem d_Mo_may_52 : decode M_Mo_may.2.1 52 = .ok (.iconst 0, 1) := by decide +kernel
theorem d_Mo_may_53 : decode M_Mo_may.2.1 53 = .ok (.ireturn, 1) := by decide +kernel
theorem d_Mo_may_54 : decode M_Mo_may.2.1 54 = .ok (.aload_n 0, 1) := by decide +kernel
theorem d_Mo_may_55 : decode M_Mo_may.2.1 55 = .ok (.getfield 29, 3) := by decide +kernel
theorem d_Mo_may_58 : decode M_Mo_may.2.1 58 = .ok (.iconst 1, 1) := by decide +kernel
theorem d_Mo_may_59 : decode M_Mo_may.2.1 59 = .ok (.iaload, 1) := by decide +kernel
theorem d_Mo_may_60 : decode M_Mo_may.2.1 60 = .ok (.iconst 4, 1) := by decide +kernel
theorem d_Mo_may_61 : decode M_Mo_may.2.1 61 = .ok (.if_icmp .ge 7, 3) := by decide +kernel
theorem d_Mo_may_64 : decode M_Mo_may.2.1 64 = .ok (.iconst 1, 1) := by decide +kernel
theorem d_Mo_may_65 : decode M_Mo_may.2.1 65 = .ok (.goto 4, 3) := by decide +kernel
theorem d_Mo_may_68 : decode M_Mo_may.2.1 68 = .ok (.iconst 0, 1) := by decide +kernel
theorem d_Mo_may_69 : decode M_Mo_may.2.1 69 = .ok (.ireturn, 1) := by decide +kernel
theorem d_Mo_may_70 : decode M_Mo_may.2.1 70 = .ok (.iload_n 1, 1) := by decide +kernel
theorem d_Mo_may_71 : decode M_Mo_may.2.1 71 = .ok (.bipush 120, 2) := by decide +kernel
theorem d_Mo_may_73 : decode M_Mo_may.2.1 73 = .ok (.if_icmp .ne 14, 3) := by decide +kernel
theorem d_Mo_may_76 : decode M_Mo_may.2.1 76 = .ok (.aload_n 0, 1) := by decide +kernel
theorem d_Mo_may_77 : decode M_Mo_may.2.1 77 = .ok (.getfield 117, 3) := by decide +kernel
theorem d_Mo_may_80 : decode M_Mo_may.2.1 80 = .ok (.ifCond .ne 7, 3) := by decide +kernel
theorem d_Mo_may_83 : decode M_Mo_may.2.1 83 = .ok (.iconst 1, 1) := by decide +kernel
theorem d_Mo_may_84 : decode M_Mo_may.2.1 84 = .ok (.goto 4, 3) := by decide +kernel
theorem d_Mo_may_87 : decode M_Mo_may.2.1 87 = .ok (.iconst 0, 1) := by decide +kernel
theorem d_Mo_may_88 : decode M_Mo_may.2.1 88 = .ok (.ireturn, 1) := by decide +kernel
theorem d_Mo_read_0 : decode M_Mo_read.2.1 0 = .ok (.aload_n 0, 1) := by decide +kernel
theorem d_Mo_read_1 : decode M_Mo_read.2.1 1 = .ok (.iconst 0, 1) := by decide +kernel
theorem d_Mo_read_2 : decode M_Mo_read.2.1 2 = .ok (.putfield 86, 3) := by decide +kernel
theorem d_Mo_read_5 : decode M_Mo_read.2.1 5 = .ok (.aload_n 0, 1) := by decide +kernel
theorem d_Mo_read_6 : decode M_Mo_read.2.1 6 = .ok (.iconst 0, 1) := by decide +kernel
theorem d_Mo_read_7 : decode M_Mo_read.2.1 7 = .ok (.putfield 102, 3) := by decide +kernel
theorem d_Mo_read_10 : decode M_Mo_read.2.1 10 = .ok (.aload_n 0, 1) := by decide +kernel
theorem d_Mo_read_11 : decode M_Mo_read.2.1 11 = .ok (.iconst 0, 1) := by decide +kernel
theorem d_Mo_read_12 : decode M_Mo_read.2.1 12 = .ok (.putfield 120, 3) := by decide +kernel
theorem d_Mo_read_15 : decode M_Mo_read.2.1 15 = .ok (.aload_n 0, 1) := by decide +kernel
theorem d_Mo_read_16 : decode M_Mo_read.2.1 16 = .ok (.iconst 0, 1) := by decide +kernel
theorem d_Mo_read_17 : decode M_Mo_read.2.1 17 = .ok (.putfield 117, 3) := by decide +kernel
theorem d_Mo_read_20 : decode M_Mo_read.2.1 20 = .ok (.aload_n 0, 1) := by decide +kernel
theorem d_Mo_read_21 : decode M_Mo_read.2.1 21 = .ok (.getfield 17, 3) := by decide +kernel
theorem d_Mo_read_24 : decode M_Mo_read.2.1 24 = .ok (.iconst 1, 1) := by decide +kernel
theorem d_Mo_read_25 : decode M_Mo_read.2.1 25 = .ok (.iconst 0, 1) := by decide +kernel
theorem d_Mo_read_26 : decode M_Mo_read.2.1 26 = .ok (.iastore, 1) := by decide +kernel
theorem d_Mo_read_27 : decode M_Mo_read.2.1 27 = .ok (.aload_n 0, 1) := by decide +kernel
theorem d_Mo_read_28 : decode M_Mo_read.2.1 28 = .ok (.getfield 29, 3) := by decide +kernel
theorem d_Mo_read_31 : decode M_Mo_read.2.1 31 = .ok (.iconst 1, 1) := by decide +kernel
theorem d_Mo_read_32 : decode M_Mo_read.2.1 32 = .ok (.iconst 0, 1) := by decide +kernel
theorem d_Mo_read_33 : decode M_Mo_read.2.1 33 = .ok (.iastore, 1) := by decide +kernel
theorem d_Mo_read_34 : decode M_Mo_read.2.1 34 = .ok (.aload_n 0, 1) := by decide +kernel
theorem d_Mo_read_35 : decode M_Mo_read.2.1 35 = .ok (.getfield 38, 3) := by decide +kernel
theorem d_Mo_read_38 : decode M_Mo_read.2.1 38 = .ok (.iconst 1, 1) := by decide +kernel
theorem d_Mo_read_39 : decode M_Mo_read.2.1 39 = .ok (.bipush 20, 2) := by decide +kernel
theorem d_Mo_read_41 : decode M_Mo_read.2.1 41 = .ok (.iastore, 1) := by decide +kernel
theorem d_Mo_read_42 : decode M_Mo_read.2.1 42 = .ok (.iconst 0, 1) := by decide +kernel
theorem d_Mo_read_43 : decode M_Mo_read.2.1 43 = .ok (.istore_n 1, 1) := by decide +kernel
theorem d_Mo_read_44 : decode M_Mo_read.2.1 44 = .ok (.iload_n 1, 1) := by decide +kernel
theorem d_Mo_read_45 : decode M_Mo_read.2.1 45 = .ok (.bipush 9, 2) := by decide +kernel
theorem d_Mo_read_47 : decode M_Mo_read.2.1 47 = .ok (.if_icmp .gt 19, 3) := by decide +kernel
theorem d_Mo_read_50 : decode M_Mo_read.2.1 50 = .ok (.aload_n 0, 1) := by decide +kernel
theorem d_Mo_read_51 : decode M_Mo_read.2.1 51 = .ok (.getfield 13, 3) := by decide +kernel
theorem d_Mo_read_54 : decode M_Mo_read.2.1 54 = .ok (.bipush 10, 2) := by decide +kernel
theorem d_Mo_read_56 : decode M_Mo_read.2.1 56 = .ok (.iload_n 1, 1) := by decide +kernel
theorem d_Mo_read_57 : decode M_Mo_read.2.1 57 = .ok (.iadd, 1) := by decide +kernel
theorem d_Mo_read_58 : decode M_Mo_read.2.1 58 = .ok (.iconst 0, 1) := by decide +kernel
theorem d_Mo_read_59 : decode M_Mo_read.2.1 59 = .ok (.iastore, 1) := by decide +kernel
theorem d_Mo_read_60 : decode M_Mo_read.2.1 60 = .ok (.iinc 1 1, 3) := by decide +kernel
theorem d_Mo_read_63 : decode M_Mo_read.2.1 63 = .ok (.goto (-19), 3) := by decide +kernel
theorem d_Mo_read_66 : decode M_Mo_read.2.1 66 = .ok (.aload_n 0, 1) := by decide +kernel
theorem d_Mo_read_67 : decode M_Mo_read.2.1 67 = .ok (.invokevirtual 106, 3) := by decide +kernel
theorem d_Mo_read_70 : decode M_Mo_read.2.1 70 = .ok (.aload_n 0, 1) := by decide +kernel
theorem d_Mo_read_71 : decode M_Mo_read.2.1 71 = .ok (.getfield 99, 3) := by decide +kernel
theorem d_Mo_read_74 : decode M_Mo_read.2.1 74 = .ok (.iconst 4, 1) := by decide +kernel
theorem d_Mo_read_75 : decode M_Mo_read.2.1 75 = .ok (.if_icmp .eq 94, 3) := by decide +kernel
theorem d_Mo_read_78 : decode M_Mo_read.2.1 78 = .ok (.aload_n 0, 1) := by decide +kernel
theorem d_Mo_read_79 : decode M_Mo_read.2.1 79 = .ok (.getfield 102, 3) := by decide +kernel
theorem d_Mo_read_82 : decode M_Mo_read.2.1 82 = .ok (.ifCond .ne 87, 3) := by decide +kernel
theorem d_Mo_read_85 : decode M_Mo_read.2.1 85 = .ok (.aload_n 0, 1) := by decide +kernel
theorem d_Mo_read_86 : decode M_Mo_read.2.1 86 = .ok (.getfield 99, 3) := by decide +kernel
theorem d_Mo_read_89 : decode M_Mo_read.2.1 89 = .ok (.iconst 1, 1) := by decide +kernel
theorem d_Mo_read_90 : decode M_Mo_read.2.1 90 = .ok (.if_icmp .ne 10, 3) := by decide +kernel
theorem d_Mo_read_93 : decode M_Mo_read.2.1 93 = .ok (.aload_n 0, 1) := by decide +kernel
theorem d_Mo_read_94 : decode M_Mo_read.2.1 94 = .ok (.getfield 96, 3) := by decide +kernel
theorem d_Mo_read_97 : decode M_Mo_read.2.1 97 = .ok (.goto 4, 3) := by decide +kernel
theorem d_Mo_read_100 : decode M_Mo_read.2.1 100 = .ok (.iconst 0, 1) := by decide +kernel
theorem d_Mo_read_101 : decode M_Mo_read.2.1 101 = .ok (.istore_n 1, 1) := by decide +kernel
theorem d_Mo_read_102 : decode M_Mo_read.2.1 102 = .ok (.aload_n 0, 1) := by decide +kernel
theorem d_Mo_read_103 : decode M_Mo_read.2.1 103 = .ok (.aload_n 0, 1) := by decide +kernel
theorem d_Mo_read_104 : decode M_Mo_read.2.1 104 = .ok (.getfield 99, 3) := by decide +kernel
theorem d_Mo_read_107 : decode M_Mo_read.2.1 107 = .ok (.iconst 1, 1) := by decide +kernel
theorem d_Mo_read_108 : decode M_Mo_read.2.1 108 = .ok (.if_icmp .ne 15, 3) := by decide +kernel
theorem d_Mo_read_111 : decode M_Mo_read.2.1 111 = .ok (.aload_n 0, 1) := by decide +kernel
theorem d_Mo_read_112 : decode M_Mo_read.2.1 112 = .ok (.iload_n 1, 1) := by decide +kernel
theorem d_Mo_read_113 : decode M_Mo_read.2.1 113 = .ok (.invokevirtual 123, 3) := by decide +kernel
theorem d_Mo_read_116 : decode M_Mo_read.2.1 116 = .ok (.ifCond .eq 7, 3) := by decide +kernel
theorem d_Mo_read_119 : decode M_Mo_read.2.1 119 = .ok (.iconst 1, 1) := by decide +kernel
theorem d_Mo_read_120 : decode M_Mo_read.2.1 120 = .ok (.goto 4, 3) := by decide +kernel
theorem d_Mo_read_123 : decode M_Mo_read.2.1 123 = .ok (.iconst 0, 1) := by decide +kernel
theorem d_Mo_read_124 : decode M_Mo_read.2.1 124 = .ok (.invokevirtual 109, 3) := by decide +kernel
theorem d_Mo_read_127 : decode M_Mo_read.2.1 127 = .ok (.aload_n 0, 1) := by decide +kernel
theorem d_Mo_read_128 : decode M_Mo_read.2.1 128 = .ok (.getfield 102, 3) := by decide +kernel
theorem d_Mo_read_131 : decode M_Mo_read.2.1 131 = .ok (.ifCond .ne 35, 3) := by decide +kernel
theorem d_Mo_read_134 : decode M_Mo_read.2.1 134 = .ok (.aload_n 0, 1) := by decide +kernel
theorem d_Mo_read_135 : decode M_Mo_read.2.1 135 = .ok (.iload_n 1, 1) := by decide +kernel
theorem d_Mo_read_136 : decode M_Mo_read.2.1 136 = .ok (.invokevirtual 127, 3) := by decide +kernel
theorem d_Mo_read_139 : decode M_Mo_read.2.1 139 = .ok (.aload_n 0, 1) := by decide +kernel
theorem d_Mo_read_140 : decode M_Mo_read.2.1 140 = .ok (.aload_n 0, 1) := by decide +kernel
theorem d_Mo_read_141 : decode M_Mo_read.2.1 141 = .ok (.getfield 99, 3) := by decide +kernel
theorem d_Mo_read_144 : decode M_Mo_read.2.1 144 = .ok (.iconst 3, 1) := by decide +kernel
theorem d_Mo_read_145 : decode M_Mo_read.2.1 145 = .ok (.if_icmp .ne 7, 3) := by decide +kernel
theorem d_Mo_read_148 : decode M_Mo_read.2.1 148 = .ok (.iconst 1, 1) := by decide +kernel
theorem d_Mo_read_149 : decode M_Mo_read.2.1 149 = .ok (.goto 4, 3) := by decide +kernel
theorem d_Mo_read_152 : decode M_Mo_read.2.1 152 = .ok (.iconst 0, 1) := by decide +kernel
theorem d_Mo_read_153 : decode M_Mo_read.2.1 153 = .ok (.invokevirtual 109, 3) := by decide +kernel
theorem d_Mo_read_156 : decode M_Mo_read.2.1 156 = .ok (.aload_n 0, 1) := by decide +kernel
theorem d_Mo_read_157 : decode M_Mo_read.2.1 157 = .ok (.dup, 1) := by decide +kernel
theorem d_Mo_read_158 : decode M_Mo_read.2.1 158 = .ok (.getfield 120, 3) := by decide +kernel
theorem d_Mo_read_161 : decode M_Mo_read.2.1 161 = .ok (.iconst 1, 1) := by decide +kernel
theorem d_Mo_read_162 : decode M_Mo_read.2.1 162 = .ok (.iadd, 1) := by decide +kernel
theorem d_Mo_read_163 : decode M_Mo_read.2.1 163 = .ok (.putfield 120, 3) := by decide +kernel
theorem d_Mo_read_166 : decode M_Mo_read.2.1 166 = .ok (.goto (-96), 3) := by decide +kernel
theorem d_Mo_read_169 : decode M_Mo_read.2.1 169 = .ok (.return_, 1) := by decide +kernel
theorem d_Mo_sheds_0 : decode M_Mo_sheds.2.1 0 = .ok (.aload_n 0, 1) := by decide +kernel
theorem d_Mo_sheds_1 : decode M_Mo_sheds.2.1 1 = .ok (.invokevirtual 131, 3) := by decide +kernel
theorem d_Mo_sheds_4 : decode M_Mo_sheds.2.1 4 = .ok (.aload_n 0, 1) := by decide +kernel
theorem d_Mo_sheds_5 : decode M_Mo_sheds.2.1 5 = .ok (.getfield 102, 3) := by decide +kernel
theorem d_Mo_sheds_8 : decode M_Mo_sheds.2.1 8 = .ok (.ifCond .eq 11, 3) := by decide +kernel
theorem d_Mo_sheds_11 : decode M_Mo_sheds.2.1 11 = .ok (.bipush (-10), 2) := by decide +kernel
theorem d_Mo_sheds_13 : decode M_Mo_sheds.2.1 13 = .ok (.aload_n 0, 1) := by decide +kernel
theorem d_Mo_sheds_14 : decode M_Mo_sheds.2.1 14 = .ok (.getfield 93, 3) := by decide +kernel
theorem d_Mo_sheds_17 : decode M_Mo_sheds.2.1 17 = .ok (.isub, 1) := by decide +kernel
theorem d_Mo_sheds_18 : decode M_Mo_sheds.2.1 18 = .ok (.ireturn, 1) := by decide +kernel
theorem d_Mo_sheds_19 : decode M_Mo_sheds.2.1 19 = .ok (.aload_n 0, 1) := by decide +kernel
theorem d_Mo_sheds_20 : decode M_Mo_sheds.2.1 20 = .ok (.getfield 17, 3) := by decide +kernel
theorem d_Mo_sheds_23 : decode M_Mo_sheds.2.1 23 = .ok (.iconst 0, 1) := by decide +kernel
theorem d_Mo_sheds_24 : decode M_Mo_sheds.2.1 24 = .ok (.aload_n 0, 1) := by decide +kernel
theorem d_Mo_sheds_25 : decode M_Mo_sheds.2.1 25 = .ok (.getfield 17, 3) := by decide +kernel
theorem d_Mo_sheds_28 : decode M_Mo_sheds.2.1 28 = .ok (.iconst 1, 1) := by decide +kernel
theorem d_Mo_sheds_29 : decode M_Mo_sheds.2.1 29 = .ok (.iaload, 1) := by decide +kernel
theorem d_Mo_sheds_30 : decode M_Mo_sheds.2.1 30 = .ok (.iastore, 1) := by decide +kernel
theorem d_Mo_sheds_31 : decode M_Mo_sheds.2.1 31 = .ok (.aload_n 0, 1) := by decide +kernel
theorem d_Mo_sheds_32 : decode M_Mo_sheds.2.1 32 = .ok (.getfield 29, 3) := by decide +kernel
theorem d_Mo_sheds_35 : decode M_Mo_sheds.2.1 35 = .ok (.iconst 0, 1) := by decide +kernel
theorem d_Mo_sheds_36 : decode M_Mo_sheds.2.1 36 = .ok (.aload_n 0, 1) := by decide +kernel
theorem d_Mo_sheds_37 : decode M_Mo_sheds.2.1 37 = .ok (.getfield 29, 3) := by decide +kernel
theorem d_Mo_sheds_40 : decode M_Mo_sheds.2.1 40 = .ok (.iconst 1, 1) := by decide +kernel
theorem d_Mo_sheds_41 : decode M_Mo_sheds.2.1 41 = .ok (.iaload, 1) := by decide +kernel
theorem d_Mo_sheds_42 : decode M_Mo_sheds.2.1 42 = .ok (.iastore, 1) := by decide +kernel
theorem d_Mo_sheds_43 : decode M_Mo_sheds.2.1 43 = .ok (.aload_n 0, 1) := by decide +kernel
theorem d_Mo_sheds_44 : decode M_Mo_sheds.2.1 44 = .ok (.getfield 38, 3) := by decide +kernel
theorem d_Mo_sheds_47 : decode M_Mo_sheds.2.1 47 = .ok (.iconst 0, 1) := by decide +kernel
theorem d_Mo_sheds_48 : decode M_Mo_sheds.2.1 48 = .ok (.aload_n 0, 1) := by decide +kernel
theorem d_Mo_sheds_49 : decode M_Mo_sheds.2.1 49 = .ok (.getfield 38, 3) := by decide +kernel
theorem d_Mo_sheds_52 : decode M_Mo_sheds.2.1 52 = .ok (.iconst 1, 1) := by decide +kernel
theorem d_Mo_sheds_53 : decode M_Mo_sheds.2.1 53 = .ok (.iaload, 1) := by decide +kernel
theorem d_Mo_sheds_54 : decode M_Mo_sheds.2.1 54 = .ok (.iastore, 1) := by decide +kernel
theorem d_Mo_sheds_55 : decode M_Mo_sheds.2.1 55 = .ok (.iconst 0, 1) := by decide +kernel
theorem d_Mo_sheds_56 : decode M_Mo_sheds.2.1 56 = .ok (.istore_n 1, 1) := by decide +kernel
theorem d_Mo_sheds_57 : decode M_Mo_sheds.2.1 57 = .ok (.iload_n 1, 1) := by decide +kernel
theorem d_Mo_sheds_58 : decode M_Mo_sheds.2.1 58 = .ok (.bipush 9, 2) := by decide +kernel
theorem d_Mo_sheds_60 : decode M_Mo_sheds.2.1 60 = .ok (.if_icmp .gt 24, 3) := by decide +kernel
theorem d_Mo_sheds_63 : decode M_Mo_sheds.2.1 63 = .ok (.aload_n 0, 1) := by decide +kernel
theorem d_Mo_sheds_64 : decode M_Mo_sheds.2.1 64 = .ok (.getfield 13, 3) := by decide +kernel
theorem d_Mo_sheds_67 : decode M_Mo_sheds.2.1 67 = .ok (.iload_n 1, 1) := by decide +kernel
theorem d_Mo_sheds_68 : decode M_Mo_sheds.2.1 68 = .ok (.aload_n 0, 1) := by decide +kernel
theorem d_Mo_sheds_69 : decode M_Mo_sheds.2.1 69 = .ok (.getfield 13, 3) := by decide +kernel
theorem d_Mo_sheds_72 : decode M_Mo_sheds.2.1 72 = .ok (.bipush 10, 2) := by decide +kernel
theorem d_Mo_sheds_74 : decode M_Mo_sheds.2.1 74 = .ok (.iload_n 1, 1) := by decide +kernel
theorem d_Mo_sheds_75 : decode M_Mo_sheds.2.1 75 = .ok (.iadd, 1) := by decide +kernel
theorem d_Mo_sheds_76 : decode M_Mo_sheds.2.1 76 = .ok (.iaload, 1) := by decide +kernel
theorem d_Mo_sheds_77 : decode M_Mo_sheds.2.1 77 = .ok (.iastore, 1) := by decide +kernel
theorem d_Mo_sheds_78 : decode M_Mo_sheds.2.1 78 = .ok (.iinc 1 1, 3) := by decide +kernel
theorem d_Mo_sheds_81 : decode M_Mo_sheds.2.1 81 = .ok (.goto (-24), 3) := by decide +kernel
theorem d_Mo_sheds_84 : decode M_Mo_sheds.2.1 84 = .ok (.iconst 0, 1) := by decide +kernel
theorem d_Mo_sheds_85 : decode M_Mo_sheds.2.1 85 = .ok (.istore_n 1, 1) := by decide +kernel
theorem d_Mo_sheds_86 : decode M_Mo_sheds.2.1 86 = .ok (.iload_n 1, 1) := by decide +kernel
theorem d_Mo_sheds_87 : decode M_Mo_sheds.2.1 87 = .ok (.bipush 11, 2) := by decide +kernel
theorem d_Mo_sheds_89 : decode M_Mo_sheds.2.1 89 = .ok (.if_icmp .ge 16, 3) := by decide +kernel
theorem d_Mo_sheds_92 : decode M_Mo_sheds.2.1 92 = .ok (.aload_n 0, 1) := by decide +kernel
theorem d_Mo_sheds_93 : decode M_Mo_sheds.2.1 93 = .ok (.getfield 41, 3) := by decide +kernel
theorem d_Mo_sheds_96 : decode M_Mo_sheds.2.1 96 = .ok (.iload_n 1, 1) := by decide +kernel
theorem d_Mo_sheds_97 : decode M_Mo_sheds.2.1 97 = .ok (.iconst 0, 1) := by decide +kernel
theorem d_Mo_sheds_98 : decode M_Mo_sheds.2.1 98 = .ok (.iastore, 1) := by decide +kernel
theorem d_Mo_sheds_99 : decode M_Mo_sheds.2.1 99 = .ok (.iinc 1 1, 3) := by decide +kernel
theorem d_Mo_sheds_102 : decode M_Mo_sheds.2.1 102 = .ok (.goto (-16), 3) := by decide +kernel
theorem d_Mo_sheds_105 : decode M_Mo_sheds.2.1 105 = .ok (.iconst 0, 1) := by decide +kernel
theorem d_Mo_sheds_106 : decode M_Mo_sheds.2.1 106 = .ok (.istore_n 1, 1) := by decide +kernel
theorem d_Mo_sheds_107 : decode M_Mo_sheds.2.1 107 = .ok (.iload_n 1, 1) := by decide +kernel
theorem d_Mo_sheds_108 : decode M_Mo_sheds.2.1 108 = .ok (.iconst 3, 1) := by decide +kernel
theorem d_Mo_sheds_109 : decode M_Mo_sheds.2.1 109 = .ok (.if_icmp .ge 76, 3) := by decide +kernel
theorem d_Mo_sheds_112 : decode M_Mo_sheds.2.1 112 = .ok (.aload_n 0, 1) := by decide +kernel
theorem d_Mo_sheds_113 : decode M_Mo_sheds.2.1 113 = .ok (.getfield 20, 3) := by decide +kernel
theorem d_Mo_sheds_116 : decode M_Mo_sheds.2.1 116 = .ok (.iload_n 1, 1) := by decide +kernel
theorem d_Mo_sheds_117 : decode M_Mo_sheds.2.1 117 = .ok (.aload_n 0, 1) := by decide +kernel
theorem d_Mo_sheds_118 : decode M_Mo_sheds.2.1 118 = .ok (.getfield 20, 3) := by decide +kernel
theorem d_Mo_sheds_121 : decode M_Mo_sheds.2.1 121 = .ok (.iconst 3, 1) := by decide +kernel
theorem d_Mo_sheds_122 : decode M_Mo_sheds.2.1 122 = .ok (.iload_n 1, 1) := by decide +kernel
theorem d_Mo_sheds_123 : decode M_Mo_sheds.2.1 123 = .ok (.iadd, 1) := by decide +kernel
theorem d_Mo_sheds_124 : decode M_Mo_sheds.2.1 124 = .ok (.iaload, 1) := by decide +kernel
theorem d_Mo_sheds_125 : decode M_Mo_sheds.2.1 125 = .ok (.iastore, 1) := by decide +kernel
theorem d_Mo_sheds_126 : decode M_Mo_sheds.2.1 126 = .ok (.aload_n 0, 1) := by decide +kernel
theorem d_Mo_sheds_127 : decode M_Mo_sheds.2.1 127 = .ok (.getfield 23, 3) := by decide +kernel
theorem d_Mo_sheds_130 : decode M_Mo_sheds.2.1 130 = .ok (.iload_n 1, 1) := by decide +kernel
theorem d_Mo_sheds_131 : decode M_Mo_sheds.2.1 131 = .ok (.aload_n 0, 1) := by decide +kernel
theorem d_Mo_sheds_132 : decode M_Mo_sheds.2.1 132 = .ok (.getfield 23, 3) := by decide +kernel
theorem d_Mo_sheds_135 : decode M_Mo_sheds.2.1 135 = .ok (.iconst 3, 1) := by decide +kernel
theorem d_Mo_sheds_136 : decode M_Mo_sheds.2.1 136 = .ok (.iload_n 1, 1) := by decide +kernel
theorem d_Mo_sheds_137 : decode M_Mo_sheds.2.1 137 = .ok (.iadd, 1) := by decide +kernel
theorem d_Mo_sheds_138 : decode M_Mo_sheds.2.1 138 = .ok (.iaload, 1) := by decide +kernel
theorem d_Mo_sheds_139 : decode M_Mo_sheds.2.1 139 = .ok (.iastore, 1) := by decide +kernel
theorem d_Mo_sheds_140 : decode M_Mo_sheds.2.1 140 = .ok (.aload_n 0, 1) := by decide +kernel
theorem d_Mo_sheds_141 : decode M_Mo_sheds.2.1 141 = .ok (.getfield 41, 3) := by decide +kernel
theorem d_Mo_sheds_144 : decode M_Mo_sheds.2.1 144 = .ok (.bipush 6, 2) := by decide +kernel
theorem d_Mo_sheds_146 : decode M_Mo_sheds.2.1 146 = .ok (.dup2, 1) := by decide +kernel
theorem d_Mo_sheds_147 : decode M_Mo_sheds.2.1 147 = .ok (.iaload, 1) := by decide +kernel
theorem d_Mo_sheds_148 : decode M_Mo_sheds.2.1 148 = .ok (.iload_n 1, 1) := by decide +kernel
theorem d_Mo_sheds_149 : decode M_Mo_sheds.2.1 149 = .ok (.aload_n 0, 1) := by decide +kernel
theorem d_Mo_sheds_150 : decode M_Mo_sheds.2.1 150 = .ok (.getfield 17, 3) := by decide +kernel
theorem d_Mo_sheds_153 : decode M_Mo_sheds.2.1 153 = .ok (.iconst 0, 1) := by decide +kernel
theorem d_Mo_sheds_154 : decode M_Mo_sheds.2.1 154 = .ok (.iaload, 1) := by decide +kernel
theorem d_Mo_sheds_155 : decode M_Mo_sheds.2.1 155 = .ok (.if_icmp .ge 21, 3) := by decide +kernel
theorem d_Mo_sheds_158 : decode M_Mo_sheds.2.1 158 = .ok (.aload_n 0, 1) := by decide +kernel
theorem d_Mo_sheds_159 : decode M_Mo_sheds.2.1 159 = .ok (.getfield 26, 3) := by decide +kernel
theorem d_Mo_sheds_162 : decode M_Mo_sheds.2.1 162 = .ok (.iconst 3, 1) := by decide +kernel
theorem d_Mo_sheds_163 : decode M_Mo_sheds.2.1 163 = .ok (.iload_n 1, 1) := by decide +kernel
theorem d_Mo_sheds_164 : decode M_Mo_sheds.2.1 164 = .ok (.iadd, 1) := by decide +kernel
theorem d_Mo_sheds_165 : decode M_Mo_sheds.2.1 165 = .ok (.iaload, 1) := by decide +kernel
theorem d_Mo_sheds_166 : decode M_Mo_sheds.2.1 166 = .ok (.iconst 1, 1) := by decide +kernel
theorem d_Mo_sheds_167 : decode M_Mo_sheds.2.1 167 = .ok (.if_icmp .ne 9, 3) := by decide +kernel
theorem d_Mo_sheds_170 : decode M_Mo_sheds.2.1 170 = .ok (.iconst 1, 1) := by decide +kernel
theorem d_Mo_sheds_171 : decode M_Mo_sheds.2.1 171 = .ok (.iload_n 1, 1) := by decide +kernel
theorem d_Mo_sheds_172 : decode M_Mo_sheds.2.1 172 = .ok (.ishl, 1) := by decide +kernel
theorem d_Mo_sheds_173 : decode M_Mo_sheds.2.1 173 = .ok (.goto 4, 3) := by decide +kernel
theorem d_Mo_sheds_176 : decode M_Mo_sheds.2.1 176 = .ok (.iconst 0, 1) := by decide +kernel
theorem d_Mo_sheds_177 : decode M_Mo_sheds.2.1 177 = .ok (.ior, 1) := by decide +kernel
theorem d_Mo_sheds_178 : decode M_Mo_sheds.2.1 178 = .ok (.iastore, 1) := by decide +kernel
theorem d_Mo_sheds_179 : decode M_Mo_sheds.2.1 179 = .ok (.iinc 1 1, 3) := by decide +kernel
theorem d_Mo_sheds_182 : decode M_Mo_sheds.2.1 182 = .ok (.goto (-75), 3) := by decide +kernel
theorem d_Mo_sheds_185 : decode M_Mo_sheds.2.1 185 = .ok (.iconst 0, 1) := by decide +kernel
theorem d_Mo_sheds_186 : decode M_Mo_sheds.2.1 186 = .ok (.istore_n 1, 1) := by decide +kernel
theorem d_Mo_sheds_187 : decode M_Mo_sheds.2.1 187 = .ok (.iload_n 1, 1) := by decide +kernel
theorem d_Mo_sheds_188 : decode M_Mo_sheds.2.1 188 = .ok (.iconst 4, 1) := by decide +kernel
theorem d_Mo_sheds_189 : decode M_Mo_sheds.2.1 189 = .ok (.if_icmp .ge 37, 3) := by decide +kernel
theorem d_Mo_sheds_192 : decode M_Mo_sheds.2.1 192 = .ok (.aload_n 0, 1) := by decide +kernel
theorem d_Mo_sheds_193 : decode M_Mo_sheds.2.1 193 = .ok (.getfield 32, 3) := by decide +kernel
theorem d_Mo_sheds_196 : decode M_Mo_sheds.2.1 196 = .ok (.iload_n 1, 1) := by decide +kernel
theorem d_Mo_sheds_197 : decode M_Mo_sheds.2.1 197 = .ok (.aload_n 0, 1) := by decide +kernel
theorem d_Mo_sheds_198 : decode M_Mo_sheds.2.1 198 = .ok (.getfield 32, 3) := by decide +kernel
theorem d_Mo_sheds_201 : decode M_Mo_sheds.2.1 201 = .ok (.iconst 4, 1) := by decide +kernel
theorem d_Mo_sheds_202 : decode M_Mo_sheds.2.1 202 = .ok (.iload_n 1, 1) := by decide +kernel
theorem d_Mo_sheds_203 : decode M_Mo_sheds.2.1 203 = .ok (.iadd, 1) := by decide +kernel
theorem d_Mo_sheds_204 : decode M_Mo_sheds.2.1 204 = .ok (.iaload, 1) := by decide +kernel
theorem d_Mo_sheds_205 : decode M_Mo_sheds.2.1 205 = .ok (.iastore, 1) := by decide +kernel
theorem d_Mo_sheds_206 : decode M_Mo_sheds.2.1 206 = .ok (.aload_n 0, 1) := by decide +kernel
theorem d_Mo_sheds_207 : decode M_Mo_sheds.2.1 207 = .ok (.getfield 35, 3) := by decide +kernel
theorem d_Mo_sheds_210 : decode M_Mo_sheds.2.1 210 = .ok (.iload_n 1, 1) := by decide +kernel
theorem d_Mo_sheds_211 : decode M_Mo_sheds.2.1 211 = .ok (.aload_n 0, 1) := by decide +kernel
theorem d_Mo_sheds_212 : decode M_Mo_sheds.2.1 212 = .ok (.getfield 35, 3) := by decide +kernel
theorem d_Mo_sheds_215 : decode M_Mo_sheds.2.1 215 = .ok (.iconst 4, 1) := by decide +kernel
theorem d_Mo_sheds_216 : decode M_Mo_sheds.2.1 216 = .ok (.iload_n 1, 1) := by decide +kernel
theorem d_Mo_sheds_217 : decode M_Mo_sheds.2.1 217 = .ok (.iadd, 1) := by decide +kernel
theorem d_Mo_sheds_218 : decode M_Mo_sheds.2.1 218 = .ok (.iaload, 1) := by decide +kernel
theorem d_Mo_sheds_219 : decode M_Mo_sheds.2.1 219 = .ok (.iastore, 1) := by decide +kernel
theorem d_Mo_sheds_220 : decode M_Mo_sheds.2.1 220 = .ok (.iinc 1 1, 3) := by decide +kernel
theorem d_Mo_sheds_223 : decode M_Mo_sheds.2.1 223 = .ok (.goto (-36), 3) := by decide +kernel
theorem d_Mo_sheds_226 : decode M_Mo_sheds.2.1 226 = .ok (.aload_n 0, 1) := by decide +kernel
theorem d_Mo_sheds_227 : decode M_Mo_sheds.2.1 227 = .ok (.getfield 41, 3) := by decide +kernel
theorem d_Mo_sheds_230 : decode M_Mo_sheds.2.1 230 = .ok (.iconst 1, 1) := by decide +kernel
theorem d_Mo_sheds_231 : decode M_Mo_sheds.2.1 231 = .ok (.aload_n 0, 1) := by decide +kernel
theorem d_Mo_sheds_232 : decode M_Mo_sheds.2.1 232 = .ok (.getfield 38, 3) := by decide +kernel
theorem d_Mo_sheds_235 : decode M_Mo_sheds.2.1 235 = .ok (.iconst 0, 1) := by decide +kernel
theorem d_Mo_sheds_236 : decode M_Mo_sheds.2.1 236 = .ok (.iaload, 1) := by decide +kernel
theorem d_Mo_sheds_237 : decode M_Mo_sheds.2.1 237 = .ok (.iastore, 1) := by decide +kernel
theorem d_Mo_sheds_238 : decode M_Mo_sheds.2.1 238 = .ok (.aload_n 0, 1) := by decide +kernel
theorem d_Mo_sheds_239 : decode M_Mo_sheds.2.1 239 = .ok (.getfield 41, 3) := by decide +kernel
theorem d_Mo_sheds_242 : decode M_Mo_sheds.2.1 242 = .ok (.iconst 3, 1) := by decide +kernel
theorem d_Mo_sheds_243 : decode M_Mo_sheds.2.1 243 = .ok (.bipush (-9), 2) := by decide +kernel
theorem d_Mo_sheds_245 : decode M_Mo_sheds.2.1 245 = .ok (.iastore, 1) := by decide +kernel
theorem d_Mo_sheds_246 : decode M_Mo_sheds.2.1 246 = .ok (.aload_n 0, 1) := by decide +kernel
theorem d_Mo_sheds_247 : decode M_Mo_sheds.2.1 247 = .ok (.getfield 41, 3) := by decide +kernel
theorem d_Mo_sheds_250 : decode M_Mo_sheds.2.1 250 = .ok (.iconst 4, 1) := by decide +kernel
theorem d_Mo_sheds_251 : decode M_Mo_sheds.2.1 251 = .ok (.bipush (-9), 2) := by decide +kernel
theorem d_Mo_sheds_253 : decode M_Mo_sheds.2.1 253 = .ok (.iastore, 1) := by decide +kernel
theorem d_Mo_sheds_254 : decode M_Mo_sheds.2.1 254 = .ok (.aload_n 0, 1) := by decide +kernel
theorem d_Mo_sheds_255 : decode M_Mo_sheds.2.1 255 = .ok (.getfield 44, 3) := by decide +kernel
theorem d_Mo_sheds_258 : decode M_Mo_sheds.2.1 258 = .ok (.iconst 0, 1) := by decide +kernel
theorem d_Mo_sheds_259 : decode M_Mo_sheds.2.1 259 = .ok (.iconst 0, 1) := by decide +kernel
theorem d_Mo_sheds_260 : decode M_Mo_sheds.2.1 260 = .ok (.iastore, 1) := by decide +kernel
theorem d_Mo_sheds_261 : decode M_Mo_sheds.2.1 261 = .ok (.aload_n 0, 1) := by decide +kernel
theorem d_Mo_sheds_262 : decode M_Mo_sheds.2.1 262 = .ok (.getfield 53, 3) := by decide +kernel
theorem d_Mo_sheds_265 : decode M_Mo_sheds.2.1 265 = .ok (.iconst 0, 1) := by decide +kernel
theorem d_Mo_sheds_266 : decode M_Mo_sheds.2.1 266 = .ok (.iconst 0, 1) := by decide +kernel
theorem d_Mo_sheds_267 : decode M_Mo_sheds.2.1 267 = .ok (.bastore, 1) := by decide +kernel
theorem d_Mo_sheds_268 : decode M_Mo_sheds.2.1 268 = .ok (.aload_n 0, 1) := by decide +kernel
theorem d_Mo_sheds_269 : decode M_Mo_sheds.2.1 269 = .ok (.getfield 53, 3) := by decide +kernel
theorem d_Mo_sheds_272 : decode M_Mo_sheds.2.1 272 = .ok (.iconst 1, 1) := by decide +kernel
theorem d_Mo_sheds_273 : decode M_Mo_sheds.2.1 273 = .ok (.iconst 0, 1) := by decide +kernel
theorem d_Mo_sheds_274 : decode M_Mo_sheds.2.1 274 = .ok (.bastore, 1) := by decide +kernel
theorem d_Mo_sheds_275 : decode M_Mo_sheds.2.1 275 = .ok (.aload_n 0, 1) := by decide +kernel
theorem d_Mo_sheds_276 : decode M_Mo_sheds.2.1 276 = .ok (.iconst 0, 1) := by decide +kernel
theorem d_Mo_sheds_277 : decode M_Mo_sheds.2.1 277 = .ok (.putfield 134, 3) := by decide +kernel
theorem d_Mo_sheds_280 : decode M_Mo_sheds.2.1 280 = .ok (.aload_n 0, 1) := by decide +kernel
theorem d_Mo_sheds_281 : decode M_Mo_sheds.2.1 281 = .ok (.iconst 0, 1) := by decide +kernel
theorem d_Mo_sheds_282 : decode M_Mo_sheds.2.1 282 = .ok (.putfield 137, 3) := by decide +kernel
theorem d_Mo_sheds_285 : decode M_Mo_sheds.2.1 285 = .ok (.aload_n 0, 1) := by decide +kernel
theorem d_Mo_sheds_286 : decode M_Mo_sheds.2.1 286 = .ok (.iconst 0, 1) := by decide +kernel
theorem d_Mo_sheds_287 : decode M_Mo_sheds.2.1 287 = .ok (.putfield 82, 3) := by decide +kernel
theorem d_Mo_sheds_290 : decode M_Mo_sheds.2.1 290 = .ok (.aload_n 0, 1) := by decide +kernel
theorem d_Mo_sheds_291 : decode M_Mo_sheds.2.1 291 = .ok (.getfield 120, 3) := by decide +kernel
theorem d_Mo_sheds_294 : decode M_Mo_sheds.2.1 294 = .ok (.ireturn, 1) := by decide +kernel
theorem d_Mo_take_0 : decode M_Mo_take.2.1 0 = .ok (.iconst 0, 1) := by decide +kernel
theorem d_Mo_take_1 : decode M_Mo_take.2.1 1 = .ok (.istore_n 1, 1) := by decide +kernel
theorem d_Mo_take_2 : decode M_Mo_take.2.1 2 = .ok (.iload_n 1, 1) := by decide +kernel
theorem d_Mo_take_3 : decode M_Mo_take.2.1 3 = .ok (.bipush 11, 2) := by decide +kernel
theorem d_Mo_take_5 : decode M_Mo_take.2.1 5 = .ok (.if_icmp .ge 21, 3) := by decide +kernel
theorem d_Mo_take_8 : decode M_Mo_take.2.1 8 = .ok (.aload_n 0, 1) := by decide +kernel
theorem d_Mo_take_9 : decode M_Mo_take.2.1 9 = .ok (.getfield 57, 3) := by decide +kernel
theorem d_Mo_take_12 : decode M_Mo_take.2.1 12 = .ok (.iload_n 1, 1) := by decide +kernel
theorem d_Mo_take_13 : decode M_Mo_take.2.1 13 = .ok (.aload_n 0, 1) := by decide +kernel
theorem d_Mo_take_14 : decode M_Mo_take.2.1 14 = .ok (.getfield 41, 3) := by decide +kernel
theorem d_Mo_take_17 : decode M_Mo_take.2.1 17 = .ok (.iload_n 1, 1) := by decide +kernel
theorem d_Mo_take_18 : decode M_Mo_take.2.1 18 = .ok (.iaload, 1) := by decide +kernel
theorem d_Mo_take_19 : decode M_Mo_take.2.1 19 = .ok (.iastore, 1) := by decide +kernel
theorem d_Mo_take_20 : decode M_Mo_take.2.1 20 = .ok (.iinc 1 1, 3) := by decide +kernel
theorem d_Mo_take_23 : decode M_Mo_take.2.1 23 = .ok (.goto (-21), 3) := by decide +kernel
theorem d_Mo_take_26 : decode M_Mo_take.2.1 26 = .ok (.return_, 1) := by decide +kernel
theorem d_Mo_isOne_0 : decode M_Mo_isOne.2.1 0 = .ok (.iload_n 1, 1) := by decide +kernel
theorem d_Mo_isOne_1 : decode M_Mo_isOne.2.1 1 = .ok (.iconst 0, 1) := by decide +kernel
theorem d_Mo_isOne_2 : decode M_Mo_isOne.2.1 2 = .ok (.aload_n 0, 1) := by decide +kernel
theorem d_Mo_isOne_3 : decode M_Mo_isOne.2.1 3 = .ok (.getfield 17, 3) := by decide +kernel
theorem d_Mo_isOne_6 : decode M_Mo_isOne.2.1 6 = .ok (.iconst 0, 1) := by decide +kernel
theorem d_Mo_isOne_7 : decode M_Mo_isOne.2.1 7 = .ok (.iaload, 1) := by decide +kernel
theorem d_Mo_isOne_8 : decode M_Mo_isOne.2.1 8 = .ok (.iconst 1, 1) := by decide +kernel
theorem d_Mo_isOne_9 : decode M_Mo_isOne.2.1 9 = .ok (.isub, 1) := by decide +kernel
theorem d_Mo_isOne_10 : decode M_Mo_isOne.2.1 10 = .ok (.invokestatic 78, 3) := by decide +kernel
theorem d_Mo_isOne_13 : decode M_Mo_isOne.2.1 13 = .ok (.ireturn, 1) := by decide +kernel
theorem d_Mo_isThought_0 : decode M_Mo_isThought.2.1 0 = .ok (.iload_n 1, 1) := by decide +kernel
theorem d_Mo_isThought_1 : decode M_Mo_isThought.2.1 1 = .ok (.iconst 0, 1) := by decide +kernel
theorem d_Mo_isThought_2 : decode M_Mo_isThought.2.1 2 = .ok (.aload_n 0, 1) := by decide +kernel
theorem d_Mo_isThought_3 : decode M_Mo_isThought.2.1 3 = .ok (.getfield 29, 3) := by decide +kernel
theorem d_Mo_isThought_6 : decode M_Mo_isThought.2.1 6 = .ok (.iconst 0, 1) := by decide +kernel
theorem d_Mo_isThought_7 : decode M_Mo_isThought.2.1 7 = .ok (.iaload, 1) := by decide +kernel
theorem d_Mo_isThought_8 : decode M_Mo_isThought.2.1 8 = .ok (.iconst 1, 1) := by decide +kernel
theorem d_Mo_isThought_9 : decode M_Mo_isThought.2.1 9 = .ok (.isub, 1) := by decide +kernel
theorem d_Mo_isThought_10 : decode M_Mo_isThought.2.1 10 = .ok (.invokestatic 78, 3) := by decide +kernel
theorem d_Mo_isThought_13 : decode M_Mo_isThought.2.1 13 = .ok (.ireturn, 1) := by decide +kernel
theorem d_Mo_hold_0 : decode M_Mo_hold.2.1 0 = .ok (.aload_n 1, 1) := by decide +kernel
theorem d_Mo_hold_1 : decode M_Mo_hold.2.1 1 = .ok (.iconst 3, 1) := by decide +kernel
theorem d_Mo_hold_2 : decode M_Mo_hold.2.1 2 = .ok (.iaload, 1) := by decide +kernel
theorem d_Mo_hold_3 : decode M_Mo_hold.2.1 3 = .ok (.bipush (-9), 2) := by decide +kernel
theorem d_Mo_hold_5 : decode M_Mo_hold.2.1 5 = .ok (.if_icmp .eq 17, 3) := by decide +kernel
theorem d_Mo_hold_8 : decode M_Mo_hold.2.1 8 = .ok (.aload_n 1, 1) := by decide +kernel
theorem d_Mo_hold_9 : decode M_Mo_hold.2.1 9 = .ok (.iconst 5, 1) := by decide +kernel
theorem d_Mo_hold_10 : decode M_Mo_hold.2.1 10 = .ok (.iaload, 1) := by decide +kernel
theorem d_Mo_hold_11 : decode M_Mo_hold.2.1 11 = .ok (.aload_n 0, 1) := by decide +kernel
theorem d_Mo_hold_12 : decode M_Mo_hold.2.1 12 = .ok (.getfield 23, 3) := by decide +kernel
theorem d_Mo_hold_15 : decode M_Mo_hold.2.1 15 = .ok (.aload_n 1, 1) := by decide +kernel
theorem d_Mo_hold_16 : decode M_Mo_hold.2.1 16 = .ok (.iconst 3, 1) := by decide +kernel
theorem d_Mo_hold_17 : decode M_Mo_hold.2.1 17 = .ok (.iaload, 1) := by decide +kernel
theorem d_Mo_hold_18 : decode M_Mo_hold.2.1 18 = .ok (.iaload, 1) := by decide +kernel
theorem d_Mo_hold_19 : decode M_Mo_hold.2.1 19 = .ok (.if_icmp .le 5, 3) := by decide +kernel
theorem d_Mo_hold_22 : decode M_Mo_hold.2.1 22 = .ok (.iconst 0, 1) := by decide +kernel
theorem d_Mo_hold_23 : decode M_Mo_hold.2.1 23 = .ok (.ireturn, 1) := by decide +kernel
theorem d_Mo_hold_24 : decode M_Mo_hold.2.1 24 = .ok (.aload_n 0, 1) := by decide +kernel
theorem d_Mo_hold_25 : decode M_Mo_hold.2.1 25 = .ok (.getfield 32, 3) := by decide +kernel
theorem d_Mo_hold_28 : decode M_Mo_hold.2.1 28 = .ok (.aload_n 1, 1) := by decide +kernel
theorem d_Mo_hold_29 : decode M_Mo_hold.2.1 29 = .ok (.iconst 4, 1) := by decide +kernel
theorem d_Mo_hold_30 : decode M_Mo_hold.2.1 30 = .ok (.iaload, 1) := by decide +kernel
theorem d_Mo_hold_31 : decode M_Mo_hold.2.1 31 = .ok (.iaload, 1) := by decide +kernel
theorem d_Mo_hold_32 : decode M_Mo_hold.2.1 32 = .ok (.aload_n 1, 1) := by decide +kernel
theorem d_Mo_hold_33 : decode M_Mo_hold.2.1 33 = .ok (.iconst 5, 1) := by decide +kernel
theorem d_Mo_hold_34 : decode M_Mo_hold.2.1 34 = .ok (.iaload, 1) := by decide +kernel
theorem d_Mo_hold_35 : decode M_Mo_hold.2.1 35 = .ok (.aload_n 0, 1) := by decide +kernel
theorem d_Mo_hold_36 : decode M_Mo_hold.2.1 36 = .ok (.getfield 35, 3) := by decide +kernel
theorem d_Mo_hold_39 : decode M_Mo_hold.2.1 39 = .ok (.aload_n 1, 1) := by decide +kernel
theorem d_Mo_hold_40 : decode M_Mo_hold.2.1 40 = .ok (.iconst 4, 1) := by decide +kernel
theorem d_Mo_hold_41 : decode M_Mo_hold.2.1 41 = .ok (.iaload, 1) := by decide +kernel
theorem d_Mo_hold_42 : decode M_Mo_hold.2.1 42 = .ok (.iaload, 1) := by decide +kernel
theorem d_Mo_hold_43 : decode M_Mo_hold.2.1 43 = .ok (.imul, 1) := by decide +kernel
theorem d_Mo_hold_44 : decode M_Mo_hold.2.1 44 = .ok (.isub, 1) := by decide +kernel
theorem d_Mo_hold_45 : decode M_Mo_hold.2.1 45 = .ok (.istore_n 2, 1) := by decide +kernel
theorem d_Mo_hold_46 : decode M_Mo_hold.2.1 46 = .ok (.iload_n 2, 1) := by decide +kernel
theorem d_Mo_hold_47 : decode M_Mo_hold.2.1 47 = .ok (.ifCond .ge 7, 3) := by decide +kernel
theorem d_Mo_hold_50 : decode M_Mo_hold.2.1 50 = .ok (.iconst 0, 1) := by decide +kernel
theorem d_Mo_hold_51 : decode M_Mo_hold.2.1 51 = .ok (.goto 4, 3) := by decide +kernel
theorem d_Mo_hold_54 : decode M_Mo_hold.2.1 54 = .ok (.iload_n 2, 1) := by decide +kernel
theorem d_Mo_hold_55 : decode M_Mo_hold.2.1 55 = .ok (.ireturn, 1) := by decide +kernel
theorem d_Mo_weights_0 : decode M_Mo_weights.2.1 0 = .ok (.iconst 0, 1) := by decide +kernel
theorem d_Mo_weights_1 : decode M_Mo_weights.2.1 1 = .ok (.istore_n 2, 1) := by decide +kernel
theorem d_Mo_weights_2 : decode M_Mo_weights.2.1 2 = .ok (.iconst 0, 1) := by decide +kernel
theorem d_Mo_weights_3 : decode M_Mo_weights.2.1 3 = .ok (.istore_n 3, 1) := by decide +kernel
theorem d_Mo_weights_4 : decode M_Mo_weights.2.1 4 = .ok (.iload_n 3, 1) := by decide +kernel
theorem d_Mo_weights_5 : decode M_Mo_weights.2.1 5 = .ok (.aload_n 0, 1) := by decide +kernel
theorem d_Mo_weights_6 : decode M_Mo_weights.2.1 6 = .ok (.getfield 17, 3) := by decide +kernel
theorem d_Mo_weights_9 : decode M_Mo_weights.2.1 9 = .ok (.iconst 0, 1) := by decide +kernel
theorem d_Mo_weights_10 : decode M_Mo_weights.2.1 10 = .ok (.iaload, 1) := by decide +kernel
theorem d_Mo_weights_11 : decode M_Mo_weights.2.1 11 = .ok (.if_icmp .ge 33, 3) := by decide +kernel
theorem d_Mo_weights_14 : decode M_Mo_weights.2.1 14 = .ok (.iload_n 2, 1) := by decide +kernel
theorem d_Mo_weights_15 : decode M_Mo_weights.2.1 15 = .ok (.aload_n 1, 1) := by decide +kernel
theorem d_Mo_weights_16 : decode M_Mo_weights.2.1 16 = .ok (.bipush 6, 2) := by decide +kernel
theorem d_Mo_weights_18 : decode M_Mo_weights.2.1 18 = .ok (.iaload, 1) := by decide +kernel
theorem d_Mo_weights_19 : decode M_Mo_weights.2.1 19 = .ok (.iload_n 3, 1) := by decide +kernel
theorem d_Mo_weights_20 : decode M_Mo_weights.2.1 20 = .ok (.invokestatic 140, 3) := by decide +kernel
theorem d_Mo_weights_23 : decode M_Mo_weights.2.1 23 = .ok (.ifCond .eq 12, 3) := by decide +kernel
theorem d_Mo_weights_26 : decode M_Mo_weights.2.1 26 = .ok (.aload_n 0, 1) := by decide +kernel
theorem d_Mo_weights_27 : decode M_Mo_weights.2.1 27 = .ok (.getfield 20, 3) := by decide +kernel
theorem d_Mo_weights_30 : decode M_Mo_weights.2.1 30 = .ok (.iload_n 3, 1) := by decide +kernel
theorem d_Mo_weights_31 : decode M_Mo_weights.2.1 31 = .ok (.iaload, 1) := by decide +kernel
theorem d_Mo_weights_32 : decode M_Mo_weights.2.1 32 = .ok (.goto 4, 3) := by decide +kernel
theorem d_Mo_weights_35 : decode M_Mo_weights.2.1 35 = .ok (.iconst 0, 1) := by decide +kernel
theorem d_Mo_weights_36 : decode M_Mo_weights.2.1 36 = .ok (.iadd, 1) := by decide +kernel
theorem d_Mo_weights_37 : decode M_Mo_weights.2.1 37 = .ok (.istore_n 2, 1) := by decide +kernel
theorem d_Mo_weights_38 : decode M_Mo_weights.2.1 38 = .ok (.iinc 3 1, 3) := by decide +kernel
theorem d_Mo_weights_41 : decode M_Mo_weights.2.1 41 = .ok (.goto (-37), 3) := by decide +kernel
theorem d_Mo_weights_44 : decode M_Mo_weights.2.1 44 = .ok (.iload_n 2, 1) := by decide +kernel
theorem d_Mo_weights_45 : decode M_Mo_weights.2.1 45 = .ok (.ireturn, 1) := by decide +kernel
theorem d_Mo_passOn_0 : decode M_Mo_passOn.2.1 0 = .ok (.aload_n 1, 1) := by decide +kernel
theorem d_Mo_passOn_1 : decode M_Mo_passOn.2.1 1 = .ok (.iconst 0, 1) := by decide +kernel
theorem d_Mo_passOn_2 : decode M_Mo_passOn.2.1 2 = .ok (.dup2, 1) := by decide +kernel
theorem d_Mo_passOn_3 : decode M_Mo_passOn.2.1 3 = .ok (.iaload, 1) := by decide +kernel
theorem d_Mo_passOn_4 : decode M_Mo_passOn.2.1 4 = .ok (.iconst 1, 1) := by decide +kernel
theorem d_Mo_passOn_5 : decode M_Mo_passOn.2.1 5 = .ok (.iadd, 1) := by decide +kernel
theorem d_Mo_passOn_6 : decode M_Mo_passOn.2.1 6 = .ok (.iastore, 1) := by decide +kernel
theorem d_Mo_passOn_7 : decode M_Mo_passOn.2.1 7 = .ok (.aload_n 1, 1) := by decide +kernel
theorem d_Mo_passOn_8 : decode M_Mo_passOn.2.1 8 = .ok (.iconst 5, 1) := by decide +kernel
theorem d_Mo_passOn_9 : decode M_Mo_passOn.2.1 9 = .ok (.dup2, 1) := by decide +kernel
theorem d_Mo_passOn_10 : decode M_Mo_passOn.2.1 10 = .ok (.iaload, 1) := by decide +kernel
theorem d_Mo_passOn_11 : decode M_Mo_passOn.2.1 11 = .ok (.iconst 1, 1) := by decide +kernel
theorem d_Mo_passOn_12 : decode M_Mo_passOn.2.1 12 = .ok (.iadd, 1) := by decide +kernel
theorem d_Mo_passOn_13 : decode M_Mo_passOn.2.1 13 = .ok (.iastore, 1) := by decide +kernel
theorem d_Mo_passOn_14 : decode M_Mo_passOn.2.1 14 = .ok (.aload_n 1, 1) := by decide +kernel
theorem d_Mo_passOn_15 : decode M_Mo_passOn.2.1 15 = .ok (.bipush 10, 2) := by decide +kernel
theorem d_Mo_passOn_17 : decode M_Mo_passOn.2.1 17 = .ok (.iaload, 1) := by decide +kernel
theorem d_Mo_passOn_18 : decode M_Mo_passOn.2.1 18 = .ok (.iconst 1, 1) := by decide +kernel
theorem d_Mo_passOn_19 : decode M_Mo_passOn.2.1 19 = .ok (.if_icmp .ne 4, 3) := by decide +kernel
theorem d_Mo_passOn_22 : decode M_Mo_passOn.2.1 22 = .ok (.return_, 1) := by decide +kernel
theorem d_Mo_passOn_23 : decode M_Mo_passOn.2.1 23 = .ok (.aload_n 0, 1) := by decide +kernel
theorem d_Mo_passOn_24 : decode M_Mo_passOn.2.1 24 = .ok (.aload_n 1, 1) := by decide +kernel
theorem d_Mo_passOn_25 : decode M_Mo_passOn.2.1 25 = .ok (.invokevirtual 144, 3) := by decide +kernel
theorem d_Mo_passOn_28 : decode M_Mo_passOn.2.1 28 = .ok (.aload_n 0, 1) := by decide +kernel
theorem d_Mo_passOn_29 : decode M_Mo_passOn.2.1 29 = .ok (.aload_n 1, 1) := by decide +kernel
theorem d_Mo_passOn_30 : decode M_Mo_passOn.2.1 30 = .ok (.invokevirtual 148, 3) := by decide +kernel
theorem d_Mo_passOn_33 : decode M_Mo_passOn.2.1 33 = .ok (.isub, 1) := by decide +kernel
theorem d_Mo_passOn_34 : decode M_Mo_passOn.2.1 34 = .ok (.istore_n 2, 1) := by decide +kernel
theorem d_Mo_passOn_35 : decode M_Mo_passOn.2.1 35 = .ok (.iload_n 2, 1) := by decide +kernel
theorem d_Mo_passOn_36 : decode M_Mo_passOn.2.1 36 = .ok (.ifCond .le 18, 3) := by decide +kernel
theorem d_Mo_passOn_39 : decode M_Mo_passOn.2.1 39 = .ok (.aload_n 1, 1) := by decide +kernel
theorem d_Mo_passOn_40 : decode M_Mo_passOn.2.1 40 = .ok (.iconst 2, 1) := by decide +kernel
theorem d_Mo_passOn_41 : decode M_Mo_passOn.2.1 41 = .ok (.iaload, 1) := by decide +kernel
theorem d_Mo_passOn_42 : decode M_Mo_passOn.2.1 42 = .ok (.bipush 9, 2) := by decide +kernel
theorem d_Mo_passOn_44 : decode M_Mo_passOn.2.1 44 = .ok (.if_icmp .ge 10, 3) := by decide +kernel
theorem d_Mo_passOn_47 : decode M_Mo_passOn.2.1 47 = .ok (.aload_n 1, 1) := by decide +kernel
theorem d_Mo_passOn_48 : decode M_Mo_passOn.2.1 48 = .ok (.iconst 2, 1) := by decide +kernel
theorem d_Mo_passOn_49 : decode M_Mo_passOn.2.1 49 = .ok (.dup2, 1) := by decide +kernel
theorem d_Mo_passOn_50 : decode M_Mo_passOn.2.1 50 = .ok (.iaload, 1) := by decide +kernel
theorem d_Mo_passOn_51 : decode M_Mo_passOn.2.1 51 = .ok (.iconst 1, 1) := by decide +kernel
theorem d_Mo_passOn_52 : decode M_Mo_passOn.2.1 52 = .ok (.iadd, 1) := by decide +kernel
theorem d_Mo_passOn_53 : decode M_Mo_passOn.2.1 53 = .ok (.iastore, 1) := by decide +kernel
theorem d_Mo_passOn_54 : decode M_Mo_passOn.2.1 54 = .ok (.iload_n 2, 1) := by decide +kernel
theorem d_Mo_passOn_55 : decode M_Mo_passOn.2.1 55 = .ok (.ifCond .ge 16, 3) := by decide +kernel
theorem d_Mo_passOn_58 : decode M_Mo_passOn.2.1 58 = .ok (.aload_n 1, 1) := by decide +kernel
theorem d_Mo_passOn_59 : decode M_Mo_passOn.2.1 59 = .ok (.iconst 2, 1) := by decide +kernel
theorem d_Mo_passOn_60 : decode M_Mo_passOn.2.1 60 = .ok (.iaload, 1) := by decide +kernel
theorem d_Mo_passOn_61 : decode M_Mo_passOn.2.1 61 = .ok (.ifCond .le 10, 3) := by decide +kernel
theorem d_Mo_passOn_64 : decode M_Mo_passOn.2.1 64 = .ok (.aload_n 1, 1) := by decide +kernel
theorem d_Mo_passOn_65 : decode M_Mo_passOn.2.1 65 = .ok (.iconst 2, 1) := by decide +kernel
theorem d_Mo_passOn_66 : decode M_Mo_passOn.2.1 66 = .ok (.dup2, 1) := by decide +kernel
theorem d_Mo_passOn_67 : decode M_Mo_passOn.2.1 67 = .ok (.iaload, 1) := by decide +kernel
theorem d_Mo_passOn_68 : decode M_Mo_passOn.2.1 68 = .ok (.iconst 1, 1) := by decide +kernel
theorem d_Mo_passOn_69 : decode M_Mo_passOn.2.1 69 = .ok (.isub, 1) := by decide +kernel
theorem d_Mo_passOn_70 : decode M_Mo_passOn.2.1 70 = .ok (.iastore, 1) := by decide +kernel
theorem d_Mo_passOn_71 : decode M_Mo_passOn.2.1 71 = .ok (.aload_n 1, 1) := by decide +kernel
theorem d_Mo_passOn_72 : decode M_Mo_passOn.2.1 72 = .ok (.iconst 1, 1) := by decide +kernel
theorem d_Mo_passOn_73 : decode M_Mo_passOn.2.1 73 = .ok (.iaload, 1) := by decide +kernel
theorem d_Mo_passOn_74 : decode M_Mo_passOn.2.1 74 = .ok (.aload_n 1, 1) := by decide +kernel
theorem d_Mo_passOn_75 : decode M_Mo_passOn.2.1 75 = .ok (.iconst 2, 1) := by decide +kernel
theorem d_Mo_passOn_76 : decode M_Mo_passOn.2.1 76 = .ok (.iaload, 1) := by decide +kernel
theorem d_Mo_passOn_77 : decode M_Mo_passOn.2.1 77 = .ok (.ifCond .ne 7, 3) := by decide +kernel
theorem d_Mo_passOn_80 : decode M_Mo_passOn.2.1 80 = .ok (.iconst 0, 1) := by decide +kernel
theorem d_Mo_passOn_81 : decode M_Mo_passOn.2.1 81 = .ok (.goto 11, 3) := by decide +kernel
theorem d_Mo_passOn_84 : decode M_Mo_passOn.2.1 84 = .ok (.aload_n 0, 1) := by decide +kernel
theorem d_Mo_passOn_85 : decode M_Mo_passOn.2.1 85 = .ok (.getfield 13, 3) := by decide +kernel
theorem d_Mo_passOn_88 : decode M_Mo_passOn.2.1 88 = .ok (.aload_n 1, 1) := by decide +kernel
theorem d_Mo_passOn_89 : decode M_Mo_passOn.2.1 89 = .ok (.iconst 2, 1) := by decide +kernel
theorem d_Mo_passOn_90 : decode M_Mo_passOn.2.1 90 = .ok (.iaload, 1) := by decide +kernel
theorem d_Mo_passOn_91 : decode M_Mo_passOn.2.1 91 = .ok (.iaload, 1) := by decide +kernel
theorem d_Mo_passOn_92 : decode M_Mo_passOn.2.1 92 = .ok (.iadd, 1) := by decide +kernel
theorem d_Mo_passOn_93 : decode M_Mo_passOn.2.1 93 = .ok (.istore_n 3, 1) := by decide +kernel
theorem d_Mo_passOn_94 : decode M_Mo_passOn.2.1 94 = .ok (.aload_n 1, 1) := by decide +kernel
theorem d_Mo_passOn_95 : decode M_Mo_passOn.2.1 95 = .ok (.bipush 10, 2) := by decide +kernel
theorem d_Mo_passOn_97 : decode M_Mo_passOn.2.1 97 = .ok (.iload_n 3, 1) := by decide +kernel
theorem d_Mo_passOn_98 : decode M_Mo_passOn.2.1 98 = .ok (.iconst 0, 1) := by decide +kernel
theorem d_Mo_passOn_99 : decode M_Mo_passOn.2.1 99 = .ok (.bipush 40, 2) := by decide +kernel
theorem d_Mo_passOn_101 : decode M_Mo_passOn.2.1 101 = .ok (.invokestatic 78, 3) := by decide +kernel
theorem d_Mo_passOn_104 : decode M_Mo_passOn.2.1 104 = .ok (.ifCond .eq 7, 3) := by decide +kernel
theorem d_Mo_passOn_107 : decode M_Mo_passOn.2.1 107 = .ok (.iconst 0, 1) := by decide +kernel
theorem d_Mo_passOn_108 : decode M_Mo_passOn.2.1 108 = .ok (.goto 4, 3) := by decide +kernel
theorem d_Mo_passOn_111 : decode M_Mo_passOn.2.1 111 = .ok (.iconst 1, 1) := by decide +kernel
theorem d_Mo_passOn_112 : decode M_Mo_passOn.2.1 112 = .ok (.iastore, 1) := by decide +kernel
theorem d_Mo_passOn_113 : decode M_Mo_passOn.2.1 113 = .ok (.aload_n 1, 1) := by decide +kernel
theorem d_Mo_passOn_114 : decode M_Mo_passOn.2.1 114 = .ok (.iconst 1, 1) := by decide +kernel
theorem d_Mo_passOn_115 : decode M_Mo_passOn.2.1 115 = .ok (.iload_n 3, 1) := by decide +kernel
theorem d_Mo_passOn_116 : decode M_Mo_passOn.2.1 116 = .ok (.ifCond .ge 7, 3) := by decide +kernel
theorem d_Mo_passOn_119 : decode M_Mo_passOn.2.1 119 = .ok (.iconst 0, 1) := by decide +kernel
theorem d_Mo_passOn_120 : decode M_Mo_passOn.2.1 120 = .ok (.goto 15, 3) := by decide +kernel
theorem d_Mo_passOn_123 : decode M_Mo_passOn.2.1 123 = .ok (.iload_n 3, 1) := by decide +kernel
theorem d_Mo_passOn_124 : decode M_Mo_passOn.2.1 124 = .ok (.bipush 40, 2) := by decide +kernel
theorem d_Mo_passOn_126 : decode M_Mo_passOn.2.1 126 = .ok (.if_icmp .le 8, 3) := by decide +kernel
theorem d_Mo_passOn_129 : decode M_Mo_passOn.2.1 129 = .ok (.bipush 40, 2) := by decide +kernel
theorem d_Mo_passOn_131 : decode M_Mo_passOn.2.1 131 = .ok (.goto 4, 3) := by decide +kernel
theorem d_Mo_passOn_134 : decode M_Mo_passOn.2.1 134 = .ok (.iload_n 3, 1) := by decide +kernel
theorem d_Mo_passOn_135 : decode M_Mo_passOn.2.1 135 = .ok (.iastore, 1) := by decide +kernel
theorem d_Mo_passOn_136 : decode M_Mo_passOn.2.1 136 = .ok (.return_, 1) := by decide +kernel
theorem d_Mo_begin_0 : decode M_Mo_begin.2.1 0 = .ok (.aload_n 0, 1) := by decide +kernel
theorem d_Mo_begin_1 : decode M_Mo_begin.2.1 1 = .ok (.iconst 3, 1) := by decide +kernel
theorem d_Mo_begin_2 : decode M_Mo_begin.2.1 2 = .ok (.iload_n 1, 1) := by decide +kernel
theorem d_Mo_begin_3 : decode M_Mo_begin.2.1 3 = .ok (.iastore, 1) := by decide +kernel
theorem d_Mo_begin_4 : decode M_Mo_begin.2.1 4 = .ok (.aload_n 0, 1) := by decide +kernel
theorem d_Mo_begin_5 : decode M_Mo_begin.2.1 5 = .ok (.iconst 4, 1) := by decide +kernel
theorem d_Mo_begin_6 : decode M_Mo_begin.2.1 6 = .ok (.iload_n 2, 1) := by decide +kernel
theorem d_Mo_begin_7 : decode M_Mo_begin.2.1 7 = .ok (.iastore, 1) := by decide +kernel
theorem d_Mo_begin_8 : decode M_Mo_begin.2.1 8 = .ok (.aload_n 0, 1) := by decide +kernel
theorem d_Mo_begin_9 : decode M_Mo_begin.2.1 9 = .ok (.iconst 5, 1) := by decide +kernel
theorem d_Mo_begin_10 : decode M_Mo_begin.2.1 10 = .ok (.iconst 0, 1) := by decide +kernel
theorem d_Mo_begin_11 : decode M_Mo_begin.2.1 11 = .ok (.iastore, 1) := by decide +kernel
theorem d_Mo_begin_12 : decode M_Mo_begin.2.1 12 = .ok (.aload_n 0, 1) := by decide +kernel
theorem d_Mo_begin_13 : decode M_Mo_begin.2.1 13 = .ok (.bipush 7, 2) := by decide +kernel
theorem d_Mo_begin_15 : decode M_Mo_begin.2.1 15 = .ok (.iload_n 1, 1) := by decide +kernel
theorem d_Mo_begin_16 : decode M_Mo_begin.2.1 16 = .ok (.iadd, 1) := by decide +kernel
theorem d_Mo_begin_17 : decode M_Mo_begin.2.1 17 = .ok (.dup2, 1) := by decide +kernel
theorem d_Mo_begin_18 : decode M_Mo_begin.2.1 18 = .ok (.iaload, 1) := by decide +kernel
theorem d_Mo_begin_19 : decode M_Mo_begin.2.1 19 = .ok (.iconst 1, 1) := by decide +kernel
theorem d_Mo_begin_20 : decode M_Mo_begin.2.1 20 = .ok (.iload_n 2, 1) := by decide +kernel
theorem d_Mo_begin_21 : decode M_Mo_begin.2.1 21 = .ok (.ishl, 1) := by decide +kernel
theorem d_Mo_begin_22 : decode M_Mo_begin.2.1 22 = .ok (.ior, 1) := by decide +kernel
theorem d_Mo_begin_23 : decode M_Mo_begin.2.1 23 = .ok (.iastore, 1) := by decide +kernel
theorem d_Mo_begin_24 : decode M_Mo_begin.2.1 24 = .ok (.return_, 1) := by decide +kernel
theorem d_Mo_canBegin_0 : decode M_Mo_canBegin.2.1 0 = .ok (.aload_n 0, 1) := by decide +kernel
theorem d_Mo_canBegin_1 : decode M_Mo_canBegin.2.1 1 = .ok (.bipush 6, 2) := by decide +kernel
theorem d_Mo_canBegin_3 : decode M_Mo_canBegin.2.1 3 = .ok (.iaload, 1) := by decide +kernel
theorem d_Mo_canBegin_4 : decode M_Mo_canBegin.2.1 4 = .ok (.iload_n 1, 1) := by decide +kernel
theorem d_Mo_canBegin_5 : decode M_Mo_canBegin.2.1 5 = .ok (.invokestatic 140, 3) := by decide +kernel
theorem d_Mo_canBegin_8 : decode M_Mo_canBegin.2.1 8 = .ok (.ifCond .eq 27, 3) := by decide +kernel
theorem d_Mo_canBegin_11 : decode M_Mo_canBegin.2.1 11 = .ok (.aload_n 0, 1) := by decide +kernel
theorem d_Mo_canBegin_12 : decode M_Mo_canBegin.2.1 12 = .ok (.bipush 7, 2) := by decide +kernel
theorem d_Mo_canBegin_14 : decode M_Mo_canBegin.2.1 14 = .ok (.iload_n 1, 1) := by decide +kernel
theorem d_Mo_canBegin_15 : decode M_Mo_canBegin.2.1 15 = .ok (.iadd, 1) := by decide +kernel
theorem d_Mo_canBegin_16 : decode M_Mo_canBegin.2.1 16 = .ok (.iaload, 1) := by decide +kernel
theorem d_Mo_canBegin_17 : decode M_Mo_canBegin.2.1 17 = .ok (.iload_n 2, 1) := by decide +kernel
theorem d_Mo_canBegin_18 : decode M_Mo_canBegin.2.1 18 = .ok (.invokestatic 140, 3) := by decide +kernel
theorem d_Mo_canBegin_21 : decode M_Mo_canBegin.2.1 21 = .ok (.ifCond .ne 14, 3) := by decide +kernel
theorem d_Mo_canBegin_24 : decode M_Mo_canBegin.2.1 24 = .ok (.aload_n 0, 1) := by decide +kernel
theorem d_Mo_canBegin_25 : decode M_Mo_canBegin.2.1 25 = .ok (.bipush 10, 2) := by decide +kernel
theorem d_Mo_canBegin_27 : decode M_Mo_canBegin.2.1 27 = .ok (.iaload, 1) := by decide +kernel
theorem d_Mo_canBegin_28 : decode M_Mo_canBegin.2.1 28 = .ok (.ifCond .ne 7, 3) := by decide +kernel
theorem d_Mo_canBegin_31 : decode M_Mo_canBegin.2.1 31 = .ok (.iconst 1, 1) := by decide +kernel
theorem d_Mo_canBegin_32 : decode M_Mo_canBegin.2.1 32 = .ok (.goto 4, 3) := by decide +kernel
theorem d_Mo_canBegin_35 : decode M_Mo_canBegin.2.1 35 = .ok (.iconst 0, 1) := by decide +kernel
theorem d_Mo_canBegin_36 : decode M_Mo_canBegin.2.1 36 = .ok (.ireturn, 1) := by decide +kernel
theorem d_Mo_liftsOf_0 : decode M_Mo_liftsOf.2.1 0 = .ok (.iconst 0, 1) := by decide +kernel
theorem d_Mo_liftsOf_1 : decode M_Mo_liftsOf.2.1 1 = .ok (.istore_n 2, 1) := by decide +kernel
theorem d_Mo_liftsOf_2 : decode M_Mo_liftsOf.2.1 2 = .ok (.iconst 0, 1) := by decide +kernel
theorem d_Mo_liftsOf_3 : decode M_Mo_liftsOf.2.1 3 = .ok (.istore_n 3, 1) := by decide +kernel
theorem d_Mo_liftsOf_4 : decode M_Mo_liftsOf.2.1 4 = .ok (.iload_n 3, 1) := by decide +kernel
theorem d_Mo_liftsOf_5 : decode M_Mo_liftsOf.2.1 5 = .ok (.aload_n 0, 1) := by decide +kernel
theorem d_Mo_liftsOf_6 : decode M_Mo_liftsOf.2.1 6 = .ok (.getfield 29, 3) := by decide +kernel
theorem d_Mo_liftsOf_9 : decode M_Mo_liftsOf.2.1 9 = .ok (.iconst 0, 1) := by decide +kernel
theorem d_Mo_liftsOf_10 : decode M_Mo_liftsOf.2.1 10 = .ok (.iaload, 1) := by decide +kernel
theorem d_Mo_liftsOf_11 : decode M_Mo_liftsOf.2.1 11 = .ok (.if_icmp .ge 34, 3) := by decide +kernel
theorem d_Mo_liftsOf_14 : decode M_Mo_liftsOf.2.1 14 = .ok (.iload_n 2, 1) := by decide +kernel
theorem d_Mo_liftsOf_15 : decode M_Mo_liftsOf.2.1 15 = .ok (.aload_n 0, 1) := by decide +kernel
theorem d_Mo_liftsOf_16 : decode M_Mo_liftsOf.2.1 16 = .ok (.getfield 32, 3) := by decide +kernel
theorem d_Mo_liftsOf_19 : decode M_Mo_liftsOf.2.1 19 = .ok (.iload_n 3, 1) := by decide +kernel
theorem d_Mo_liftsOf_20 : decode M_Mo_liftsOf.2.1 20 = .ok (.iaload, 1) := by decide +kernel
theorem d_Mo_liftsOf_21 : decode M_Mo_liftsOf.2.1 21 = .ok (.aload_n 0, 1) := by decide +kernel
theorem d_Mo_liftsOf_22 : decode M_Mo_liftsOf.2.1 22 = .ok (.getfield 20, 3) := by decide +kernel
theorem d_Mo_liftsOf_25 : decode M_Mo_liftsOf.2.1 25 = .ok (.iload_n 1, 1) := by decide +kernel
theorem d_Mo_liftsOf_26 : decode M_Mo_liftsOf.2.1 26 = .ok (.iaload, 1) := by decide +kernel
theorem d_Mo_liftsOf_27 : decode M_Mo_liftsOf.2.1 27 = .ok (.if_icmp .le 9, 3) := by decide +kernel
theorem d_Mo_liftsOf_30 : decode M_Mo_liftsOf.2.1 30 = .ok (.iconst 1, 1) := by decide +kernel
theorem d_Mo_liftsOf_31 : decode M_Mo_liftsOf.2.1 31 = .ok (.iload_n 3, 1) := by decide +kernel
theorem d_Mo_liftsOf_32 : decode M_Mo_liftsOf.2.1 32 = .ok (.ishl, 1) := by decide +kernel
theorem d_Mo_liftsOf_33 : decode M_Mo_liftsOf.2.1 33 = .ok (.goto 4, 3) := by decide +kernel
theorem d_Mo_liftsOf_36 : decode M_Mo_liftsOf.2.1 36 = .ok (.iconst 0, 1) := by decide +kernel
theorem d_Mo_liftsOf_37 : decode M_Mo_liftsOf.2.1 37 = .ok (.ior, 1) := by decide +kernel
theorem d_Mo_liftsOf_38 : decode M_Mo_liftsOf.2.1 38 = .ok (.istore_n 2, 1) := by decide +kernel
theorem d_Mo_liftsOf_39 : decode M_Mo_liftsOf.2.1 39 = .ok (.iinc 3 1, 3) := by decide +kernel
theorem d_Mo_liftsOf_42 : decode M_Mo_liftsOf.2.1 42 = .ok (.goto (-38), 3) := by decide +kernel
theorem d_Mo_liftsOf_45 : decode M_Mo_liftsOf.2.1 45 = .ok (.iload_n 2, 1) := by decide +kernel
theorem d_Mo_liftsOf_46 : decode M_Mo_liftsOf.2.1 46 = .ok (.ireturn, 1) := by decide +kernel
theorem d_Mo_wind_0 : decode M_Mo_wind.2.1 0 = .ok (.iload_n 1, 1) := by decide +kernel
theorem d_Mo_wind_1 : decode M_Mo_wind.2.1 1 = .ok (.iconst 0, 1) := by decide +kernel
theorem d_Mo_wind_2 : decode M_Mo_wind.2.1 2 = .ok (.bipush 9, 2) := by decide +kernel
theorem d_Mo_wind_4 : decode M_Mo_wind.2.1 4 = .ok (.invokestatic 78, 3) := by decide +kernel
theorem d_Mo_wind_7 : decode M_Mo_wind.2.1 7 = .ok (.ifCond .eq 20, 3) := by decide +kernel
theorem d_Mo_wind_10 : decode M_Mo_wind.2.1 10 = .ok (.iload_n 1, 1) := by decide +kernel
theorem d_Mo_wind_11 : decode M_Mo_wind.2.1 11 = .ok (.ifCond .ne 7, 3) := by decide +kernel
theorem d_Mo_wind_14 : decode M_Mo_wind.2.1 14 = .ok (.iconst 0, 1) := by decide +kernel
theorem d_Mo_wind_15 : decode M_Mo_wind.2.1 15 = .ok (.goto 14, 3) := by decide +kernel
theorem d_Mo_wind_18 : decode M_Mo_wind.2.1 18 = .ok (.aload_n 0, 1) := by decide +kernel
theorem d_Mo_wind_19 : decode M_Mo_wind.2.1 19 = .ok (.getfield 13, 3) := by decide +kernel
theorem d_Mo_wind_22 : decode M_Mo_wind.2.1 22 = .ok (.iload_n 1, 1) := by decide +kernel
theorem d_Mo_wind_23 : decode M_Mo_wind.2.1 23 = .ok (.iaload, 1) := by decide +kernel
theorem d_Mo_wind_24 : decode M_Mo_wind.2.1 24 = .ok (.goto 5, 3) := by decide +kernel
theorem d_Mo_wind_27 : decode M_Mo_wind.2.1 27 = .ok (.ldc 151, 2) := by decide +kernel
theorem d_Mo_wind_29 : decode M_Mo_wind.2.1 29 = .ok (.ireturn, 1) := by decide +kernel
theorem d_Mo_one_0 : decode M_Mo_one.2.1 0 = .ok (.aload_n 0, 1) := by decide +kernel
theorem d_Mo_one_1 : decode M_Mo_one.2.1 1 = .ok (.iload_n 1, 1) := by decide +kernel
theorem d_Mo_one_2 : decode M_Mo_one.2.1 2 = .ok (.invokevirtual 152, 3) := by decide +kernel
theorem d_Mo_one_5 : decode M_Mo_one.2.1 5 = .ok (.ifCond .ne 5, 3) := by decide +kernel
theorem d_Mo_one_8 : decode M_Mo_one.2.1 8 = .ok (.iconst (-1), 1) := by decide +kernel
theorem d_Mo_one_9 : decode M_Mo_one.2.1 9 = .ok (.ireturn, 1) := by decide +kernel
theorem d_Mo_one_10 : decode M_Mo_one.2.1 10 = .ok (.iload_n 2, 1) := by decide +kernel
theorem d_Mo_one_11 : decode M_Mo_one.2.1 11 = .ok (.tableswitch 83 0 4 #[33, 40, 47, 67, 77], 33) := by decide +kernel
theorem d_Mo_one_44 : decode M_Mo_one.2.1 44 = .ok (.aload_n 0, 1) := by decide +kernel
theorem d_Mo_one_45 : decode M_Mo_one.2.1 45 = .ok (.getfield 20, 3) := by decide +kernel
theorem d_Mo_one_48 : decode M_Mo_one.2.1 48 = .ok (.iload_n 1, 1) := by decide +kernel
theorem d_Mo_one_49 : decode M_Mo_one.2.1 49 = .ok (.iaload, 1) := by decide +kernel
theorem d_Mo_one_50 : decode M_Mo_one.2.1 50 = .ok (.ireturn, 1) := by decide +kernel
theorem d_Mo_one_51 : decode M_Mo_one.2.1 51 = .ok (.aload_n 0, 1) := by decide +kernel
theorem d_Mo_one_52 : decode M_Mo_one.2.1 52 = .ok (.getfield 23, 3) := by decide +kernel
theorem d_Mo_one_55 : decode M_Mo_one.2.1 55 = .ok (.iload_n 1, 1) := by decide +kernel
theorem d_Mo_one_56 : decode M_Mo_one.2.1 56 = .ok (.iaload, 1) := by decide +kernel
theorem d_Mo_one_57 : decode M_Mo_one.2.1 57 = .ok (.ireturn, 1) := by decide +kernel
theorem d_Mo_one_58 : decode M_Mo_one.2.1 58 = .ok (.aload_n 0, 1) := by decide +kernel
theorem d_Mo_one_59 : decode M_Mo_one.2.1 59 = .ok (.getfield 41, 3) := by decide +kernel
theorem d_Mo_one_62 : decode M_Mo_one.2.1 62 = .ok (.bipush 6, 2) := by decide +kernel
theorem d_Mo_one_64 : decode M_Mo_one.2.1 64 = .ok (.iaload, 1) := by decide +kernel
theorem d_Mo_one_65 : decode M_Mo_one.2.1 65 = .ok (.iload_n 1, 1) := by decide +kernel
theorem d_Mo_one_66 : decode M_Mo_one.2.1 66 = .ok (.invokestatic 140, 3) := by decide +kernel
theorem d_Mo_one_69 : decode M_Mo_one.2.1 69 = .ok (.ifCond .eq 7, 3) := by decide +kernel
theorem d_Mo_one_72 : decode M_Mo_one.2.1 72 = .ok (.iconst 1, 1) := by decide +kernel
theorem d_Mo_one_73 : decode M_Mo_one.2.1 73 = .ok (.goto 4, 3) := by decide +kernel
theorem d_Mo_one_76 : decode M_Mo_one.2.1 76 = .ok (.iconst 0, 1) := by decide +kernel
theorem d_Mo_one_77 : decode M_Mo_one.2.1 77 = .ok (.ireturn, 1) := by decide +kernel
theorem d_Mo_one_78 : decode M_Mo_one.2.1 78 = .ok (.aload_n 0, 1) := by decide +kernel
theorem d_Mo_one_79 : decode M_Mo_one.2.1 79 = .ok (.getfield 41, 3) := by decide +kernel
theorem d_Mo_one_82 : decode M_Mo_one.2.1 82 = .ok (.bipush 7, 2) := by decide +kernel
theorem d_Mo_one_84 : decode M_Mo_one.2.1 84 = .ok (.iload_n 1, 1) := by decide +kernel
theorem d_Mo_one_85 : decode M_Mo_one.2.1 85 = .ok (.iadd, 1) := by decide +kernel
theorem d_Mo_one_86 : decode M_Mo_one.2.1 86 = .ok (.iaload, 1) := by decide +kernel
theorem d_Mo_one_87 : decode M_Mo_one.2.1 87 = .ok (.ireturn, 1) := by decide +kernel
theorem d_Mo_one_88 : decode M_Mo_one.2.1 88 = .ok (.aload_n 0, 1) := by decide +kernel
theorem d_Mo_one_89 : decode M_Mo_one.2.1 89 = .ok (.iload_n 1, 1) := by decide +kernel
theorem d_Mo_one_90 : decode M_Mo_one.2.1 90 = .ok (.invokevirtual 155, 3) := by decide +kernel
theorem d_Mo_one_93 : decode M_Mo_one.2.1 93 = .ok (.ireturn, 1) := by decide +kernel
theorem d_Mo_one_94 : decode M_Mo_one.2.1 94 = .ok (.iconst (-1), 1) := by decide +kernel
theorem d_Mo_one_95 : decode M_Mo_one.2.1 95 = .ok (.ireturn, 1) := by decide +kernel
theorem d_Mo_thought_0 : decode M_Mo_thought.2.1 0 = .ok (.aload_n 0, 1) := by decide +kernel
theorem d_Mo_thought_1 : decode M_Mo_thought.2.1 1 = .ok (.iload_n 1, 1) := by decide +kernel
theorem d_Mo_thought_2 : decode M_Mo_thought.2.1 2 = .ok (.invokevirtual 159, 3) := by decide +kernel
theorem d_Mo_thought_5 : decode M_Mo_thought.2.1 5 = .ok (.ifCond .eq 12, 3) := by decide +kernel
theorem d_Mo_thought_8 : decode M_Mo_thought.2.1 8 = .ok (.iload_n 2, 1) := by decide +kernel
theorem d_Mo_thought_9 : decode M_Mo_thought.2.1 9 = .ok (.iconst 0, 1) := by decide +kernel
theorem d_Mo_thought_10 : decode M_Mo_thought.2.1 10 = .ok (.iconst 1, 1) := by decide +kernel
theorem d_Mo_thought_11 : decode M_Mo_thought.2.1 11 = .ok (.invokestatic 78, 3) := by decide +kernel
theorem d_Mo_thought_14 : decode M_Mo_thought.2.1 14 = .ok (.ifCond .ne 5, 3) := by decide +kernel
theorem d_Mo_thought_17 : decode M_Mo_thought.2.1 17 = .ok (.iconst (-1), 1) := by decide +kernel
theorem d_Mo_thought_18 : decode M_Mo_thought.2.1 18 = .ok (.ireturn, 1) := by decide +kernel
theorem d_Mo_thought_19 : decode M_Mo_thought.2.1 19 = .ok (.iload_n 2, 1) := by decide +kernel
theorem d_Mo_thought_20 : decode M_Mo_thought.2.1 20 = .ok (.ifCond .ne 12, 3) := by decide +kernel
theorem d_Mo_thought_23 : decode M_Mo_thought.2.1 23 = .ok (.aload_n 0, 1) := by decide +kernel
theorem d_Mo_thought_24 : decode M_Mo_thought.2.1 24 = .ok (.getfield 32, 3) := by decide +kernel
theorem d_Mo_thought_27 : decode M_Mo_thought.2.1 27 = .ok (.iload_n 1, 1) := by decide +kernel
theorem d_Mo_thought_28 : decode M_Mo_thought.2.1 28 = .ok (.iaload, 1) := by decide +kernel
theorem d_Mo_thought_29 : decode M_Mo_thought.2.1 29 = .ok (.goto 9, 3) := by decide +kernel
theorem d_Mo_thought_32 : decode M_Mo_thought.2.1 32 = .ok (.aload_n 0, 1) := by decide +kernel
theorem d_Mo_thought_33 : decode M_Mo_thought.2.1 33 = .ok (.getfield 35, 3) := by decide +kernel
theorem d_Mo_thought_36 : decode M_Mo_thought.2.1 36 = .ok (.iload_n 1, 1) := by decide +kernel
theorem d_Mo_thought_37 : decode M_Mo_thought.2.1 37 = .ok (.iaload, 1) := by decide +kernel
theorem d_Mo_thought_38 : decode M_Mo_thought.2.1 38 = .ok (.ireturn, 1) := by decide +kernel
theorem d_Mo_know_0 : decode M_Mo_know.2.1 0 = .ok (.aload_n 0, 1) := by decide +kernel
theorem d_Mo_know_1 : decode M_Mo_know.2.1 1 = .ok (.getfield 44, 3) := by decide +kernel
theorem d_Mo_know_4 : decode M_Mo_know.2.1 4 = .ok (.iconst 0, 1) := by decide +kernel
theorem d_Mo_know_5 : decode M_Mo_know.2.1 5 = .ok (.iaload, 1) := by decide +kernel
theorem d_Mo_know_6 : decode M_Mo_know.2.1 6 = .ok (.bipush 10, 2) := by decide +kernel
theorem d_Mo_know_8 : decode M_Mo_know.2.1 8 = .ok (.if_icmp .ne 42, 3) := by decide +kernel
theorem d_Mo_know_11 : decode M_Mo_know.2.1 11 = .ok (.iconst 0, 1) := by decide +kernel
theorem d_Mo_know_12 : decode M_Mo_know.2.1 12 = .ok (.istore_n 1, 1) := by decide +kernel
theorem d_Mo_know_13 : decode M_Mo_know.2.1 13 = .ok (.iload_n 1, 1) := by decide +kernel
theorem d_Mo_know_14 : decode M_Mo_know.2.1 14 = .ok (.bipush 99, 2) := by decide +kernel
theorem d_Mo_know_16 : decode M_Mo_know.2.1 16 = .ok (.if_icmp .ge 24, 3) := by decide +kernel
theorem d_Mo_know_19 : decode M_Mo_know.2.1 19 = .ok (.aload_n 0, 1) := by decide +kernel
theorem d_Mo_know_20 : decode M_Mo_know.2.1 20 = .ok (.getfield 47, 3) := by decide +kernel
theorem d_Mo_know_23 : decode M_Mo_know.2.1 23 = .ok (.iload_n 1, 1) := by decide +kernel
theorem d_Mo_know_24 : decode M_Mo_know.2.1 24 = .ok (.aload_n 0, 1) := by decide +kernel
theorem d_Mo_know_25 : decode M_Mo_know.2.1 25 = .ok (.getfield 47, 3) := by decide +kernel
theorem d_Mo_know_28 : decode M_Mo_know.2.1 28 = .ok (.bipush 11, 2) := by decide +kernel
theorem d_Mo_know_30 : decode M_Mo_know.2.1 30 = .ok (.iload_n 1, 1) := by decide +kernel
theorem d_Mo_know_31 : decode M_Mo_know.2.1 31 = .ok (.iadd, 1) := by decide +kernel
theorem d_Mo_know_32 : decode M_Mo_know.2.1 32 = .ok (.iaload, 1) := by decide +kernel
theorem d_Mo_know_33 : decode M_Mo_know.2.1 33 = .ok (.iastore, 1) := by decide +kernel
theorem d_Mo_know_34 : decode M_Mo_know.2.1 34 = .ok (.iinc 1 1, 3) := by decide +kernel
theorem d_Mo_know_37 : decode M_Mo_know.2.1 37 = .ok (.goto (-24), 3) := by decide +kernel
theorem d_Mo_know_40 : decode M_Mo_know.2.1 40 = .ok (.aload_n 0, 1) := by decide +kernel
theorem d_Mo_know_41 : decode M_Mo_know.2.1 41 = .ok (.getfield 44, 3) := by decide +kernel
theorem d_Mo_know_44 : decode M_Mo_know.2.1 44 = .ok (.iconst 0, 1) := by decide +kernel
theorem d_Mo_know_45 : decode M_Mo_know.2.1 45 = .ok (.dup2, 1) := by decide +kernel
theorem d_Mo_know_46 : decode M_Mo_know.2.1 46 = .ok (.iaload, 1) := by decide +kernel
theorem d_Mo_know_47 : decode M_Mo_know.2.1 47 = .ok (.iconst 1, 1) := by decide +kernel
theorem d_Mo_know_48 : decode M_Mo_know.2.1 48 = .ok (.isub, 1) := by decide +kernel
theorem d_Mo_know_49 : decode M_Mo_know.2.1 49 = .ok (.iastore, 1) := by decide +kernel
theorem d_Mo_know_50 : decode M_Mo_know.2.1 50 = .ok (.iconst 0, 1) := by decide +kernel
theorem d_Mo_know_51 : decode M_Mo_know.2.1 51 = .ok (.istore_n 1, 1) := by decide +kernel
theorem d_Mo_know_52 : decode M_Mo_know.2.1 52 = .ok (.iload_n 1, 1) := by decide +kernel
theorem d_Mo_know_53 : decode M_Mo_know.2.1 53 = .ok (.bipush 11, 2) := by decide +kernel
theorem d_Mo_know_55 : decode M_Mo_know.2.1 55 = .ok (.if_icmp .ge 31, 3) := by decide +kernel
theorem d_Mo_know_58 : decode M_Mo_know.2.1 58 = .ok (.aload_n 0, 1) := by decide +kernel
theorem d_Mo_know_59 : decode M_Mo_know.2.1 59 = .ok (.getfield 47, 3) := by decide +kernel
theorem d_Mo_know_62 : decode M_Mo_know.2.1 62 = .ok (.bipush 11, 2) := by decide +kernel
theorem d_Mo_know_64 : decode M_Mo_know.2.1 64 = .ok (.aload_n 0, 1) := by decide +kernel
theorem d_Mo_know_65 : decode M_Mo_know.2.1 65 = .ok (.getfield 44, 3) := by decide +kernel
theorem d_Mo_know_68 : decode M_Mo_know.2.1 68 = .ok (.iconst 0, 1) := by decide +kernel
theorem d_Mo_know_69 : decode M_Mo_know.2.1 69 = .ok (.iaload, 1) := by decide +kernel
theorem d_Mo_know_70 : decode M_Mo_know.2.1 70 = .ok (.imul, 1) := by decide +kernel
theorem d_Mo_know_71 : decode M_Mo_know.2.1 71 = .ok (.iload_n 1, 1) := by decide +kernel
theorem d_Mo_know_72 : decode M_Mo_know.2.1 72 = .ok (.iadd, 1) := by decide +kernel
theorem d_Mo_know_73 : decode M_Mo_know.2.1 73 = .ok (.aload_n 0, 1) := by decide +kernel
theorem d_Mo_know_74 : decode M_Mo_know.2.1 74 = .ok (.getfield 41, 3) := by decide +kernel
theorem d_Mo_know_77 : decode M_Mo_know.2.1 77 = .ok (.iload_n 1, 1) := by decide +kernel
theorem d_Mo_know_78 : decode M_Mo_know.2.1 78 = .ok (.iaload, 1) := by decide +kernel
theorem d_Mo_know_79 : decode M_Mo_know.2.1 79 = .ok (.iastore, 1) := by decide +kernel
theorem d_Mo_know_80 : decode M_Mo_know.2.1 80 = .ok (.iinc 1 1, 3) := by decide +kernel
theorem d_Mo_know_83 : decode M_Mo_know.2.1 83 = .ok (.goto (-31), 3) := by decide +kernel
theorem d_Mo_know_86 : decode M_Mo_know.2.1 86 = .ok (.aload_n 0, 1) := by decide +kernel
theorem d_Mo_know_87 : decode M_Mo_know.2.1 87 = .ok (.getfield 44, 3) := by decide +kernel
theorem d_Mo_know_90 : decode M_Mo_know.2.1 90 = .ok (.iconst 0, 1) := by decide +kernel
theorem d_Mo_know_91 : decode M_Mo_know.2.1 91 = .ok (.dup2, 1) := by decide +kernel
theorem d_Mo_know_92 : decode M_Mo_know.2.1 92 = .ok (.iaload, 1) := by decide +kernel
theorem d_Mo_know_93 : decode M_Mo_know.2.1 93 = .ok (.iconst 1, 1) := by decide +kernel
theorem d_Mo_know_94 : decode M_Mo_know.2.1 94 = .ok (.iadd, 1) := by decide +kernel
theorem d_Mo_know_95 : decode M_Mo_know.2.1 95 = .ok (.iastore, 1) := by decide +kernel
theorem d_Mo_know_96 : decode M_Mo_know.2.1 96 = .ok (.return_, 1) := by decide +kernel
theorem d_Mo_begins_0 : decode M_Mo_begins.2.1 0 = .ok (.aload_n 0, 1) := by decide +kernel
theorem d_Mo_begins_1 : decode M_Mo_begins.2.1 1 = .ok (.iload_n 1, 1) := by decide +kernel
theorem d_Mo_begins_2 : decode M_Mo_begins.2.1 2 = .ok (.invokevirtual 152, 3) := by decide +kernel
theorem d_Mo_begins_5 : decode M_Mo_begins.2.1 5 = .ok (.ifCond .eq 11, 3) := by decide +kernel
theorem d_Mo_begins_8 : decode M_Mo_begins.2.1 8 = .ok (.aload_n 0, 1) := by decide +kernel
theorem d_Mo_begins_9 : decode M_Mo_begins.2.1 9 = .ok (.iload_n 2, 1) := by decide +kernel
theorem d_Mo_begins_10 : decode M_Mo_begins.2.1 10 = .ok (.invokevirtual 159, 3) := by decide +kernel
theorem d_Mo_begins_13 : decode M_Mo_begins.2.1 13 = .ok (.ifCond .ne 5, 3) := by decide +kernel
theorem d_Mo_begins_16 : decode M_Mo_begins.2.1 16 = .ok (.iconst (-1), 1) := by decide +kernel
theorem d_Mo_begins_17 : decode M_Mo_begins.2.1 17 = .ok (.ireturn, 1) := by decide +kernel
theorem d_Mo_begins_18 : decode M_Mo_begins.2.1 18 = .ok (.aload_n 0, 1) := by decide +kernel
theorem d_Mo_begins_19 : decode M_Mo_begins.2.1 19 = .ok (.getfield 41, 3) := by decide +kernel
theorem d_Mo_begins_22 : decode M_Mo_begins.2.1 22 = .ok (.iload_n 1, 1) := by decide +kernel
theorem d_Mo_begins_23 : decode M_Mo_begins.2.1 23 = .ok (.iload_n 2, 1) := by decide +kernel
theorem d_Mo_begins_24 : decode M_Mo_begins.2.1 24 = .ok (.invokestatic 162, 3) := by decide +kernel
theorem d_Mo_begins_27 : decode M_Mo_begins.2.1 27 = .ok (.ifCond .ne 6, 3) := by decide +kernel
theorem d_Mo_begins_30 : decode M_Mo_begins.2.1 30 = .ok (.bipush (-2), 2) := by decide +kernel
theorem d_Mo_begins_32 : decode M_Mo_begins.2.1 32 = .ok (.ireturn, 1) := by decide +kernel
theorem d_Mo_begins_33 : decode M_Mo_begins.2.1 33 = .ok (.aload_n 0, 1) := by decide +kernel
theorem d_Mo_begins_34 : decode M_Mo_begins.2.1 34 = .ok (.invokevirtual 166, 3) := by decide +kernel
theorem d_Mo_begins_37 : decode M_Mo_begins.2.1 37 = .ok (.aload_n 0, 1) := by decide +kernel
theorem d_Mo_begins_38 : decode M_Mo_begins.2.1 38 = .ok (.getfield 41, 3) := by decide +kernel
theorem d_Mo_begins_41 : decode M_Mo_begins.2.1 41 = .ok (.iload_n 1, 1) := by decide +kernel
theorem d_Mo_begins_42 : decode M_Mo_begins.2.1 42 = .ok (.iload_n 2, 1) := by decide +kernel
theorem d_Mo_begins_43 : decode M_Mo_begins.2.1 43 = .ok (.invokestatic 169, 3) := by decide +kernel
theorem d_Mo_begins_46 : decode M_Mo_begins.2.1 46 = .ok (.aload_n 0, 1) := by decide +kernel
theorem d_Mo_begins_47 : decode M_Mo_begins.2.1 47 = .ok (.aload_n 0, 1) := by decide +kernel
theorem d_Mo_begins_48 : decode M_Mo_begins.2.1 48 = .ok (.getfield 41, 3) := by decide +kernel
theorem d_Mo_begins_51 : decode M_Mo_begins.2.1 51 = .ok (.invokevirtual 144, 3) := by decide +kernel
theorem d_Mo_begins_54 : decode M_Mo_begins.2.1 54 = .ok (.ireturn, 1) := by decide +kernel
theorem d_Mo_minutes_0 : decode M_Mo_minutes.2.1 0 = .ok (.iload_n 1, 1) := by decide +kernel
theorem d_Mo_minutes_1 : decode M_Mo_minutes.2.1 1 = .ok (.iconst 1, 1) := by decide +kernel
theorem d_Mo_minutes_2 : decode M_Mo_minutes.2.1 2 = .ok (.bipush 9, 2) := by decide +kernel
theorem d_Mo_minutes_4 : decode M_Mo_minutes.2.1 4 = .ok (.invokestatic 78, 3) := by decide +kernel
theorem d_Mo_minutes_7 : decode M_Mo_minutes.2.1 7 = .ok (.ifCond .ne 5, 3) := by decide +kernel
theorem d_Mo_minutes_10 : decode M_Mo_minutes.2.1 10 = .ok (.iconst (-1), 1) := by decide +kernel
theorem d_Mo_minutes_11 : decode M_Mo_minutes.2.1 11 = .ok (.ireturn, 1) := by decide +kernel
theorem d_Mo_minutes_12 : decode M_Mo_minutes.2.1 12 = .ok (.aload_n 0, 1) := by decide +kernel
theorem d_Mo_minutes_13 : decode M_Mo_minutes.2.1 13 = .ok (.getfield 41, 3) := by decide +kernel
theorem d_Mo_minutes_16 : decode M_Mo_minutes.2.1 16 = .ok (.iconst 0, 1) := by decide +kernel
theorem d_Mo_minutes_17 : decode M_Mo_minutes.2.1 17 = .ok (.iaload, 1) := by decide +kernel
theorem d_Mo_minutes_18 : decode M_Mo_minutes.2.1 18 = .ok (.iload_n 1, 1) := by decide +kernel
theorem d_Mo_minutes_19 : decode M_Mo_minutes.2.1 19 = .ok (.iadd, 1) := by decide +kernel
theorem d_Mo_minutes_20 : decode M_Mo_minutes.2.1 20 = .ok (.bipush 99, 2) := by decide +kernel
theorem d_Mo_minutes_22 : decode M_Mo_minutes.2.1 22 = .ok (.if_icmp .le 6, 3) := by decide +kernel
theorem d_Mo_minutes_25 : decode M_Mo_minutes.2.1 25 = .ok (.bipush (-2), 2) := by decide +kernel
theorem d_Mo_minutes_27 : decode M_Mo_minutes.2.1 27 = .ok (.ireturn, 1) := by decide +kernel
theorem d_Mo_minutes_28 : decode M_Mo_minutes.2.1 28 = .ok (.aload_n 0, 1) := by decide +kernel
theorem d_Mo_minutes_29 : decode M_Mo_minutes.2.1 29 = .ok (.invokevirtual 166, 3) := by decide +kernel
theorem d_Mo_minutes_32 : decode M_Mo_minutes.2.1 32 = .ok (.iconst 0, 1) := by decide +kernel
theorem d_Mo_minutes_33 : decode M_Mo_minutes.2.1 33 = .ok (.istore_n 2, 1) := by decide +kernel
theorem d_Mo_minutes_34 : decode M_Mo_minutes.2.1 34 = .ok (.iload_n 2, 1) := by decide +kernel
theorem d_Mo_minutes_35 : decode M_Mo_minutes.2.1 35 = .ok (.iload_n 1, 1) := by decide +kernel
theorem d_Mo_minutes_36 : decode M_Mo_minutes.2.1 36 = .ok (.if_icmp .ge 17, 3) := by decide +kernel
theorem d_Mo_minutes_39 : decode M_Mo_minutes.2.1 39 = .ok (.aload_n 0, 1) := by decide +kernel
theorem d_Mo_minutes_40 : decode M_Mo_minutes.2.1 40 = .ok (.aload_n 0, 1) := by decide +kernel
theorem d_Mo_minutes_41 : decode M_Mo_minutes.2.1 41 = .ok (.getfield 41, 3) := by decide +kernel
theorem d_Mo_minutes_44 : decode M_Mo_minutes.2.1 44 = .ok (.invokevirtual 173, 3) := by decide +kernel
theorem d_Mo_minutes_47 : decode M_Mo_minutes.2.1 47 = .ok (.iinc 2 1, 3) := by decide +kernel
theorem d_Mo_minutes_50 : decode M_Mo_minutes.2.1 50 = .ok (.goto (-16), 3) := by decide +kernel
theorem d_Mo_minutes_53 : decode M_Mo_minutes.2.1 53 = .ok (.aload_n 0, 1) := by decide +kernel
theorem d_Mo_minutes_54 : decode M_Mo_minutes.2.1 54 = .ok (.getfield 41, 3) := by decide +kernel
theorem d_Mo_minutes_57 : decode M_Mo_minutes.2.1 57 = .ok (.iconst 1, 1) := by decide +kernel
theorem d_Mo_minutes_58 : decode M_Mo_minutes.2.1 58 = .ok (.iaload, 1) := by decide +kernel
theorem d_Mo_minutes_59 : decode M_Mo_minutes.2.1 59 = .ok (.ireturn, 1) := by decide +kernel
theorem d_Mo_isAtRest_0 : decode M_Mo_isAtRest.2.1 0 = .ok (.aload_n 0, 1) := by decide +kernel
theorem d_Mo_isAtRest_1 : decode M_Mo_isAtRest.2.1 1 = .ok (.getfield 41, 3) := by decide +kernel
theorem d_Mo_isAtRest_4 : decode M_Mo_isAtRest.2.1 4 = .ok (.iconst 2, 1) := by decide +kernel
theorem d_Mo_isAtRest_5 : decode M_Mo_isAtRest.2.1 5 = .ok (.iaload, 1) := by decide +kernel
theorem d_Mo_isAtRest_6 : decode M_Mo_isAtRest.2.1 6 = .ok (.ifCond .ne 17, 3) := by decide +kernel
theorem d_Mo_isAtRest_9 : decode M_Mo_isAtRest.2.1 9 = .ok (.aload_n 0, 1) := by decide +kernel
theorem d_Mo_isAtRest_10 : decode M_Mo_isAtRest.2.1 10 = .ok (.getfield 41, 3) := by decide +kernel
theorem d_Mo_isAtRest_13 : decode M_Mo_isAtRest.2.1 13 = .ok (.bipush 10, 2) := by decide +kernel
theorem d_Mo_isAtRest_15 : decode M_Mo_isAtRest.2.1 15 = .ok (.iaload, 1) := by decide +kernel
theorem d_Mo_isAtRest_16 : decode M_Mo_isAtRest.2.1 16 = .ok (.ifCond .ne 7, 3) := by decide +kernel
theorem d_Mo_isAtRest_19 : decode M_Mo_isAtRest.2.1 19 = .ok (.iconst 1, 1) := by decide +kernel
theorem d_Mo_isAtRest_20 : decode M_Mo_isAtRest.2.1 20 = .ok (.goto 4, 3) := by decide +kernel
theorem d_Mo_isAtRest_23 : decode M_Mo_isAtRest.2.1 23 = .ok (.iconst 0, 1) := by decide +kernel
theorem d_Mo_isAtRest_24 : decode M_Mo_isAtRest.2.1 24 = .ok (.ireturn, 1) := by decide +kernel
theorem d_Mo_enters_0 : decode M_Mo_enters.2.1 0 = .ok (.aload_n 0, 1) := by decide +kernel
theorem d_Mo_enters_1 : decode M_Mo_enters.2.1 1 = .ok (.iload_n 1, 1) := by decide +kernel
theorem d_Mo_enters_2 : decode M_Mo_enters.2.1 2 = .ok (.invokevirtual 152, 3) := by decide +kernel
theorem d_Mo_enters_5 : decode M_Mo_enters.2.1 5 = .ok (.ifCond .ne 5, 3) := by decide +kernel
theorem d_Mo_enters_8 : decode M_Mo_enters.2.1 8 = .ok (.iconst (-1), 1) := by decide +kernel
theorem d_Mo_enters_9 : decode M_Mo_enters.2.1 9 = .ok (.ireturn, 1) := by decide +kernel
theorem d_Mo_enters_10 : decode M_Mo_enters.2.1 10 = .ok (.aload_n 0, 1) := by decide +kernel
theorem d_Mo_enters_11 : decode M_Mo_enters.2.1 11 = .ok (.getfield 41, 3) := by decide +kernel
theorem d_Mo_enters_14 : decode M_Mo_enters.2.1 14 = .ok (.bipush 6, 2) := by decide +kernel
theorem d_Mo_enters_16 : decode M_Mo_enters.2.1 16 = .ok (.iaload, 1) := by decide +kernel
theorem d_Mo_enters_17 : decode M_Mo_enters.2.1 17 = .ok (.iload_n 1, 1) := by decide +kernel
theorem d_Mo_enters_18 : decode M_Mo_enters.2.1 18 = .ok (.invokestatic 140, 3) := by decide +kernel
theorem d_Mo_enters_21 : decode M_Mo_enters.2.1 21 = .ok (.ifCond .ne 10, 3) := by decide +kernel
theorem d_Mo_enters_24 : decode M_Mo_enters.2.1 24 = .ok (.aload_n 0, 1) := by decide +kernel
theorem d_Mo_enters_25 : decode M_Mo_enters.2.1 25 = .ok (.invokevirtual 177, 3) := by decide +kernel
theorem d_Mo_enters_28 : decode M_Mo_enters.2.1 28 = .ok (.ifCond .ne 6, 3) := by decide +kernel
theorem d_Mo_enters_31 : decode M_Mo_enters.2.1 31 = .ok (.bipush (-2), 2) := by decide +kernel
theorem d_Mo_enters_33 : decode M_Mo_enters.2.1 33 = .ok (.ireturn, 1) := by decide +kernel
theorem d_Mo_enters_34 : decode M_Mo_enters.2.1 34 = .ok (.aload_n 0, 1) := by decide +kernel
theorem d_Mo_enters_35 : decode M_Mo_enters.2.1 35 = .ok (.invokevirtual 166, 3) := by decide +kernel
theorem d_Mo_enters_38 : decode M_Mo_enters.2.1 38 = .ok (.aload_n 0, 1) := by decide +kernel
theorem d_Mo_enters_39 : decode M_Mo_enters.2.1 39 = .ok (.getfield 41, 3) := by decide +kernel
theorem d_Mo_enters_42 : decode M_Mo_enters.2.1 42 = .ok (.bipush 6, 2) := by decide +kernel
theorem d_Mo_enters_44 : decode M_Mo_enters.2.1 44 = .ok (.dup2, 1) := by decide +kernel
theorem d_Mo_enters_45 : decode M_Mo_enters.2.1 45 = .ok (.iaload, 1) := by decide +kernel
theorem d_Mo_enters_46 : decode M_Mo_enters.2.1 46 = .ok (.iconst 1, 1) := by decide +kernel
theorem d_Mo_enters_47 : decode M_Mo_enters.2.1 47 = .ok (.iload_n 1, 1) := by decide +kernel
theorem d_Mo_enters_48 : decode M_Mo_enters.2.1 48 = .ok (.ishl, 1) := by decide +kernel
theorem d_Mo_enters_49 : decode M_Mo_enters.2.1 49 = .ok (.ior, 1) := by decide +kernel
theorem d_Mo_enters_50 : decode M_Mo_enters.2.1 50 = .ok (.iastore, 1) := by decide +kernel
theorem d_Mo_enters_51 : decode M_Mo_enters.2.1 51 = .ok (.aload_n 0, 1) := by decide +kernel
theorem d_Mo_enters_52 : decode M_Mo_enters.2.1 52 = .ok (.getfield 41, 3) := by decide +kernel
theorem d_Mo_enters_55 : decode M_Mo_enters.2.1 55 = .ok (.bipush 6, 2) := by decide +kernel
theorem d_Mo_enters_57 : decode M_Mo_enters.2.1 57 = .ok (.iaload, 1) := by decide +kernel
theorem d_Mo_enters_58 : decode M_Mo_enters.2.1 58 = .ok (.invokestatic 181, 3) := by decide +kernel
theorem d_Mo_enters_61 : decode M_Mo_enters.2.1 61 = .ok (.ireturn, 1) := by decide +kernel
theorem d_Mo_leaves_0 : decode M_Mo_leaves.2.1 0 = .ok (.aload_n 0, 1) := by decide +kernel
theorem d_Mo_leaves_1 : decode M_Mo_leaves.2.1 1 = .ok (.iload_n 1, 1) := by decide +kernel
theorem d_Mo_leaves_2 : decode M_Mo_leaves.2.1 2 = .ok (.invokevirtual 152, 3) := by decide +kernel
theorem d_Mo_leaves_5 : decode M_Mo_leaves.2.1 5 = .ok (.ifCond .ne 5, 3) := by decide +kernel
theorem d_Mo_leaves_8 : decode M_Mo_leaves.2.1 8 = .ok (.iconst (-1), 1) := by decide +kernel
theorem d_Mo_leaves_9 : decode M_Mo_leaves.2.1 9 = .ok (.ireturn, 1) := by decide +kernel
theorem d_Mo_leaves_10 : decode M_Mo_leaves.2.1 10 = .ok (.aload_n 0, 1) := by decide +kernel
theorem d_Mo_leaves_11 : decode M_Mo_leaves.2.1 11 = .ok (.getfield 41, 3) := by decide +kernel
theorem d_Mo_leaves_14 : decode M_Mo_leaves.2.1 14 = .ok (.bipush 6, 2) := by decide +kernel
theorem d_Mo_leaves_16 : decode M_Mo_leaves.2.1 16 = .ok (.iaload, 1) := by decide +kernel
theorem d_Mo_leaves_17 : decode M_Mo_leaves.2.1 17 = .ok (.iload_n 1, 1) := by decide +kernel
theorem d_Mo_leaves_18 : decode M_Mo_leaves.2.1 18 = .ok (.invokestatic 140, 3) := by decide +kernel
theorem d_Mo_leaves_21 : decode M_Mo_leaves.2.1 21 = .ok (.ifCond .eq 10, 3) := by decide +kernel
theorem d_Mo_leaves_24 : decode M_Mo_leaves.2.1 24 = .ok (.aload_n 0, 1) := by decide +kernel
theorem d_Mo_leaves_25 : decode M_Mo_leaves.2.1 25 = .ok (.invokevirtual 177, 3) := by decide +kernel
theorem d_Mo_leaves_28 : decode M_Mo_leaves.2.1 28 = .ok (.ifCond .ne 6, 3) := by decide +kernel
theorem d_Mo_leaves_31 : decode M_Mo_leaves.2.1 31 = .ok (.bipush (-2), 2) := by decide +kernel
theorem d_Mo_leaves_33 : decode M_Mo_leaves.2.1 33 = .ok (.ireturn, 1) := by decide +kernel
theorem d_Mo_leaves_34 : decode M_Mo_leaves.2.1 34 = .ok (.aload_n 0, 1) := by decide +kernel
theorem d_Mo_leaves_35 : decode M_Mo_leaves.2.1 35 = .ok (.invokevirtual 166, 3) := by decide +kernel
theorem d_Mo_leaves_38 : decode M_Mo_leaves.2.1 38 = .ok (.aload_n 0, 1) := by decide +kernel
theorem d_Mo_leaves_39 : decode M_Mo_leaves.2.1 39 = .ok (.getfield 41, 3) := by decide +kernel
theorem d_Mo_leaves_42 : decode M_Mo_leaves.2.1 42 = .ok (.bipush 6, 2) := by decide +kernel
theorem d_Mo_leaves_44 : decode M_Mo_leaves.2.1 44 = .ok (.dup2, 1) := by decide +kernel
theorem d_Mo_leaves_45 : decode M_Mo_leaves.2.1 45 = .ok (.iaload, 1) := by decide +kernel
theorem d_Mo_leaves_46 : decode M_Mo_leaves.2.1 46 = .ok (.iconst 1, 1) := by decide +kernel
theorem d_Mo_leaves_47 : decode M_Mo_leaves.2.1 47 = .ok (.iload_n 1, 1) := by decide +kernel
theorem d_Mo_leaves_48 : decode M_Mo_leaves.2.1 48 = .ok (.ishl, 1) := by decide +kernel
theorem d_Mo_leaves_49 : decode M_Mo_leaves.2.1 49 = .ok (.iconst (-1), 1) := by decide +kernel
theorem d_Mo_leaves_50 : decode M_Mo_leaves.2.1 50 = .ok (.ixor, 1) := by decide +kernel
theorem d_Mo_leaves_51 : decode M_Mo_leaves.2.1 51 = .ok (.iand, 1) := by decide +kernel
theorem d_Mo_leaves_52 : decode M_Mo_leaves.2.1 52 = .ok (.iastore, 1) := by decide +kernel
theorem d_Mo_leaves_53 : decode M_Mo_leaves.2.1 53 = .ok (.aload_n 0, 1) := by decide +kernel
theorem d_Mo_leaves_54 : decode M_Mo_leaves.2.1 54 = .ok (.getfield 41, 3) := by decide +kernel
theorem d_Mo_leaves_57 : decode M_Mo_leaves.2.1 57 = .ok (.iconst 3, 1) := by decide +kernel
theorem d_Mo_leaves_58 : decode M_Mo_leaves.2.1 58 = .ok (.iaload, 1) := by decide +kernel
theorem d_Mo_leaves_59 : decode M_Mo_leaves.2.1 59 = .ok (.iload_n 1, 1) := by decide +kernel
theorem d_Mo_leaves_60 : decode M_Mo_leaves.2.1 60 = .ok (.if_icmp .ne 19, 3) := by decide +kernel
theorem d_Mo_leaves_63 : decode M_Mo_leaves.2.1 63 = .ok (.aload_n 0, 1) := by decide +kernel
theorem d_Mo_leaves_64 : decode M_Mo_leaves.2.1 64 = .ok (.getfield 41, 3) := by decide +kernel
theorem d_Mo_leaves_67 : decode M_Mo_leaves.2.1 67 = .ok (.iconst 3, 1) := by decide +kernel
theorem d_Mo_leaves_68 : decode M_Mo_leaves.2.1 68 = .ok (.bipush (-9), 2) := by decide +kernel
theorem d_Mo_leaves_70 : decode M_Mo_leaves.2.1 70 = .ok (.iastore, 1) := by decide +kernel
theorem d_Mo_leaves_71 : decode M_Mo_leaves.2.1 71 = .ok (.aload_n 0, 1) := by decide +kernel
theorem d_Mo_leaves_72 : decode M_Mo_leaves.2.1 72 = .ok (.getfield 41, 3) := by decide +kernel
theorem d_Mo_leaves_75 : decode M_Mo_leaves.2.1 75 = .ok (.iconst 4, 1) := by decide +kernel
theorem d_Mo_leaves_76 : decode M_Mo_leaves.2.1 76 = .ok (.bipush (-9), 2) := by decide +kernel
theorem d_Mo_leaves_78 : decode M_Mo_leaves.2.1 78 = .ok (.iastore, 1) := by decide +kernel
theorem d_Mo_leaves_79 : decode M_Mo_leaves.2.1 79 = .ok (.aload_n 0, 1) := by decide +kernel
theorem d_Mo_leaves_80 : decode M_Mo_leaves.2.1 80 = .ok (.getfield 41, 3) := by decide +kernel
theorem d_Mo_leaves_83 : decode M_Mo_leaves.2.1 83 = .ok (.bipush 6, 2) := by decide +kernel
theorem d_Mo_leaves_85 : decode M_Mo_leaves.2.1 85 = .ok (.iaload, 1) := by decide +kernel
theorem d_Mo_leaves_86 : decode M_Mo_leaves.2.1 86 = .ok (.invokestatic 181, 3) := by decide +kernel
theorem d_Mo_leaves_89 : decode M_Mo_leaves.2.1 89 = .ok (.ireturn, 1) := by decide +kernel
theorem d_Mo_undo_0 : decode M_Mo_undo.2.1 0 = .ok (.aload_n 0, 1) := by decide +kernel
theorem d_Mo_undo_1 : decode M_Mo_undo.2.1 1 = .ok (.getfield 44, 3) := by decide +kernel
theorem d_Mo_undo_4 : decode M_Mo_undo.2.1 4 = .ok (.iconst 0, 1) := by decide +kernel
theorem d_Mo_undo_5 : decode M_Mo_undo.2.1 5 = .ok (.iaload, 1) := by decide +kernel
theorem d_Mo_undo_6 : decode M_Mo_undo.2.1 6 = .ok (.ifCond .ne 6, 3) := by decide +kernel
theorem d_Mo_undo_9 : decode M_Mo_undo.2.1 9 = .ok (.bipush (-2), 2) := by decide +kernel
theorem d_Mo_undo_11 : decode M_Mo_undo.2.1 11 = .ok (.ireturn, 1) := by decide +kernel
theorem d_Mo_undo_12 : decode M_Mo_undo.2.1 12 = .ok (.aload_n 0, 1) := by decide +kernel
theorem d_Mo_undo_13 : decode M_Mo_undo.2.1 13 = .ok (.getfield 44, 3) := by decide +kernel
theorem d_Mo_undo_16 : decode M_Mo_undo.2.1 16 = .ok (.iconst 0, 1) := by decide +kernel
theorem d_Mo_undo_17 : decode M_Mo_undo.2.1 17 = .ok (.dup2, 1) := by decide +kernel
theorem d_Mo_undo_18 : decode M_Mo_undo.2.1 18 = .ok (.iaload, 1) := by decide +kernel
theorem d_Mo_undo_19 : decode M_Mo_undo.2.1 19 = .ok (.iconst 1, 1) := by decide +kernel
theorem d_Mo_undo_20 : decode M_Mo_undo.2.1 20 = .ok (.isub, 1) := by decide +kernel
theorem d_Mo_undo_21 : decode M_Mo_undo.2.1 21 = .ok (.iastore, 1) := by decide +kernel
theorem d_Mo_undo_22 : decode M_Mo_undo.2.1 22 = .ok (.iconst 0, 1) := by decide +kernel
theorem d_Mo_undo_23 : decode M_Mo_undo.2.1 23 = .ok (.istore_n 1, 1) := by decide +kernel
theorem d_Mo_undo_24 : decode M_Mo_undo.2.1 24 = .ok (.iload_n 1, 1) := by decide +kernel
theorem d_Mo_undo_25 : decode M_Mo_undo.2.1 25 = .ok (.bipush 11, 2) := by decide +kernel
theorem d_Mo_undo_27 : decode M_Mo_undo.2.1 27 = .ok (.if_icmp .ge 31, 3) := by decide +kernel
theorem d_Mo_undo_30 : decode M_Mo_undo.2.1 30 = .ok (.aload_n 0, 1) := by decide +kernel
theorem d_Mo_undo_31 : decode M_Mo_undo.2.1 31 = .ok (.getfield 41, 3) := by decide +kernel
theorem d_Mo_undo_34 : decode M_Mo_undo.2.1 34 = .ok (.iload_n 1, 1) := by decide +kernel
theorem d_Mo_undo_35 : decode M_Mo_undo.2.1 35 = .ok (.aload_n 0, 1) := by decide +kernel
theorem d_Mo_undo_36 : decode M_Mo_undo.2.1 36 = .ok (.getfield 47, 3) := by decide +kernel
theorem d_Mo_undo_39 : decode M_Mo_undo.2.1 39 = .ok (.bipush 11, 2) := by decide +kernel
theorem d_Mo_undo_41 : decode M_Mo_undo.2.1 41 = .ok (.aload_n 0, 1) := by decide +kernel
theorem d_Mo_undo_42 : decode M_Mo_undo.2.1 42 = .ok (.getfield 44, 3) := by decide +kernel
theorem d_Mo_undo_45 : decode M_Mo_undo.2.1 45 = .ok (.iconst 0, 1) := by decide +kernel
theorem d_Mo_undo_46 : decode M_Mo_undo.2.1 46 = .ok (.iaload, 1) := by decide +kernel
theorem d_Mo_undo_47 : decode M_Mo_undo.2.1 47 = .ok (.imul, 1) := by decide +kernel
theorem d_Mo_undo_48 : decode M_Mo_undo.2.1 48 = .ok (.iload_n 1, 1) := by decide +kernel
theorem d_Mo_undo_49 : decode M_Mo_undo.2.1 49 = .ok (.iadd, 1) := by decide +kernel
theorem d_Mo_undo_50 : decode M_Mo_undo.2.1 50 = .ok (.iaload, 1) := by decide +kernel
theorem d_Mo_undo_51 : decode M_Mo_undo.2.1 51 = .ok (.iastore, 1) := by decide +kernel
theorem d_Mo_undo_52 : decode M_Mo_undo.2.1 52 = .ok (.iinc 1 1, 3) := by decide +kernel
theorem d_Mo_undo_55 : decode M_Mo_undo.2.1 55 = .ok (.goto (-31), 3) := by decide +kernel
theorem d_Mo_undo_58 : decode M_Mo_undo.2.1 58 = .ok (.aload_n 0, 1) := by decide +kernel
theorem d_Mo_undo_59 : decode M_Mo_undo.2.1 59 = .ok (.getfield 44, 3) := by decide +kernel
theorem d_Mo_undo_62 : decode M_Mo_undo.2.1 62 = .ok (.iconst 0, 1) := by decide +kernel
theorem d_Mo_undo_63 : decode M_Mo_undo.2.1 63 = .ok (.iaload, 1) := by decide +kernel
theorem d_Mo_undo_64 : decode M_Mo_undo.2.1 64 = .ok (.ireturn, 1) := by decide +kernel
theorem d_Mo_cover_0 : decode M_Mo_cover.2.1 0 = .ok (.bipush (-9), 2) := by decide +kernel
theorem d_Mo_cover_2 : decode M_Mo_cover.2.1 2 = .ok (.istore_n 1, 1) := by decide +kernel
theorem d_Mo_cover_3 : decode M_Mo_cover.2.1 3 = .ok (.iconst 0, 1) := by decide +kernel
theorem d_Mo_cover_4 : decode M_Mo_cover.2.1 4 = .ok (.istore_n 2, 1) := by decide +kernel
theorem d_Mo_cover_5 : decode M_Mo_cover.2.1 5 = .ok (.iload_n 2, 1) := by decide +kernel
theorem d_Mo_cover_6 : decode M_Mo_cover.2.1 6 = .ok (.iconst 1, 1) := by decide +kernel
theorem d_Mo_cover_7 : decode M_Mo_cover.2.1 7 = .ok (.aload_n 0, 1) := by decide +kernel
theorem d_Mo_cover_8 : decode M_Mo_cover.2.1 8 = .ok (.getfield 29, 3) := by decide +kernel
theorem d_Mo_cover_11 : decode M_Mo_cover.2.1 11 = .ok (.iconst 0, 1) := by decide +kernel
theorem d_Mo_cover_12 : decode M_Mo_cover.2.1 12 = .ok (.iaload, 1) := by decide +kernel
theorem d_Mo_cover_13 : decode M_Mo_cover.2.1 13 = .ok (.ishl, 1) := by decide +kernel
theorem d_Mo_cover_14 : decode M_Mo_cover.2.1 14 = .ok (.if_icmp .ge 83, 3) := by decide +kernel
theorem d_Mo_cover_17 : decode M_Mo_cover.2.1 17 = .ok (.iload_n 1, 1) := by decide +kernel
theorem d_Mo_cover_18 : decode M_Mo_cover.2.1 18 = .ok (.bipush (-9), 2) := by decide +kernel
theorem d_Mo_cover_20 : decode M_Mo_cover.2.1 20 = .ok (.if_icmp .eq 14, 3) := by decide +kernel
theorem d_Mo_cover_23 : decode M_Mo_cover.2.1 23 = .ok (.iload_n 2, 1) := by decide +kernel
theorem d_Mo_cover_24 : decode M_Mo_cover.2.1 24 = .ok (.invokestatic 181, 3) := by decide +kernel
theorem d_Mo_cover_27 : decode M_Mo_cover.2.1 27 = .ok (.iload_n 1, 1) := by decide +kernel
theorem d_Mo_cover_28 : decode M_Mo_cover.2.1 28 = .ok (.invokestatic 181, 3) := by decide +kernel
theorem d_Mo_cover_31 : decode M_Mo_cover.2.1 31 = .ok (.if_icmp .ge 7, 3) := by decide +kernel
theorem d_Mo_cover_34 : decode M_Mo_cover.2.1 34 = .ok (.iconst 1, 1) := by decide +kernel
theorem d_Mo_cover_35 : decode M_Mo_cover.2.1 35 = .ok (.goto 4, 3) := by decide +kernel
theorem d_Mo_cover_38 : decode M_Mo_cover.2.1 38 = .ok (.iconst 0, 1) := by decide +kernel
theorem d_Mo_cover_39 : decode M_Mo_cover.2.1 39 = .ok (.istore_n 3, 1) := by decide +kernel
theorem d_Mo_cover_40 : decode M_Mo_cover.2.1 40 = .ok (.iconst 0, 1) := by decide +kernel
theorem d_Mo_cover_41 : decode M_Mo_cover.2.1 41 = .ok (.istore 4, 2) := by decide +kernel
theorem d_Mo_cover_43 : decode M_Mo_cover.2.1 43 = .ok (.iload 4, 2) := by decide +kernel
theorem d_Mo_cover_45 : decode M_Mo_cover.2.1 45 = .ok (.aload_n 0, 1) := by decide +kernel
theorem d_Mo_cover_46 : decode M_Mo_cover.2.1 46 = .ok (.getfield 17, 3) := by decide +kernel
theorem d_Mo_cover_49 : decode M_Mo_cover.2.1 49 = .ok (.iconst 0, 1) := by decide +kernel
theorem d_Mo_cover_50 : decode M_Mo_cover.2.1 50 = .ok (.iaload, 1) := by decide +kernel
theorem d_Mo_cover_51 : decode M_Mo_cover.2.1 51 = .ok (.if_icmp .ge 30, 3) := by decide +kernel
theorem d_Mo_cover_54 : decode M_Mo_cover.2.1 54 = .ok (.iload_n 3, 1) := by decide +kernel
theorem d_Mo_cover_55 : decode M_Mo_cover.2.1 55 = .ok (.ifCond .eq 18, 3) := by decide +kernel
theorem d_Mo_cover_58 : decode M_Mo_cover.2.1 58 = .ok (.aload_n 0, 1) := by decide +kernel
theorem d_Mo_cover_59 : decode M_Mo_cover.2.1 59 = .ok (.iload 4, 2) := by decide +kernel
theorem d_Mo_cover_61 : decode M_Mo_cover.2.1 61 = .ok (.invokevirtual 155, 3) := by decide +kernel
theorem d_Mo_cover_64 : decode M_Mo_cover.2.1 64 = .ok (.iload_n 2, 1) := by decide +kernel
theorem d_Mo_cover_65 : decode M_Mo_cover.2.1 65 = .ok (.iand, 1) := by decide +kernel
theorem d_Mo_cover_66 : decode M_Mo_cover.2.1 66 = .ok (.ifCond .eq 7, 3) := by decide +kernel
theorem d_Mo_cover_69 : decode M_Mo_cover.2.1 69 = .ok (.iconst 1, 1) := by decide +kernel
theorem d_Mo_cover_70 : decode M_Mo_cover.2.1 70 = .ok (.goto 4, 3) := by decide +kernel
theorem d_Mo_cover_73 : decode M_Mo_cover.2.1 73 = .ok (.iconst 0, 1) := by decide +kernel
theorem d_Mo_cover_74 : decode M_Mo_cover.2.1 74 = .ok (.istore_n 3, 1) := by decide +kernel
theorem d_Mo_cover_75 : decode M_Mo_cover.2.1 75 = .ok (.iinc 4 1, 3) := by decide +kernel
theorem d_Mo_cover_78 : decode M_Mo_cover.2.1 78 = .ok (.goto (-35), 3) := by decide +kernel
theorem d_Mo_cover_81 : decode M_Mo_cover.2.1 81 = .ok (.iload_n 3, 1) := by decide +kernel
theorem d_Mo_cover_82 : decode M_Mo_cover.2.1 82 = .ok (.ifCond .eq 7, 3) := by decide +kernel
theorem d_Mo_cover_85 : decode M_Mo_cover.2.1 85 = .ok (.iload_n 2, 1) := by decide +kernel
theorem d_Mo_cover_86 : decode M_Mo_cover.2.1 86 = .ok (.goto 4, 3) := by decide +kernel
theorem d_Mo_cover_89 : decode M_Mo_cover.2.1 89 = .ok (.iload_n 1, 1) := by decide +kernel
theorem d_Mo_cover_90 : decode M_Mo_cover.2.1 90 = .ok (.istore_n 1, 1) := by decide +kernel
theorem d_Mo_cover_91 : decode M_Mo_cover.2.1 91 = .ok (.iinc 2 1, 3) := by decide +kernel
theorem d_Mo_cover_94 : decode M_Mo_cover.2.1 94 = .ok (.goto (-89), 3) := by decide +kernel
theorem d_Mo_cover_97 : decode M_Mo_cover.2.1 97 = .ok (.iload_n 1, 1) := by decide +kernel
theorem d_Mo_cover_98 : decode M_Mo_cover.2.1 98 = .ok (.ireturn, 1) := by decide +kernel
theorem d_Mo_now_0 : decode M_Mo_now.2.1 0 = .ok (.iload_n 1, 1) := by decide +kernel
theorem d_Mo_now_1 : decode M_Mo_now.2.1 1 = .ok (.tableswitch 89 0 8 #[51, 51, 51, 51, 51, 58, 67, 76, 84], 51) := by decide +kernel
theorem d_Mo_now_52 : decode M_Mo_now.2.1 52 = .ok (.aload_n 0, 1) := by decide +kernel
theorem d_Mo_now_53 : decode M_Mo_now.2.1 53 = .ok (.getfield 41, 3) := by decide +kernel
theorem d_Mo_now_56 : decode M_Mo_now.2.1 56 = .ok (.iload_n 1, 1) := by decide +kernel
theorem d_Mo_now_57 : decode M_Mo_now.2.1 57 = .ok (.iaload, 1) := by decide +kernel
theorem d_Mo_now_58 : decode M_Mo_now.2.1 58 = .ok (.ireturn, 1) := by decide +kernel
theorem d_Mo_now_59 : decode M_Mo_now.2.1 59 = .ok (.aload_n 0, 1) := by decide +kernel
theorem d_Mo_now_60 : decode M_Mo_now.2.1 60 = .ok (.aload_n 0, 1) := by decide +kernel
theorem d_Mo_now_61 : decode M_Mo_now.2.1 61 = .ok (.getfield 41, 3) := by decide +kernel
theorem d_Mo_now_64 : decode M_Mo_now.2.1 64 = .ok (.invokevirtual 144, 3) := by decide +kernel
theorem d_Mo_now_67 : decode M_Mo_now.2.1 67 = .ok (.ireturn, 1) := by decide +kernel
theorem d_Mo_now_68 : decode M_Mo_now.2.1 68 = .ok (.aload_n 0, 1) := by decide +kernel
theorem d_Mo_now_69 : decode M_Mo_now.2.1 69 = .ok (.aload_n 0, 1) := by decide +kernel
theorem d_Mo_now_70 : decode M_Mo_now.2.1 70 = .ok (.getfield 41, 3) := by decide +kernel
theorem d_Mo_now_73 : decode M_Mo_now.2.1 73 = .ok (.invokevirtual 148, 3) := by decide +kernel
theorem d_Mo_now_76 : decode M_Mo_now.2.1 76 = .ok (.ireturn, 1) := by decide +kernel
theorem d_Mo_now_77 : decode M_Mo_now.2.1 77 = .ok (.aload_n 0, 1) := by decide +kernel
theorem d_Mo_now_78 : decode M_Mo_now.2.1 78 = .ok (.getfield 41, 3) := by decide +kernel
theorem d_Mo_now_81 : decode M_Mo_now.2.1 81 = .ok (.bipush 10, 2) := by decide +kernel
theorem d_Mo_now_83 : decode M_Mo_now.2.1 83 = .ok (.iaload, 1) := by decide +kernel
theorem d_Mo_now_84 : decode M_Mo_now.2.1 84 = .ok (.ireturn, 1) := by decide +kernel
theorem d_Mo_now_85 : decode M_Mo_now.2.1 85 = .ok (.aload_n 0, 1) := by decide +kernel
theorem d_Mo_now_86 : decode M_Mo_now.2.1 86 = .ok (.invokevirtual 184, 3) := by decide +kernel
theorem d_Mo_now_89 : decode M_Mo_now.2.1 89 = .ok (.ireturn, 1) := by decide +kernel
theorem d_Mo_now_90 : decode M_Mo_now.2.1 90 = .ok (.iconst (-1), 1) := by decide +kernel
theorem d_Mo_now_91 : decode M_Mo_now.2.1 91 = .ok (.ireturn, 1) := by decide +kernel
theorem d_Mo_after_0 : decode M_Mo_after.2.1 0 = .ok (.iload_n 1, 1) := by decide +kernel
theorem d_Mo_after_1 : decode M_Mo_after.2.1 1 = .ok (.iconst 0, 1) := by decide +kernel
theorem d_Mo_after_2 : decode M_Mo_after.2.1 2 = .ok (.bipush 30, 2) := by decide +kernel
theorem d_Mo_after_4 : decode M_Mo_after.2.1 4 = .ok (.invokestatic 78, 3) := by decide +kernel
theorem d_Mo_after_7 : decode M_Mo_after.2.1 7 = .ok (.ifCond .eq 12, 3) := by decide +kernel
theorem d_Mo_after_10 : decode M_Mo_after.2.1 10 = .ok (.iload_n 2, 1) := by decide +kernel
theorem d_Mo_after_11 : decode M_Mo_after.2.1 11 = .ok (.iconst 0, 1) := by decide +kernel
theorem d_Mo_after_12 : decode M_Mo_after.2.1 12 = .ok (.iconst 1, 1) := by decide +kernel
theorem d_Mo_after_13 : decode M_Mo_after.2.1 13 = .ok (.invokestatic 78, 3) := by decide +kernel
theorem d_Mo_after_16 : decode M_Mo_after.2.1 16 = .ok (.ifCond .ne 5, 3) := by decide +kernel
theorem d_Mo_after_19 : decode M_Mo_after.2.1 19 = .ok (.iconst (-1), 1) := by decide +kernel
theorem d_Mo_after_20 : decode M_Mo_after.2.1 20 = .ok (.ireturn, 1) := by decide +kernel
theorem d_Mo_after_21 : decode M_Mo_after.2.1 21 = .ok (.aload_n 0, 1) := by decide +kernel
theorem d_Mo_after_22 : decode M_Mo_after.2.1 22 = .ok (.invokevirtual 187, 3) := by decide +kernel
theorem d_Mo_after_25 : decode M_Mo_after.2.1 25 = .ok (.iconst 0, 1) := by decide +kernel
theorem d_Mo_after_26 : decode M_Mo_after.2.1 26 = .ok (.istore_n 3, 1) := by decide +kernel
theorem d_Mo_after_27 : decode M_Mo_after.2.1 27 = .ok (.iload_n 3, 1) := by decide +kernel
theorem d_Mo_after_28 : decode M_Mo_after.2.1 28 = .ok (.iload_n 1, 1) := by decide +kernel
theorem d_Mo_after_29 : decode M_Mo_after.2.1 29 = .ok (.if_icmp .ge 17, 3) := by decide +kernel
theorem d_Mo_after_32 : decode M_Mo_after.2.1 32 = .ok (.aload_n 0, 1) := by decide +kernel
theorem d_Mo_after_33 : decode M_Mo_after.2.1 33 = .ok (.aload_n 0, 1) := by decide +kernel
theorem d_Mo_after_34 : decode M_Mo_after.2.1 34 = .ok (.getfield 57, 3) := by decide +kernel
theorem d_Mo_after_37 : decode M_Mo_after.2.1 37 = .ok (.invokevirtual 173, 3) := by decide +kernel
theorem d_Mo_after_40 : decode M_Mo_after.2.1 40 = .ok (.iinc 3 1, 3) := by decide +kernel
theorem d_Mo_after_43 : decode M_Mo_after.2.1 43 = .ok (.goto (-16), 3) := by decide +kernel
theorem d_Mo_after_46 : decode M_Mo_after.2.1 46 = .ok (.iload_n 2, 1) := by decide +kernel
theorem d_Mo_after_47 : decode M_Mo_after.2.1 47 = .ok (.ifCond .ne 12, 3) := by decide +kernel
theorem d_Mo_after_50 : decode M_Mo_after.2.1 50 = .ok (.aload_n 0, 1) := by decide +kernel
theorem d_Mo_after_51 : decode M_Mo_after.2.1 51 = .ok (.getfield 57, 3) := by decide +kernel
theorem d_Mo_after_54 : decode M_Mo_after.2.1 54 = .ok (.iconst 1, 1) := by decide +kernel
theorem d_Mo_after_55 : decode M_Mo_after.2.1 55 = .ok (.iaload, 1) := by decide +kernel
theorem d_Mo_after_56 : decode M_Mo_after.2.1 56 = .ok (.goto 9, 3) := by decide +kernel
theorem d_Mo_after_59 : decode M_Mo_after.2.1 59 = .ok (.aload_n 0, 1) := by decide +kernel
theorem d_Mo_after_60 : decode M_Mo_after.2.1 60 = .ok (.getfield 57, 3) := by decide +kernel
theorem d_Mo_after_63 : decode M_Mo_after.2.1 63 = .ok (.iconst 2, 1) := by decide +kernel
theorem d_Mo_after_64 : decode M_Mo_after.2.1 64 = .ok (.iaload, 1) := by decide +kernel
theorem d_Mo_after_65 : decode M_Mo_after.2.1 65 = .ok (.ireturn, 1) := by decide +kernel
theorem d_Mo_down_0 : decode M_Mo_down.2.1 0 = .ok (.aload_n 0, 1) := by decide +kernel
theorem d_Mo_down_1 : decode M_Mo_down.2.1 1 = .ok (.invokevirtual 187, 3) := by decide +kernel
theorem d_Mo_down_4 : decode M_Mo_down.2.1 4 = .ok (.iconst 1, 1) := by decide +kernel
theorem d_Mo_down_5 : decode M_Mo_down.2.1 5 = .ok (.istore_n 1, 1) := by decide +kernel
theorem d_Mo_down_6 : decode M_Mo_down.2.1 6 = .ok (.iload_n 1, 1) := by decide +kernel
theorem d_Mo_down_7 : decode M_Mo_down.2.1 7 = .ok (.bipush 60, 2) := by decide +kernel
theorem d_Mo_down_9 : decode M_Mo_down.2.1 9 = .ok (.if_icmp .gt 42, 3) := by decide +kernel
theorem d_Mo_down_12 : decode M_Mo_down.2.1 12 = .ok (.aload_n 0, 1) := by decide +kernel
theorem d_Mo_down_13 : decode M_Mo_down.2.1 13 = .ok (.aload_n 0, 1) := by decide +kernel
theorem d_Mo_down_14 : decode M_Mo_down.2.1 14 = .ok (.getfield 57, 3) := by decide +kernel
theorem d_Mo_down_17 : decode M_Mo_down.2.1 17 = .ok (.invokevirtual 173, 3) := by decide +kernel
theorem d_Mo_down_20 : decode M_Mo_down.2.1 20 = .ok (.aload_n 0, 1) := by decide +kernel
theorem d_Mo_down_21 : decode M_Mo_down.2.1 21 = .ok (.getfield 57, 3) := by decide +kernel
theorem d_Mo_down_24 : decode M_Mo_down.2.1 24 = .ok (.bipush 10, 2) := by decide +kernel
theorem d_Mo_down_26 : decode M_Mo_down.2.1 26 = .ok (.iaload, 1) := by decide +kernel
theorem d_Mo_down_27 : decode M_Mo_down.2.1 27 = .ok (.iconst 1, 1) := by decide +kernel
theorem d_Mo_down_28 : decode M_Mo_down.2.1 28 = .ok (.if_icmp .ne 6, 3) := by decide +kernel
theorem d_Mo_down_31 : decode M_Mo_down.2.1 31 = .ok (.bipush (-9), 2) := by decide +kernel
theorem d_Mo_down_33 : decode M_Mo_down.2.1 33 = .ok (.ireturn, 1) := by decide +kernel
theorem d_Mo_down_34 : decode M_Mo_down.2.1 34 = .ok (.aload_n 0, 1) := by decide +kernel
theorem d_Mo_down_35 : decode M_Mo_down.2.1 35 = .ok (.getfield 57, 3) := by decide +kernel
theorem d_Mo_down_38 : decode M_Mo_down.2.1 38 = .ok (.iconst 2, 1) := by decide +kernel
theorem d_Mo_down_39 : decode M_Mo_down.2.1 39 = .ok (.iaload, 1) := by decide +kernel
theorem d_Mo_down_40 : decode M_Mo_down.2.1 40 = .ok (.ifCond .ne 5, 3) := by decide +kernel
theorem d_Mo_down_43 : decode M_Mo_down.2.1 43 = .ok (.iload_n 1, 1) := by decide +kernel
theorem d_Mo_down_44 : decode M_Mo_down.2.1 44 = .ok (.ireturn, 1) := by decide +kernel
theorem d_Mo_down_45 : decode M_Mo_down.2.1 45 = .ok (.iinc 1 1, 3) := by decide +kernel
theorem d_Mo_down_48 : decode M_Mo_down.2.1 48 = .ok (.goto (-42), 3) := by decide +kernel
theorem d_Mo_down_51 : decode M_Mo_down.2.1 51 = .ok (.bipush (-9), 2) := by decide +kernel
theorem d_Mo_down_53 : decode M_Mo_down.2.1 53 = .ok (.ireturn, 1) := by decide +kernel
theorem d_Mo_goBy_0 : decode M_Mo_goBy.2.1 0 = .ok (.aload_n 0, 1) := by decide +kernel
theorem d_Mo_goBy_1 : decode M_Mo_goBy.2.1 1 = .ok (.invokevirtual 187, 3) := by decide +kernel
theorem d_Mo_goBy_4 : decode M_Mo_goBy.2.1 4 = .ok (.iload_n 2, 1) := by decide +kernel
theorem d_Mo_goBy_5 : decode M_Mo_goBy.2.1 5 = .ok (.istore 5, 2) := by decide +kernel
theorem d_Mo_goBy_7 : decode M_Mo_goBy.2.1 7 = .ok (.iconst 0, 1) := by decide +kernel
theorem d_Mo_goBy_8 : decode M_Mo_goBy.2.1 8 = .ok (.istore 6, 2) := by decide +kernel
theorem d_Mo_goBy_10 : decode M_Mo_goBy.2.1 10 = .ok (.iload 6, 2) := by decide +kernel
theorem d_Mo_goBy_12 : decode M_Mo_goBy.2.1 12 = .ok (.iload_n 3, 1) := by decide +kernel
theorem d_Mo_goBy_13 : decode M_Mo_goBy.2.1 13 = .ok (.if_icmp .ge 98, 3) := by decide +kernel
theorem d_Mo_goBy_16 : decode M_Mo_goBy.2.1 16 = .ok (.iload 5, 2) := by decide +kernel
theorem d_Mo_goBy_18 : decode M_Mo_goBy.2.1 18 = .ok (.bipush 13, 2) := by decide +kernel
theorem d_Mo_goBy_20 : decode M_Mo_goBy.2.1 20 = .ok (.idiv, 1) := by decide +kernel
theorem d_Mo_goBy_21 : decode M_Mo_goBy.2.1 21 = .ok (.istore 5, 2) := by decide +kernel
theorem d_Mo_goBy_23 : decode M_Mo_goBy.2.1 23 = .ok (.iload_n 1, 1) := by decide +kernel
theorem d_Mo_goBy_24 : decode M_Mo_goBy.2.1 24 = .ok (.iload 5, 2) := by decide +kernel
theorem d_Mo_goBy_26 : decode M_Mo_goBy.2.1 26 = .ok (.idiv, 1) := by decide +kernel
theorem d_Mo_goBy_27 : decode M_Mo_goBy.2.1 27 = .ok (.bipush 13, 2) := by decide +kernel
theorem d_Mo_goBy_29 : decode M_Mo_goBy.2.1 29 = .ok (.irem, 1) := by decide +kernel
theorem d_Mo_goBy_30 : decode M_Mo_goBy.2.1 30 = .ok (.iconst 1, 1) := by decide +kernel
theorem d_Mo_goBy_31 : decode M_Mo_goBy.2.1 31 = .ok (.isub, 1) := by decide +kernel
theorem d_Mo_goBy_32 : decode M_Mo_goBy.2.1 32 = .ok (.istore 7, 2) := by decide +kernel
theorem d_Mo_goBy_34 : decode M_Mo_goBy.2.1 34 = .ok (.iload 7, 2) := by decide +kernel
theorem d_Mo_goBy_36 : decode M_Mo_goBy.2.1 36 = .ok (.ifCond .lt 61, 3) := by decide +kernel
theorem d_Mo_goBy_39 : decode M_Mo_goBy.2.1 39 = .ok (.iload 7, 2) := by decide +kernel
theorem d_Mo_goBy_41 : decode M_Mo_goBy.2.1 41 = .ok (.iconst 4, 1) := by decide +kernel
theorem d_Mo_goBy_42 : decode M_Mo_goBy.2.1 42 = .ok (.idiv, 1) := by decide +kernel
theorem d_Mo_goBy_43 : decode M_Mo_goBy.2.1 43 = .ok (.istore 8, 2) := by decide +kernel
theorem d_Mo_goBy_45 : decode M_Mo_goBy.2.1 45 = .ok (.iload 7, 2) := by decide +kernel
theorem d_Mo_goBy_47 : decode M_Mo_goBy.2.1 47 = .ok (.iconst 4, 1) := by decide +kernel
theorem d_Mo_goBy_48 : decode M_Mo_goBy.2.1 48 = .ok (.irem, 1) := by decide +kernel
theorem d_Mo_goBy_49 : decode M_Mo_goBy.2.1 49 = .ok (.istore 9, 2) := by decide +kernel
theorem d_Mo_goBy_51 : decode M_Mo_goBy.2.1 51 = .ok (.aload_n 0, 1) := by decide +kernel
theorem d_Mo_goBy_52 : decode M_Mo_goBy.2.1 52 = .ok (.iload 8, 2) := by decide +kernel
theorem d_Mo_goBy_54 : decode M_Mo_goBy.2.1 54 = .ok (.invokevirtual 152, 3) := by decide +kernel
theorem d_Mo_goBy_57 : decode M_Mo_goBy.2.1 57 = .ok (.ifCond .eq 26, 3) := by decide +kernel
theorem d_Mo_goBy_60 : decode M_Mo_goBy.2.1 60 = .ok (.aload_n 0, 1) := by decide +kernel
theorem d_Mo_goBy_61 : decode M_Mo_goBy.2.1 61 = .ok (.iload 9, 2) := by decide +kernel
theorem d_Mo_goBy_63 : decode M_Mo_goBy.2.1 63 = .ok (.invokevirtual 159, 3) := by decide +kernel
theorem d_Mo_goBy_66 : decode M_Mo_goBy.2.1 66 = .ok (.ifCond .eq 17, 3) := by decide +kernel
theorem d_Mo_goBy_69 : decode M_Mo_goBy.2.1 69 = .ok (.aload_n 0, 1) := by decide +kernel
theorem d_Mo_goBy_70 : decode M_Mo_goBy.2.1 70 = .ok (.getfield 57, 3) := by decide +kernel
theorem d_Mo_goBy_73 : decode M_Mo_goBy.2.1 73 = .ok (.iload 8, 2) := by decide +kernel
theorem d_Mo_goBy_75 : decode M_Mo_goBy.2.1 75 = .ok (.iload 9, 2) := by decide +kernel
theorem d_Mo_goBy_77 : decode M_Mo_goBy.2.1 77 = .ok (.invokestatic 162, 3) := by decide +kernel
theorem d_Mo_goBy_80 : decode M_Mo_goBy.2.1 80 = .ok (.ifCond .ne 6, 3) := by decide +kernel
theorem d_Mo_goBy_83 : decode M_Mo_goBy.2.1 83 = .ok (.bipush (-9), 2) := by decide +kernel
theorem d_Mo_goBy_85 : decode M_Mo_goBy.2.1 85 = .ok (.ireturn, 1) := by decide +kernel
theorem d_Mo_goBy_86 : decode M_Mo_goBy.2.1 86 = .ok (.aload_n 0, 1) := by decide +kernel
theorem d_Mo_goBy_87 : decode M_Mo_goBy.2.1 87 = .ok (.getfield 57, 3) := by decide +kernel
theorem d_Mo_goBy_90 : decode M_Mo_goBy.2.1 90 = .ok (.iload 8, 2) := by decide +kernel
theorem d_Mo_goBy_92 : decode M_Mo_goBy.2.1 92 = .ok (.iload 9, 2) := by decide +kernel
theorem d_Mo_goBy_94 : decode M_Mo_goBy.2.1 94 = .ok (.invokestatic 169, 3) := by decide +kernel
theorem d_Mo_goBy_97 : decode M_Mo_goBy.2.1 97 = .ok (.aload_n 0, 1) := by decide +kernel
theorem d_Mo_goBy_98 : decode M_Mo_goBy.2.1 98 = .ok (.aload_n 0, 1) := by decide +kernel
theorem d_Mo_goBy_99 : decode M_Mo_goBy.2.1 99 = .ok (.getfield 57, 3) := by decide +kernel
theorem d_Mo_goBy_102 : decode M_Mo_goBy.2.1 102 = .ok (.invokevirtual 173, 3) := by decide +kernel
theorem d_Mo_goBy_105 : decode M_Mo_goBy.2.1 105 = .ok (.iinc 6 1, 3) := by decide +kernel
theorem d_Mo_goBy_108 : decode M_Mo_goBy.2.1 108 = .ok (.goto (-98), 3) := by decide +kernel
theorem d_Mo_goBy_111 : decode M_Mo_goBy.2.1 111 = .ok (.iload 4, 2) := by decide +kernel
theorem d_Mo_goBy_113 : decode M_Mo_goBy.2.1 113 = .ok (.ifCond .ne 12, 3) := by decide +kernel
theorem d_Mo_goBy_116 : decode M_Mo_goBy.2.1 116 = .ok (.aload_n 0, 1) := by decide +kernel
theorem d_Mo_goBy_117 : decode M_Mo_goBy.2.1 117 = .ok (.getfield 57, 3) := by decide +kernel
theorem d_Mo_goBy_120 : decode M_Mo_goBy.2.1 120 = .ok (.iconst 1, 1) := by decide +kernel
theorem d_Mo_goBy_121 : decode M_Mo_goBy.2.1 121 = .ok (.iaload, 1) := by decide +kernel
theorem d_Mo_goBy_122 : decode M_Mo_goBy.2.1 122 = .ok (.goto 9, 3) := by decide +kernel
theorem d_Mo_goBy_125 : decode M_Mo_goBy.2.1 125 = .ok (.aload_n 0, 1) := by decide +kernel
theorem d_Mo_goBy_126 : decode M_Mo_goBy.2.1 126 = .ok (.getfield 57, 3) := by decide +kernel
theorem d_Mo_goBy_129 : decode M_Mo_goBy.2.1 129 = .ok (.iconst 2, 1) := by decide +kernel
theorem d_Mo_goBy_130 : decode M_Mo_goBy.2.1 130 = .ok (.iaload, 1) := by decide +kernel
theorem d_Mo_goBy_131 : decode M_Mo_goBy.2.1 131 = .ok (.ireturn, 1) := by decide +kernel
theorem d_Mo_best_0 : decode M_Mo_best.2.1 0 = .ok (.iload_n 1, 1) := by decide +kernel
theorem d_Mo_best_1 : decode M_Mo_best.2.1 1 = .ok (.iconst 0, 1) := by decide +kernel
theorem d_Mo_best_2 : decode M_Mo_best.2.1 2 = .ok (.iconst 4, 1) := by decide +kernel
theorem d_Mo_best_3 : decode M_Mo_best.2.1 3 = .ok (.invokestatic 78, 3) := by decide +kernel
theorem d_Mo_best_6 : decode M_Mo_best.2.1 6 = .ok (.ifCond .eq 21, 3) := by decide +kernel
theorem d_Mo_best_9 : decode M_Mo_best.2.1 9 = .ok (.iload_n 2, 1) := by decide +kernel
theorem d_Mo_best_10 : decode M_Mo_best.2.1 10 = .ok (.iconst 0, 1) := by decide +kernel
theorem d_Mo_best_11 : decode M_Mo_best.2.1 11 = .ok (.iconst 1, 1) := by decide +kernel
theorem d_Mo_best_12 : decode M_Mo_best.2.1 12 = .ok (.invokestatic 78, 3) := by decide +kernel
theorem d_Mo_best_15 : decode M_Mo_best.2.1 15 = .ok (.ifCond .eq 12, 3) := by decide +kernel
theorem d_Mo_best_18 : decode M_Mo_best.2.1 18 = .ok (.iload_n 3, 1) := by decide +kernel
theorem d_Mo_best_19 : decode M_Mo_best.2.1 19 = .ok (.iconst (-1), 1) := by decide +kernel
theorem d_Mo_best_20 : decode M_Mo_best.2.1 20 = .ok (.iconst 3, 1) := by decide +kernel
theorem d_Mo_best_21 : decode M_Mo_best.2.1 21 = .ok (.invokestatic 78, 3) := by decide +kernel
theorem d_Mo_best_24 : decode M_Mo_best.2.1 24 = .ok (.ifCond .ne 5, 3) := by decide +kernel
theorem d_Mo_best_27 : decode M_Mo_best.2.1 27 = .ok (.iconst (-1), 1) := by decide +kernel
theorem d_Mo_best_28 : decode M_Mo_best.2.1 28 = .ok (.ireturn, 1) := by decide +kernel
theorem d_Mo_best_29 : decode M_Mo_best.2.1 29 = .ok (.iconst 1, 1) := by decide +kernel
theorem d_Mo_best_30 : decode M_Mo_best.2.1 30 = .ok (.istore 4, 2) := by decide +kernel
theorem d_Mo_best_32 : decode M_Mo_best.2.1 32 = .ok (.iconst 0, 1) := by decide +kernel
theorem d_Mo_best_33 : decode M_Mo_best.2.1 33 = .ok (.istore 5, 2) := by decide +kernel
theorem d_Mo_best_35 : decode M_Mo_best.2.1 35 = .ok (.iload 5, 2) := by decide +kernel
theorem d_Mo_best_37 : decode M_Mo_best.2.1 37 = .ok (.iload_n 1, 1) := by decide +kernel
theorem d_Mo_best_38 : decode M_Mo_best.2.1 38 = .ok (.if_icmp .ge 16, 3) := by decide +kernel
theorem d_Mo_best_41 : decode M_Mo_best.2.1 41 = .ok (.iload 4, 2) := by decide +kernel
theorem d_Mo_best_43 : decode M_Mo_best.2.1 43 = .ok (.bipush 13, 2) := by decide +kernel
theorem d_Mo_best_45 : decode M_Mo_best.2.1 45 = .ok (.imul, 1) := by decide +kernel
theorem d_Mo_best_46 : decode M_Mo_best.2.1 46 = .ok (.istore 4, 2) := by decide +kernel
theorem d_Mo_best_48 : decode M_Mo_best.2.1 48 = .ok (.iinc 5 1, 3) := by decide +kernel
theorem d_Mo_best_51 : decode M_Mo_best.2.1 51 = .ok (.goto (-16), 3) := by decide +kernel
theorem d_Mo_best_54 : decode M_Mo_best.2.1 54 = .ok (.iconst 0, 1) := by decide +kernel
theorem d_Mo_best_55 : decode M_Mo_best.2.1 55 = .ok (.istore 5, 2) := by decide +kernel
theorem d_Mo_best_57 : decode M_Mo_best.2.1 57 = .ok (.iconst (-1), 1) := by decide +kernel
theorem d_Mo_best_58 : decode M_Mo_best.2.1 58 = .ok (.istore 6, 2) := by decide +kernel
theorem d_Mo_best_60 : decode M_Mo_best.2.1 60 = .ok (.iconst 0, 1) := by decide +kernel
theorem d_Mo_best_61 : decode M_Mo_best.2.1 61 = .ok (.istore 7, 2) := by decide +kernel
theorem d_Mo_best_63 : decode M_Mo_best.2.1 63 = .ok (.iload 7, 2) := by decide +kernel
theorem d_Mo_best_65 : decode M_Mo_best.2.1 65 = .ok (.iload 4, 2) := by decide +kernel
theorem d_Mo_best_67 : decode M_Mo_best.2.1 67 = .ok (.if_icmp .ge 36, 3) := by decide +kernel
theorem d_Mo_best_70 : decode M_Mo_best.2.1 70 = .ok (.aload_n 0, 1) := by decide +kernel
theorem d_Mo_best_71 : decode M_Mo_best.2.1 71 = .ok (.iload 7, 2) := by decide +kernel
theorem d_Mo_best_73 : decode M_Mo_best.2.1 73 = .ok (.iload 4, 2) := by decide +kernel
theorem d_Mo_best_75 : decode M_Mo_best.2.1 75 = .ok (.iload_n 1, 1) := by decide +kernel
theorem d_Mo_best_76 : decode M_Mo_best.2.1 76 = .ok (.iload_n 2, 1) := by decide +kernel
theorem d_Mo_best_77 : decode M_Mo_best.2.1 77 = .ok (.invokevirtual 190, 3) := by decide +kernel
theorem d_Mo_best_80 : decode M_Mo_best.2.1 80 = .ok (.istore 8, 2) := by decide +kernel
theorem d_Mo_best_82 : decode M_Mo_best.2.1 82 = .ok (.iload 8, 2) := by decide +kernel
theorem d_Mo_best_84 : decode M_Mo_best.2.1 84 = .ok (.iload 6, 2) := by decide +kernel
theorem d_Mo_best_86 : decode M_Mo_best.2.1 86 = .ok (.if_icmp .le 11, 3) := by decide +kernel
theorem d_Mo_best_89 : decode M_Mo_best.2.1 89 = .ok (.iload 7, 2) := by decide +kernel
theorem d_Mo_best_91 : decode M_Mo_best.2.1 91 = .ok (.istore 5, 2) := by decide +kernel
theorem d_Mo_best_93 : decode M_Mo_best.2.1 93 = .ok (.iload 8, 2) := by decide +kernel
theorem d_Mo_best_95 : decode M_Mo_best.2.1 95 = .ok (.istore 6, 2) := by decide +kernel
theorem d_Mo_best_97 : decode M_Mo_best.2.1 97 = .ok (.iinc 7 1, 3) := by decide +kernel
theorem d_Mo_best_100 : decode M_Mo_best.2.1 100 = .ok (.goto (-37), 3) := by decide +kernel
theorem d_Mo_best_103 : decode M_Mo_best.2.1 103 = .ok (.iload_n 3, 1) := by decide +kernel
theorem d_Mo_best_104 : decode M_Mo_best.2.1 104 = .ok (.iconst (-1), 1) := by decide +kernel
theorem d_Mo_best_105 : decode M_Mo_best.2.1 105 = .ok (.if_icmp .ne 6, 3) := by decide +kernel
theorem d_Mo_best_108 : decode M_Mo_best.2.1 108 = .ok (.iload 6, 2) := by decide +kernel
theorem d_Mo_best_110 : decode M_Mo_best.2.1 110 = .ok (.ireturn, 1) := by decide +kernel
theorem d_Mo_best_111 : decode M_Mo_best.2.1 111 = .ok (.iload 4, 2) := by decide +kernel
theorem d_Mo_best_113 : decode M_Mo_best.2.1 113 = .ok (.istore 7, 2) := by decide +kernel
theorem d_Mo_best_115 : decode M_Mo_best.2.1 115 = .ok (.iconst 0, 1) := by decide +kernel
theorem d_Mo_best_116 : decode M_Mo_best.2.1 116 = .ok (.istore 8, 2) := by decide +kernel
theorem d_Mo_best_118 : decode M_Mo_best.2.1 118 = .ok (.iload 8, 2) := by decide +kernel
theorem d_Mo_best_120 : decode M_Mo_best.2.1 120 = .ok (.iload_n 3, 1) := by decide +kernel
theorem d_Mo_best_121 : decode M_Mo_best.2.1 121 = .ok (.if_icmp .gt 22, 3) := by decide +kernel
theorem d_Mo_best_124 : decode M_Mo_best.2.1 124 = .ok (.iload 8, 2) := by decide +kernel
theorem d_Mo_best_126 : decode M_Mo_best.2.1 126 = .ok (.iload_n 1, 1) := by decide +kernel
theorem d_Mo_best_127 : decode M_Mo_best.2.1 127 = .ok (.if_icmp .ge 16, 3) := by decide +kernel
theorem d_Mo_best_130 : decode M_Mo_best.2.1 130 = .ok (.iload 7, 2) := by decide +kernel
theorem d_Mo_best_132 : decode M_Mo_best.2.1 132 = .ok (.bipush 13, 2) := by decide +kernel
theorem d_Mo_best_134 : decode M_Mo_best.2.1 134 = .ok (.idiv, 1) := by decide +kernel
theorem d_Mo_best_135 : decode M_Mo_best.2.1 135 = .ok (.istore 7, 2) := by decide +kernel
theorem d_Mo_best_137 : decode M_Mo_best.2.1 137 = .ok (.iinc 8 1, 3) := by decide +kernel
theorem d_Mo_best_140 : decode M_Mo_best.2.1 140 = .ok (.goto (-22), 3) := by decide +kernel
theorem d_Mo_best_143 : decode M_Mo_best.2.1 143 = .ok (.iload_n 3, 1) := by decide +kernel
theorem d_Mo_best_144 : decode M_Mo_best.2.1 144 = .ok (.iload_n 1, 1) := by decide +kernel
theorem d_Mo_best_145 : decode M_Mo_best.2.1 145 = .ok (.if_icmp .ge 16, 3) := by decide +kernel
theorem d_Mo_best_148 : decode M_Mo_best.2.1 148 = .ok (.iload 5, 2) := by decide +kernel
theorem d_Mo_best_150 : decode M_Mo_best.2.1 150 = .ok (.iload 7, 2) := by decide +kernel
theorem d_Mo_best_152 : decode M_Mo_best.2.1 152 = .ok (.idiv, 1) := by decide +kernel
theorem d_Mo_best_153 : decode M_Mo_best.2.1 153 = .ok (.bipush 13, 2) := by decide +kernel
theorem d_Mo_best_155 : decode M_Mo_best.2.1 155 = .ok (.irem, 1) := by decide +kernel
theorem d_Mo_best_156 : decode M_Mo_best.2.1 156 = .ok (.iconst 1, 1) := by decide +kernel
theorem d_Mo_best_157 : decode M_Mo_best.2.1 157 = .ok (.isub, 1) := by decide +kernel
theorem d_Mo_best_158 : decode M_Mo_best.2.1 158 = .ok (.goto 4, 3) := by decide +kernel
theorem d_Mo_best_161 : decode M_Mo_best.2.1 161 = .ok (.iconst (-1), 1) := by decide +kernel
theorem d_Mo_best_162 : decode M_Mo_best.2.1 162 = .ok (.istore 8, 2) := by decide +kernel
theorem d_Mo_best_164 : decode M_Mo_best.2.1 164 = .ok (.iload 8, 2) := by decide +kernel
theorem d_Mo_best_166 : decode M_Mo_best.2.1 166 = .ok (.ifCond .ge 8, 3) := by decide +kernel
theorem d_Mo_best_169 : decode M_Mo_best.2.1 169 = .ok (.bipush (-9), 2) := by decide +kernel
theorem d_Mo_best_171 : decode M_Mo_best.2.1 171 = .ok (.goto 5, 3) := by decide +kernel
theorem d_Mo_best_174 : decode M_Mo_best.2.1 174 = .ok (.iload 8, 2) := by decide +kernel
theorem d_Mo_best_176 : decode M_Mo_best.2.1 176 = .ok (.ireturn, 1) := by decide +kernel
theorem d_Mo_own_0 : decode M_Mo_own.2.1 0 = .ok (.iload_n 1, 1) := by decide +kernel
theorem d_Mo_own_1 : decode M_Mo_own.2.1 1 = .ok (.iconst (-1), 1) := by decide +kernel
theorem d_Mo_own_2 : decode M_Mo_own.2.1 2 = .ok (.if_icmp .eq 13, 3) := by decide +kernel
theorem d_Mo_own_5 : decode M_Mo_own.2.1 5 = .ok (.aload_n 0, 1) := by decide +kernel
theorem d_Mo_own_6 : decode M_Mo_own.2.1 6 = .ok (.iload_n 1, 1) := by decide +kernel
theorem d_Mo_own_7 : decode M_Mo_own.2.1 7 = .ok (.invokevirtual 152, 3) := by decide +kernel
theorem d_Mo_own_10 : decode M_Mo_own.2.1 10 = .ok (.ifCond .ne 5, 3) := by decide +kernel
theorem d_Mo_own_13 : decode M_Mo_own.2.1 13 = .ok (.iconst (-1), 1) := by decide +kernel
theorem d_Mo_own_14 : decode M_Mo_own.2.1 14 = .ok (.ireturn, 1) := by decide +kernel
theorem d_Mo_own_15 : decode M_Mo_own.2.1 15 = .ok (.iconst 0, 1) := by decide +kernel
theorem d_Mo_own_16 : decode M_Mo_own.2.1 16 = .ok (.istore_n 2, 1) := by decide +kernel
theorem d_Mo_own_17 : decode M_Mo_own.2.1 17 = .ok (.iload_n 2, 1) := by decide +kernel
theorem d_Mo_own_18 : decode M_Mo_own.2.1 18 = .ok (.bipush 16, 2) := by decide +kernel
theorem d_Mo_own_20 : decode M_Mo_own.2.1 20 = .ok (.if_icmp .ge 26, 3) := by decide +kernel
theorem d_Mo_own_23 : decode M_Mo_own.2.1 23 = .ok (.aload_n 0, 1) := by decide +kernel
theorem d_Mo_own_24 : decode M_Mo_own.2.1 24 = .ok (.getfield 60, 3) := by decide +kernel
theorem d_Mo_own_27 : decode M_Mo_own.2.1 27 = .ok (.bipush 16, 2) := by decide +kernel
theorem d_Mo_own_29 : decode M_Mo_own.2.1 29 = .ok (.aload_n 0, 1) := by decide +kernel
theorem d_Mo_own_30 : decode M_Mo_own.2.1 30 = .ok (.getfield 17, 3) := by decide +kernel
theorem d_Mo_own_33 : decode M_Mo_own.2.1 33 = .ok (.iconst 0, 1) := by decide +kernel
theorem d_Mo_own_34 : decode M_Mo_own.2.1 34 = .ok (.iaload, 1) := by decide +kernel
theorem d_Mo_own_35 : decode M_Mo_own.2.1 35 = .ok (.imul, 1) := by decide +kernel
theorem d_Mo_own_36 : decode M_Mo_own.2.1 36 = .ok (.iload_n 2, 1) := by decide +kernel
theorem d_Mo_own_37 : decode M_Mo_own.2.1 37 = .ok (.iadd, 1) := by decide +kernel
theorem d_Mo_own_38 : decode M_Mo_own.2.1 38 = .ok (.iconst 0, 1) := by decide +kernel
theorem d_Mo_own_39 : decode M_Mo_own.2.1 39 = .ok (.iastore, 1) := by decide +kernel
theorem d_Mo_own_40 : decode M_Mo_own.2.1 40 = .ok (.iinc 2 1, 3) := by decide +kernel
theorem d_Mo_own_43 : decode M_Mo_own.2.1 43 = .ok (.goto (-26), 3) := by decide +kernel
theorem d_Mo_own_46 : decode M_Mo_own.2.1 46 = .ok (.aload_n 0, 1) := by decide +kernel
theorem d_Mo_own_47 : decode M_Mo_own.2.1 47 = .ok (.getfield 17, 3) := by decide +kernel
theorem d_Mo_own_50 : decode M_Mo_own.2.1 50 = .ok (.iconst 0, 1) := by decide +kernel
theorem d_Mo_own_51 : decode M_Mo_own.2.1 51 = .ok (.iaload, 1) := by decide +kernel
theorem d_Mo_own_52 : decode M_Mo_own.2.1 52 = .ok (.iconst 1, 1) := by decide +kernel
theorem d_Mo_own_53 : decode M_Mo_own.2.1 53 = .ok (.isub, 1) := by decide +kernel
theorem d_Mo_own_54 : decode M_Mo_own.2.1 54 = .ok (.istore_n 2, 1) := by decide +kernel
theorem d_Mo_own_55 : decode M_Mo_own.2.1 55 = .ok (.iload_n 2, 1) := by decide +kernel
theorem d_Mo_own_56 : decode M_Mo_own.2.1 56 = .ok (.ifCond .lt 147, 3) := by decide +kernel
theorem d_Mo_own_59 : decode M_Mo_own.2.1 59 = .ok (.iconst 0, 1) := by decide +kernel
theorem d_Mo_own_60 : decode M_Mo_own.2.1 60 = .ok (.istore_n 3, 1) := by decide +kernel
theorem d_Mo_own_61 : decode M_Mo_own.2.1 61 = .ok (.iload_n 3, 1) := by decide +kernel
theorem d_Mo_own_62 : decode M_Mo_own.2.1 62 = .ok (.bipush 16, 2) := by decide +kernel
theorem d_Mo_own_64 : decode M_Mo_own.2.1 64 = .ok (.if_icmp .ge 133, 3) := by decide +kernel
theorem d_Mo_own_67 : decode M_Mo_own.2.1 67 = .ok (.aload_n 0, 1) := by decide +kernel
theorem d_Mo_own_68 : decode M_Mo_own.2.1 68 = .ok (.getfield 60, 3) := by decide +kernel
theorem d_Mo_own_71 : decode M_Mo_own.2.1 71 = .ok (.bipush 16, 2) := by decide +kernel
theorem d_Mo_own_73 : decode M_Mo_own.2.1 73 = .ok (.iload_n 2, 1) := by decide +kernel
theorem d_Mo_own_74 : decode M_Mo_own.2.1 74 = .ok (.iconst 1, 1) := by decide +kernel
theorem d_Mo_own_75 : decode M_Mo_own.2.1 75 = .ok (.iadd, 1) := by decide +kernel
theorem d_Mo_own_76 : decode M_Mo_own.2.1 76 = .ok (.imul, 1) := by decide +kernel
theorem d_Mo_own_77 : decode M_Mo_own.2.1 77 = .ok (.iload_n 3, 1) := by decide +kernel
theorem d_Mo_own_78 : decode M_Mo_own.2.1 78 = .ok (.iadd, 1) := by decide +kernel
theorem d_Mo_own_79 : decode M_Mo_own.2.1 79 = .ok (.iaload, 1) := by decide +kernel
theorem d_Mo_own_80 : decode M_Mo_own.2.1 80 = .ok (.istore 4, 2) := by decide +kernel
theorem d_Mo_own_82 : decode M_Mo_own.2.1 82 = .ok (.iconst 0, 1) := by decide +kernel
theorem d_Mo_own_83 : decode M_Mo_own.2.1 83 = .ok (.istore 5, 2) := by decide +kernel
theorem d_Mo_own_85 : decode M_Mo_own.2.1 85 = .ok (.iload 5, 2) := by decide +kernel
theorem d_Mo_own_87 : decode M_Mo_own.2.1 87 = .ok (.aload_n 0, 1) := by decide +kernel
theorem d_Mo_own_88 : decode M_Mo_own.2.1 88 = .ok (.getfield 29, 3) := by decide +kernel
theorem d_Mo_own_91 : decode M_Mo_own.2.1 91 = .ok (.iconst 0, 1) := by decide +kernel
theorem d_Mo_own_92 : decode M_Mo_own.2.1 92 = .ok (.iaload, 1) := by decide +kernel
theorem d_Mo_own_93 : decode M_Mo_own.2.1 93 = .ok (.if_icmp .ge 85, 3) := by decide +kernel
theorem d_Mo_own_96 : decode M_Mo_own.2.1 96 = .ok (.aload_n 0, 1) := by decide +kernel
theorem d_Mo_own_97 : decode M_Mo_own.2.1 97 = .ok (.iload_n 2, 1) := by decide +kernel
theorem d_Mo_own_98 : decode M_Mo_own.2.1 98 = .ok (.invokevirtual 155, 3) := by decide +kernel
theorem d_Mo_own_101 : decode M_Mo_own.2.1 101 = .ok (.iload 5, 2) := by decide +kernel
theorem d_Mo_own_103 : decode M_Mo_own.2.1 103 = .ok (.invokestatic 140, 3) := by decide +kernel
theorem d_Mo_own_106 : decode M_Mo_own.2.1 106 = .ok (.ifCond .eq 16, 3) := by decide +kernel
theorem d_Mo_own_109 : decode M_Mo_own.2.1 109 = .ok (.iload_n 3, 1) := by decide +kernel
theorem d_Mo_own_110 : decode M_Mo_own.2.1 110 = .ok (.iload 5, 2) := by decide +kernel
theorem d_Mo_own_112 : decode M_Mo_own.2.1 112 = .ok (.invokestatic 140, 3) := by decide +kernel
theorem d_Mo_own_115 : decode M_Mo_own.2.1 115 = .ok (.ifCond .ne 7, 3) := by decide +kernel
theorem d_Mo_own_118 : decode M_Mo_own.2.1 118 = .ok (.iconst 1, 1) := by decide +kernel
theorem d_Mo_own_119 : decode M_Mo_own.2.1 119 = .ok (.goto 4, 3) := by decide +kernel
theorem d_Mo_own_122 : decode M_Mo_own.2.1 122 = .ok (.iconst 0, 1) := by decide +kernel
theorem d_Mo_own_123 : decode M_Mo_own.2.1 123 = .ok (.istore 6, 2) := by decide +kernel
theorem d_Mo_own_125 : decode M_Mo_own.2.1 125 = .ok (.iload 6, 2) := by decide +kernel
theorem d_Mo_own_127 : decode M_Mo_own.2.1 127 = .ok (.ifCond .eq 26, 3) := by decide +kernel
theorem d_Mo_own_130 : decode M_Mo_own.2.1 130 = .ok (.iconst 1, 1) := by decide +kernel
theorem d_Mo_own_131 : decode M_Mo_own.2.1 131 = .ok (.aload_n 0, 1) := by decide +kernel
theorem d_Mo_own_132 : decode M_Mo_own.2.1 132 = .ok (.getfield 60, 3) := by decide +kernel
theorem d_Mo_own_135 : decode M_Mo_own.2.1 135 = .ok (.bipush 16, 2) := by decide +kernel
theorem d_Mo_own_137 : decode M_Mo_own.2.1 137 = .ok (.iload_n 2, 1) := by decide +kernel
theorem d_Mo_own_138 : decode M_Mo_own.2.1 138 = .ok (.iconst 1, 1) := by decide +kernel
theorem d_Mo_own_139 : decode M_Mo_own.2.1 139 = .ok (.iadd, 1) := by decide +kernel
theorem d_Mo_own_140 : decode M_Mo_own.2.1 140 = .ok (.imul, 1) := by decide +kernel
theorem d_Mo_own_141 : decode M_Mo_own.2.1 141 = .ok (.iload_n 3, 1) := by decide +kernel
theorem d_Mo_own_142 : decode M_Mo_own.2.1 142 = .ok (.iconst 1, 1) := by decide +kernel
theorem d_Mo_own_143 : decode M_Mo_own.2.1 143 = .ok (.iload 5, 2) := by decide +kernel
theorem d_Mo_own_145 : decode M_Mo_own.2.1 145 = .ok (.ishl, 1) := by decide +kernel
theorem d_Mo_own_146 : decode M_Mo_own.2.1 146 = .ok (.ior, 1) := by decide +kernel
theorem d_Mo_own_147 : decode M_Mo_own.2.1 147 = .ok (.iadd, 1) := by decide +kernel
theorem d_Mo_own_148 : decode M_Mo_own.2.1 148 = .ok (.iaload, 1) := by decide +kernel
theorem d_Mo_own_149 : decode M_Mo_own.2.1 149 = .ok (.iadd, 1) := by decide +kernel
theorem d_Mo_own_150 : decode M_Mo_own.2.1 150 = .ok (.goto 4, 3) := by decide +kernel
theorem d_Mo_own_153 : decode M_Mo_own.2.1 153 = .ok (.iconst 0, 1) := by decide +kernel
theorem d_Mo_own_154 : decode M_Mo_own.2.1 154 = .ok (.istore 7, 2) := by decide +kernel
theorem d_Mo_own_156 : decode M_Mo_own.2.1 156 = .ok (.iload 7, 2) := by decide +kernel
theorem d_Mo_own_158 : decode M_Mo_own.2.1 158 = .ok (.iload 4, 2) := by decide +kernel
theorem d_Mo_own_160 : decode M_Mo_own.2.1 160 = .ok (.if_icmp .le 8, 3) := by decide +kernel
theorem d_Mo_own_163 : decode M_Mo_own.2.1 163 = .ok (.iload 7, 2) := by decide +kernel
theorem d_Mo_own_165 : decode M_Mo_own.2.1 165 = .ok (.goto 5, 3) := by decide +kernel
theorem d_Mo_own_168 : decode M_Mo_own.2.1 168 = .ok (.iload 4, 2) := by decide +kernel
theorem d_Mo_own_170 : decode M_Mo_own.2.1 170 = .ok (.istore 4, 2) := by decide +kernel
theorem d_Mo_own_172 : decode M_Mo_own.2.1 172 = .ok (.iinc 5 1, 3) := by decide +kernel
theorem d_Mo_own_175 : decode M_Mo_own.2.1 175 = .ok (.goto (-90), 3) := by decide +kernel
theorem d_Mo_own_178 : decode M_Mo_own.2.1 178 = .ok (.aload_n 0, 1) := by decide +kernel
theorem d_Mo_own_179 : decode M_Mo_own.2.1 179 = .ok (.getfield 60, 3) := by decide +kernel
theorem d_Mo_own_182 : decode M_Mo_own.2.1 182 = .ok (.bipush 16, 2) := by decide +kernel
theorem d_Mo_own_184 : decode M_Mo_own.2.1 184 = .ok (.iload_n 2, 1) := by decide +kernel
theorem d_Mo_own_185 : decode M_Mo_own.2.1 185 = .ok (.imul, 1) := by decide +kernel
theorem d_Mo_own_186 : decode M_Mo_own.2.1 186 = .ok (.iload_n 3, 1) := by decide +kernel
theorem d_Mo_own_187 : decode M_Mo_own.2.1 187 = .ok (.iadd, 1) := by decide +kernel
theorem d_Mo_own_188 : decode M_Mo_own.2.1 188 = .ok (.iload 4, 2) := by decide +kernel
theorem d_Mo_own_190 : decode M_Mo_own.2.1 190 = .ok (.iastore, 1) := by decide +kernel
theorem d_Mo_own_191 : decode M_Mo_own.2.1 191 = .ok (.iinc 3 1, 3) := by decide +kernel
theorem d_Mo_own_194 : decode M_Mo_own.2.1 194 = .ok (.goto (-133), 3) := by decide +kernel
theorem d_Mo_own_197 : decode M_Mo_own.2.1 197 = .ok (.iinc 2 (-1), 3) := by decide +kernel
theorem d_Mo_own_200 : decode M_Mo_own.2.1 200 = .ok (.goto (-145), 3) := by decide +kernel
theorem d_Mo_own_203 : decode M_Mo_own.2.1 203 = .ok (.iload_n 1, 1) := by decide +kernel
theorem d_Mo_own_204 : decode M_Mo_own.2.1 204 = .ok (.iconst (-1), 1) := by decide +kernel
theorem d_Mo_own_205 : decode M_Mo_own.2.1 205 = .ok (.if_icmp .ne 10, 3) := by decide +kernel
theorem d_Mo_own_208 : decode M_Mo_own.2.1 208 = .ok (.aload_n 0, 1) := by decide +kernel
theorem d_Mo_own_209 : decode M_Mo_own.2.1 209 = .ok (.getfield 60, 3) := by decide +kernel
theorem d_Mo_own_212 : decode M_Mo_own.2.1 212 = .ok (.iconst 0, 1) := by decide +kernel
theorem d_Mo_own_213 : decode M_Mo_own.2.1 213 = .ok (.iaload, 1) := by decide +kernel
theorem d_Mo_own_214 : decode M_Mo_own.2.1 214 = .ok (.ireturn, 1) := by decide +kernel
theorem d_Mo_own_215 : decode M_Mo_own.2.1 215 = .ok (.iconst 0, 1) := by decide +kernel
theorem d_Mo_own_216 : decode M_Mo_own.2.1 216 = .ok (.istore_n 2, 1) := by decide +kernel
theorem d_Mo_own_217 : decode M_Mo_own.2.1 217 = .ok (.bipush (-9), 2) := by decide +kernel
theorem d_Mo_own_219 : decode M_Mo_own.2.1 219 = .ok (.istore_n 3, 1) := by decide +kernel
theorem d_Mo_own_220 : decode M_Mo_own.2.1 220 = .ok (.iconst 0, 1) := by decide +kernel
theorem d_Mo_own_221 : decode M_Mo_own.2.1 221 = .ok (.istore 4, 2) := by decide +kernel
theorem d_Mo_own_223 : decode M_Mo_own.2.1 223 = .ok (.iload 4, 2) := by decide +kernel
theorem d_Mo_own_225 : decode M_Mo_own.2.1 225 = .ok (.iload_n 1, 1) := by decide +kernel
theorem d_Mo_own_226 : decode M_Mo_own.2.1 226 = .ok (.if_icmp .gt 127, 3) := by decide +kernel
theorem d_Mo_own_229 : decode M_Mo_own.2.1 229 = .ok (.bipush (-9), 2) := by decide +kernel
theorem d_Mo_own_231 : decode M_Mo_own.2.1 231 = .ok (.istore_n 3, 1) := by decide +kernel
theorem d_Mo_own_232 : decode M_Mo_own.2.1 232 = .ok (.aload_n 0, 1) := by decide +kernel
theorem d_Mo_own_233 : decode M_Mo_own.2.1 233 = .ok (.getfield 29, 3) := by decide +kernel
theorem d_Mo_own_236 : decode M_Mo_own.2.1 236 = .ok (.iconst 0, 1) := by decide +kernel
theorem d_Mo_own_237 : decode M_Mo_own.2.1 237 = .ok (.iaload, 1) := by decide +kernel
theorem d_Mo_own_238 : decode M_Mo_own.2.1 238 = .ok (.iconst 1, 1) := by decide +kernel
theorem d_Mo_own_239 : decode M_Mo_own.2.1 239 = .ok (.isub, 1) := by decide +kernel
theorem d_Mo_own_240 : decode M_Mo_own.2.1 240 = .ok (.istore 5, 2) := by decide +kernel
theorem d_Mo_own_242 : decode M_Mo_own.2.1 242 = .ok (.iload 5, 2) := by decide +kernel
theorem d_Mo_own_244 : decode M_Mo_own.2.1 244 = .ok (.ifCond .lt 87, 3) := by decide +kernel
theorem d_Mo_own_247 : decode M_Mo_own.2.1 247 = .ok (.aload_n 0, 1) := by decide +kernel
theorem d_Mo_own_248 : decode M_Mo_own.2.1 248 = .ok (.iload 4, 2) := by decide +kernel
theorem d_Mo_own_250 : decode M_Mo_own.2.1 250 = .ok (.invokevirtual 155, 3) := by decide +kernel
theorem d_Mo_own_253 : decode M_Mo_own.2.1 253 = .ok (.iload 5, 2) := by decide +kernel
theorem d_Mo_own_255 : decode M_Mo_own.2.1 255 = .ok (.invokestatic 140, 3) := by decide +kernel
theorem d_Mo_own_258 : decode M_Mo_own.2.1 258 = .ok (.ifCond .eq 16, 3) := by decide +kernel
theorem d_Mo_own_261 : decode M_Mo_own.2.1 261 = .ok (.iload_n 2, 1) := by decide +kernel
theorem d_Mo_own_262 : decode M_Mo_own.2.1 262 = .ok (.iload 5, 2) := by decide +kernel
theorem d_Mo_own_264 : decode M_Mo_own.2.1 264 = .ok (.invokestatic 140, 3) := by decide +kernel
theorem d_Mo_own_267 : decode M_Mo_own.2.1 267 = .ok (.ifCond .ne 7, 3) := by decide +kernel
theorem d_Mo_own_270 : decode M_Mo_own.2.1 270 = .ok (.iconst 1, 1) := by decide +kernel
theorem d_Mo_own_271 : decode M_Mo_own.2.1 271 = .ok (.goto 4, 3) := by decide +kernel
theorem d_Mo_own_274 : decode M_Mo_own.2.1 274 = .ok (.iconst 0, 1) := by decide +kernel
theorem d_Mo_own_275 : decode M_Mo_own.2.1 275 = .ok (.istore 6, 2) := by decide +kernel
theorem d_Mo_own_277 : decode M_Mo_own.2.1 277 = .ok (.iload 6, 2) := by decide +kernel
theorem d_Mo_own_279 : decode M_Mo_own.2.1 279 = .ok (.ifCond .eq 44, 3) := by decide +kernel
theorem d_Mo_own_282 : decode M_Mo_own.2.1 282 = .ok (.iconst 1, 1) := by decide +kernel
theorem d_Mo_own_283 : decode M_Mo_own.2.1 283 = .ok (.aload_n 0, 1) := by decide +kernel
theorem d_Mo_own_284 : decode M_Mo_own.2.1 284 = .ok (.getfield 60, 3) := by decide +kernel
theorem d_Mo_own_287 : decode M_Mo_own.2.1 287 = .ok (.bipush 16, 2) := by decide +kernel
theorem d_Mo_own_289 : decode M_Mo_own.2.1 289 = .ok (.iload 4, 2) := by decide +kernel
theorem d_Mo_own_291 : decode M_Mo_own.2.1 291 = .ok (.iconst 1, 1) := by decide +kernel
theorem d_Mo_own_292 : decode M_Mo_own.2.1 292 = .ok (.iadd, 1) := by decide +kernel
theorem d_Mo_own_293 : decode M_Mo_own.2.1 293 = .ok (.imul, 1) := by decide +kernel
theorem d_Mo_own_294 : decode M_Mo_own.2.1 294 = .ok (.iload_n 2, 1) := by decide +kernel
theorem d_Mo_own_295 : decode M_Mo_own.2.1 295 = .ok (.iconst 1, 1) := by decide +kernel
theorem d_Mo_own_296 : decode M_Mo_own.2.1 296 = .ok (.iload 5, 2) := by decide +kernel
theorem d_Mo_own_298 : decode M_Mo_own.2.1 298 = .ok (.ishl, 1) := by decide +kernel
theorem d_Mo_own_299 : decode M_Mo_own.2.1 299 = .ok (.ior, 1) := by decide +kernel
theorem d_Mo_own_300 : decode M_Mo_own.2.1 300 = .ok (.iadd, 1) := by decide +kernel
theorem d_Mo_own_301 : decode M_Mo_own.2.1 301 = .ok (.iaload, 1) := by decide +kernel
theorem d_Mo_own_302 : decode M_Mo_own.2.1 302 = .ok (.iadd, 1) := by decide +kernel
theorem d_Mo_own_303 : decode M_Mo_own.2.1 303 = .ok (.aload_n 0, 1) := by decide +kernel
theorem d_Mo_own_304 : decode M_Mo_own.2.1 304 = .ok (.getfield 60, 3) := by decide +kernel
theorem d_Mo_own_307 : decode M_Mo_own.2.1 307 = .ok (.bipush 16, 2) := by decide +kernel
theorem d_Mo_own_309 : decode M_Mo_own.2.1 309 = .ok (.iload 4, 2) := by decide +kernel
theorem d_Mo_own_311 : decode M_Mo_own.2.1 311 = .ok (.imul, 1) := by decide +kernel
theorem d_Mo_own_312 : decode M_Mo_own.2.1 312 = .ok (.iload_n 2, 1) := by decide +kernel
theorem d_Mo_own_313 : decode M_Mo_own.2.1 313 = .ok (.iadd, 1) := by decide +kernel
theorem d_Mo_own_314 : decode M_Mo_own.2.1 314 = .ok (.iaload, 1) := by decide +kernel
theorem d_Mo_own_315 : decode M_Mo_own.2.1 315 = .ok (.if_icmp .ne 8, 3) := by decide +kernel
theorem d_Mo_own_318 : decode M_Mo_own.2.1 318 = .ok (.iload 5, 2) := by decide +kernel
theorem d_Mo_own_320 : decode M_Mo_own.2.1 320 = .ok (.goto 4, 3) := by decide +kernel
theorem d_Mo_own_323 : decode M_Mo_own.2.1 323 = .ok (.iload_n 3, 1) := by decide +kernel
theorem d_Mo_own_324 : decode M_Mo_own.2.1 324 = .ok (.istore_n 3, 1) := by decide +kernel
theorem d_Mo_own_325 : decode M_Mo_own.2.1 325 = .ok (.iinc 5 (-1), 3) := by decide +kernel
theorem d_Mo_own_328 : decode M_Mo_own.2.1 328 = .ok (.goto (-86), 3) := by decide +kernel
theorem d_Mo_own_331 : decode M_Mo_own.2.1 331 = .ok (.iload_n 2, 1) := by decide +kernel
theorem d_Mo_own_332 : decode M_Mo_own.2.1 332 = .ok (.iload_n 3, 1) := by decide +kernel
theorem d_Mo_own_333 : decode M_Mo_own.2.1 333 = .ok (.bipush (-9), 2) := by decide +kernel
theorem d_Mo_own_335 : decode M_Mo_own.2.1 335 = .ok (.if_icmp .ne 7, 3) := by decide +kernel
theorem d_Mo_own_338 : decode M_Mo_own.2.1 338 = .ok (.iconst 0, 1) := by decide +kernel
theorem d_Mo_own_339 : decode M_Mo_own.2.1 339 = .ok (.goto 6, 3) := by decide +kernel
theorem d_Mo_own_342 : decode M_Mo_own.2.1 342 = .ok (.iconst 1, 1) := by decide +kernel
theorem d_Mo_own_343 : decode M_Mo_own.2.1 343 = .ok (.iload_n 3, 1) := by decide +kernel
theorem d_Mo_own_344 : decode M_Mo_own.2.1 344 = .ok (.ishl, 1) := by decide +kernel
theorem d_Mo_own_345 : decode M_Mo_own.2.1 345 = .ok (.ior, 1) := by decide +kernel
theorem d_Mo_own_346 : decode M_Mo_own.2.1 346 = .ok (.istore_n 2, 1) := by decide +kernel
theorem d_Mo_own_347 : decode M_Mo_own.2.1 347 = .ok (.iinc 4 1, 3) := by decide +kernel
theorem d_Mo_own_350 : decode M_Mo_own.2.1 350 = .ok (.goto (-127), 3) := by decide +kernel
theorem d_Mo_own_353 : decode M_Mo_own.2.1 353 = .ok (.iload_n 3, 1) := by decide +kernel
theorem d_Mo_own_354 : decode M_Mo_own.2.1 354 = .ok (.ireturn, 1) := by decide +kernel
theorem d_Mo_odds_0 : decode M_Mo_odds.2.1 0 = .ok (.iload_n 1, 1) := by decide +kernel
theorem d_Mo_odds_1 : decode M_Mo_odds.2.1 1 = .ok (.iconst 1, 1) := by decide +kernel
theorem d_Mo_odds_2 : decode M_Mo_odds.2.1 2 = .ok (.bipush 9, 2) := by decide +kernel
theorem d_Mo_odds_4 : decode M_Mo_odds.2.1 4 = .ok (.invokestatic 78, 3) := by decide +kernel
theorem d_Mo_odds_7 : decode M_Mo_odds.2.1 7 = .ok (.ifCond .eq 44, 3) := by decide +kernel
theorem d_Mo_odds_10 : decode M_Mo_odds.2.1 10 = .ok (.iload_n 2, 1) := by decide +kernel
theorem d_Mo_odds_11 : decode M_Mo_odds.2.1 11 = .ok (.iconst 0, 1) := by decide +kernel
theorem d_Mo_odds_12 : decode M_Mo_odds.2.1 12 = .ok (.bipush 40, 2) := by decide +kernel
theorem d_Mo_odds_14 : decode M_Mo_odds.2.1 14 = .ok (.invokestatic 78, 3) := by decide +kernel
theorem d_Mo_odds_17 : decode M_Mo_odds.2.1 17 = .ok (.ifCond .eq 34, 3) := by decide +kernel
theorem d_Mo_odds_20 : decode M_Mo_odds.2.1 20 = .ok (.iload_n 3, 1) := by decide +kernel
theorem d_Mo_odds_21 : decode M_Mo_odds.2.1 21 = .ok (.iconst 0, 1) := by decide +kernel
theorem d_Mo_odds_22 : decode M_Mo_odds.2.1 22 = .ok (.bipush 6, 2) := by decide +kernel
theorem d_Mo_odds_24 : decode M_Mo_odds.2.1 24 = .ok (.invokestatic 78, 3) := by decide +kernel
theorem d_Mo_odds_27 : decode M_Mo_odds.2.1 27 = .ok (.ifCond .eq 24, 3) := by decide +kernel
theorem d_Mo_odds_30 : decode M_Mo_odds.2.1 30 = .ok (.iload 4, 2) := by decide +kernel
theorem d_Mo_odds_32 : decode M_Mo_odds.2.1 32 = .ok (.iconst 0, 1) := by decide +kernel
theorem d_Mo_odds_33 : decode M_Mo_odds.2.1 33 = .ok (.bipush 10, 2) := by decide +kernel
theorem d_Mo_odds_35 : decode M_Mo_odds.2.1 35 = .ok (.invokestatic 78, 3) := by decide +kernel
theorem d_Mo_odds_38 : decode M_Mo_odds.2.1 38 = .ok (.ifCond .eq 13, 3) := by decide +kernel
theorem d_Mo_odds_41 : decode M_Mo_odds.2.1 41 = .ok (.iload 5, 2) := by decide +kernel
theorem d_Mo_odds_43 : decode M_Mo_odds.2.1 43 = .ok (.iconst 0, 1) := by decide +kernel
theorem d_Mo_odds_44 : decode M_Mo_odds.2.1 44 = .ok (.iconst 1, 1) := by decide +kernel
theorem d_Mo_odds_45 : decode M_Mo_odds.2.1 45 = .ok (.invokestatic 78, 3) := by decide +kernel
theorem d_Mo_odds_48 : decode M_Mo_odds.2.1 48 = .ok (.ifCond .ne 5, 3) := by decide +kernel
theorem d_Mo_odds_51 : decode M_Mo_odds.2.1 51 = .ok (.iconst (-1), 1) := by decide +kernel
theorem d_Mo_odds_52 : decode M_Mo_odds.2.1 52 = .ok (.ireturn, 1) := by decide +kernel
theorem d_Mo_odds_53 : decode M_Mo_odds.2.1 53 = .ok (.iconst 0, 1) := by decide +kernel
theorem d_Mo_odds_54 : decode M_Mo_odds.2.1 54 = .ok (.istore 6, 2) := by decide +kernel
theorem d_Mo_odds_56 : decode M_Mo_odds.2.1 56 = .ok (.iconst 1, 1) := by decide +kernel
theorem d_Mo_odds_57 : decode M_Mo_odds.2.1 57 = .ok (.istore 7, 2) := by decide +kernel
theorem d_Mo_odds_59 : decode M_Mo_odds.2.1 59 = .ok (.iconst 0, 1) := by decide +kernel
theorem d_Mo_odds_60 : decode M_Mo_odds.2.1 60 = .ok (.istore 8, 2) := by decide +kernel
theorem d_Mo_odds_62 : decode M_Mo_odds.2.1 62 = .ok (.iload 8, 2) := by decide +kernel
theorem d_Mo_odds_64 : decode M_Mo_odds.2.1 64 = .ok (.iconst 1, 1) := by decide +kernel
theorem d_Mo_odds_65 : decode M_Mo_odds.2.1 65 = .ok (.iload_n 3, 1) := by decide +kernel
theorem d_Mo_odds_66 : decode M_Mo_odds.2.1 66 = .ok (.ishl, 1) := by decide +kernel
theorem d_Mo_odds_67 : decode M_Mo_odds.2.1 67 = .ok (.if_icmp .ge 127, 3) := by decide +kernel
theorem d_Mo_odds_70 : decode M_Mo_odds.2.1 70 = .ok (.iconst 1, 1) := by decide +kernel
theorem d_Mo_odds_71 : decode M_Mo_odds.2.1 71 = .ok (.istore 9, 2) := by decide +kernel
theorem d_Mo_odds_73 : decode M_Mo_odds.2.1 73 = .ok (.aload_n 0, 1) := by decide +kernel
theorem d_Mo_odds_74 : decode M_Mo_odds.2.1 74 = .ok (.getfield 41, 3) := by decide +kernel
theorem d_Mo_odds_77 : decode M_Mo_odds.2.1 77 = .ok (.iconst 1, 1) := by decide +kernel
theorem d_Mo_odds_78 : decode M_Mo_odds.2.1 78 = .ok (.iaload, 1) := by decide +kernel
theorem d_Mo_odds_79 : decode M_Mo_odds.2.1 79 = .ok (.istore 10, 2) := by decide +kernel
theorem d_Mo_odds_81 : decode M_Mo_odds.2.1 81 = .ok (.iconst 0, 1) := by decide +kernel
theorem d_Mo_odds_82 : decode M_Mo_odds.2.1 82 = .ok (.istore 11, 2) := by decide +kernel
theorem d_Mo_odds_84 : decode M_Mo_odds.2.1 84 = .ok (.iload 11, 2) := by decide +kernel
theorem d_Mo_odds_86 : decode M_Mo_odds.2.1 86 = .ok (.iload_n 3, 1) := by decide +kernel
theorem d_Mo_odds_87 : decode M_Mo_odds.2.1 87 = .ok (.if_icmp .ge 84, 3) := by decide +kernel
theorem d_Mo_odds_90 : decode M_Mo_odds.2.1 90 = .ok (.iload 9, 2) := by decide +kernel
theorem d_Mo_odds_92 : decode M_Mo_odds.2.1 92 = .ok (.iload 8, 2) := by decide +kernel
theorem d_Mo_odds_94 : decode M_Mo_odds.2.1 94 = .ok (.iload 11, 2) := by decide +kernel
theorem d_Mo_odds_96 : decode M_Mo_odds.2.1 96 = .ok (.invokestatic 140, 3) := by decide +kernel
theorem d_Mo_odds_99 : decode M_Mo_odds.2.1 99 = .ok (.ifCond .eq 8, 3) := by decide +kernel
theorem d_Mo_odds_102 : decode M_Mo_odds.2.1 102 = .ok (.iload 4, 2) := by decide +kernel
theorem d_Mo_odds_104 : decode M_Mo_odds.2.1 104 = .ok (.goto 8, 3) := by decide +kernel
theorem d_Mo_odds_107 : decode M_Mo_odds.2.1 107 = .ok (.bipush 10, 2) := by decide +kernel
theorem d_Mo_odds_109 : decode M_Mo_odds.2.1 109 = .ok (.iload 4, 2) := by decide +kernel
theorem d_Mo_odds_111 : decode M_Mo_odds.2.1 111 = .ok (.isub, 1) := by decide +kernel
theorem d_Mo_odds_112 : decode M_Mo_odds.2.1 112 = .ok (.imul, 1) := by decide +kernel
theorem d_Mo_odds_113 : decode M_Mo_odds.2.1 113 = .ok (.istore 9, 2) := by decide +kernel
theorem d_Mo_odds_115 : decode M_Mo_odds.2.1 115 = .ok (.iload 10, 2) := by decide +kernel
theorem d_Mo_odds_117 : decode M_Mo_odds.2.1 117 = .ok (.iload 8, 2) := by decide +kernel
theorem d_Mo_odds_119 : decode M_Mo_odds.2.1 119 = .ok (.iload 11, 2) := by decide +kernel
theorem d_Mo_odds_121 : decode M_Mo_odds.2.1 121 = .ok (.invokestatic 140, 3) := by decide +kernel
theorem d_Mo_odds_124 : decode M_Mo_odds.2.1 124 = .ok (.ifCond .eq 13, 3) := by decide +kernel
theorem d_Mo_odds_127 : decode M_Mo_odds.2.1 127 = .ok (.aload_n 0, 1) := by decide +kernel
theorem d_Mo_odds_128 : decode M_Mo_odds.2.1 128 = .ok (.getfield 13, 3) := by decide +kernel
theorem d_Mo_odds_131 : decode M_Mo_odds.2.1 131 = .ok (.iload_n 1, 1) := by decide +kernel
theorem d_Mo_odds_132 : decode M_Mo_odds.2.1 132 = .ok (.iaload, 1) := by decide +kernel
theorem d_Mo_odds_133 : decode M_Mo_odds.2.1 133 = .ok (.ineg, 1) := by decide +kernel
theorem d_Mo_odds_134 : decode M_Mo_odds.2.1 134 = .ok (.goto 9, 3) := by decide +kernel
theorem d_Mo_odds_137 : decode M_Mo_odds.2.1 137 = .ok (.aload_n 0, 1) := by decide +kernel
theorem d_Mo_odds_138 : decode M_Mo_odds.2.1 138 = .ok (.getfield 13, 3) := by decide +kernel
theorem d_Mo_odds_141 : decode M_Mo_odds.2.1 141 = .ok (.iload_n 1, 1) := by decide +kernel
theorem d_Mo_odds_142 : decode M_Mo_odds.2.1 142 = .ok (.iaload, 1) := by decide +kernel
theorem d_Mo_odds_143 : decode M_Mo_odds.2.1 143 = .ok (.iadd, 1) := by decide +kernel
theorem d_Mo_odds_144 : decode M_Mo_odds.2.1 144 = .ok (.istore 10, 2) := by decide +kernel
theorem d_Mo_odds_146 : decode M_Mo_odds.2.1 146 = .ok (.iload 10, 2) := by decide +kernel
theorem d_Mo_odds_148 : decode M_Mo_odds.2.1 148 = .ok (.iconst 0, 1) := by decide +kernel
theorem d_Mo_odds_149 : decode M_Mo_odds.2.1 149 = .ok (.bipush 40, 2) := by decide +kernel
theorem d_Mo_odds_151 : decode M_Mo_odds.2.1 151 = .ok (.invokestatic 78, 3) := by decide +kernel
theorem d_Mo_odds_154 : decode M_Mo_odds.2.1 154 = .ok (.ifCond .eq 8, 3) := by decide +kernel
theorem d_Mo_odds_157 : decode M_Mo_odds.2.1 157 = .ok (.iload 9, 2) := by decide +kernel
theorem d_Mo_odds_159 : decode M_Mo_odds.2.1 159 = .ok (.goto 4, 3) := by decide +kernel
theorem d_Mo_odds_162 : decode M_Mo_odds.2.1 162 = .ok (.iconst 0, 1) := by decide +kernel
theorem d_Mo_odds_163 : decode M_Mo_odds.2.1 163 = .ok (.istore 9, 2) := by decide +kernel
theorem d_Mo_odds_165 : decode M_Mo_odds.2.1 165 = .ok (.iinc 11 1, 3) := by decide +kernel
theorem d_Mo_odds_168 : decode M_Mo_odds.2.1 168 = .ok (.goto (-84), 3) := by decide +kernel
theorem d_Mo_odds_171 : decode M_Mo_odds.2.1 171 = .ok (.iload 6, 2) := by decide +kernel
theorem d_Mo_odds_173 : decode M_Mo_odds.2.1 173 = .ok (.iload 10, 2) := by decide +kernel
theorem d_Mo_odds_175 : decode M_Mo_odds.2.1 175 = .ok (.iload_n 2, 1) := by decide +kernel
theorem d_Mo_odds_176 : decode M_Mo_odds.2.1 176 = .ok (.if_icmp .ne 8, 3) := by decide +kernel
theorem d_Mo_odds_179 : decode M_Mo_odds.2.1 179 = .ok (.iload 9, 2) := by decide +kernel
theorem d_Mo_odds_181 : decode M_Mo_odds.2.1 181 = .ok (.goto 4, 3) := by decide +kernel
theorem d_Mo_odds_184 : decode M_Mo_odds.2.1 184 = .ok (.iconst 0, 1) := by decide +kernel
theorem d_Mo_odds_185 : decode M_Mo_odds.2.1 185 = .ok (.iadd, 1) := by decide +kernel
theorem d_Mo_odds_186 : decode M_Mo_odds.2.1 186 = .ok (.istore 6, 2) := by decide +kernel
theorem d_Mo_odds_188 : decode M_Mo_odds.2.1 188 = .ok (.iinc 8 1, 3) := by decide +kernel
theorem d_Mo_odds_191 : decode M_Mo_odds.2.1 191 = .ok (.goto (-129), 3) := by decide +kernel
theorem d_Mo_odds_194 : decode M_Mo_odds.2.1 194 = .ok (.iconst 0, 1) := by decide +kernel
theorem d_Mo_odds_195 : decode M_Mo_odds.2.1 195 = .ok (.istore 8, 2) := by decide +kernel
theorem d_Mo_odds_197 : decode M_Mo_odds.2.1 197 = .ok (.iload 8, 2) := by decide +kernel
theorem d_Mo_odds_199 : decode M_Mo_odds.2.1 199 = .ok (.iload_n 3, 1) := by decide +kernel
theorem d_Mo_odds_200 : decode M_Mo_odds.2.1 200 = .ok (.if_icmp .ge 16, 3) := by decide +kernel
theorem d_Mo_odds_203 : decode M_Mo_odds.2.1 203 = .ok (.iload 7, 2) := by decide +kernel
theorem d_Mo_odds_205 : decode M_Mo_odds.2.1 205 = .ok (.bipush 10, 2) := by decide +kernel
theorem d_Mo_odds_207 : decode M_Mo_odds.2.1 207 = .ok (.imul, 1) := by decide +kernel
theorem d_Mo_odds_208 : decode M_Mo_odds.2.1 208 = .ok (.istore 7, 2) := by decide +kernel
theorem d_Mo_odds_210 : decode M_Mo_odds.2.1 210 = .ok (.iinc 8 1, 3) := by decide +kernel
theorem d_Mo_odds_213 : decode M_Mo_odds.2.1 213 = .ok (.goto (-16), 3) := by decide +kernel
theorem d_Mo_odds_216 : decode M_Mo_odds.2.1 216 = .ok (.iload 6, 2) := by decide +kernel
theorem d_Mo_odds_218 : decode M_Mo_odds.2.1 218 = .ok (.istore 8, 2) := by decide +kernel
theorem d_Mo_odds_220 : decode M_Mo_odds.2.1 220 = .ok (.iload 7, 2) := by decide +kernel
theorem d_Mo_odds_222 : decode M_Mo_odds.2.1 222 = .ok (.istore 9, 2) := by decide +kernel
theorem d_Mo_odds_224 : decode M_Mo_odds.2.1 224 = .ok (.iload 9, 2) := by decide +kernel
theorem d_Mo_odds_226 : decode M_Mo_odds.2.1 226 = .ok (.ifCond .eq 21, 3) := by decide +kernel
theorem d_Mo_odds_229 : decode M_Mo_odds.2.1 229 = .ok (.iload 8, 2) := by decide +kernel
theorem d_Mo_odds_231 : decode M_Mo_odds.2.1 231 = .ok (.iload 9, 2) := by decide +kernel
theorem d_Mo_odds_233 : decode M_Mo_odds.2.1 233 = .ok (.irem, 1) := by decide +kernel
theorem d_Mo_odds_234 : decode M_Mo_odds.2.1 234 = .ok (.istore 10, 2) := by decide +kernel
theorem d_Mo_odds_236 : decode M_Mo_odds.2.1 236 = .ok (.iload 9, 2) := by decide +kernel
theorem d_Mo_odds_238 : decode M_Mo_odds.2.1 238 = .ok (.istore 8, 2) := by decide +kernel
theorem d_Mo_odds_240 : decode M_Mo_odds.2.1 240 = .ok (.iload 10, 2) := by decide +kernel
theorem d_Mo_odds_242 : decode M_Mo_odds.2.1 242 = .ok (.istore 9, 2) := by decide +kernel
theorem d_Mo_odds_244 : decode M_Mo_odds.2.1 244 = .ok (.goto (-20), 3) := by decide +kernel
theorem d_Mo_odds_247 : decode M_Mo_odds.2.1 247 = .ok (.iload 5, 2) := by decide +kernel
theorem d_Mo_odds_249 : decode M_Mo_odds.2.1 249 = .ok (.ifCond .ne 11, 3) := by decide +kernel
theorem d_Mo_odds_252 : decode M_Mo_odds.2.1 252 = .ok (.iload 6, 2) := by decide +kernel
theorem d_Mo_odds_254 : decode M_Mo_odds.2.1 254 = .ok (.iload 8, 2) := by decide +kernel
theorem d_Mo_odds_256 : decode M_Mo_odds.2.1 256 = .ok (.idiv, 1) := by decide +kernel
theorem d_Mo_odds_257 : decode M_Mo_odds.2.1 257 = .ok (.goto 8, 3) := by decide +kernel
theorem d_Mo_odds_260 : decode M_Mo_odds.2.1 260 = .ok (.iload 7, 2) := by decide +kernel
theorem d_Mo_odds_262 : decode M_Mo_odds.2.1 262 = .ok (.iload 8, 2) := by decide +kernel
theorem d_Mo_odds_264 : decode M_Mo_odds.2.1 264 = .ok (.idiv, 1) := by decide +kernel
theorem d_Mo_odds_265 : decode M_Mo_odds.2.1 265 = .ok (.ireturn, 1) := by decide +kernel
theorem d_Mo_saw_0 : decode M_Mo_saw.2.1 0 = .ok (.aload_n 0, 1) := by decide +kernel
theorem d_Mo_saw_1 : decode M_Mo_saw.2.1 1 = .ok (.iload_n 1, 1) := by decide +kernel
theorem d_Mo_saw_2 : decode M_Mo_saw.2.1 2 = .ok (.invokevirtual 152, 3) := by decide +kernel
theorem d_Mo_saw_5 : decode M_Mo_saw.2.1 5 = .ok (.ifCond .eq 23, 3) := by decide +kernel
theorem d_Mo_saw_8 : decode M_Mo_saw.2.1 8 = .ok (.iload_n 2, 1) := by decide +kernel
theorem d_Mo_saw_9 : decode M_Mo_saw.2.1 9 = .ok (.iconst 1, 1) := by decide +kernel
theorem d_Mo_saw_10 : decode M_Mo_saw.2.1 10 = .ok (.bipush 9, 2) := by decide +kernel
theorem d_Mo_saw_12 : decode M_Mo_saw.2.1 12 = .ok (.invokestatic 78, 3) := by decide +kernel
theorem d_Mo_saw_15 : decode M_Mo_saw.2.1 15 = .ok (.ifCond .eq 13, 3) := by decide +kernel
theorem d_Mo_saw_18 : decode M_Mo_saw.2.1 18 = .ok (.iload_n 3, 1) := by decide +kernel
theorem d_Mo_saw_19 : decode M_Mo_saw.2.1 19 = .ok (.iconst 0, 1) := by decide +kernel
theorem d_Mo_saw_20 : decode M_Mo_saw.2.1 20 = .ok (.bipush 9, 2) := by decide +kernel
theorem d_Mo_saw_22 : decode M_Mo_saw.2.1 22 = .ok (.invokestatic 78, 3) := by decide +kernel
theorem d_Mo_saw_25 : decode M_Mo_saw.2.1 25 = .ok (.ifCond .ne 5, 3) := by decide +kernel
theorem d_Mo_saw_28 : decode M_Mo_saw.2.1 28 = .ok (.iconst (-1), 1) := by decide +kernel
theorem d_Mo_saw_29 : decode M_Mo_saw.2.1 29 = .ok (.ireturn, 1) := by decide +kernel
theorem d_Mo_saw_30 : decode M_Mo_saw.2.1 30 = .ok (.aload_n 0, 1) := by decide +kernel
theorem d_Mo_saw_31 : decode M_Mo_saw.2.1 31 = .ok (.getfield 134, 3) := by decide +kernel
theorem d_Mo_saw_34 : decode M_Mo_saw.2.1 34 = .ok (.bipush 6, 2) := by decide +kernel
theorem d_Mo_saw_36 : decode M_Mo_saw.2.1 36 = .ok (.if_icmp .ne 6, 3) := by decide +kernel
theorem d_Mo_saw_39 : decode M_Mo_saw.2.1 39 = .ok (.bipush (-3), 2) := by decide +kernel
theorem d_Mo_saw_41 : decode M_Mo_saw.2.1 41 = .ok (.ireturn, 1) := by decide +kernel
theorem d_Mo_saw_42 : decode M_Mo_saw.2.1 42 = .ok (.aload_n 0, 1) := by decide +kernel
theorem d_Mo_saw_43 : decode M_Mo_saw.2.1 43 = .ok (.getfield 63, 3) := by decide +kernel
theorem d_Mo_saw_46 : decode M_Mo_saw.2.1 46 = .ok (.aload_n 0, 1) := by decide +kernel
theorem d_Mo_saw_47 : decode M_Mo_saw.2.1 47 = .ok (.getfield 134, 3) := by decide +kernel
theorem d_Mo_saw_50 : decode M_Mo_saw.2.1 50 = .ok (.iload_n 1, 1) := by decide +kernel
theorem d_Mo_saw_51 : decode M_Mo_saw.2.1 51 = .ok (.iastore, 1) := by decide +kernel
theorem d_Mo_saw_52 : decode M_Mo_saw.2.1 52 = .ok (.aload_n 0, 1) := by decide +kernel
theorem d_Mo_saw_53 : decode M_Mo_saw.2.1 53 = .ok (.getfield 66, 3) := by decide +kernel
theorem d_Mo_saw_56 : decode M_Mo_saw.2.1 56 = .ok (.aload_n 0, 1) := by decide +kernel
theorem d_Mo_saw_57 : decode M_Mo_saw.2.1 57 = .ok (.getfield 134, 3) := by decide +kernel
theorem d_Mo_saw_60 : decode M_Mo_saw.2.1 60 = .ok (.iload_n 2, 1) := by decide +kernel
theorem d_Mo_saw_61 : decode M_Mo_saw.2.1 61 = .ok (.iastore, 1) := by decide +kernel
theorem d_Mo_saw_62 : decode M_Mo_saw.2.1 62 = .ok (.aload_n 0, 1) := by decide +kernel
theorem d_Mo_saw_63 : decode M_Mo_saw.2.1 63 = .ok (.getfield 69, 3) := by decide +kernel
theorem d_Mo_saw_66 : decode M_Mo_saw.2.1 66 = .ok (.aload_n 0, 1) := by decide +kernel
theorem d_Mo_saw_67 : decode M_Mo_saw.2.1 67 = .ok (.getfield 134, 3) := by decide +kernel
theorem d_Mo_saw_70 : decode M_Mo_saw.2.1 70 = .ok (.iload_n 3, 1) := by decide +kernel
theorem d_Mo_saw_71 : decode M_Mo_saw.2.1 71 = .ok (.iastore, 1) := by decide +kernel
theorem d_Mo_saw_72 : decode M_Mo_saw.2.1 72 = .ok (.aload_n 0, 1) := by decide +kernel
theorem d_Mo_saw_73 : decode M_Mo_saw.2.1 73 = .ok (.dup, 1) := by decide +kernel
theorem d_Mo_saw_74 : decode M_Mo_saw.2.1 74 = .ok (.getfield 134, 3) := by decide +kernel
theorem d_Mo_saw_77 : decode M_Mo_saw.2.1 77 = .ok (.iconst 1, 1) := by decide +kernel
theorem d_Mo_saw_78 : decode M_Mo_saw.2.1 78 = .ok (.iadd, 1) := by decide +kernel
theorem d_Mo_saw_79 : decode M_Mo_saw.2.1 79 = .ok (.putfield 134, 3) := by decide +kernel
theorem d_Mo_saw_82 : decode M_Mo_saw.2.1 82 = .ok (.aload_n 0, 1) := by decide +kernel
theorem d_Mo_saw_83 : decode M_Mo_saw.2.1 83 = .ok (.getfield 134, 3) := by decide +kernel
theorem d_Mo_saw_86 : decode M_Mo_saw.2.1 86 = .ok (.ireturn, 1) := by decide +kernel
theorem d_Mo_heightBy_0 : decode M_Mo_heightBy.2.1 0 = .ok (.aload_n 0, 1) := by decide +kernel
theorem d_Mo_heightBy_1 : decode M_Mo_heightBy.2.1 1 = .ok (.invokevirtual 187, 3) := by decide +kernel
theorem d_Mo_heightBy_4 : decode M_Mo_heightBy.2.1 4 = .ok (.aload_n 0, 1) := by decide +kernel
theorem d_Mo_heightBy_5 : decode M_Mo_heightBy.2.1 5 = .ok (.getfield 57, 3) := by decide +kernel
theorem d_Mo_heightBy_8 : decode M_Mo_heightBy.2.1 8 = .ok (.iload_n 1, 1) := by decide +kernel
theorem d_Mo_heightBy_9 : decode M_Mo_heightBy.2.1 9 = .ok (.iload_n 2, 1) := by decide +kernel
theorem d_Mo_heightBy_10 : decode M_Mo_heightBy.2.1 10 = .ok (.invokestatic 169, 3) := by decide +kernel
theorem d_Mo_heightBy_13 : decode M_Mo_heightBy.2.1 13 = .ok (.iconst 0, 1) := by decide +kernel
theorem d_Mo_heightBy_14 : decode M_Mo_heightBy.2.1 14 = .ok (.istore 4, 2) := by decide +kernel
theorem d_Mo_heightBy_16 : decode M_Mo_heightBy.2.1 16 = .ok (.iload 4, 2) := by decide +kernel
theorem d_Mo_heightBy_18 : decode M_Mo_heightBy.2.1 18 = .ok (.iload_n 3, 1) := by decide +kernel
theorem d_Mo_heightBy_19 : decode M_Mo_heightBy.2.1 19 = .ok (.if_icmp .ge 17, 3) := by decide +kernel
theorem d_Mo_heightBy_22 : decode M_Mo_heightBy.2.1 22 = .ok (.aload_n 0, 1) := by decide +kernel
theorem d_Mo_heightBy_23 : decode M_Mo_heightBy.2.1 23 = .ok (.aload_n 0, 1) := by decide +kernel
theorem d_Mo_heightBy_24 : decode M_Mo_heightBy.2.1 24 = .ok (.getfield 57, 3) := by decide +kernel
theorem d_Mo_heightBy_27 : decode M_Mo_heightBy.2.1 27 = .ok (.invokevirtual 173, 3) := by decide +kernel
theorem d_Mo_heightBy_30 : decode M_Mo_heightBy.2.1 30 = .ok (.iinc 4 1, 3) := by decide +kernel
theorem d_Mo_heightBy_33 : decode M_Mo_heightBy.2.1 33 = .ok (.goto (-17), 3) := by decide +kernel
theorem d_Mo_heightBy_36 : decode M_Mo_heightBy.2.1 36 = .ok (.aload_n 0, 1) := by decide +kernel
theorem d_Mo_heightBy_37 : decode M_Mo_heightBy.2.1 37 = .ok (.getfield 57, 3) := by decide +kernel
theorem d_Mo_heightBy_40 : decode M_Mo_heightBy.2.1 40 = .ok (.iconst 2, 1) := by decide +kernel
theorem d_Mo_heightBy_41 : decode M_Mo_heightBy.2.1 41 = .ok (.iaload, 1) := by decide +kernel
theorem d_Mo_heightBy_42 : decode M_Mo_heightBy.2.1 42 = .ok (.ireturn, 1) := by decide +kernel
theorem d_Mo_whichBy_0 : decode M_Mo_whichBy.2.1 0 = .ok (.iconst 0, 1) := by decide +kernel
theorem d_Mo_whichBy_1 : decode M_Mo_whichBy.2.1 1 = .ok (.istore_n 2, 1) := by decide +kernel
theorem d_Mo_whichBy_2 : decode M_Mo_whichBy.2.1 2 = .ok (.iconst 0, 1) := by decide +kernel
theorem d_Mo_whichBy_3 : decode M_Mo_whichBy.2.1 3 = .ok (.istore_n 3, 1) := by decide +kernel
theorem d_Mo_whichBy_4 : decode M_Mo_whichBy.2.1 4 = .ok (.iload_n 3, 1) := by decide +kernel
theorem d_Mo_whichBy_5 : decode M_Mo_whichBy.2.1 5 = .ok (.aload_n 0, 1) := by decide +kernel
theorem d_Mo_whichBy_6 : decode M_Mo_whichBy.2.1 6 = .ok (.getfield 29, 3) := by decide +kernel
theorem d_Mo_whichBy_9 : decode M_Mo_whichBy.2.1 9 = .ok (.iconst 0, 1) := by decide +kernel
theorem d_Mo_whichBy_10 : decode M_Mo_whichBy.2.1 10 = .ok (.iaload, 1) := by decide +kernel
theorem d_Mo_whichBy_11 : decode M_Mo_whichBy.2.1 11 = .ok (.if_icmp .ge 91, 3) := by decide +kernel
theorem d_Mo_whichBy_14 : decode M_Mo_whichBy.2.1 14 = .ok (.iconst 1, 1) := by decide +kernel
theorem d_Mo_whichBy_15 : decode M_Mo_whichBy.2.1 15 = .ok (.istore 4, 2) := by decide +kernel
theorem d_Mo_whichBy_17 : decode M_Mo_whichBy.2.1 17 = .ok (.iconst 0, 1) := by decide +kernel
theorem d_Mo_whichBy_18 : decode M_Mo_whichBy.2.1 18 = .ok (.istore 5, 2) := by decide +kernel
theorem d_Mo_whichBy_20 : decode M_Mo_whichBy.2.1 20 = .ok (.iload 5, 2) := by decide +kernel
theorem d_Mo_whichBy_22 : decode M_Mo_whichBy.2.1 22 = .ok (.aload_n 0, 1) := by decide +kernel
theorem d_Mo_whichBy_23 : decode M_Mo_whichBy.2.1 23 = .ok (.getfield 134, 3) := by decide +kernel
theorem d_Mo_whichBy_26 : decode M_Mo_whichBy.2.1 26 = .ok (.if_icmp .ge 55, 3) := by decide +kernel
theorem d_Mo_whichBy_29 : decode M_Mo_whichBy.2.1 29 = .ok (.iload 4, 2) := by decide +kernel
theorem d_Mo_whichBy_31 : decode M_Mo_whichBy.2.1 31 = .ok (.ifCond .eq 41, 3) := by decide +kernel
theorem d_Mo_whichBy_34 : decode M_Mo_whichBy.2.1 34 = .ok (.aload_n 0, 1) := by decide +kernel
theorem d_Mo_whichBy_35 : decode M_Mo_whichBy.2.1 35 = .ok (.getfield 63, 3) := by decide +kernel
theorem d_Mo_whichBy_38 : decode M_Mo_whichBy.2.1 38 = .ok (.iload 5, 2) := by decide +kernel
theorem d_Mo_whichBy_40 : decode M_Mo_whichBy.2.1 40 = .ok (.iaload, 1) := by decide +kernel
theorem d_Mo_whichBy_41 : decode M_Mo_whichBy.2.1 41 = .ok (.iload_n 1, 1) := by decide +kernel
theorem d_Mo_whichBy_42 : decode M_Mo_whichBy.2.1 42 = .ok (.if_icmp .ne 26, 3) := by decide +kernel
theorem d_Mo_whichBy_45 : decode M_Mo_whichBy.2.1 45 = .ok (.aload_n 0, 1) := by decide +kernel
theorem d_Mo_whichBy_46 : decode M_Mo_whichBy.2.1 46 = .ok (.iload_n 1, 1) := by decide +kernel
theorem d_Mo_whichBy_47 : decode M_Mo_whichBy.2.1 47 = .ok (.iload_n 3, 1) := by decide +kernel
theorem d_Mo_whichBy_48 : decode M_Mo_whichBy.2.1 48 = .ok (.aload_n 0, 1) := by decide +kernel
theorem d_Mo_whichBy_49 : decode M_Mo_whichBy.2.1 49 = .ok (.getfield 66, 3) := by decide +kernel
theorem d_Mo_whichBy_52 : decode M_Mo_whichBy.2.1 52 = .ok (.iload 5, 2) := by decide +kernel
theorem d_Mo_whichBy_54 : decode M_Mo_whichBy.2.1 54 = .ok (.iaload, 1) := by decide +kernel
theorem d_Mo_whichBy_55 : decode M_Mo_whichBy.2.1 55 = .ok (.invokevirtual 194, 3) := by decide +kernel
theorem d_Mo_whichBy_58 : decode M_Mo_whichBy.2.1 58 = .ok (.aload_n 0, 1) := by decide +kernel
theorem d_Mo_whichBy_59 : decode M_Mo_whichBy.2.1 59 = .ok (.getfield 69, 3) := by decide +kernel
theorem d_Mo_whichBy_62 : decode M_Mo_whichBy.2.1 62 = .ok (.iload 5, 2) := by decide +kernel
theorem d_Mo_whichBy_64 : decode M_Mo_whichBy.2.1 64 = .ok (.iaload, 1) := by decide +kernel
theorem d_Mo_whichBy_65 : decode M_Mo_whichBy.2.1 65 = .ok (.if_icmp .ne 7, 3) := by decide +kernel
theorem d_Mo_whichBy_68 : decode M_Mo_whichBy.2.1 68 = .ok (.iconst 1, 1) := by decide +kernel
theorem d_Mo_whichBy_69 : decode M_Mo_whichBy.2.1 69 = .ok (.goto 4, 3) := by decide +kernel
theorem d_Mo_whichBy_72 : decode M_Mo_whichBy.2.1 72 = .ok (.iconst 0, 1) := by decide +kernel
theorem d_Mo_whichBy_73 : decode M_Mo_whichBy.2.1 73 = .ok (.istore 4, 2) := by decide +kernel
theorem d_Mo_whichBy_75 : decode M_Mo_whichBy.2.1 75 = .ok (.iinc 5 1, 3) := by decide +kernel
theorem d_Mo_whichBy_78 : decode M_Mo_whichBy.2.1 78 = .ok (.goto (-58), 3) := by decide +kernel
theorem d_Mo_whichBy_81 : decode M_Mo_whichBy.2.1 81 = .ok (.iload_n 2, 1) := by decide +kernel
theorem d_Mo_whichBy_82 : decode M_Mo_whichBy.2.1 82 = .ok (.iload 4, 2) := by decide +kernel
theorem d_Mo_whichBy_84 : decode M_Mo_whichBy.2.1 84 = .ok (.ifCond .eq 9, 3) := by decide +kernel
theorem d_Mo_whichBy_87 : decode M_Mo_whichBy.2.1 87 = .ok (.iconst 1, 1) := by decide +kernel
theorem d_Mo_whichBy_88 : decode M_Mo_whichBy.2.1 88 = .ok (.iload_n 3, 1) := by decide +kernel
theorem d_Mo_whichBy_89 : decode M_Mo_whichBy.2.1 89 = .ok (.ishl, 1) := by decide +kernel
theorem d_Mo_whichBy_90 : decode M_Mo_whichBy.2.1 90 = .ok (.goto 4, 3) := by decide +kernel
theorem d_Mo_whichBy_93 : decode M_Mo_whichBy.2.1 93 = .ok (.iconst 0, 1) := by decide +kernel
theorem d_Mo_whichBy_94 : decode M_Mo_whichBy.2.1 94 = .ok (.ior, 1) := by decide +kernel
theorem d_Mo_whichBy_95 : decode M_Mo_whichBy.2.1 95 = .ok (.istore_n 2, 1) := by decide +kernel
theorem d_Mo_whichBy_96 : decode M_Mo_whichBy.2.1 96 = .ok (.iinc 3 1, 3) := by decide +kernel
theorem d_Mo_whichBy_99 : decode M_Mo_whichBy.2.1 99 = .ok (.goto (-95), 3) := by decide +kernel
theorem d_Mo_whichBy_102 : decode M_Mo_whichBy.2.1 102 = .ok (.iload_n 2, 1) := by decide +kernel
theorem d_Mo_whichBy_103 : decode M_Mo_whichBy.2.1 103 = .ok (.ireturn, 1) := by decide +kernel
theorem d_Mo_which_0 : decode M_Mo_which.2.1 0 = .ok (.aload_n 0, 1) := by decide +kernel
theorem d_Mo_which_1 : decode M_Mo_which.2.1 1 = .ok (.iload_n 1, 1) := by decide +kernel
theorem d_Mo_which_2 : decode M_Mo_which.2.1 2 = .ok (.invokevirtual 152, 3) := by decide +kernel
theorem d_Mo_which_5 : decode M_Mo_which.2.1 5 = .ok (.ifCond .eq 11, 3) := by decide +kernel
theorem d_Mo_which_8 : decode M_Mo_which.2.1 8 = .ok (.aload_n 0, 1) := by decide +kernel
theorem d_Mo_which_9 : decode M_Mo_which.2.1 9 = .ok (.iload_n 1, 1) := by decide +kernel
theorem d_Mo_which_10 : decode M_Mo_which.2.1 10 = .ok (.invokevirtual 198, 3) := by decide +kernel
theorem d_Mo_which_13 : decode M_Mo_which.2.1 13 = .ok (.goto 4, 3) := by decide +kernel
theorem d_Mo_which_16 : decode M_Mo_which.2.1 16 = .ok (.iconst (-1), 1) := by decide +kernel
theorem d_Mo_which_17 : decode M_Mo_which.2.1 17 = .ok (.ireturn, 1) := by decide +kernel
theorem d_Mo_look_0 : decode M_Mo_look.2.1 0 = .ok (.aload_n 0, 1) := by decide +kernel
theorem d_Mo_look_1 : decode M_Mo_look.2.1 1 = .ok (.iload_n 1, 1) := by decide +kernel
theorem d_Mo_look_2 : decode M_Mo_look.2.1 2 = .ok (.invokevirtual 152, 3) := by decide +kernel
theorem d_Mo_look_5 : decode M_Mo_look.2.1 5 = .ok (.ifCond .ne 5, 3) := by decide +kernel
theorem d_Mo_look_8 : decode M_Mo_look.2.1 8 = .ok (.iconst (-1), 1) := by decide +kernel
theorem d_Mo_look_9 : decode M_Mo_look.2.1 9 = .ok (.ireturn, 1) := by decide +kernel
theorem d_Mo_look_10 : decode M_Mo_look.2.1 10 = .ok (.aload_n 0, 1) := by decide +kernel
theorem d_Mo_look_11 : decode M_Mo_look.2.1 11 = .ok (.iload_n 1, 1) := by decide +kernel
theorem d_Mo_look_12 : decode M_Mo_look.2.1 12 = .ok (.invokevirtual 198, 3) := by decide +kernel
theorem d_Mo_look_15 : decode M_Mo_look.2.1 15 = .ok (.istore_n 2, 1) := by decide +kernel
theorem d_Mo_look_16 : decode M_Mo_look.2.1 16 = .ok (.bipush (-9), 2) := by decide +kernel
theorem d_Mo_look_18 : decode M_Mo_look.2.1 18 = .ok (.istore_n 3, 1) := by decide +kernel
theorem d_Mo_look_19 : decode M_Mo_look.2.1 19 = .ok (.iconst 0, 1) := by decide +kernel
theorem d_Mo_look_20 : decode M_Mo_look.2.1 20 = .ok (.istore 4, 2) := by decide +kernel
theorem d_Mo_look_22 : decode M_Mo_look.2.1 22 = .ok (.iconst 1, 1) := by decide +kernel
theorem d_Mo_look_23 : decode M_Mo_look.2.1 23 = .ok (.istore 5, 2) := by decide +kernel
theorem d_Mo_look_25 : decode M_Mo_look.2.1 25 = .ok (.iload 5, 2) := by decide +kernel
theorem d_Mo_look_27 : decode M_Mo_look.2.1 27 = .ok (.bipush 9, 2) := by decide +kernel
theorem d_Mo_look_29 : decode M_Mo_look.2.1 29 = .ok (.if_icmp .gt 144, 3) := by decide +kernel
theorem d_Mo_look_32 : decode M_Mo_look.2.1 32 = .ok (.iload_n 2, 1) := by decide +kernel
theorem d_Mo_look_33 : decode M_Mo_look.2.1 33 = .ok (.ifCond .eq 140, 3) := by decide +kernel
theorem d_Mo_look_36 : decode M_Mo_look.2.1 36 = .ok (.iconst 0, 1) := by decide +kernel
theorem d_Mo_look_37 : decode M_Mo_look.2.1 37 = .ok (.istore 6, 2) := by decide +kernel
theorem d_Mo_look_39 : decode M_Mo_look.2.1 39 = .ok (.iconst 0, 1) := by decide +kernel
theorem d_Mo_look_40 : decode M_Mo_look.2.1 40 = .ok (.istore 7, 2) := by decide +kernel
theorem d_Mo_look_42 : decode M_Mo_look.2.1 42 = .ok (.iload 7, 2) := by decide +kernel
theorem d_Mo_look_44 : decode M_Mo_look.2.1 44 = .ok (.aload_n 0, 1) := by decide +kernel
theorem d_Mo_look_45 : decode M_Mo_look.2.1 45 = .ok (.getfield 29, 3) := by decide +kernel
theorem d_Mo_look_48 : decode M_Mo_look.2.1 48 = .ok (.iconst 0, 1) := by decide +kernel
theorem d_Mo_look_49 : decode M_Mo_look.2.1 49 = .ok (.iaload, 1) := by decide +kernel
theorem d_Mo_look_50 : decode M_Mo_look.2.1 50 = .ok (.if_icmp .ge 97, 3) := by decide +kernel
theorem d_Mo_look_53 : decode M_Mo_look.2.1 53 = .ok (.iconst 0, 1) := by decide +kernel
theorem d_Mo_look_54 : decode M_Mo_look.2.1 54 = .ok (.istore 8, 2) := by decide +kernel
theorem d_Mo_look_56 : decode M_Mo_look.2.1 56 = .ok (.iconst 0, 1) := by decide +kernel
theorem d_Mo_look_57 : decode M_Mo_look.2.1 57 = .ok (.istore 9, 2) := by decide +kernel
theorem d_Mo_look_59 : decode M_Mo_look.2.1 59 = .ok (.iload 9, 2) := by decide +kernel
theorem d_Mo_look_61 : decode M_Mo_look.2.1 61 = .ok (.aload_n 0, 1) := by decide +kernel
theorem d_Mo_look_62 : decode M_Mo_look.2.1 62 = .ok (.getfield 29, 3) := by decide +kernel
theorem d_Mo_look_65 : decode M_Mo_look.2.1 65 = .ok (.iconst 0, 1) := by decide +kernel
theorem d_Mo_look_66 : decode M_Mo_look.2.1 66 = .ok (.iaload, 1) := by decide +kernel
theorem d_Mo_look_67 : decode M_Mo_look.2.1 67 = .ok (.if_icmp .ge 58, 3) := by decide +kernel
theorem d_Mo_look_70 : decode M_Mo_look.2.1 70 = .ok (.iload 8, 2) := by decide +kernel
theorem d_Mo_look_72 : decode M_Mo_look.2.1 72 = .ok (.iload_n 2, 1) := by decide +kernel
theorem d_Mo_look_73 : decode M_Mo_look.2.1 73 = .ok (.iload 7, 2) := by decide +kernel
theorem d_Mo_look_75 : decode M_Mo_look.2.1 75 = .ok (.invokestatic 140, 3) := by decide +kernel
theorem d_Mo_look_78 : decode M_Mo_look.2.1 78 = .ok (.ifCond .eq 37, 3) := by decide +kernel
theorem d_Mo_look_81 : decode M_Mo_look.2.1 81 = .ok (.iload_n 2, 1) := by decide +kernel
theorem d_Mo_look_82 : decode M_Mo_look.2.1 82 = .ok (.iload 9, 2) := by decide +kernel
theorem d_Mo_look_84 : decode M_Mo_look.2.1 84 = .ok (.invokestatic 140, 3) := by decide +kernel
theorem d_Mo_look_87 : decode M_Mo_look.2.1 87 = .ok (.ifCond .eq 28, 3) := by decide +kernel
theorem d_Mo_look_90 : decode M_Mo_look.2.1 90 = .ok (.aload_n 0, 1) := by decide +kernel
theorem d_Mo_look_91 : decode M_Mo_look.2.1 91 = .ok (.iload_n 1, 1) := by decide +kernel
theorem d_Mo_look_92 : decode M_Mo_look.2.1 92 = .ok (.iload 9, 2) := by decide +kernel
theorem d_Mo_look_94 : decode M_Mo_look.2.1 94 = .ok (.iload 5, 2) := by decide +kernel
theorem d_Mo_look_96 : decode M_Mo_look.2.1 96 = .ok (.invokevirtual 194, 3) := by decide +kernel
theorem d_Mo_look_99 : decode M_Mo_look.2.1 99 = .ok (.aload_n 0, 1) := by decide +kernel
theorem d_Mo_look_100 : decode M_Mo_look.2.1 100 = .ok (.iload_n 1, 1) := by decide +kernel
theorem d_Mo_look_101 : decode M_Mo_look.2.1 101 = .ok (.iload 7, 2) := by decide +kernel
theorem d_Mo_look_103 : decode M_Mo_look.2.1 103 = .ok (.iload 5, 2) := by decide +kernel
theorem d_Mo_look_105 : decode M_Mo_look.2.1 105 = .ok (.invokevirtual 194, 3) := by decide +kernel
theorem d_Mo_look_108 : decode M_Mo_look.2.1 108 = .ok (.if_icmp .ne 7, 3) := by decide +kernel
theorem d_Mo_look_111 : decode M_Mo_look.2.1 111 = .ok (.iconst 1, 1) := by decide +kernel
theorem d_Mo_look_112 : decode M_Mo_look.2.1 112 = .ok (.goto 4, 3) := by decide +kernel
theorem d_Mo_look_115 : decode M_Mo_look.2.1 115 = .ok (.iconst 0, 1) := by decide +kernel
theorem d_Mo_look_116 : decode M_Mo_look.2.1 116 = .ok (.iadd, 1) := by decide +kernel
theorem d_Mo_look_117 : decode M_Mo_look.2.1 117 = .ok (.istore 8, 2) := by decide +kernel
theorem d_Mo_look_119 : decode M_Mo_look.2.1 119 = .ok (.iinc 9 1, 3) := by decide +kernel
theorem d_Mo_look_122 : decode M_Mo_look.2.1 122 = .ok (.goto (-63), 3) := by decide +kernel
theorem d_Mo_look_125 : decode M_Mo_look.2.1 125 = .ok (.iload 8, 2) := by decide +kernel
theorem d_Mo_look_127 : decode M_Mo_look.2.1 127 = .ok (.iload 6, 2) := by decide +kernel
theorem d_Mo_look_129 : decode M_Mo_look.2.1 129 = .ok (.if_icmp .le 8, 3) := by decide +kernel
theorem d_Mo_look_132 : decode M_Mo_look.2.1 132 = .ok (.iload 8, 2) := by decide +kernel
theorem d_Mo_look_134 : decode M_Mo_look.2.1 134 = .ok (.goto 5, 3) := by decide +kernel
theorem d_Mo_look_137 : decode M_Mo_look.2.1 137 = .ok (.iload 6, 2) := by decide +kernel
theorem d_Mo_look_139 : decode M_Mo_look.2.1 139 = .ok (.istore 6, 2) := by decide +kernel
theorem d_Mo_look_141 : decode M_Mo_look.2.1 141 = .ok (.iinc 7 1, 3) := by decide +kernel
theorem d_Mo_look_144 : decode M_Mo_look.2.1 144 = .ok (.goto (-102), 3) := by decide +kernel
theorem d_Mo_look_147 : decode M_Mo_look.2.1 147 = .ok (.iload_n 3, 1) := by decide +kernel
theorem d_Mo_look_148 : decode M_Mo_look.2.1 148 = .ok (.bipush (-9), 2) := by decide +kernel
theorem d_Mo_look_150 : decode M_Mo_look.2.1 150 = .ok (.if_icmp .eq 10, 3) := by decide +kernel
theorem d_Mo_look_153 : decode M_Mo_look.2.1 153 = .ok (.iload 6, 2) := by decide +kernel
theorem d_Mo_look_155 : decode M_Mo_look.2.1 155 = .ok (.iload 4, 2) := by decide +kernel
theorem d_Mo_look_157 : decode M_Mo_look.2.1 157 = .ok (.if_icmp .ge 10, 3) := by decide +kernel
theorem d_Mo_look_160 : decode M_Mo_look.2.1 160 = .ok (.iload 5, 2) := by decide +kernel
theorem d_Mo_look_162 : decode M_Mo_look.2.1 162 = .ok (.istore_n 3, 1) := by decide +kernel
theorem d_Mo_look_163 : decode M_Mo_look.2.1 163 = .ok (.iload 6, 2) := by decide +kernel
theorem d_Mo_look_165 : decode M_Mo_look.2.1 165 = .ok (.istore 4, 2) := by decide +kernel
theorem d_Mo_look_167 : decode M_Mo_look.2.1 167 = .ok (.iinc 5 1, 3) := by decide +kernel
theorem d_Mo_look_170 : decode M_Mo_look.2.1 170 = .ok (.goto (-145), 3) := by decide +kernel
theorem d_Mo_look_173 : decode M_Mo_look.2.1 173 = .ok (.iload_n 3, 1) := by decide +kernel
theorem d_Mo_look_174 : decode M_Mo_look.2.1 174 = .ok (.ireturn, 1) := by decide +kernel
theorem d_Mo_hears_0 : decode M_Mo_hears.2.1 0 = .ok (.iload_n 1, 1) := by decide +kernel
theorem d_Mo_hears_1 : decode M_Mo_hears.2.1 1 = .ok (.iconst 0, 1) := by decide +kernel
theorem d_Mo_hears_2 : decode M_Mo_hears.2.1 2 = .ok (.bipush 9, 2) := by decide +kernel
theorem d_Mo_hears_4 : decode M_Mo_hears.2.1 4 = .ok (.invokestatic 78, 3) := by decide +kernel
theorem d_Mo_hears_7 : decode M_Mo_hears.2.1 7 = .ok (.ifCond .eq 13, 3) := by decide +kernel
theorem d_Mo_hears_10 : decode M_Mo_hears.2.1 10 = .ok (.iload_n 2, 1) := by decide +kernel
theorem d_Mo_hears_11 : decode M_Mo_hears.2.1 11 = .ok (.iconst 0, 1) := by decide +kernel
theorem d_Mo_hears_12 : decode M_Mo_hears.2.1 12 = .ok (.bipush 30, 2) := by decide +kernel
theorem d_Mo_hears_14 : decode M_Mo_hears.2.1 14 = .ok (.invokestatic 78, 3) := by decide +kernel
theorem d_Mo_hears_17 : decode M_Mo_hears.2.1 17 = .ok (.ifCond .ne 5, 3) := by decide +kernel
theorem d_Mo_hears_20 : decode M_Mo_hears.2.1 20 = .ok (.iconst (-1), 1) := by decide +kernel
theorem d_Mo_hears_21 : decode M_Mo_hears.2.1 21 = .ok (.ireturn, 1) := by decide +kernel
theorem d_Mo_hears_22 : decode M_Mo_hears.2.1 22 = .ok (.aload_n 0, 1) := by decide +kernel
theorem d_Mo_hears_23 : decode M_Mo_hears.2.1 23 = .ok (.getfield 137, 3) := by decide +kernel
theorem d_Mo_hears_26 : decode M_Mo_hears.2.1 26 = .ok (.bipush 6, 2) := by decide +kernel
theorem d_Mo_hears_28 : decode M_Mo_hears.2.1 28 = .ok (.if_icmp .ne 6, 3) := by decide +kernel
theorem d_Mo_hears_31 : decode M_Mo_hears.2.1 31 = .ok (.bipush (-3), 2) := by decide +kernel
theorem d_Mo_hears_33 : decode M_Mo_hears.2.1 33 = .ok (.ireturn, 1) := by decide +kernel
theorem d_Mo_hears_34 : decode M_Mo_hears.2.1 34 = .ok (.aload_n 0, 1) := by decide +kernel
theorem d_Mo_hears_35 : decode M_Mo_hears.2.1 35 = .ok (.getfield 72, 3) := by decide +kernel
theorem d_Mo_hears_38 : decode M_Mo_hears.2.1 38 = .ok (.aload_n 0, 1) := by decide +kernel
theorem d_Mo_hears_39 : decode M_Mo_hears.2.1 39 = .ok (.getfield 137, 3) := by decide +kernel
theorem d_Mo_hears_42 : decode M_Mo_hears.2.1 42 = .ok (.iload_n 1, 1) := by decide +kernel
theorem d_Mo_hears_43 : decode M_Mo_hears.2.1 43 = .ok (.iastore, 1) := by decide +kernel
theorem d_Mo_hears_44 : decode M_Mo_hears.2.1 44 = .ok (.aload_n 0, 1) := by decide +kernel
theorem d_Mo_hears_45 : decode M_Mo_hears.2.1 45 = .ok (.getfield 75, 3) := by decide +kernel
theorem d_Mo_hears_48 : decode M_Mo_hears.2.1 48 = .ok (.aload_n 0, 1) := by decide +kernel
theorem d_Mo_hears_49 : decode M_Mo_hears.2.1 49 = .ok (.getfield 137, 3) := by decide +kernel
theorem d_Mo_hears_52 : decode M_Mo_hears.2.1 52 = .ok (.iload_n 2, 1) := by decide +kernel
theorem d_Mo_hears_53 : decode M_Mo_hears.2.1 53 = .ok (.iastore, 1) := by decide +kernel
theorem d_Mo_hears_54 : decode M_Mo_hears.2.1 54 = .ok (.aload_n 0, 1) := by decide +kernel
theorem d_Mo_hears_55 : decode M_Mo_hears.2.1 55 = .ok (.dup, 1) := by decide +kernel
theorem d_Mo_hears_56 : decode M_Mo_hears.2.1 56 = .ok (.getfield 137, 3) := by decide +kernel
theorem d_Mo_hears_59 : decode M_Mo_hears.2.1 59 = .ok (.iconst 1, 1) := by decide +kernel
theorem d_Mo_hears_60 : decode M_Mo_hears.2.1 60 = .ok (.iadd, 1) := by decide +kernel
theorem d_Mo_hears_61 : decode M_Mo_hears.2.1 61 = .ok (.putfield 137, 3) := by decide +kernel
theorem d_Mo_hears_64 : decode M_Mo_hears.2.1 64 = .ok (.aload_n 0, 1) := by decide +kernel
theorem d_Mo_hears_65 : decode M_Mo_hears.2.1 65 = .ok (.getfield 137, 3) := by decide +kernel
theorem d_Mo_hears_68 : decode M_Mo_hears.2.1 68 = .ok (.ireturn, 1) := by decide +kernel
theorem d_Mo_laws_0 : decode M_Mo_laws.2.1 0 = .ok (.iload_n 1, 1) := by decide +kernel
theorem d_Mo_laws_1 : decode M_Mo_laws.2.1 1 = .ok (.iconst 0, 1) := by decide +kernel
theorem d_Mo_laws_2 : decode M_Mo_laws.2.1 2 = .ok (.iconst 1, 1) := by decide +kernel
theorem d_Mo_laws_3 : decode M_Mo_laws.2.1 3 = .ok (.invokestatic 78, 3) := by decide +kernel
theorem d_Mo_laws_6 : decode M_Mo_laws.2.1 6 = .ok (.ifCond .ne 5, 3) := by decide +kernel
theorem d_Mo_laws_9 : decode M_Mo_laws.2.1 9 = .ok (.iconst (-1), 1) := by decide +kernel
theorem d_Mo_laws_10 : decode M_Mo_laws.2.1 10 = .ok (.ireturn, 1) := by decide +kernel
theorem d_Mo_laws_11 : decode M_Mo_laws.2.1 11 = .ok (.iconst 0, 1) := by decide +kernel
theorem d_Mo_laws_12 : decode M_Mo_laws.2.1 12 = .ok (.istore_n 2, 1) := by decide +kernel
theorem d_Mo_laws_13 : decode M_Mo_laws.2.1 13 = .ok (.bipush (-9), 2) := by decide +kernel
theorem d_Mo_laws_15 : decode M_Mo_laws.2.1 15 = .ok (.istore_n 3, 1) := by decide +kernel
theorem d_Mo_laws_16 : decode M_Mo_laws.2.1 16 = .ok (.iconst 1, 1) := by decide +kernel
theorem d_Mo_laws_17 : decode M_Mo_laws.2.1 17 = .ok (.istore 4, 2) := by decide +kernel
theorem d_Mo_laws_19 : decode M_Mo_laws.2.1 19 = .ok (.iload 4, 2) := by decide +kernel
theorem d_Mo_laws_21 : decode M_Mo_laws.2.1 21 = .ok (.bipush 30, 2) := by decide +kernel
theorem d_Mo_laws_23 : decode M_Mo_laws.2.1 23 = .ok (.if_icmp .gt 128, 3) := by decide +kernel
theorem d_Mo_laws_26 : decode M_Mo_laws.2.1 26 = .ok (.iconst 0, 1) := by decide +kernel
theorem d_Mo_laws_27 : decode M_Mo_laws.2.1 27 = .ok (.istore 5, 2) := by decide +kernel
theorem d_Mo_laws_29 : decode M_Mo_laws.2.1 29 = .ok (.iload 5, 2) := by decide +kernel
theorem d_Mo_laws_31 : decode M_Mo_laws.2.1 31 = .ok (.iconst 5, 1) := by decide +kernel
theorem d_Mo_laws_32 : decode M_Mo_laws.2.1 32 = .ok (.if_icmp .gt 113, 3) := by decide +kernel
theorem d_Mo_laws_35 : decode M_Mo_laws.2.1 35 = .ok (.iconst 1, 1) := by decide +kernel
theorem d_Mo_laws_36 : decode M_Mo_laws.2.1 36 = .ok (.istore 6, 2) := by decide +kernel
theorem d_Mo_laws_38 : decode M_Mo_laws.2.1 38 = .ok (.iconst 0, 1) := by decide +kernel
theorem d_Mo_laws_39 : decode M_Mo_laws.2.1 39 = .ok (.istore 7, 2) := by decide +kernel
theorem d_Mo_laws_41 : decode M_Mo_laws.2.1 41 = .ok (.iload 7, 2) := by decide +kernel
theorem d_Mo_laws_43 : decode M_Mo_laws.2.1 43 = .ok (.aload_n 0, 1) := by decide +kernel
theorem d_Mo_laws_44 : decode M_Mo_laws.2.1 44 = .ok (.getfield 137, 3) := by decide +kernel
theorem d_Mo_laws_47 : decode M_Mo_laws.2.1 47 = .ok (.if_icmp .ge 57, 3) := by decide +kernel
theorem d_Mo_laws_50 : decode M_Mo_laws.2.1 50 = .ok (.iload 4, 2) := by decide +kernel
theorem d_Mo_laws_52 : decode M_Mo_laws.2.1 52 = .ok (.aload_n 0, 1) := by decide +kernel
theorem d_Mo_laws_53 : decode M_Mo_laws.2.1 53 = .ok (.getfield 72, 3) := by decide +kernel
theorem d_Mo_laws_56 : decode M_Mo_laws.2.1 56 = .ok (.iload 7, 2) := by decide +kernel
theorem d_Mo_laws_58 : decode M_Mo_laws.2.1 58 = .ok (.iaload, 1) := by decide +kernel
theorem d_Mo_laws_59 : decode M_Mo_laws.2.1 59 = .ok (.iload 5, 2) := by decide +kernel
theorem d_Mo_laws_61 : decode M_Mo_laws.2.1 61 = .ok (.imul, 1) := by decide +kernel
theorem d_Mo_laws_62 : decode M_Mo_laws.2.1 62 = .ok (.isub, 1) := by decide +kernel
theorem d_Mo_laws_63 : decode M_Mo_laws.2.1 63 = .ok (.istore 8, 2) := by decide +kernel
theorem d_Mo_laws_65 : decode M_Mo_laws.2.1 65 = .ok (.iload 6, 2) := by decide +kernel
theorem d_Mo_laws_67 : decode M_Mo_laws.2.1 67 = .ok (.ifCond .eq 28, 3) := by decide +kernel
theorem d_Mo_laws_70 : decode M_Mo_laws.2.1 70 = .ok (.iload 8, 2) := by decide +kernel
theorem d_Mo_laws_72 : decode M_Mo_laws.2.1 72 = .ok (.ifCond .ge 7, 3) := by decide +kernel
theorem d_Mo_laws_75 : decode M_Mo_laws.2.1 75 = .ok (.iconst 0, 1) := by decide +kernel
theorem d_Mo_laws_76 : decode M_Mo_laws.2.1 76 = .ok (.goto 5, 3) := by decide +kernel
theorem d_Mo_laws_79 : decode M_Mo_laws.2.1 79 = .ok (.iload 8, 2) := by decide +kernel
theorem d_Mo_laws_81 : decode M_Mo_laws.2.1 81 = .ok (.aload_n 0, 1) := by decide +kernel
theorem d_Mo_laws_82 : decode M_Mo_laws.2.1 82 = .ok (.getfield 75, 3) := by decide +kernel
theorem d_Mo_laws_85 : decode M_Mo_laws.2.1 85 = .ok (.iload 7, 2) := by decide +kernel
theorem d_Mo_laws_87 : decode M_Mo_laws.2.1 87 = .ok (.iaload, 1) := by decide +kernel
theorem d_Mo_laws_88 : decode M_Mo_laws.2.1 88 = .ok (.if_icmp .ne 7, 3) := by decide +kernel
theorem d_Mo_laws_91 : decode M_Mo_laws.2.1 91 = .ok (.iconst 1, 1) := by decide +kernel
theorem d_Mo_laws_92 : decode M_Mo_laws.2.1 92 = .ok (.goto 4, 3) := by decide +kernel
theorem d_Mo_laws_95 : decode M_Mo_laws.2.1 95 = .ok (.iconst 0, 1) := by decide +kernel
theorem d_Mo_laws_96 : decode M_Mo_laws.2.1 96 = .ok (.istore 6, 2) := by decide +kernel
theorem d_Mo_laws_98 : decode M_Mo_laws.2.1 98 = .ok (.iinc 7 1, 3) := by decide +kernel
theorem d_Mo_laws_101 : decode M_Mo_laws.2.1 101 = .ok (.goto (-60), 3) := by decide +kernel
theorem d_Mo_laws_104 : decode M_Mo_laws.2.1 104 = .ok (.iload 6, 2) := by decide +kernel
theorem d_Mo_laws_106 : decode M_Mo_laws.2.1 106 = .ok (.ifCond .eq 18, 3) := by decide +kernel
theorem d_Mo_laws_109 : decode M_Mo_laws.2.1 109 = .ok (.iload_n 2, 1) := by decide +kernel
theorem d_Mo_laws_110 : decode M_Mo_laws.2.1 110 = .ok (.ifCond .ne 14, 3) := by decide +kernel
theorem d_Mo_laws_113 : decode M_Mo_laws.2.1 113 = .ok (.bipush 10, 2) := by decide +kernel
theorem d_Mo_laws_115 : decode M_Mo_laws.2.1 115 = .ok (.iload 4, 2) := by decide +kernel
theorem d_Mo_laws_117 : decode M_Mo_laws.2.1 117 = .ok (.imul, 1) := by decide +kernel
theorem d_Mo_laws_118 : decode M_Mo_laws.2.1 118 = .ok (.iload 5, 2) := by decide +kernel
theorem d_Mo_laws_120 : decode M_Mo_laws.2.1 120 = .ok (.iadd, 1) := by decide +kernel
theorem d_Mo_laws_121 : decode M_Mo_laws.2.1 121 = .ok (.goto 4, 3) := by decide +kernel
theorem d_Mo_laws_124 : decode M_Mo_laws.2.1 124 = .ok (.iload_n 3, 1) := by decide +kernel
theorem d_Mo_laws_125 : decode M_Mo_laws.2.1 125 = .ok (.istore_n 3, 1) := by decide +kernel
theorem d_Mo_laws_126 : decode M_Mo_laws.2.1 126 = .ok (.iload_n 2, 1) := by decide +kernel
theorem d_Mo_laws_127 : decode M_Mo_laws.2.1 127 = .ok (.iload 6, 2) := by decide +kernel
theorem d_Mo_laws_129 : decode M_Mo_laws.2.1 129 = .ok (.ifCond .eq 7, 3) := by decide +kernel
theorem d_Mo_laws_132 : decode M_Mo_laws.2.1 132 = .ok (.iconst 1, 1) := by decide +kernel
theorem d_Mo_laws_133 : decode M_Mo_laws.2.1 133 = .ok (.goto 4, 3) := by decide +kernel
theorem d_Mo_laws_136 : decode M_Mo_laws.2.1 136 = .ok (.iconst 0, 1) := by decide +kernel
theorem d_Mo_laws_137 : decode M_Mo_laws.2.1 137 = .ok (.iadd, 1) := by decide +kernel
theorem d_Mo_laws_138 : decode M_Mo_laws.2.1 138 = .ok (.istore_n 2, 1) := by decide +kernel
theorem d_Mo_laws_139 : decode M_Mo_laws.2.1 139 = .ok (.iinc 5 1, 3) := by decide +kernel
theorem d_Mo_laws_142 : decode M_Mo_laws.2.1 142 = .ok (.goto (-113), 3) := by decide +kernel
theorem d_Mo_laws_145 : decode M_Mo_laws.2.1 145 = .ok (.iinc 4 1, 3) := by decide +kernel
theorem d_Mo_laws_148 : decode M_Mo_laws.2.1 148 = .ok (.goto (-129), 3) := by decide +kernel
theorem d_Mo_laws_151 : decode M_Mo_laws.2.1 151 = .ok (.iload_n 1, 1) := by decide +kernel
theorem d_Mo_laws_152 : decode M_Mo_laws.2.1 152 = .ok (.ifCond .ne 7, 3) := by decide +kernel
theorem d_Mo_laws_155 : decode M_Mo_laws.2.1 155 = .ok (.iload_n 2, 1) := by decide +kernel
theorem d_Mo_laws_156 : decode M_Mo_laws.2.1 156 = .ok (.goto 4, 3) := by decide +kernel
theorem d_Mo_laws_159 : decode M_Mo_laws.2.1 159 = .ok (.iload_n 3, 1) := by decide +kernel
theorem d_Mo_laws_160 : decode M_Mo_laws.2.1 160 = .ok (.ireturn, 1) := by decide +kernel
theorem d_Mo_forget_0 : decode M_Mo_forget.2.1 0 = .ok (.aload_n 0, 1) := by decide +kernel
theorem d_Mo_forget_1 : decode M_Mo_forget.2.1 1 = .ok (.getfield 134, 3) := by decide +kernel
theorem d_Mo_forget_4 : decode M_Mo_forget.2.1 4 = .ok (.aload_n 0, 1) := by decide +kernel
theorem d_Mo_forget_5 : decode M_Mo_forget.2.1 5 = .ok (.getfield 137, 3) := by decide +kernel
theorem d_Mo_forget_8 : decode M_Mo_forget.2.1 8 = .ok (.iadd, 1) := by decide +kernel
theorem d_Mo_forget_9 : decode M_Mo_forget.2.1 9 = .ok (.istore_n 1, 1) := by decide +kernel
theorem d_Mo_forget_10 : decode M_Mo_forget.2.1 10 = .ok (.aload_n 0, 1) := by decide +kernel
theorem d_Mo_forget_11 : decode M_Mo_forget.2.1 11 = .ok (.iconst 0, 1) := by decide +kernel
theorem d_Mo_forget_12 : decode M_Mo_forget.2.1 12 = .ok (.putfield 134, 3) := by decide +kernel
theorem d_Mo_forget_15 : decode M_Mo_forget.2.1 15 = .ok (.aload_n 0, 1) := by decide +kernel
theorem d_Mo_forget_16 : decode M_Mo_forget.2.1 16 = .ok (.iconst 0, 1) := by decide +kernel
theorem d_Mo_forget_17 : decode M_Mo_forget.2.1 17 = .ok (.putfield 137, 3) := by decide +kernel
theorem d_Mo_forget_20 : decode M_Mo_forget.2.1 20 = .ok (.iload_n 1, 1) := by decide +kernel
theorem d_Mo_forget_21 : decode M_Mo_forget.2.1 21 = .ok (.ireturn, 1) := by decide +kernel
theorem d_Mo_bodiesOf_0 : decode M_Mo_bodiesOf.2.1 0 = .ok (.iload_n 0, 1) := by decide +kernel
theorem d_Mo_bodiesOf_1 : decode M_Mo_bodiesOf.2.1 1 = .ok (.tableswitch 47 0 4 #[35, 37, 39, 41, 44], 35) := by decide +kernel
theorem d_Mo_bodiesOf_36 : decode M_Mo_bodiesOf.2.1 36 = .ok (.iconst 1, 1) := by decide +kernel
theorem d_Mo_bodiesOf_37 : decode M_Mo_bodiesOf.2.1 37 = .ok (.ireturn, 1) := by decide +kernel
theorem d_Mo_bodiesOf_38 : decode M_Mo_bodiesOf.2.1 38 = .ok (.iconst 3, 1) := by decide +kernel
theorem d_Mo_bodiesOf_39 : decode M_Mo_bodiesOf.2.1 39 = .ok (.ireturn, 1) := by decide +kernel
theorem d_Mo_bodiesOf_40 : decode M_Mo_bodiesOf.2.1 40 = .ok (.iconst 5, 1) := by decide +kernel
theorem d_Mo_bodiesOf_41 : decode M_Mo_bodiesOf.2.1 41 = .ok (.ireturn, 1) := by decide +kernel
theorem d_Mo_bodiesOf_42 : decode M_Mo_bodiesOf.2.1 42 = .ok (.bipush 11, 2) := by decide +kernel
theorem d_Mo_bodiesOf_44 : decode M_Mo_bodiesOf.2.1 44 = .ok (.ireturn, 1) := by decide +kernel
theorem d_Mo_bodiesOf_45 : decode M_Mo_bodiesOf.2.1 45 = .ok (.bipush 21, 2) := by decide +kernel
theorem d_Mo_bodiesOf_47 : decode M_Mo_bodiesOf.2.1 47 = .ok (.ireturn, 1) := by decide +kernel
theorem d_Mo_bodiesOf_48 : decode M_Mo_bodiesOf.2.1 48 = .ok (.bipush 33, 2) := by decide +kernel
theorem d_Mo_bodiesOf_50 : decode M_Mo_bodiesOf.2.1 50 = .ok (.ireturn, 1) := by decide +kernel
theorem d_Mo_mark_0 : decode M_Mo_mark.2.1 0 = .ok (.iload_n 1, 1) := by decide +kernel
theorem d_Mo_mark_1 : decode M_Mo_mark.2.1 1 = .ok (.iconst 0, 1) := by decide +kernel
theorem d_Mo_mark_2 : decode M_Mo_mark.2.1 2 = .ok (.iconst 5, 1) := by decide +kernel
theorem d_Mo_mark_3 : decode M_Mo_mark.2.1 3 = .ok (.invokestatic 78, 3) := by decide +kernel
theorem d_Mo_mark_6 : decode M_Mo_mark.2.1 6 = .ok (.ifCond .eq 11, 3) := by decide +kernel
theorem d_Mo_mark_9 : decode M_Mo_mark.2.1 9 = .ok (.aload_n 0, 1) := by decide +kernel
theorem d_Mo_mark_10 : decode M_Mo_mark.2.1 10 = .ok (.iload_n 2, 1) := by decide +kernel
theorem d_Mo_mark_11 : decode M_Mo_mark.2.1 11 = .ok (.invokevirtual 152, 3) := by decide +kernel
theorem d_Mo_mark_14 : decode M_Mo_mark.2.1 14 = .ok (.ifCond .ne 6, 3) := by decide +kernel
theorem d_Mo_mark_17 : decode M_Mo_mark.2.1 17 = .ok (.ldc 151, 2) := by decide +kernel
theorem d_Mo_mark_19 : decode M_Mo_mark.2.1 19 = .ok (.ireturn, 1) := by decide +kernel
theorem d_Mo_mark_20 : decode M_Mo_mark.2.1 20 = .ok (.iload_n 1, 1) := by decide +kernel
theorem d_Mo_mark_21 : decode M_Mo_mark.2.1 21 = .ok (.invokestatic 201, 3) := by decide +kernel
theorem d_Mo_mark_24 : decode M_Mo_mark.2.1 24 = .ok (.istore_n 3, 1) := by decide +kernel
theorem d_Mo_mark_25 : decode M_Mo_mark.2.1 25 = .ok (.lconst 1, 1) := by decide +kernel
theorem d_Mo_mark_26 : decode M_Mo_mark.2.1 26 = .ok (.lstore 4, 2) := by decide +kernel
theorem d_Mo_mark_28 : decode M_Mo_mark.2.1 28 = .ok (.iconst 0, 1) := by decide +kernel
theorem d_Mo_mark_29 : decode M_Mo_mark.2.1 29 = .ok (.istore 6, 2) := by decide +kernel
theorem d_Mo_mark_31 : decode M_Mo_mark.2.1 31 = .ok (.iload 6, 2) := by decide +kernel
theorem d_Mo_mark_33 : decode M_Mo_mark.2.1 33 = .ok (.bipush 6, 2) := by decide +kernel
theorem d_Mo_mark_35 : decode M_Mo_mark.2.1 35 = .ok (.if_icmp .ge 41, 3) := by decide +kernel
theorem d_Mo_mark_38 : decode M_Mo_mark.2.1 38 = .ok (.aload_n 0, 1) := by decide +kernel
theorem d_Mo_mark_39 : decode M_Mo_mark.2.1 39 = .ok (.dup, 1) := by decide +kernel
theorem d_Mo_mark_40 : decode M_Mo_mark.2.1 40 = .ok (.getfield 204, 3) := by decide +kernel
theorem d_Mo_mark_43 : decode M_Mo_mark.2.1 43 = .ok (.iload_n 3, 1) := by decide +kernel
theorem d_Mo_mark_44 : decode M_Mo_mark.2.1 44 = .ok (.iload 6, 2) := by decide +kernel
theorem d_Mo_mark_46 : decode M_Mo_mark.2.1 46 = .ok (.invokestatic 140, 3) := by decide +kernel
theorem d_Mo_mark_49 : decode M_Mo_mark.2.1 49 = .ok (.ifCond .eq 8, 3) := by decide +kernel
theorem d_Mo_mark_52 : decode M_Mo_mark.2.1 52 = .ok (.lload 4, 2) := by decide +kernel
theorem d_Mo_mark_54 : decode M_Mo_mark.2.1 54 = .ok (.goto 4, 3) := by decide +kernel
theorem d_Mo_mark_57 : decode M_Mo_mark.2.1 57 = .ok (.lconst 0, 1) := by decide +kernel
theorem d_Mo_mark_58 : decode M_Mo_mark.2.1 58 = .ok (.ladd, 1) := by decide +kernel
theorem d_Mo_mark_59 : decode M_Mo_mark.2.1 59 = .ok (.putfield 204, 3) := by decide +kernel
theorem d_Mo_mark_62 : decode M_Mo_mark.2.1 62 = .ok (.lload 4, 2) := by decide +kernel
theorem d_Mo_mark_64 : decode M_Mo_mark.2.1 64 = .ok (.ldc2_w 208, 3) := by decide +kernel
theorem d_Mo_mark_67 : decode M_Mo_mark.2.1 67 = .ok (.lmul, 1) := by decide +kernel
theorem d_Mo_mark_68 : decode M_Mo_mark.2.1 68 = .ok (.lstore 4, 2) := by decide +kernel
theorem d_Mo_mark_70 : decode M_Mo_mark.2.1 70 = .ok (.iinc 6 1, 3) := by decide +kernel
theorem d_Mo_mark_73 : decode M_Mo_mark.2.1 73 = .ok (.goto (-42), 3) := by decide +kernel
theorem d_Mo_mark_76 : decode M_Mo_mark.2.1 76 = .ok (.aload_n 0, 1) := by decide +kernel
theorem d_Mo_mark_77 : decode M_Mo_mark.2.1 77 = .ok (.getfield 20, 3) := by decide +kernel
theorem d_Mo_mark_80 : decode M_Mo_mark.2.1 80 = .ok (.iload_n 2, 1) := by decide +kernel
theorem d_Mo_mark_81 : decode M_Mo_mark.2.1 81 = .ok (.iaload, 1) := by decide +kernel
theorem d_Mo_mark_82 : decode M_Mo_mark.2.1 82 = .ok (.istore 6, 2) := by decide +kernel
theorem d_Mo_mark_84 : decode M_Mo_mark.2.1 84 = .ok (.iload 6, 2) := by decide +kernel
theorem d_Mo_mark_86 : decode M_Mo_mark.2.1 86 = .ok (.iload_n 3, 1) := by decide +kernel
theorem d_Mo_mark_87 : decode M_Mo_mark.2.1 87 = .ok (.iconst 1, 1) := by decide +kernel
theorem d_Mo_mark_88 : decode M_Mo_mark.2.1 88 = .ok (.invokestatic 140, 3) := by decide +kernel
theorem d_Mo_mark_91 : decode M_Mo_mark.2.1 91 = .ok (.ifCond .eq 18, 3) := by decide +kernel
theorem d_Mo_mark_94 : decode M_Mo_mark.2.1 94 = .ok (.aload_n 0, 1) := by decide +kernel
theorem d_Mo_mark_95 : decode M_Mo_mark.2.1 95 = .ok (.getfield 41, 3) := by decide +kernel
theorem d_Mo_mark_98 : decode M_Mo_mark.2.1 98 = .ok (.bipush 7, 2) := by decide +kernel
theorem d_Mo_mark_100 : decode M_Mo_mark.2.1 100 = .ok (.iload_n 2, 1) := by decide +kernel
theorem d_Mo_mark_101 : decode M_Mo_mark.2.1 101 = .ok (.iadd, 1) := by decide +kernel
theorem d_Mo_mark_102 : decode M_Mo_mark.2.1 102 = .ok (.iaload, 1) := by decide +kernel
theorem d_Mo_mark_103 : decode M_Mo_mark.2.1 103 = .ok (.invokestatic 181, 3) := by decide +kernel
theorem d_Mo_mark_106 : decode M_Mo_mark.2.1 106 = .ok (.goto 4, 3) := by decide +kernel
theorem d_Mo_mark_109 : decode M_Mo_mark.2.1 109 = .ok (.iconst 0, 1) := by decide +kernel
theorem d_Mo_mark_110 : decode M_Mo_mark.2.1 110 = .ok (.iadd, 1) := by decide +kernel
theorem d_Mo_mark_111 : decode M_Mo_mark.2.1 111 = .ok (.istore 6, 2) := by decide +kernel
theorem d_Mo_mark_113 : decode M_Mo_mark.2.1 113 = .ok (.iload 6, 2) := by decide +kernel
theorem d_Mo_mark_115 : decode M_Mo_mark.2.1 115 = .ok (.iload_n 3, 1) := by decide +kernel
theorem d_Mo_mark_116 : decode M_Mo_mark.2.1 116 = .ok (.iconst 2, 1) := by decide +kernel
theorem d_Mo_mark_117 : decode M_Mo_mark.2.1 117 = .ok (.invokestatic 140, 3) := by decide +kernel
theorem d_Mo_mark_120 : decode M_Mo_mark.2.1 120 = .ok (.ifCond .eq 14, 3) := by decide +kernel
theorem d_Mo_mark_123 : decode M_Mo_mark.2.1 123 = .ok (.aload_n 0, 1) := by decide +kernel
theorem d_Mo_mark_124 : decode M_Mo_mark.2.1 124 = .ok (.aload_n 0, 1) := by decide +kernel
theorem d_Mo_mark_125 : decode M_Mo_mark.2.1 125 = .ok (.getfield 41, 3) := by decide +kernel
theorem d_Mo_mark_128 : decode M_Mo_mark.2.1 128 = .ok (.invokevirtual 144, 3) := by decide +kernel
theorem d_Mo_mark_131 : decode M_Mo_mark.2.1 131 = .ok (.goto 4, 3) := by decide +kernel
theorem d_Mo_mark_134 : decode M_Mo_mark.2.1 134 = .ok (.iconst 0, 1) := by decide +kernel
theorem d_Mo_mark_135 : decode M_Mo_mark.2.1 135 = .ok (.isub, 1) := by decide +kernel
theorem d_Mo_mark_136 : decode M_Mo_mark.2.1 136 = .ok (.istore 6, 2) := by decide +kernel
theorem d_Mo_mark_138 : decode M_Mo_mark.2.1 138 = .ok (.iload_n 3, 1) := by decide +kernel
theorem d_Mo_mark_139 : decode M_Mo_mark.2.1 139 = .ok (.iconst 3, 1) := by decide +kernel
theorem d_Mo_mark_140 : decode M_Mo_mark.2.1 140 = .ok (.invokestatic 140, 3) := by decide +kernel
theorem d_Mo_mark_143 : decode M_Mo_mark.2.1 143 = .ok (.ifCond .eq 10, 3) := by decide +kernel
theorem d_Mo_mark_146 : decode M_Mo_mark.2.1 146 = .ok (.iconst 2, 1) := by decide +kernel
theorem d_Mo_mark_147 : decode M_Mo_mark.2.1 147 = .ok (.iload 6, 2) := by decide +kernel
theorem d_Mo_mark_149 : decode M_Mo_mark.2.1 149 = .ok (.imul, 1) := by decide +kernel
theorem d_Mo_mark_150 : decode M_Mo_mark.2.1 150 = .ok (.goto 5, 3) := by decide +kernel
theorem d_Mo_mark_153 : decode M_Mo_mark.2.1 153 = .ok (.iload 6, 2) := by decide +kernel
theorem d_Mo_mark_155 : decode M_Mo_mark.2.1 155 = .ok (.istore 6, 2) := by decide +kernel
theorem d_Mo_mark_157 : decode M_Mo_mark.2.1 157 = .ok (.iload 6, 2) := by decide +kernel
theorem d_Mo_mark_159 : decode M_Mo_mark.2.1 159 = .ok (.iload_n 3, 1) := by decide +kernel
theorem d_Mo_mark_160 : decode M_Mo_mark.2.1 160 = .ok (.iconst 4, 1) := by decide +kernel
theorem d_Mo_mark_161 : decode M_Mo_mark.2.1 161 = .ok (.invokestatic 140, 3) := by decide +kernel
theorem d_Mo_mark_164 : decode M_Mo_mark.2.1 164 = .ok (.ifCond .eq 7, 3) := by decide +kernel
theorem d_Mo_mark_167 : decode M_Mo_mark.2.1 167 = .ok (.iload_n 2, 1) := by decide +kernel
theorem d_Mo_mark_168 : decode M_Mo_mark.2.1 168 = .ok (.goto 4, 3) := by decide +kernel
theorem d_Mo_mark_171 : decode M_Mo_mark.2.1 171 = .ok (.iconst 0, 1) := by decide +kernel
theorem d_Mo_mark_172 : decode M_Mo_mark.2.1 172 = .ok (.iadd, 1) := by decide +kernel
theorem d_Mo_mark_173 : decode M_Mo_mark.2.1 173 = .ok (.istore 6, 2) := by decide +kernel
theorem d_Mo_mark_175 : decode M_Mo_mark.2.1 175 = .ok (.iload 6, 2) := by decide +kernel
theorem d_Mo_mark_177 : decode M_Mo_mark.2.1 177 = .ok (.iload_n 3, 1) := by decide +kernel
theorem d_Mo_mark_178 : decode M_Mo_mark.2.1 178 = .ok (.iconst 5, 1) := by decide +kernel
theorem d_Mo_mark_179 : decode M_Mo_mark.2.1 179 = .ok (.invokestatic 140, 3) := by decide +kernel
theorem d_Mo_mark_182 : decode M_Mo_mark.2.1 182 = .ok (.ifCond .eq 12, 3) := by decide +kernel
theorem d_Mo_mark_185 : decode M_Mo_mark.2.1 185 = .ok (.aload_n 0, 1) := by decide +kernel
theorem d_Mo_mark_186 : decode M_Mo_mark.2.1 186 = .ok (.getfield 41, 3) := by decide +kernel
theorem d_Mo_mark_189 : decode M_Mo_mark.2.1 189 = .ok (.iconst 2, 1) := by decide +kernel
theorem d_Mo_mark_190 : decode M_Mo_mark.2.1 190 = .ok (.iaload, 1) := by decide +kernel
theorem d_Mo_mark_191 : decode M_Mo_mark.2.1 191 = .ok (.goto 4, 3) := by decide +kernel
theorem d_Mo_mark_194 : decode M_Mo_mark.2.1 194 = .ok (.iconst 0, 1) := by decide +kernel
theorem d_Mo_mark_195 : decode M_Mo_mark.2.1 195 = .ok (.iadd, 1) := by decide +kernel
theorem d_Mo_mark_196 : decode M_Mo_mark.2.1 196 = .ok (.istore 6, 2) := by decide +kernel
theorem d_Mo_mark_198 : decode M_Mo_mark.2.1 198 = .ok (.iload 6, 2) := by decide +kernel
theorem d_Mo_mark_200 : decode M_Mo_mark.2.1 200 = .ok (.ireturn, 1) := by decide +kernel
theorem d_Mo_trace_0 : decode M_Mo_trace.2.1 0 = .ok (.aload_n 0, 1) := by decide +kernel
theorem d_Mo_trace_1 : decode M_Mo_trace.2.1 1 = .ok (.getfield 204, 3) := by decide +kernel
theorem d_Mo_trace_4 : decode M_Mo_trace.2.1 4 = .ok (.lreturn, 1) := by decide +kernel
theorem d_Mo_keep_0 : decode M_Mo_keep.2.1 0 = .ok (.iload_n 1, 1) := by decide +kernel
theorem d_Mo_keep_1 : decode M_Mo_keep.2.1 1 = .ok (.iconst 0, 1) := by decide +kernel
theorem d_Mo_keep_2 : decode M_Mo_keep.2.1 2 = .ok (.iconst 1, 1) := by decide +kernel
theorem d_Mo_keep_3 : decode M_Mo_keep.2.1 3 = .ok (.invokestatic 78, 3) := by decide +kernel
theorem d_Mo_keep_6 : decode M_Mo_keep.2.1 6 = .ok (.ifCond .ne 5, 3) := by decide +kernel
theorem d_Mo_keep_9 : decode M_Mo_keep.2.1 9 = .ok (.iconst (-1), 1) := by decide +kernel
theorem d_Mo_keep_10 : decode M_Mo_keep.2.1 10 = .ok (.ireturn, 1) := by decide +kernel
theorem d_Mo_keep_11 : decode M_Mo_keep.2.1 11 = .ok (.iconst 0, 1) := by decide +kernel
theorem d_Mo_keep_12 : decode M_Mo_keep.2.1 12 = .ok (.istore_n 2, 1) := by decide +kernel
theorem d_Mo_keep_13 : decode M_Mo_keep.2.1 13 = .ok (.iload_n 2, 1) := by decide +kernel
theorem d_Mo_keep_14 : decode M_Mo_keep.2.1 14 = .ok (.bipush 11, 2) := by decide +kernel
theorem d_Mo_keep_16 : decode M_Mo_keep.2.1 16 = .ok (.if_icmp .ge 26, 3) := by decide +kernel
theorem d_Mo_keep_19 : decode M_Mo_keep.2.1 19 = .ok (.aload_n 0, 1) := by decide +kernel
theorem d_Mo_keep_20 : decode M_Mo_keep.2.1 20 = .ok (.getfield 50, 3) := by decide +kernel
theorem d_Mo_keep_23 : decode M_Mo_keep.2.1 23 = .ok (.bipush 11, 2) := by decide +kernel
theorem d_Mo_keep_25 : decode M_Mo_keep.2.1 25 = .ok (.iload_n 1, 1) := by decide +kernel
theorem d_Mo_keep_26 : decode M_Mo_keep.2.1 26 = .ok (.imul, 1) := by decide +kernel
theorem d_Mo_keep_27 : decode M_Mo_keep.2.1 27 = .ok (.iload_n 2, 1) := by decide +kernel
theorem d_Mo_keep_28 : decode M_Mo_keep.2.1 28 = .ok (.iadd, 1) := by decide +kernel
theorem d_Mo_keep_29 : decode M_Mo_keep.2.1 29 = .ok (.aload_n 0, 1) := by decide +kernel
theorem d_Mo_keep_30 : decode M_Mo_keep.2.1 30 = .ok (.getfield 41, 3) := by decide +kernel
theorem d_Mo_keep_33 : decode M_Mo_keep.2.1 33 = .ok (.iload_n 2, 1) := by decide +kernel
theorem d_Mo_keep_34 : decode M_Mo_keep.2.1 34 = .ok (.iaload, 1) := by decide +kernel
theorem d_Mo_keep_35 : decode M_Mo_keep.2.1 35 = .ok (.iastore, 1) := by decide +kernel
theorem d_Mo_keep_36 : decode M_Mo_keep.2.1 36 = .ok (.iinc 2 1, 3) := by decide +kernel
theorem d_Mo_keep_39 : decode M_Mo_keep.2.1 39 = .ok (.goto (-26), 3) := by decide +kernel
theorem d_Mo_keep_42 : decode M_Mo_keep.2.1 42 = .ok (.iconst 0, 1) := by decide +kernel
theorem d_Mo_keep_43 : decode M_Mo_keep.2.1 43 = .ok (.istore_n 2, 1) := by decide +kernel
theorem d_Mo_keep_44 : decode M_Mo_keep.2.1 44 = .ok (.iload_n 2, 1) := by decide +kernel
theorem d_Mo_keep_45 : decode M_Mo_keep.2.1 45 = .ok (.bipush 110, 2) := by decide +kernel
theorem d_Mo_keep_47 : decode M_Mo_keep.2.1 47 = .ok (.if_icmp .ge 28, 3) := by decide +kernel
theorem d_Mo_keep_50 : decode M_Mo_keep.2.1 50 = .ok (.aload_n 0, 1) := by decide +kernel
theorem d_Mo_keep_51 : decode M_Mo_keep.2.1 51 = .ok (.getfield 47, 3) := by decide +kernel
theorem d_Mo_keep_54 : decode M_Mo_keep.2.1 54 = .ok (.bipush 110, 2) := by decide +kernel
theorem d_Mo_keep_56 : decode M_Mo_keep.2.1 56 = .ok (.iconst 1, 1) := by decide +kernel
theorem d_Mo_keep_57 : decode M_Mo_keep.2.1 57 = .ok (.iload_n 1, 1) := by decide +kernel
theorem d_Mo_keep_58 : decode M_Mo_keep.2.1 58 = .ok (.iadd, 1) := by decide +kernel
theorem d_Mo_keep_59 : decode M_Mo_keep.2.1 59 = .ok (.imul, 1) := by decide +kernel
theorem d_Mo_keep_60 : decode M_Mo_keep.2.1 60 = .ok (.iload_n 2, 1) := by decide +kernel
theorem d_Mo_keep_61 : decode M_Mo_keep.2.1 61 = .ok (.iadd, 1) := by decide +kernel
theorem d_Mo_keep_62 : decode M_Mo_keep.2.1 62 = .ok (.aload_n 0, 1) := by decide +kernel
theorem d_Mo_keep_63 : decode M_Mo_keep.2.1 63 = .ok (.getfield 47, 3) := by decide +kernel
theorem d_Mo_keep_66 : decode M_Mo_keep.2.1 66 = .ok (.iload_n 2, 1) := by decide +kernel
theorem d_Mo_keep_67 : decode M_Mo_keep.2.1 67 = .ok (.iaload, 1) := by decide +kernel
theorem d_Mo_keep_68 : decode M_Mo_keep.2.1 68 = .ok (.iastore, 1) := by decide +kernel
theorem d_Mo_keep_69 : decode M_Mo_keep.2.1 69 = .ok (.iinc 2 1, 3) := by decide +kernel
theorem d_Mo_keep_72 : decode M_Mo_keep.2.1 72 = .ok (.goto (-28), 3) := by decide +kernel
theorem d_Mo_keep_75 : decode M_Mo_keep.2.1 75 = .ok (.aload_n 0, 1) := by decide +kernel
theorem d_Mo_keep_76 : decode M_Mo_keep.2.1 76 = .ok (.getfield 44, 3) := by decide +kernel
theorem d_Mo_keep_79 : decode M_Mo_keep.2.1 79 = .ok (.iconst 1, 1) := by decide +kernel
theorem d_Mo_keep_80 : decode M_Mo_keep.2.1 80 = .ok (.iload_n 1, 1) := by decide +kernel
theorem d_Mo_keep_81 : decode M_Mo_keep.2.1 81 = .ok (.iadd, 1) := by decide +kernel
theorem d_Mo_keep_82 : decode M_Mo_keep.2.1 82 = .ok (.aload_n 0, 1) := by decide +kernel
theorem d_Mo_keep_83 : decode M_Mo_keep.2.1 83 = .ok (.getfield 44, 3) := by decide +kernel
theorem d_Mo_keep_86 : decode M_Mo_keep.2.1 86 = .ok (.iconst 0, 1) := by decide +kernel
theorem d_Mo_keep_87 : decode M_Mo_keep.2.1 87 = .ok (.iaload, 1) := by decide +kernel
theorem d_Mo_keep_88 : decode M_Mo_keep.2.1 88 = .ok (.iastore, 1) := by decide +kernel
theorem d_Mo_keep_89 : decode M_Mo_keep.2.1 89 = .ok (.aload_n 0, 1) := by decide +kernel
theorem d_Mo_keep_90 : decode M_Mo_keep.2.1 90 = .ok (.getfield 53, 3) := by decide +kernel
theorem d_Mo_keep_93 : decode M_Mo_keep.2.1 93 = .ok (.iload_n 1, 1) := by decide +kernel
theorem d_Mo_keep_94 : decode M_Mo_keep.2.1 94 = .ok (.iconst 1, 1) := by decide +kernel
theorem d_Mo_keep_95 : decode M_Mo_keep.2.1 95 = .ok (.bastore, 1) := by decide +kernel
theorem d_Mo_keep_96 : decode M_Mo_keep.2.1 96 = .ok (.aload_n 0, 1) := by decide +kernel
theorem d_Mo_keep_97 : decode M_Mo_keep.2.1 97 = .ok (.getfield 41, 3) := by decide +kernel
theorem d_Mo_keep_100 : decode M_Mo_keep.2.1 100 = .ok (.iconst 0, 1) := by decide +kernel
theorem d_Mo_keep_101 : decode M_Mo_keep.2.1 101 = .ok (.iaload, 1) := by decide +kernel
theorem d_Mo_keep_102 : decode M_Mo_keep.2.1 102 = .ok (.ireturn, 1) := by decide +kernel
theorem d_Mo_back_0 : decode M_Mo_back.2.1 0 = .ok (.iload_n 1, 1) := by decide +kernel
theorem d_Mo_back_1 : decode M_Mo_back.2.1 1 = .ok (.iconst 0, 1) := by decide +kernel
theorem d_Mo_back_2 : decode M_Mo_back.2.1 2 = .ok (.iconst 1, 1) := by decide +kernel
theorem d_Mo_back_3 : decode M_Mo_back.2.1 3 = .ok (.invokestatic 78, 3) := by decide +kernel
theorem d_Mo_back_6 : decode M_Mo_back.2.1 6 = .ok (.ifCond .ne 5, 3) := by decide +kernel
theorem d_Mo_back_9 : decode M_Mo_back.2.1 9 = .ok (.iconst (-1), 1) := by decide +kernel
theorem d_Mo_back_10 : decode M_Mo_back.2.1 10 = .ok (.ireturn, 1) := by decide +kernel
theorem d_Mo_back_11 : decode M_Mo_back.2.1 11 = .ok (.aload_n 0, 1) := by decide +kernel
theorem d_Mo_back_12 : decode M_Mo_back.2.1 12 = .ok (.getfield 53, 3) := by decide +kernel
theorem d_Mo_back_15 : decode M_Mo_back.2.1 15 = .ok (.iload_n 1, 1) := by decide +kernel
theorem d_Mo_back_16 : decode M_Mo_back.2.1 16 = .ok (.baload, 1) := by decide +kernel
theorem d_Mo_back_17 : decode M_Mo_back.2.1 17 = .ok (.ifCond .ne 6, 3) := by decide +kernel
theorem d_Mo_back_20 : decode M_Mo_back.2.1 20 = .ok (.bipush (-2), 2) := by decide +kernel
theorem d_Mo_back_22 : decode M_Mo_back.2.1 22 = .ok (.ireturn, 1) := by decide +kernel
theorem d_Mo_back_23 : decode M_Mo_back.2.1 23 = .ok (.iconst 0, 1) := by decide +kernel
theorem d_Mo_back_24 : decode M_Mo_back.2.1 24 = .ok (.istore_n 2, 1) := by decide +kernel
theorem d_Mo_back_25 : decode M_Mo_back.2.1 25 = .ok (.iload_n 2, 1) := by decide +kernel
theorem d_Mo_back_26 : decode M_Mo_back.2.1 26 = .ok (.bipush 11, 2) := by decide +kernel
theorem d_Mo_back_28 : decode M_Mo_back.2.1 28 = .ok (.if_icmp .ge 26, 3) := by decide +kernel
theorem d_Mo_back_31 : decode M_Mo_back.2.1 31 = .ok (.aload_n 0, 1) := by decide +kernel
theorem d_Mo_back_32 : decode M_Mo_back.2.1 32 = .ok (.getfield 41, 3) := by decide +kernel
theorem d_Mo_back_35 : decode M_Mo_back.2.1 35 = .ok (.iload_n 2, 1) := by decide +kernel
theorem d_Mo_back_36 : decode M_Mo_back.2.1 36 = .ok (.aload_n 0, 1) := by decide +kernel
theorem d_Mo_back_37 : decode M_Mo_back.2.1 37 = .ok (.getfield 50, 3) := by decide +kernel
theorem d_Mo_back_40 : decode M_Mo_back.2.1 40 = .ok (.bipush 11, 2) := by decide +kernel
theorem d_Mo_back_42 : decode M_Mo_back.2.1 42 = .ok (.iload_n 1, 1) := by decide +kernel
theorem d_Mo_back_43 : decode M_Mo_back.2.1 43 = .ok (.imul, 1) := by decide +kernel
theorem d_Mo_back_44 : decode M_Mo_back.2.1 44 = .ok (.iload_n 2, 1) := by decide +kernel
theorem d_Mo_back_45 : decode M_Mo_back.2.1 45 = .ok (.iadd, 1) := by decide +kernel
theorem d_Mo_back_46 : decode M_Mo_back.2.1 46 = .ok (.iaload, 1) := by decide +kernel
theorem d_Mo_back_47 : decode M_Mo_back.2.1 47 = .ok (.iastore, 1) := by decide +kernel
theorem d_Mo_back_48 : decode M_Mo_back.2.1 48 = .ok (.iinc 2 1, 3) := by decide +kernel
theorem d_Mo_back_51 : decode M_Mo_back.2.1 51 = .ok (.goto (-26), 3) := by decide +kernel
theorem d_Mo_back_54 : decode M_Mo_back.2.1 54 = .ok (.iconst 0, 1) := by decide +kernel
theorem d_Mo_back_55 : decode M_Mo_back.2.1 55 = .ok (.istore_n 2, 1) := by decide +kernel
theorem d_Mo_back_56 : decode M_Mo_back.2.1 56 = .ok (.iload_n 2, 1) := by decide +kernel
theorem d_Mo_back_57 : decode M_Mo_back.2.1 57 = .ok (.bipush 110, 2) := by decide +kernel
theorem d_Mo_back_59 : decode M_Mo_back.2.1 59 = .ok (.if_icmp .ge 28, 3) := by decide +kernel
theorem d_Mo_back_62 : decode M_Mo_back.2.1 62 = .ok (.aload_n 0, 1) := by decide +kernel
theorem d_Mo_back_63 : decode M_Mo_back.2.1 63 = .ok (.getfield 47, 3) := by decide +kernel
theorem d_Mo_back_66 : decode M_Mo_back.2.1 66 = .ok (.iload_n 2, 1) := by decide +kernel
theorem d_Mo_back_67 : decode M_Mo_back.2.1 67 = .ok (.aload_n 0, 1) := by decide +kernel
theorem d_Mo_back_68 : decode M_Mo_back.2.1 68 = .ok (.getfield 47, 3) := by decide +kernel
theorem d_Mo_back_71 : decode M_Mo_back.2.1 71 = .ok (.bipush 110, 2) := by decide +kernel
theorem d_Mo_back_73 : decode M_Mo_back.2.1 73 = .ok (.iconst 1, 1) := by decide +kernel
theorem d_Mo_back_74 : decode M_Mo_back.2.1 74 = .ok (.iload_n 1, 1) := by decide +kernel
theorem d_Mo_back_75 : decode M_Mo_back.2.1 75 = .ok (.iadd, 1) := by decide +kernel
theorem d_Mo_back_76 : decode M_Mo_back.2.1 76 = .ok (.imul, 1) := by decide +kernel
theorem d_Mo_back_77 : decode M_Mo_back.2.1 77 = .ok (.iload_n 2, 1) := by decide +kernel
theorem d_Mo_back_78 : decode M_Mo_back.2.1 78 = .ok (.iadd, 1) := by decide +kernel
theorem d_Mo_back_79 : decode M_Mo_back.2.1 79 = .ok (.iaload, 1) := by decide +kernel
theorem d_Mo_back_80 : decode M_Mo_back.2.1 80 = .ok (.iastore, 1) := by decide +kernel
theorem d_Mo_back_81 : decode M_Mo_back.2.1 81 = .ok (.iinc 2 1, 3) := by decide +kernel
theorem d_Mo_back_84 : decode M_Mo_back.2.1 84 = .ok (.goto (-28), 3) := by decide +kernel
theorem d_Mo_back_87 : decode M_Mo_back.2.1 87 = .ok (.aload_n 0, 1) := by decide +kernel
theorem d_Mo_back_88 : decode M_Mo_back.2.1 88 = .ok (.getfield 44, 3) := by decide +kernel
theorem d_Mo_back_91 : decode M_Mo_back.2.1 91 = .ok (.iconst 0, 1) := by decide +kernel
theorem d_Mo_back_92 : decode M_Mo_back.2.1 92 = .ok (.aload_n 0, 1) := by decide +kernel
theorem d_Mo_back_93 : decode M_Mo_back.2.1 93 = .ok (.getfield 44, 3) := by decide +kernel
theorem d_Mo_back_96 : decode M_Mo_back.2.1 96 = .ok (.iconst 1, 1) := by decide +kernel
theorem d_Mo_back_97 : decode M_Mo_back.2.1 97 = .ok (.iload_n 1, 1) := by decide +kernel
theorem d_Mo_back_98 : decode M_Mo_back.2.1 98 = .ok (.iadd, 1) := by decide +kernel
theorem d_Mo_back_99 : decode M_Mo_back.2.1 99 = .ok (.iaload, 1) := by decide +kernel
theorem d_Mo_back_100 : decode M_Mo_back.2.1 100 = .ok (.iastore, 1) := by decide +kernel
theorem d_Mo_back_101 : decode M_Mo_back.2.1 101 = .ok (.aload_n 0, 1) := by decide +kernel
theorem d_Mo_back_102 : decode M_Mo_back.2.1 102 = .ok (.getfield 41, 3) := by decide +kernel
theorem d_Mo_back_105 : decode M_Mo_back.2.1 105 = .ok (.iconst 0, 1) := by decide +kernel
theorem d_Mo_back_106 : decode M_Mo_back.2.1 106 = .ok (.iaload, 1) := by decide +kernel
theorem d_Mo_back_107 : decode M_Mo_back.2.1 107 = .ok (.ireturn, 1) := by decide +kernel
theorem d_Mo_count_0 : decode M_Mo_count.2.1 0 = .ok (.iload_n 1, 1) := by decide +kernel
theorem d_Mo_count_1 : decode M_Mo_count.2.1 1 = .ok (.tableswitch 86 0 6 #[43, 50, 57, 64, 69, 74, 81], 43) := by decide +kernel
theorem d_Mo_count_44 : decode M_Mo_count.2.1 44 = .ok (.aload_n 0, 1) := by decide +kernel
theorem d_Mo_count_45 : decode M_Mo_count.2.1 45 = .ok (.getfield 17, 3) := by decide +kernel
theorem d_Mo_count_48 : decode M_Mo_count.2.1 48 = .ok (.iconst 0, 1) := by decide +kernel
theorem d_Mo_count_49 : decode M_Mo_count.2.1 49 = .ok (.iaload, 1) := by decide +kernel
theorem d_Mo_count_50 : decode M_Mo_count.2.1 50 = .ok (.ireturn, 1) := by decide +kernel
theorem d_Mo_count_51 : decode M_Mo_count.2.1 51 = .ok (.aload_n 0, 1) := by decide +kernel
theorem d_Mo_count_52 : decode M_Mo_count.2.1 52 = .ok (.getfield 29, 3) := by decide +kernel
theorem d_Mo_count_55 : decode M_Mo_count.2.1 55 = .ok (.iconst 0, 1) := by decide +kernel
theorem d_Mo_count_56 : decode M_Mo_count.2.1 56 = .ok (.iaload, 1) := by decide +kernel
theorem d_Mo_count_57 : decode M_Mo_count.2.1 57 = .ok (.ireturn, 1) := by decide +kernel
theorem d_Mo_count_58 : decode M_Mo_count.2.1 58 = .ok (.aload_n 0, 1) := by decide +kernel
theorem d_Mo_count_59 : decode M_Mo_count.2.1 59 = .ok (.getfield 38, 3) := by decide +kernel
theorem d_Mo_count_62 : decode M_Mo_count.2.1 62 = .ok (.iconst 0, 1) := by decide +kernel
theorem d_Mo_count_63 : decode M_Mo_count.2.1 63 = .ok (.iaload, 1) := by decide +kernel
theorem d_Mo_count_64 : decode M_Mo_count.2.1 64 = .ok (.ireturn, 1) := by decide +kernel
theorem d_Mo_count_65 : decode M_Mo_count.2.1 65 = .ok (.aload_n 0, 1) := by decide +kernel
theorem d_Mo_count_66 : decode M_Mo_count.2.1 66 = .ok (.getfield 134, 3) := by decide +kernel
theorem d_Mo_count_69 : decode M_Mo_count.2.1 69 = .ok (.ireturn, 1) := by decide +kernel
theorem d_Mo_count_70 : decode M_Mo_count.2.1 70 = .ok (.aload_n 0, 1) := by decide +kernel
theorem d_Mo_count_71 : decode M_Mo_count.2.1 71 = .ok (.getfield 137, 3) := by decide +kernel
theorem d_Mo_count_74 : decode M_Mo_count.2.1 74 = .ok (.ireturn, 1) := by decide +kernel
theorem d_Mo_count_75 : decode M_Mo_count.2.1 75 = .ok (.aload_n 0, 1) := by decide +kernel
theorem d_Mo_count_76 : decode M_Mo_count.2.1 76 = .ok (.getfield 44, 3) := by decide +kernel
theorem d_Mo_count_79 : decode M_Mo_count.2.1 79 = .ok (.iconst 0, 1) := by decide +kernel
theorem d_Mo_count_80 : decode M_Mo_count.2.1 80 = .ok (.iaload, 1) := by decide +kernel
theorem d_Mo_count_81 : decode M_Mo_count.2.1 81 = .ok (.ireturn, 1) := by decide +kernel
theorem d_Mo_count_82 : decode M_Mo_count.2.1 82 = .ok (.aload_n 0, 1) := by decide +kernel
theorem d_Mo_count_83 : decode M_Mo_count.2.1 83 = .ok (.getfield 82, 3) := by decide +kernel
theorem d_Mo_count_86 : decode M_Mo_count.2.1 86 = .ok (.ireturn, 1) := by decide +kernel
theorem d_Mo_count_87 : decode M_Mo_count.2.1 87 = .ok (.iconst (-1), 1) := by decide +kernel
theorem d_Mo_count_88 : decode M_Mo_count.2.1 88 = .ok (.ireturn, 1) := by decide +kernel
