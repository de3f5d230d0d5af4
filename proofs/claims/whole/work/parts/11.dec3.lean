theorem d_M_init_0 : decode (yMb m_M_init) 0 = .ok (.aload_n 0, 1) := by decide +kernel
theorem d_M_init_1 : decode (yMb m_M_init) 1 = .ok (.invokespecial 1, 3) := by decide +kernel
theorem d_M_init_4 : decode (yMb m_M_init) 4 = .ok (.aload_n 0, 1) := by decide +kernel
theorem d_M_init_5 : decode (yMb m_M_init) 5 = .ok (.bipush 6, 2) := by decide +kernel
theorem d_M_init_7 : decode (yMb m_M_init) 7 = .ok (.newarray .int, 2) := by decide +kernel
theorem d_M_init_9 : decode (yMb m_M_init) 9 = .ok (.putfield 7, 3) := by decide +kernel
theorem d_M_init_12 : decode (yMb m_M_init) 12 = .ok (.aload_n 0, 1) := by decide +kernel
theorem d_M_init_13 : decode (yMb m_M_init) 13 = .ok (.bipush 6, 2) := by decide +kernel
theorem d_M_init_15 : decode (yMb m_M_init) 15 = .ok (.newarray .int, 2) := by decide +kernel
theorem d_M_init_17 : decode (yMb m_M_init) 17 = .ok (.putfield 13, 3) := by decide +kernel
theorem d_M_init_20 : decode (yMb m_M_init) 20 = .ok (.aload_n 0, 1) := by decide +kernel
theorem d_M_init_21 : decode (yMb m_M_init) 21 = .ok (.bipush 6, 2) := by decide +kernel
theorem d_M_init_23 : decode (yMb m_M_init) 23 = .ok (.newarray .int, 2) := by decide +kernel
theorem d_M_init_25 : decode (yMb m_M_init) 25 = .ok (.putfield 16, 3) := by decide +kernel
theorem d_M_init_28 : decode (yMb m_M_init) 28 = .ok (.aload_n 0, 1) := by decide +kernel
theorem d_M_init_29 : decode (yMb m_M_init) 29 = .ok (.bipush 6, 2) := by decide +kernel
theorem d_M_init_31 : decode (yMb m_M_init) 31 = .ok (.newarray .int, 2) := by decide +kernel
theorem d_M_init_33 : decode (yMb m_M_init) 33 = .ok (.putfield 19, 3) := by decide +kernel
theorem d_M_init_36 : decode (yMb m_M_init) 36 = .ok (.aload_n 0, 1) := by decide +kernel
theorem d_M_init_37 : decode (yMb m_M_init) 37 = .ok (.bipush 6, 2) := by decide +kernel
theorem d_M_init_39 : decode (yMb m_M_init) 39 = .ok (.newarray .int, 2) := by decide +kernel
theorem d_M_init_41 : decode (yMb m_M_init) 41 = .ok (.putfield 22, 3) := by decide +kernel
theorem d_M_init_44 : decode (yMb m_M_init) 44 = .ok (.aload_n 0, 1) := by decide +kernel
theorem d_M_init_45 : decode (yMb m_M_init) 45 = .ok (.bipush 6, 2) := by decide +kernel
theorem d_M_init_47 : decode (yMb m_M_init) 47 = .ok (.newarray .int, 2) := by decide +kernel
theorem d_M_init_49 : decode (yMb m_M_init) 49 = .ok (.putfield 25, 3) := by decide +kernel
theorem d_M_init_52 : decode (yMb m_M_init) 52 = .ok (.aload_n 0, 1) := by decide +kernel
theorem d_M_init_53 : decode (yMb m_M_init) 53 = .ok (.bipush 6, 2) := by decide +kernel
theorem d_M_init_55 : decode (yMb m_M_init) 55 = .ok (.newarray .int, 2) := by decide +kernel
theorem d_M_init_57 : decode (yMb m_M_init) 57 = .ok (.putfield 28, 3) := by decide +kernel
theorem d_M_init_60 : decode (yMb m_M_init) 60 = .ok (.aload_n 0, 1) := by decide +kernel
theorem d_M_init_61 : decode (yMb m_M_init) 61 = .ok (.bipush 6, 2) := by decide +kernel
theorem d_M_init_63 : decode (yMb m_M_init) 63 = .ok (.newarray .int, 2) := by decide +kernel
theorem d_M_init_65 : decode (yMb m_M_init) 65 = .ok (.putfield 31, 3) := by decide +kernel
theorem d_M_init_68 : decode (yMb m_M_init) 68 = .ok (.aload_n 0, 1) := by decide +kernel
theorem d_M_init_69 : decode (yMb m_M_init) 69 = .ok (.bipush 6, 2) := by decide +kernel
theorem d_M_init_71 : decode (yMb m_M_init) 71 = .ok (.newarray .int, 2) := by decide +kernel
theorem d_M_init_73 : decode (yMb m_M_init) 73 = .ok (.putfield 34, 3) := by decide +kernel
theorem d_M_init_76 : decode (yMb m_M_init) 76 = .ok (.aload_n 0, 1) := by decide +kernel
theorem d_M_init_77 : decode (yMb m_M_init) 77 = .ok (.bipush 6, 2) := by decide +kernel
theorem d_M_init_79 : decode (yMb m_M_init) 79 = .ok (.newarray .boolean, 2) := by decide +kernel
theorem d_M_init_81 : decode (yMb m_M_init) 81 = .ok (.putfield 37, 3) := by decide +kernel
theorem d_M_init_84 : decode (yMb m_M_init) 84 = .ok (.aload_n 0, 1) := by decide +kernel
theorem d_M_init_85 : decode (yMb m_M_init) 85 = .ok (.bipush 6, 2) := by decide +kernel
theorem d_M_init_87 : decode (yMb m_M_init) 87 = .ok (.newarray .boolean, 2) := by decide +kernel
theorem d_M_init_89 : decode (yMb m_M_init) 89 = .ok (.putfield 41, 3) := by decide +kernel
theorem d_M_init_92 : decode (yMb m_M_init) 92 = .ok (.aload_n 0, 1) := by decide +kernel
theorem d_M_init_93 : decode (yMb m_M_init) 93 = .ok (.bipush 6, 2) := by decide +kernel
theorem d_M_init_95 : decode (yMb m_M_init) 95 = .ok (.newarray .int, 2) := by decide +kernel
theorem d_M_init_97 : decode (yMb m_M_init) 97 = .ok (.putfield 44, 3) := by decide +kernel
theorem d_M_init_100 : decode (yMb m_M_init) 100 = .ok (.aload_n 0, 1) := by decide +kernel
theorem d_M_init_101 : decode (yMb m_M_init) 101 = .ok (.bipush 6, 2) := by decide +kernel
theorem d_M_init_103 : decode (yMb m_M_init) 103 = .ok (.newarray .int, 2) := by decide +kernel
theorem d_M_init_105 : decode (yMb m_M_init) 105 = .ok (.putfield 47, 3) := by decide +kernel
theorem d_M_init_108 : decode (yMb m_M_init) 108 = .ok (.aload_n 0, 1) := by decide +kernel
theorem d_M_init_109 : decode (yMb m_M_init) 109 = .ok (.bipush 6, 2) := by decide +kernel
theorem d_M_init_111 : decode (yMb m_M_init) 111 = .ok (.newarray .int, 2) := by decide +kernel
theorem d_M_init_113 : decode (yMb m_M_init) 113 = .ok (.putfield 50, 3) := by decide +kernel
theorem d_M_init_116 : decode (yMb m_M_init) 116 = .ok (.aload_n 0, 1) := by decide +kernel
theorem d_M_init_117 : decode (yMb m_M_init) 117 = .ok (.bipush 6, 2) := by decide +kernel
theorem d_M_init_119 : decode (yMb m_M_init) 119 = .ok (.newarray .int, 2) := by decide +kernel
theorem d_M_init_121 : decode (yMb m_M_init) 121 = .ok (.putfield 53, 3) := by decide +kernel
theorem d_M_init_124 : decode (yMb m_M_init) 124 = .ok (.aload_n 0, 1) := by decide +kernel
theorem d_M_init_125 : decode (yMb m_M_init) 125 = .ok (.bipush 6, 2) := by decide +kernel
theorem d_M_init_127 : decode (yMb m_M_init) 127 = .ok (.newarray .int, 2) := by decide +kernel
theorem d_M_init_129 : decode (yMb m_M_init) 129 = .ok (.putfield 56, 3) := by decide +kernel
theorem d_M_init_132 : decode (yMb m_M_init) 132 = .ok (.aload_n 0, 1) := by decide +kernel
theorem d_M_init_133 : decode (yMb m_M_init) 133 = .ok (.bipush 36, 2) := by decide +kernel
theorem d_M_init_135 : decode (yMb m_M_init) 135 = .ok (.newarray .int, 2) := by decide +kernel
theorem d_M_init_137 : decode (yMb m_M_init) 137 = .ok (.putfield 59, 3) := by decide +kernel
theorem d_M_init_140 : decode (yMb m_M_init) 140 = .ok (.aload_n 0, 1) := by decide +kernel
theorem d_M_init_141 : decode (yMb m_M_init) 141 = .ok (.bipush 12, 2) := by decide +kernel
theorem d_M_init_143 : decode (yMb m_M_init) 143 = .ok (.newarray .int, 2) := by decide +kernel
theorem d_M_init_145 : decode (yMb m_M_init) 145 = .ok (.putfield 62, 3) := by decide +kernel
theorem d_M_init_148 : decode (yMb m_M_init) 148 = .ok (.aload_n 0, 1) := by decide +kernel
theorem d_M_init_149 : decode (yMb m_M_init) 149 = .ok (.bipush 72, 2) := by decide +kernel
theorem d_M_init_151 : decode (yMb m_M_init) 151 = .ok (.newarray .int, 2) := by decide +kernel
theorem d_M_init_153 : decode (yMb m_M_init) 153 = .ok (.putfield 65, 3) := by decide +kernel
theorem d_M_init_156 : decode (yMb m_M_init) 156 = .ok (.aload_n 0, 1) := by decide +kernel
theorem d_M_init_157 : decode (yMb m_M_init) 157 = .ok (.bipush 36, 2) := by decide +kernel
theorem d_M_init_159 : decode (yMb m_M_init) 159 = .ok (.newarray .int, 2) := by decide +kernel
theorem d_M_init_161 : decode (yMb m_M_init) 161 = .ok (.putfield 68, 3) := by decide +kernel
theorem d_M_init_164 : decode (yMb m_M_init) 164 = .ok (.aload_n 0, 1) := by decide +kernel
theorem d_M_init_165 : decode (yMb m_M_init) 165 = .ok (.bipush 18, 2) := by decide +kernel
theorem d_M_init_167 : decode (yMb m_M_init) 167 = .ok (.newarray .int, 2) := by decide +kernel
theorem d_M_init_169 : decode (yMb m_M_init) 169 = .ok (.putfield 71, 3) := by decide +kernel
theorem d_M_init_172 : decode (yMb m_M_init) 172 = .ok (.aload_n 0, 1) := by decide +kernel
theorem d_M_init_173 : decode (yMb m_M_init) 173 = .ok (.iconst 5, 1) := by decide +kernel
theorem d_M_init_174 : decode (yMb m_M_init) 174 = .ok (.newarray .int, 2) := by decide +kernel
theorem d_M_init_176 : decode (yMb m_M_init) 176 = .ok (.putfield 74, 3) := by decide +kernel
theorem d_M_init_179 : decode (yMb m_M_init) 179 = .ok (.aload_n 0, 1) := by decide +kernel
theorem d_M_init_180 : decode (yMb m_M_init) 180 = .ok (.bipush 6, 2) := by decide +kernel
theorem d_M_init_182 : decode (yMb m_M_init) 182 = .ok (.newarray .boolean, 2) := by decide +kernel
theorem d_M_init_184 : decode (yMb m_M_init) 184 = .ok (.putfield 77, 3) := by decide +kernel
theorem d_M_init_187 : decode (yMb m_M_init) 187 = .ok (.iconst 0, 1) := by decide +kernel
theorem d_M_init_188 : decode (yMb m_M_init) 188 = .ok (.istore_n 1, 1) := by decide +kernel
theorem d_M_init_189 : decode (yMb m_M_init) 189 = .ok (.iload_n 1, 1) := by decide +kernel
theorem d_M_init_190 : decode (yMb m_M_init) 190 = .ok (.bipush 6, 2) := by decide +kernel
theorem d_M_init_192 : decode (yMb m_M_init) 192 = .ok (.if_icmp .ge 23, 3) := by decide +kernel
theorem d_M_init_195 : decode (yMb m_M_init) 195 = .ok (.aload_n 0, 1) := by decide +kernel
theorem d_M_init_196 : decode (yMb m_M_init) 196 = .ok (.getfield 16, 3) := by decide +kernel
theorem d_M_init_199 : decode (yMb m_M_init) 199 = .ok (.iload_n 1, 1) := by decide +kernel
theorem d_M_init_200 : decode (yMb m_M_init) 200 = .ok (.iconst (-1), 1) := by decide +kernel
theorem d_M_init_201 : decode (yMb m_M_init) 201 = .ok (.iastore, 1) := by decide +kernel
theorem d_M_init_202 : decode (yMb m_M_init) 202 = .ok (.aload_n 0, 1) := by decide +kernel
theorem d_M_init_203 : decode (yMb m_M_init) 203 = .ok (.getfield 22, 3) := by decide +kernel
theorem d_M_init_206 : decode (yMb m_M_init) 206 = .ok (.iload_n 1, 1) := by decide +kernel
theorem d_M_init_207 : decode (yMb m_M_init) 207 = .ok (.iconst (-1), 1) := by decide +kernel
theorem d_M_init_208 : decode (yMb m_M_init) 208 = .ok (.iastore, 1) := by decide +kernel
theorem d_M_init_209 : decode (yMb m_M_init) 209 = .ok (.iinc 1 1, 3) := by decide +kernel
theorem d_M_init_212 : decode (yMb m_M_init) 212 = .ok (.goto (-23), 3) := by decide +kernel
theorem d_M_init_215 : decode (yMb m_M_init) 215 = .ok (.return_, 1) := by decide +kernel
theorem d_M_thrown_0 : decode (yMb m_M_thrown) 0 = .ok (.aload_n 0, 1) := by decide +kernel
theorem d_M_thrown_1 : decode (yMb m_M_thrown) 1 = .ok (.getfield 80, 3) := by decide +kernel
theorem d_M_thrown_4 : decode (yMb m_M_thrown) 4 = .ok (.ireturn, 1) := by decide +kernel
theorem d_M_in_0 : decode (yMb m_M_in) 0 = .ok (.iload_n 0, 1) := by decide +kernel
theorem d_M_in_1 : decode (yMb m_M_in) 1 = .ok (.iload_n 1, 1) := by decide +kernel
theorem d_M_in_2 : decode (yMb m_M_in) 2 = .ok (.if_icmp .lt 12, 3) := by decide +kernel
theorem d_M_in_5 : decode (yMb m_M_in) 5 = .ok (.iload_n 0, 1) := by decide +kernel
theorem d_M_in_6 : decode (yMb m_M_in) 6 = .ok (.iload_n 2, 1) := by decide +kernel
theorem d_M_in_7 : decode (yMb m_M_in) 7 = .ok (.if_icmp .gt 7, 3) := by decide +kernel
theorem d_M_in_10 : decode (yMb m_M_in) 10 = .ok (.iconst 1, 1) := by decide +kernel
theorem d_M_in_11 : decode (yMb m_M_in) 11 = .ok (.goto 4, 3) := by decide +kernel
theorem d_M_in_14 : decode (yMb m_M_in) 14 = .ok (.iconst 0, 1) := by decide +kernel
theorem d_M_in_15 : decode (yMb m_M_in) 15 = .ok (.ireturn, 1) := by decide +kernel
theorem d_M_bad_0 : decode (yMb m_M_bad) 0 = .ok (.aload_n 0, 1) := by decide +kernel
theorem d_M_bad_1 : decode (yMb m_M_bad) 1 = .ok (.iload_n 1, 1) := by decide +kernel
theorem d_M_bad_2 : decode (yMb m_M_bad) 2 = .ok (.ifCond .eq 7, 3) := by decide +kernel
theorem d_M_bad_5 : decode (yMb m_M_bad) 5 = .ok (.iconst 0, 1) := by decide +kernel
theorem d_M_bad_6 : decode (yMb m_M_bad) 6 = .ok (.goto 4, 3) := by decide +kernel
theorem d_M_bad_9 : decode (yMb m_M_bad) 9 = .ok (.iconst 1, 1) := by decide +kernel
theorem d_M_bad_10 : decode (yMb m_M_bad) 10 = .ok (.putfield 80, 3) := by decide +kernel
theorem d_M_bad_13 : decode (yMb m_M_bad) 13 = .ok (.iload_n 1, 1) := by decide +kernel
theorem d_M_bad_14 : decode (yMb m_M_bad) 14 = .ok (.ifCond .ne 7, 3) := by decide +kernel
theorem d_M_bad_17 : decode (yMb m_M_bad) 17 = .ok (.iconst 1, 1) := by decide +kernel
theorem d_M_bad_18 : decode (yMb m_M_bad) 18 = .ok (.goto 4, 3) := by decide +kernel
theorem d_M_bad_21 : decode (yMb m_M_bad) 21 = .ok (.iconst 0, 1) := by decide +kernel
theorem d_M_bad_22 : decode (yMb m_M_bad) 22 = .ok (.ireturn, 1) := by decide +kernel
theorem d_M_make_0 : decode (yMb m_M_make) 0 = .ok (.aload_n 0, 1) := by decide +kernel
theorem d_M_make_1 : decode (yMb m_M_make) 1 = .ok (.iload_n 1, 1) := by decide +kernel
theorem d_M_make_2 : decode (yMb m_M_make) 2 = .ok (.iconst 0, 1) := by decide +kernel
theorem d_M_make_3 : decode (yMb m_M_make) 3 = .ok (.iconst 5, 1) := by decide +kernel
theorem d_M_make_4 : decode (yMb m_M_make) 4 = .ok (.invokestatic 84, 3) := by decide +kernel
theorem d_M_make_7 : decode (yMb m_M_make) 7 = .ok (.ifCond .eq 16, 3) := by decide +kernel
theorem d_M_make_10 : decode (yMb m_M_make) 10 = .ok (.iload_n 2, 1) := by decide +kernel
theorem d_M_make_11 : decode (yMb m_M_make) 11 = .ok (.iconst 1, 1) := by decide +kernel
theorem d_M_make_12 : decode (yMb m_M_make) 12 = .ok (.iconst 3, 1) := by decide +kernel
theorem d_M_make_13 : decode (yMb m_M_make) 13 = .ok (.invokestatic 84, 3) := by decide +kernel
theorem d_M_make_16 : decode (yMb m_M_make) 16 = .ok (.ifCond .eq 7, 3) := by decide +kernel
theorem d_M_make_19 : decode (yMb m_M_make) 19 = .ok (.iconst 1, 1) := by decide +kernel
theorem d_M_make_20 : decode (yMb m_M_make) 20 = .ok (.goto 4, 3) := by decide +kernel
theorem d_M_make_23 : decode (yMb m_M_make) 23 = .ok (.iconst 0, 1) := by decide +kernel
theorem d_M_make_24 : decode (yMb m_M_make) 24 = .ok (.invokevirtual 88, 3) := by decide +kernel
theorem d_M_make_27 : decode (yMb m_M_make) 27 = .ok (.ifCond .eq 5, 3) := by decide +kernel
theorem d_M_make_30 : decode (yMb m_M_make) 30 = .ok (.iconst 0, 1) := by decide +kernel
theorem d_M_make_31 : decode (yMb m_M_make) 31 = .ok (.ireturn, 1) := by decide +kernel
theorem d_M_make_32 : decode (yMb m_M_make) 32 = .ok (.aload_n 0, 1) := by decide +kernel
theorem d_M_make_33 : decode (yMb m_M_make) 33 = .ok (.getfield 92, 3) := by decide +kernel
theorem d_M_make_36 : decode (yMb m_M_make) 36 = .ok (.bipush 6, 2) := by decide +kernel
theorem d_M_make_38 : decode (yMb m_M_make) 38 = .ok (.if_icmp .ne 10, 3) := by decide +kernel
theorem d_M_make_41 : decode (yMb m_M_make) 41 = .ok (.aload_n 0, 1) := by decide +kernel
theorem d_M_make_42 : decode (yMb m_M_make) 42 = .ok (.iconst 2, 1) := by decide +kernel
theorem d_M_make_43 : decode (yMb m_M_make) 43 = .ok (.putfield 80, 3) := by decide +kernel
theorem d_M_make_46 : decode (yMb m_M_make) 46 = .ok (.iconst 0, 1) := by decide +kernel
theorem d_M_make_47 : decode (yMb m_M_make) 47 = .ok (.ireturn, 1) := by decide +kernel
theorem d_M_make_48 : decode (yMb m_M_make) 48 = .ok (.aload_n 0, 1) := by decide +kernel
theorem d_M_make_49 : decode (yMb m_M_make) 49 = .ok (.getfield 44, 3) := by decide +kernel
theorem d_M_make_52 : decode (yMb m_M_make) 52 = .ok (.aload_n 0, 1) := by decide +kernel
theorem d_M_make_53 : decode (yMb m_M_make) 53 = .ok (.getfield 92, 3) := by decide +kernel
theorem d_M_make_56 : decode (yMb m_M_make) 56 = .ok (.iload_n 1, 1) := by decide +kernel
theorem d_M_make_57 : decode (yMb m_M_make) 57 = .ok (.iastore, 1) := by decide +kernel
theorem d_M_make_58 : decode (yMb m_M_make) 58 = .ok (.aload_n 0, 1) := by decide +kernel
theorem d_M_make_59 : decode (yMb m_M_make) 59 = .ok (.getfield 47, 3) := by decide +kernel
theorem d_M_make_62 : decode (yMb m_M_make) 62 = .ok (.aload_n 0, 1) := by decide +kernel
theorem d_M_make_63 : decode (yMb m_M_make) 63 = .ok (.getfield 92, 3) := by decide +kernel
theorem d_M_make_66 : decode (yMb m_M_make) 66 = .ok (.iload_n 2, 1) := by decide +kernel
theorem d_M_make_67 : decode (yMb m_M_make) 67 = .ok (.iastore, 1) := by decide +kernel
theorem d_M_make_68 : decode (yMb m_M_make) 68 = .ok (.aload_n 0, 1) := by decide +kernel
theorem d_M_make_69 : decode (yMb m_M_make) 69 = .ok (.getfield 50, 3) := by decide +kernel
theorem d_M_make_72 : decode (yMb m_M_make) 72 = .ok (.aload_n 0, 1) := by decide +kernel
theorem d_M_make_73 : decode (yMb m_M_make) 73 = .ok (.getfield 92, 3) := by decide +kernel
theorem d_M_make_76 : decode (yMb m_M_make) 76 = .ok (.iload_n 1, 1) := by decide +kernel
theorem d_M_make_77 : decode (yMb m_M_make) 77 = .ok (.iconst 2, 1) := by decide +kernel
theorem d_M_make_78 : decode (yMb m_M_make) 78 = .ok (.if_icmp .eq 8, 3) := by decide +kernel
theorem d_M_make_81 : decode (yMb m_M_make) 81 = .ok (.iload_n 1, 1) := by decide +kernel
theorem d_M_make_82 : decode (yMb m_M_make) 82 = .ok (.iconst 3, 1) := by decide +kernel
theorem d_M_make_83 : decode (yMb m_M_make) 83 = .ok (.if_icmp .ne 7, 3) := by decide +kernel
theorem d_M_make_86 : decode (yMb m_M_make) 86 = .ok (.iload_n 2, 1) := by decide +kernel
theorem d_M_make_87 : decode (yMb m_M_make) 87 = .ok (.goto 4, 3) := by decide +kernel
theorem d_M_make_90 : decode (yMb m_M_make) 90 = .ok (.iconst 0, 1) := by decide +kernel
theorem d_M_make_91 : decode (yMb m_M_make) 91 = .ok (.iastore, 1) := by decide +kernel
theorem d_M_make_92 : decode (yMb m_M_make) 92 = .ok (.aload_n 0, 1) := by decide +kernel
theorem d_M_make_93 : decode (yMb m_M_make) 93 = .ok (.getfield 53, 3) := by decide +kernel
theorem d_M_make_96 : decode (yMb m_M_make) 96 = .ok (.aload_n 0, 1) := by decide +kernel
theorem d_M_make_97 : decode (yMb m_M_make) 97 = .ok (.getfield 92, 3) := by decide +kernel
theorem d_M_make_100 : decode (yMb m_M_make) 100 = .ok (.iconst (-1), 1) := by decide +kernel
theorem d_M_make_101 : decode (yMb m_M_make) 101 = .ok (.iastore, 1) := by decide +kernel
theorem d_M_make_102 : decode (yMb m_M_make) 102 = .ok (.aload_n 0, 1) := by decide +kernel
theorem d_M_make_103 : decode (yMb m_M_make) 103 = .ok (.dup, 1) := by decide +kernel
theorem d_M_make_104 : decode (yMb m_M_make) 104 = .ok (.getfield 92, 3) := by decide +kernel
theorem d_M_make_107 : decode (yMb m_M_make) 107 = .ok (.iconst 1, 1) := by decide +kernel
theorem d_M_make_108 : decode (yMb m_M_make) 108 = .ok (.iadd, 1) := by decide +kernel
theorem d_M_make_109 : decode (yMb m_M_make) 109 = .ok (.putfield 92, 3) := by decide +kernel
theorem d_M_make_112 : decode (yMb m_M_make) 112 = .ok (.aload_n 0, 1) := by decide +kernel
theorem d_M_make_113 : decode (yMb m_M_make) 113 = .ok (.getfield 92, 3) := by decide +kernel
theorem d_M_make_116 : decode (yMb m_M_make) 116 = .ok (.iconst 1, 1) := by decide +kernel
theorem d_M_make_117 : decode (yMb m_M_make) 117 = .ok (.isub, 1) := by decide +kernel
theorem d_M_make_118 : decode (yMb m_M_make) 118 = .ok (.ireturn, 1) := by decide +kernel
theorem d_M_end_0 : decode (yMb m_M_end) 0 = .ok (.aload_n 0, 1) := by decide +kernel
theorem d_M_end_1 : decode (yMb m_M_end) 1 = .ok (.getfield 7, 3) := by decide +kernel
theorem d_M_end_4 : decode (yMb m_M_end) 4 = .ok (.iload_n 1, 1) := by decide +kernel
theorem d_M_end_5 : decode (yMb m_M_end) 5 = .ok (.iconst 0, 1) := by decide +kernel
theorem d_M_end_6 : decode (yMb m_M_end) 6 = .ok (.iastore, 1) := by decide +kernel
theorem d_M_end_7 : decode (yMb m_M_end) 7 = .ok (.aload_n 0, 1) := by decide +kernel
theorem d_M_end_8 : decode (yMb m_M_end) 8 = .ok (.getfield 13, 3) := by decide +kernel
theorem d_M_end_11 : decode (yMb m_M_end) 11 = .ok (.iload_n 1, 1) := by decide +kernel
theorem d_M_end_12 : decode (yMb m_M_end) 12 = .ok (.iload_n 2, 1) := by decide +kernel
theorem d_M_end_13 : decode (yMb m_M_end) 13 = .ok (.iastore, 1) := by decide +kernel
theorem d_M_end_14 : decode (yMb m_M_end) 14 = .ok (.aload_n 0, 1) := by decide +kernel
theorem d_M_end_15 : decode (yMb m_M_end) 15 = .ok (.getfield 16, 3) := by decide +kernel
theorem d_M_end_18 : decode (yMb m_M_end) 18 = .ok (.iload_n 1, 1) := by decide +kernel
theorem d_M_end_19 : decode (yMb m_M_end) 19 = .ok (.iconst (-1), 1) := by decide +kernel
theorem d_M_end_20 : decode (yMb m_M_end) 20 = .ok (.iastore, 1) := by decide +kernel
theorem d_M_end_21 : decode (yMb m_M_end) 21 = .ok (.aload_n 0, 1) := by decide +kernel
theorem d_M_end_22 : decode (yMb m_M_end) 22 = .ok (.getfield 22, 3) := by decide +kernel
theorem d_M_end_25 : decode (yMb m_M_end) 25 = .ok (.iload_n 1, 1) := by decide +kernel
theorem d_M_end_26 : decode (yMb m_M_end) 26 = .ok (.iconst (-1), 1) := by decide +kernel
theorem d_M_end_27 : decode (yMb m_M_end) 27 = .ok (.iastore, 1) := by decide +kernel
theorem d_M_end_28 : decode (yMb m_M_end) 28 = .ok (.aload_n 0, 1) := by decide +kernel
theorem d_M_end_29 : decode (yMb m_M_end) 29 = .ok (.getfield 41, 3) := by decide +kernel
theorem d_M_end_32 : decode (yMb m_M_end) 32 = .ok (.iload_n 1, 1) := by decide +kernel
theorem d_M_end_33 : decode (yMb m_M_end) 33 = .ok (.iconst 0, 1) := by decide +kernel
theorem d_M_end_34 : decode (yMb m_M_end) 34 = .ok (.bastore, 1) := by decide +kernel
theorem d_M_end_35 : decode (yMb m_M_end) 35 = .ok (.aload_n 0, 1) := by decide +kernel
theorem d_M_end_36 : decode (yMb m_M_end) 36 = .ok (.getfield 74, 3) := by decide +kernel
theorem d_M_end_39 : decode (yMb m_M_end) 39 = .ok (.iload_n 2, 1) := by decide +kernel
theorem d_M_end_40 : decode (yMb m_M_end) 40 = .ok (.dup2, 1) := by decide +kernel
theorem d_M_end_41 : decode (yMb m_M_end) 41 = .ok (.iaload, 1) := by decide +kernel
theorem d_M_end_42 : decode (yMb m_M_end) 42 = .ok (.iconst 1, 1) := by decide +kernel
theorem d_M_end_43 : decode (yMb m_M_end) 43 = .ok (.iadd, 1) := by decide +kernel
theorem d_M_end_44 : decode (yMb m_M_end) 44 = .ok (.iastore, 1) := by decide +kernel
theorem d_M_end_45 : decode (yMb m_M_end) 45 = .ok (.iload_n 2, 1) := by decide +kernel
theorem d_M_end_46 : decode (yMb m_M_end) 46 = .ok (.ireturn, 1) := by decide +kernel
theorem d_M_remove_0 : decode (yMb m_M_remove) 0 = .ok (.iconst 0, 1) := by decide +kernel
theorem d_M_remove_1 : decode (yMb m_M_remove) 1 = .ok (.istore 6, 2) := by decide +kernel
theorem d_M_remove_3 : decode (yMb m_M_remove) 3 = .ok (.aload_n 1, 1) := by decide +kernel
theorem d_M_remove_4 : decode (yMb m_M_remove) 4 = .ok (.iload_n 2, 1) := by decide +kernel
theorem d_M_remove_5 : decode (yMb m_M_remove) 5 = .ok (.iload 6, 2) := by decide +kernel
theorem d_M_remove_7 : decode (yMb m_M_remove) 7 = .ok (.iadd, 1) := by decide +kernel
theorem d_M_remove_8 : decode (yMb m_M_remove) 8 = .ok (.iaload, 1) := by decide +kernel
theorem d_M_remove_9 : decode (yMb m_M_remove) 9 = .ok (.iload 5, 2) := by decide +kernel
theorem d_M_remove_11 : decode (yMb m_M_remove) 11 = .ok (.if_icmp .eq 9, 3) := by decide +kernel
theorem d_M_remove_14 : decode (yMb m_M_remove) 14 = .ok (.iinc 6 1, 3) := by decide +kernel
theorem d_M_remove_17 : decode (yMb m_M_remove) 17 = .ok (.goto (-14), 3) := by decide +kernel
theorem d_M_remove_20 : decode (yMb m_M_remove) 20 = .ok (.aload_n 3, 1) := by decide +kernel
theorem d_M_remove_21 : decode (yMb m_M_remove) 21 = .ok (.iload 4, 2) := by decide +kernel
theorem d_M_remove_23 : decode (yMb m_M_remove) 23 = .ok (.dup2, 1) := by decide +kernel
theorem d_M_remove_24 : decode (yMb m_M_remove) 24 = .ok (.iaload, 1) := by decide +kernel
theorem d_M_remove_25 : decode (yMb m_M_remove) 25 = .ok (.iconst 1, 1) := by decide +kernel
theorem d_M_remove_26 : decode (yMb m_M_remove) 26 = .ok (.isub, 1) := by decide +kernel
theorem d_M_remove_27 : decode (yMb m_M_remove) 27 = .ok (.iastore, 1) := by decide +kernel
theorem d_M_remove_28 : decode (yMb m_M_remove) 28 = .ok (.iload 6, 2) := by decide +kernel
theorem d_M_remove_30 : decode (yMb m_M_remove) 30 = .ok (.istore 7, 2) := by decide +kernel
theorem d_M_remove_32 : decode (yMb m_M_remove) 32 = .ok (.iload 7, 2) := by decide +kernel
theorem d_M_remove_34 : decode (yMb m_M_remove) 34 = .ok (.aload_n 3, 1) := by decide +kernel
theorem d_M_remove_35 : decode (yMb m_M_remove) 35 = .ok (.iload 4, 2) := by decide +kernel
theorem d_M_remove_37 : decode (yMb m_M_remove) 37 = .ok (.iaload, 1) := by decide +kernel
theorem d_M_remove_38 : decode (yMb m_M_remove) 38 = .ok (.if_icmp .ge 23, 3) := by decide +kernel
theorem d_M_remove_41 : decode (yMb m_M_remove) 41 = .ok (.aload_n 1, 1) := by decide +kernel
theorem d_M_remove_42 : decode (yMb m_M_remove) 42 = .ok (.iload_n 2, 1) := by decide +kernel
theorem d_M_remove_43 : decode (yMb m_M_remove) 43 = .ok (.iload 7, 2) := by decide +kernel
theorem d_M_remove_45 : decode (yMb m_M_remove) 45 = .ok (.iadd, 1) := by decide +kernel
theorem d_M_remove_46 : decode (yMb m_M_remove) 46 = .ok (.aload_n 1, 1) := by decide +kernel
theorem d_M_remove_47 : decode (yMb m_M_remove) 47 = .ok (.iload_n 2, 1) := by decide +kernel
theorem d_M_remove_48 : decode (yMb m_M_remove) 48 = .ok (.iload 7, 2) := by decide +kernel
theorem d_M_remove_50 : decode (yMb m_M_remove) 50 = .ok (.iadd, 1) := by decide +kernel
theorem d_M_remove_51 : decode (yMb m_M_remove) 51 = .ok (.iconst 1, 1) := by decide +kernel
theorem d_M_remove_52 : decode (yMb m_M_remove) 52 = .ok (.iadd, 1) := by decide +kernel
theorem d_M_remove_53 : decode (yMb m_M_remove) 53 = .ok (.iaload, 1) := by decide +kernel
theorem d_M_remove_54 : decode (yMb m_M_remove) 54 = .ok (.iastore, 1) := by decide +kernel
theorem d_M_remove_55 : decode (yMb m_M_remove) 55 = .ok (.iinc 7 1, 3) := by decide +kernel
theorem d_M_remove_58 : decode (yMb m_M_remove) 58 = .ok (.goto (-26), 3) := by decide +kernel
theorem d_M_remove_61 : decode (yMb m_M_remove) 61 = .ok (.return_, 1) := by decide +kernel
theorem d_M_enter_0 : decode (yMb m_M_enter) 0 = .ok (.aload_n 0, 1) := by decide +kernel
theorem d_M_enter_1 : decode (yMb m_M_enter) 1 = .ok (.getfield 59, 3) := by decide +kernel
theorem d_M_enter_4 : decode (yMb m_M_enter) 4 = .ok (.iload_n 2, 1) := by decide +kernel
theorem d_M_enter_5 : decode (yMb m_M_enter) 5 = .ok (.bipush 6, 2) := by decide +kernel
theorem d_M_enter_7 : decode (yMb m_M_enter) 7 = .ok (.imul, 1) := by decide +kernel
theorem d_M_enter_8 : decode (yMb m_M_enter) 8 = .ok (.aload_n 0, 1) := by decide +kernel
theorem d_M_enter_9 : decode (yMb m_M_enter) 9 = .ok (.getfield 56, 3) := by decide +kernel
theorem d_M_enter_12 : decode (yMb m_M_enter) 12 = .ok (.iload_n 2, 1) := by decide +kernel
theorem d_M_enter_13 : decode (yMb m_M_enter) 13 = .ok (.iaload, 1) := by decide +kernel
theorem d_M_enter_14 : decode (yMb m_M_enter) 14 = .ok (.iadd, 1) := by decide +kernel
theorem d_M_enter_15 : decode (yMb m_M_enter) 15 = .ok (.iload_n 1, 1) := by decide +kernel
theorem d_M_enter_16 : decode (yMb m_M_enter) 16 = .ok (.iastore, 1) := by decide +kernel
theorem d_M_enter_17 : decode (yMb m_M_enter) 17 = .ok (.aload_n 0, 1) := by decide +kernel
theorem d_M_enter_18 : decode (yMb m_M_enter) 18 = .ok (.getfield 56, 3) := by decide +kernel
theorem d_M_enter_21 : decode (yMb m_M_enter) 21 = .ok (.iload_n 2, 1) := by decide +kernel
theorem d_M_enter_22 : decode (yMb m_M_enter) 22 = .ok (.dup2, 1) := by decide +kernel
theorem d_M_enter_23 : decode (yMb m_M_enter) 23 = .ok (.iaload, 1) := by decide +kernel
theorem d_M_enter_24 : decode (yMb m_M_enter) 24 = .ok (.iconst 1, 1) := by decide +kernel
theorem d_M_enter_25 : decode (yMb m_M_enter) 25 = .ok (.iadd, 1) := by decide +kernel
theorem d_M_enter_26 : decode (yMb m_M_enter) 26 = .ok (.iastore, 1) := by decide +kernel
theorem d_M_enter_27 : decode (yMb m_M_enter) 27 = .ok (.aload_n 0, 1) := by decide +kernel
theorem d_M_enter_28 : decode (yMb m_M_enter) 28 = .ok (.getfield 7, 3) := by decide +kernel
theorem d_M_enter_31 : decode (yMb m_M_enter) 31 = .ok (.iload_n 1, 1) := by decide +kernel
theorem d_M_enter_32 : decode (yMb m_M_enter) 32 = .ok (.iconst 1, 1) := by decide +kernel
theorem d_M_enter_33 : decode (yMb m_M_enter) 33 = .ok (.iastore, 1) := by decide +kernel
theorem d_M_enter_34 : decode (yMb m_M_enter) 34 = .ok (.aload_n 0, 1) := by decide +kernel
theorem d_M_enter_35 : decode (yMb m_M_enter) 35 = .ok (.getfield 16, 3) := by decide +kernel
theorem d_M_enter_38 : decode (yMb m_M_enter) 38 = .ok (.iload_n 1, 1) := by decide +kernel
theorem d_M_enter_39 : decode (yMb m_M_enter) 39 = .ok (.iload_n 2, 1) := by decide +kernel
theorem d_M_enter_40 : decode (yMb m_M_enter) 40 = .ok (.iastore, 1) := by decide +kernel
theorem d_M_enter_41 : decode (yMb m_M_enter) 41 = .ok (.return_, 1) := by decide +kernel
theorem d_M_readers_0 : decode (yMb m_M_readers) 0 = .ok (.iconst 0, 1) := by decide +kernel
theorem d_M_readers_1 : decode (yMb m_M_readers) 1 = .ok (.istore_n 3, 1) := by decide +kernel
theorem d_M_readers_2 : decode (yMb m_M_readers) 2 = .ok (.iconst 0, 1) := by decide +kernel
theorem d_M_readers_3 : decode (yMb m_M_readers) 3 = .ok (.istore 4, 2) := by decide +kernel
theorem d_M_readers_5 : decode (yMb m_M_readers) 5 = .ok (.iload 4, 2) := by decide +kernel
theorem d_M_readers_7 : decode (yMb m_M_readers) 7 = .ok (.bipush 6, 2) := by decide +kernel
theorem d_M_readers_9 : decode (yMb m_M_readers) 9 = .ok (.if_icmp .ge 30, 3) := by decide +kernel
theorem d_M_readers_12 : decode (yMb m_M_readers) 12 = .ok (.iload 4, 2) := by decide +kernel
theorem d_M_readers_14 : decode (yMb m_M_readers) 14 = .ok (.iload_n 2, 1) := by decide +kernel
theorem d_M_readers_15 : decode (yMb m_M_readers) 15 = .ok (.if_icmp .eq 18, 3) := by decide +kernel
theorem d_M_readers_18 : decode (yMb m_M_readers) 18 = .ok (.iload_n 3, 1) := by decide +kernel
theorem d_M_readers_19 : decode (yMb m_M_readers) 19 = .ok (.aload_n 0, 1) := by decide +kernel
theorem d_M_readers_20 : decode (yMb m_M_readers) 20 = .ok (.getfield 68, 3) := by decide +kernel
theorem d_M_readers_23 : decode (yMb m_M_readers) 23 = .ok (.iload_n 1, 1) := by decide +kernel
theorem d_M_readers_24 : decode (yMb m_M_readers) 24 = .ok (.bipush 6, 2) := by decide +kernel
theorem d_M_readers_26 : decode (yMb m_M_readers) 26 = .ok (.imul, 1) := by decide +kernel
theorem d_M_readers_27 : decode (yMb m_M_readers) 27 = .ok (.iload 4, 2) := by decide +kernel
theorem d_M_readers_29 : decode (yMb m_M_readers) 29 = .ok (.iadd, 1) := by decide +kernel
theorem d_M_readers_30 : decode (yMb m_M_readers) 30 = .ok (.iaload, 1) := by decide +kernel
theorem d_M_readers_31 : decode (yMb m_M_readers) 31 = .ok (.iadd, 1) := by decide +kernel
theorem d_M_readers_32 : decode (yMb m_M_readers) 32 = .ok (.istore_n 3, 1) := by decide +kernel
theorem d_M_readers_33 : decode (yMb m_M_readers) 33 = .ok (.iinc 4 1, 3) := by decide +kernel
theorem d_M_readers_36 : decode (yMb m_M_readers) 36 = .ok (.goto (-31), 3) := by decide +kernel
theorem d_M_readers_39 : decode (yMb m_M_readers) 39 = .ok (.iload_n 3, 1) := by decide +kernel
theorem d_M_readers_40 : decode (yMb m_M_readers) 40 = .ok (.ireturn, 1) := by decide +kernel
theorem d_M_can_0 : decode (yMb m_M_can) 0 = .ok (.iload_n 3, 1) := by decide +kernel
theorem d_M_can_1 : decode (yMb m_M_can) 1 = .ok (.tableswitch 239 0 16 #[83, 239, 239, 239, 239, 108, 239, 133, 239, 167, 239, 188, 239, 239, 239, 203, 224], 83) := by decide +kernel
theorem d_M_can_84 : decode (yMb m_M_can) 84 = .ok (.aload_n 0, 1) := by decide +kernel
theorem d_M_can_85 : decode (yMb m_M_can) 85 = .ok (.getfield 53, 3) := by decide +kernel
theorem d_M_can_88 : decode (yMb m_M_can) 88 = .ok (.iload_n 2, 1) := by decide +kernel
theorem d_M_can_89 : decode (yMb m_M_can) 89 = .ok (.iaload, 1) := by decide +kernel
theorem d_M_can_90 : decode (yMb m_M_can) 90 = .ok (.ifCond .lt 13, 3) := by decide +kernel
theorem d_M_can_93 : decode (yMb m_M_can) 93 = .ok (.aload_n 0, 1) := by decide +kernel
theorem d_M_can_94 : decode (yMb m_M_can) 94 = .ok (.getfield 53, 3) := by decide +kernel
theorem d_M_can_97 : decode (yMb m_M_can) 97 = .ok (.iload_n 2, 1) := by decide +kernel
theorem d_M_can_98 : decode (yMb m_M_can) 98 = .ok (.iaload, 1) := by decide +kernel
theorem d_M_can_99 : decode (yMb m_M_can) 99 = .ok (.iload_n 1, 1) := by decide +kernel
theorem d_M_can_100 : decode (yMb m_M_can) 100 = .ok (.if_icmp .ne 7, 3) := by decide +kernel
theorem d_M_can_103 : decode (yMb m_M_can) 103 = .ok (.iconst 1, 1) := by decide +kernel
theorem d_M_can_104 : decode (yMb m_M_can) 104 = .ok (.goto 4, 3) := by decide +kernel
theorem d_M_can_107 : decode (yMb m_M_can) 107 = .ok (.iconst 0, 1) := by decide +kernel
theorem d_M_can_108 : decode (yMb m_M_can) 108 = .ok (.ireturn, 1) := by decide +kernel
theorem d_M_can_109 : decode (yMb m_M_can) 109 = .ok (.aload_n 0, 1) := by decide +kernel
theorem d_M_can_110 : decode (yMb m_M_can) 110 = .ok (.getfield 53, 3) := by decide +kernel
theorem d_M_can_113 : decode (yMb m_M_can) 113 = .ok (.iload_n 2, 1) := by decide +kernel
theorem d_M_can_114 : decode (yMb m_M_can) 114 = .ok (.iaload, 1) := by decide +kernel
theorem d_M_can_115 : decode (yMb m_M_can) 115 = .ok (.ifCond .lt 13, 3) := by decide +kernel
theorem d_M_can_118 : decode (yMb m_M_can) 118 = .ok (.aload_n 0, 1) := by decide +kernel
theorem d_M_can_119 : decode (yMb m_M_can) 119 = .ok (.getfield 53, 3) := by decide +kernel
theorem d_M_can_122 : decode (yMb m_M_can) 122 = .ok (.iload_n 2, 1) := by decide +kernel
theorem d_M_can_123 : decode (yMb m_M_can) 123 = .ok (.iaload, 1) := by decide +kernel
theorem d_M_can_124 : decode (yMb m_M_can) 124 = .ok (.iload_n 1, 1) := by decide +kernel
theorem d_M_can_125 : decode (yMb m_M_can) 125 = .ok (.if_icmp .ne 7, 3) := by decide +kernel
theorem d_M_can_128 : decode (yMb m_M_can) 128 = .ok (.iconst 1, 1) := by decide +kernel
theorem d_M_can_129 : decode (yMb m_M_can) 129 = .ok (.goto 4, 3) := by decide +kernel
theorem d_M_can_132 : decode (yMb m_M_can) 132 = .ok (.iconst 0, 1) := by decide +kernel
theorem d_M_can_133 : decode (yMb m_M_can) 133 = .ok (.ireturn, 1) := by decide +kernel
theorem d_M_can_134 : decode (yMb m_M_can) 134 = .ok (.aload_n 0, 1) := by decide +kernel
theorem d_M_can_135 : decode (yMb m_M_can) 135 = .ok (.getfield 53, 3) := by decide +kernel
theorem d_M_can_138 : decode (yMb m_M_can) 138 = .ok (.iload_n 2, 1) := by decide +kernel
theorem d_M_can_139 : decode (yMb m_M_can) 139 = .ok (.iaload, 1) := by decide +kernel
theorem d_M_can_140 : decode (yMb m_M_can) 140 = .ok (.ifCond .lt 13, 3) := by decide +kernel
theorem d_M_can_143 : decode (yMb m_M_can) 143 = .ok (.aload_n 0, 1) := by decide +kernel
theorem d_M_can_144 : decode (yMb m_M_can) 144 = .ok (.getfield 53, 3) := by decide +kernel
theorem d_M_can_147 : decode (yMb m_M_can) 147 = .ok (.iload_n 2, 1) := by decide +kernel
theorem d_M_can_148 : decode (yMb m_M_can) 148 = .ok (.iaload, 1) := by decide +kernel
theorem d_M_can_149 : decode (yMb m_M_can) 149 = .ok (.iload_n 1, 1) := by decide +kernel
theorem d_M_can_150 : decode (yMb m_M_can) 150 = .ok (.if_icmp .ne 16, 3) := by decide +kernel
theorem d_M_can_153 : decode (yMb m_M_can) 153 = .ok (.aload_n 0, 1) := by decide +kernel
theorem d_M_can_154 : decode (yMb m_M_can) 154 = .ok (.iload_n 2, 1) := by decide +kernel
theorem d_M_can_155 : decode (yMb m_M_can) 155 = .ok (.iload_n 1, 1) := by decide +kernel
theorem d_M_can_156 : decode (yMb m_M_can) 156 = .ok (.invokevirtual 95, 3) := by decide +kernel
theorem d_M_can_159 : decode (yMb m_M_can) 159 = .ok (.ifCond .ne 7, 3) := by decide +kernel
theorem d_M_can_162 : decode (yMb m_M_can) 162 = .ok (.iconst 1, 1) := by decide +kernel
theorem d_M_can_163 : decode (yMb m_M_can) 163 = .ok (.goto 4, 3) := by decide +kernel
theorem d_M_can_166 : decode (yMb m_M_can) 166 = .ok (.iconst 0, 1) := by decide +kernel
theorem d_M_can_167 : decode (yMb m_M_can) 167 = .ok (.ireturn, 1) := by decide +kernel
theorem d_M_can_168 : decode (yMb m_M_can) 168 = .ok (.aload_n 0, 1) := by decide +kernel
theorem d_M_can_169 : decode (yMb m_M_can) 169 = .ok (.getfield 50, 3) := by decide +kernel
theorem d_M_can_172 : decode (yMb m_M_can) 172 = .ok (.iload_n 2, 1) := by decide +kernel
theorem d_M_can_173 : decode (yMb m_M_can) 173 = .ok (.iaload, 1) := by decide +kernel
theorem d_M_can_174 : decode (yMb m_M_can) 174 = .ok (.aload_n 0, 1) := by decide +kernel
theorem d_M_can_175 : decode (yMb m_M_can) 175 = .ok (.getfield 28, 3) := by decide +kernel
theorem d_M_can_178 : decode (yMb m_M_can) 178 = .ok (.iload_n 1, 1) := by decide +kernel
theorem d_M_can_179 : decode (yMb m_M_can) 179 = .ok (.iaload, 1) := by decide +kernel
theorem d_M_can_180 : decode (yMb m_M_can) 180 = .ok (.if_icmp .lt 7, 3) := by decide +kernel
theorem d_M_can_183 : decode (yMb m_M_can) 183 = .ok (.iconst 1, 1) := by decide +kernel
theorem d_M_can_184 : decode (yMb m_M_can) 184 = .ok (.goto 4, 3) := by decide +kernel
theorem d_M_can_187 : decode (yMb m_M_can) 187 = .ok (.iconst 0, 1) := by decide +kernel
theorem d_M_can_188 : decode (yMb m_M_can) 188 = .ok (.ireturn, 1) := by decide +kernel
theorem d_M_can_189 : decode (yMb m_M_can) 189 = .ok (.aload_n 0, 1) := by decide +kernel
theorem d_M_can_190 : decode (yMb m_M_can) 190 = .ok (.getfield 50, 3) := by decide +kernel
theorem d_M_can_193 : decode (yMb m_M_can) 193 = .ok (.iload_n 2, 1) := by decide +kernel
theorem d_M_can_194 : decode (yMb m_M_can) 194 = .ok (.iaload, 1) := by decide +kernel
theorem d_M_can_195 : decode (yMb m_M_can) 195 = .ok (.ifCond .ne 7, 3) := by decide +kernel
theorem d_M_can_198 : decode (yMb m_M_can) 198 = .ok (.iconst 1, 1) := by decide +kernel
theorem d_M_can_199 : decode (yMb m_M_can) 199 = .ok (.goto 4, 3) := by decide +kernel
theorem d_M_can_202 : decode (yMb m_M_can) 202 = .ok (.iconst 0, 1) := by decide +kernel
theorem d_M_can_203 : decode (yMb m_M_can) 203 = .ok (.ireturn, 1) := by decide +kernel
theorem d_M_can_204 : decode (yMb m_M_can) 204 = .ok (.aload_n 0, 1) := by decide +kernel
theorem d_M_can_205 : decode (yMb m_M_can) 205 = .ok (.getfield 50, 3) := by decide +kernel
theorem d_M_can_208 : decode (yMb m_M_can) 208 = .ok (.iload_n 2, 1) := by decide +kernel
theorem d_M_can_209 : decode (yMb m_M_can) 209 = .ok (.iaload, 1) := by decide +kernel
theorem d_M_can_210 : decode (yMb m_M_can) 210 = .ok (.aload_n 0, 1) := by decide +kernel
theorem d_M_can_211 : decode (yMb m_M_can) 211 = .ok (.getfield 47, 3) := by decide +kernel
theorem d_M_can_214 : decode (yMb m_M_can) 214 = .ok (.iload_n 2, 1) := by decide +kernel
theorem d_M_can_215 : decode (yMb m_M_can) 215 = .ok (.iaload, 1) := by decide +kernel
theorem d_M_can_216 : decode (yMb m_M_can) 216 = .ok (.if_icmp .ge 7, 3) := by decide +kernel
theorem d_M_can_219 : decode (yMb m_M_can) 219 = .ok (.iconst 1, 1) := by decide +kernel
theorem d_M_can_220 : decode (yMb m_M_can) 220 = .ok (.goto 4, 3) := by decide +kernel
theorem d_M_can_223 : decode (yMb m_M_can) 223 = .ok (.iconst 0, 1) := by decide +kernel
theorem d_M_can_224 : decode (yMb m_M_can) 224 = .ok (.ireturn, 1) := by decide +kernel
theorem d_M_can_225 : decode (yMb m_M_can) 225 = .ok (.aload_n 0, 1) := by decide +kernel
theorem d_M_can_226 : decode (yMb m_M_can) 226 = .ok (.getfield 50, 3) := by decide +kernel
theorem d_M_can_229 : decode (yMb m_M_can) 229 = .ok (.iload_n 2, 1) := by decide +kernel
theorem d_M_can_230 : decode (yMb m_M_can) 230 = .ok (.iaload, 1) := by decide +kernel
theorem d_M_can_231 : decode (yMb m_M_can) 231 = .ok (.ifCond .le 7, 3) := by decide +kernel
theorem d_M_can_234 : decode (yMb m_M_can) 234 = .ok (.iconst 1, 1) := by decide +kernel
theorem d_M_can_235 : decode (yMb m_M_can) 235 = .ok (.goto 4, 3) := by decide +kernel
theorem d_M_can_238 : decode (yMb m_M_can) 238 = .ok (.iconst 0, 1) := by decide +kernel
theorem d_M_can_239 : decode (yMb m_M_can) 239 = .ok (.ireturn, 1) := by decide +kernel
theorem d_M_can_240 : decode (yMb m_M_can) 240 = .ok (.iconst 0, 1) := by decide +kernel
theorem d_M_can_241 : decode (yMb m_M_can) 241 = .ok (.ireturn, 1) := by decide +kernel
theorem d_M_grant_0 : decode (yMb m_M_grant) 0 = .ok (.iload_n 3, 1) := by decide +kernel
theorem d_M_grant_1 : decode (yMb m_M_grant) 1 = .ok (.ifCond .eq 9, 3) := by decide +kernel
theorem d_M_grant_4 : decode (yMb m_M_grant) 4 = .ok (.iload_n 3, 1) := by decide +kernel
theorem d_M_grant_5 : decode (yMb m_M_grant) 5 = .ok (.bipush 7, 2) := by decide +kernel
theorem d_M_grant_7 : decode (yMb m_M_grant) 7 = .ok (.if_icmp .ne 38, 3) := by decide +kernel
theorem d_M_grant_10 : decode (yMb m_M_grant) 10 = .ok (.aload_n 0, 1) := by decide +kernel
theorem d_M_grant_11 : decode (yMb m_M_grant) 11 = .ok (.getfield 53, 3) := by decide +kernel
theorem d_M_grant_14 : decode (yMb m_M_grant) 14 = .ok (.iload_n 2, 1) := by decide +kernel
theorem d_M_grant_15 : decode (yMb m_M_grant) 15 = .ok (.iload_n 1, 1) := by decide +kernel
theorem d_M_grant_16 : decode (yMb m_M_grant) 16 = .ok (.iastore, 1) := by decide +kernel
theorem d_M_grant_17 : decode (yMb m_M_grant) 17 = .ok (.aload_n 0, 1) := by decide +kernel
theorem d_M_grant_18 : decode (yMb m_M_grant) 18 = .ok (.getfield 50, 3) := by decide +kernel
theorem d_M_grant_21 : decode (yMb m_M_grant) 21 = .ok (.iload_n 2, 1) := by decide +kernel
theorem d_M_grant_22 : decode (yMb m_M_grant) 22 = .ok (.dup2, 1) := by decide +kernel
theorem d_M_grant_23 : decode (yMb m_M_grant) 23 = .ok (.iaload, 1) := by decide +kernel
theorem d_M_grant_24 : decode (yMb m_M_grant) 24 = .ok (.aload_n 0, 1) := by decide +kernel
theorem d_M_grant_25 : decode (yMb m_M_grant) 25 = .ok (.getfield 41, 3) := by decide +kernel
theorem d_M_grant_28 : decode (yMb m_M_grant) 28 = .ok (.iload_n 1, 1) := by decide +kernel
theorem d_M_grant_29 : decode (yMb m_M_grant) 29 = .ok (.baload, 1) := by decide +kernel
theorem d_M_grant_30 : decode (yMb m_M_grant) 30 = .ok (.ifCond .eq 12, 3) := by decide +kernel
theorem d_M_grant_33 : decode (yMb m_M_grant) 33 = .ok (.aload_n 0, 1) := by decide +kernel
theorem d_M_grant_34 : decode (yMb m_M_grant) 34 = .ok (.getfield 31, 3) := by decide +kernel
theorem d_M_grant_37 : decode (yMb m_M_grant) 37 = .ok (.iload_n 1, 1) := by decide +kernel
theorem d_M_grant_38 : decode (yMb m_M_grant) 38 = .ok (.iaload, 1) := by decide +kernel
theorem d_M_grant_39 : decode (yMb m_M_grant) 39 = .ok (.goto 4, 3) := by decide +kernel
theorem d_M_grant_42 : decode (yMb m_M_grant) 42 = .ok (.iconst 1, 1) := by decide +kernel
theorem d_M_grant_43 : decode (yMb m_M_grant) 43 = .ok (.iadd, 1) := by decide +kernel
theorem d_M_grant_44 : decode (yMb m_M_grant) 44 = .ok (.iastore, 1) := by decide +kernel
theorem d_M_grant_45 : decode (yMb m_M_grant) 45 = .ok (.iload_n 3, 1) := by decide +kernel
theorem d_M_grant_46 : decode (yMb m_M_grant) 46 = .ok (.iconst 5, 1) := by decide +kernel
theorem d_M_grant_47 : decode (yMb m_M_grant) 47 = .ok (.if_icmp .ne 18, 3) := by decide +kernel
theorem d_M_grant_50 : decode (yMb m_M_grant) 50 = .ok (.aload_n 0, 1) := by decide +kernel
theorem d_M_grant_51 : decode (yMb m_M_grant) 51 = .ok (.getfield 68, 3) := by decide +kernel
theorem d_M_grant_54 : decode (yMb m_M_grant) 54 = .ok (.iload_n 2, 1) := by decide +kernel
theorem d_M_grant_55 : decode (yMb m_M_grant) 55 = .ok (.bipush 6, 2) := by decide +kernel
theorem d_M_grant_57 : decode (yMb m_M_grant) 57 = .ok (.imul, 1) := by decide +kernel
theorem d_M_grant_58 : decode (yMb m_M_grant) 58 = .ok (.iload_n 1, 1) := by decide +kernel
theorem d_M_grant_59 : decode (yMb m_M_grant) 59 = .ok (.iadd, 1) := by decide +kernel
theorem d_M_grant_60 : decode (yMb m_M_grant) 60 = .ok (.dup2, 1) := by decide +kernel
theorem d_M_grant_61 : decode (yMb m_M_grant) 61 = .ok (.iaload, 1) := by decide +kernel
theorem d_M_grant_62 : decode (yMb m_M_grant) 62 = .ok (.iconst 1, 1) := by decide +kernel
theorem d_M_grant_63 : decode (yMb m_M_grant) 63 = .ok (.iadd, 1) := by decide +kernel
theorem d_M_grant_64 : decode (yMb m_M_grant) 64 = .ok (.iastore, 1) := by decide +kernel
theorem d_M_grant_65 : decode (yMb m_M_grant) 65 = .ok (.iload_n 3, 1) := by decide +kernel
theorem d_M_grant_66 : decode (yMb m_M_grant) 66 = .ok (.bipush 9, 2) := by decide +kernel
theorem d_M_grant_68 : decode (yMb m_M_grant) 68 = .ok (.if_icmp .ne 18, 3) := by decide +kernel
theorem d_M_grant_71 : decode (yMb m_M_grant) 71 = .ok (.aload_n 0, 1) := by decide +kernel
theorem d_M_grant_72 : decode (yMb m_M_grant) 72 = .ok (.getfield 50, 3) := by decide +kernel
theorem d_M_grant_75 : decode (yMb m_M_grant) 75 = .ok (.iload_n 2, 1) := by decide +kernel
theorem d_M_grant_76 : decode (yMb m_M_grant) 76 = .ok (.dup2, 1) := by decide +kernel
theorem d_M_grant_77 : decode (yMb m_M_grant) 77 = .ok (.iaload, 1) := by decide +kernel
theorem d_M_grant_78 : decode (yMb m_M_grant) 78 = .ok (.aload_n 0, 1) := by decide +kernel
theorem d_M_grant_79 : decode (yMb m_M_grant) 79 = .ok (.getfield 28, 3) := by decide +kernel
theorem d_M_grant_82 : decode (yMb m_M_grant) 82 = .ok (.iload_n 1, 1) := by decide +kernel
theorem d_M_grant_83 : decode (yMb m_M_grant) 83 = .ok (.iaload, 1) := by decide +kernel
theorem d_M_grant_84 : decode (yMb m_M_grant) 84 = .ok (.isub, 1) := by decide +kernel
theorem d_M_grant_85 : decode (yMb m_M_grant) 85 = .ok (.iastore, 1) := by decide +kernel
theorem d_M_grant_86 : decode (yMb m_M_grant) 86 = .ok (.iload_n 3, 1) := by decide +kernel
theorem d_M_grant_87 : decode (yMb m_M_grant) 87 = .ok (.bipush 15, 2) := by decide +kernel
theorem d_M_grant_89 : decode (yMb m_M_grant) 89 = .ok (.if_icmp .ne 34, 3) := by decide +kernel
theorem d_M_grant_92 : decode (yMb m_M_grant) 92 = .ok (.aload_n 0, 1) := by decide +kernel
theorem d_M_grant_93 : decode (yMb m_M_grant) 93 = .ok (.getfield 71, 3) := by decide +kernel
theorem d_M_grant_96 : decode (yMb m_M_grant) 96 = .ok (.iload_n 2, 1) := by decide +kernel
theorem d_M_grant_97 : decode (yMb m_M_grant) 97 = .ok (.iconst 3, 1) := by decide +kernel
theorem d_M_grant_98 : decode (yMb m_M_grant) 98 = .ok (.imul, 1) := by decide +kernel
theorem d_M_grant_99 : decode (yMb m_M_grant) 99 = .ok (.aload_n 0, 1) := by decide +kernel
theorem d_M_grant_100 : decode (yMb m_M_grant) 100 = .ok (.getfield 50, 3) := by decide +kernel
theorem d_M_grant_103 : decode (yMb m_M_grant) 103 = .ok (.iload_n 2, 1) := by decide +kernel
theorem d_M_grant_104 : decode (yMb m_M_grant) 104 = .ok (.iaload, 1) := by decide +kernel
theorem d_M_grant_105 : decode (yMb m_M_grant) 105 = .ok (.iadd, 1) := by decide +kernel
theorem d_M_grant_106 : decode (yMb m_M_grant) 106 = .ok (.aload_n 0, 1) := by decide +kernel
theorem d_M_grant_107 : decode (yMb m_M_grant) 107 = .ok (.getfield 28, 3) := by decide +kernel
theorem d_M_grant_110 : decode (yMb m_M_grant) 110 = .ok (.iload_n 1, 1) := by decide +kernel
theorem d_M_grant_111 : decode (yMb m_M_grant) 111 = .ok (.iaload, 1) := by decide +kernel
theorem d_M_grant_112 : decode (yMb m_M_grant) 112 = .ok (.iastore, 1) := by decide +kernel
theorem d_M_grant_113 : decode (yMb m_M_grant) 113 = .ok (.aload_n 0, 1) := by decide +kernel
theorem d_M_grant_114 : decode (yMb m_M_grant) 114 = .ok (.getfield 50, 3) := by decide +kernel
theorem d_M_grant_117 : decode (yMb m_M_grant) 117 = .ok (.iload_n 2, 1) := by decide +kernel
theorem d_M_grant_118 : decode (yMb m_M_grant) 118 = .ok (.dup2, 1) := by decide +kernel
theorem d_M_grant_119 : decode (yMb m_M_grant) 119 = .ok (.iaload, 1) := by decide +kernel
theorem d_M_grant_120 : decode (yMb m_M_grant) 120 = .ok (.iconst 1, 1) := by decide +kernel
theorem d_M_grant_121 : decode (yMb m_M_grant) 121 = .ok (.iadd, 1) := by decide +kernel
theorem d_M_grant_122 : decode (yMb m_M_grant) 122 = .ok (.iastore, 1) := by decide +kernel
theorem d_M_grant_123 : decode (yMb m_M_grant) 123 = .ok (.iload_n 3, 1) := by decide +kernel
theorem d_M_grant_124 : decode (yMb m_M_grant) 124 = .ok (.bipush 16, 2) := by decide +kernel
theorem d_M_grant_126 : decode (yMb m_M_grant) 126 = .ok (.if_icmp .ne 71, 3) := by decide +kernel
theorem d_M_grant_129 : decode (yMb m_M_grant) 129 = .ok (.aload_n 0, 1) := by decide +kernel
theorem d_M_grant_130 : decode (yMb m_M_grant) 130 = .ok (.getfield 19, 3) := by decide +kernel
theorem d_M_grant_133 : decode (yMb m_M_grant) 133 = .ok (.iload_n 1, 1) := by decide +kernel
theorem d_M_grant_134 : decode (yMb m_M_grant) 134 = .ok (.aload_n 0, 1) := by decide +kernel
theorem d_M_grant_135 : decode (yMb m_M_grant) 135 = .ok (.getfield 71, 3) := by decide +kernel
theorem d_M_grant_138 : decode (yMb m_M_grant) 138 = .ok (.iload_n 2, 1) := by decide +kernel
theorem d_M_grant_139 : decode (yMb m_M_grant) 139 = .ok (.iconst 3, 1) := by decide +kernel
theorem d_M_grant_140 : decode (yMb m_M_grant) 140 = .ok (.imul, 1) := by decide +kernel
theorem d_M_grant_141 : decode (yMb m_M_grant) 141 = .ok (.iaload, 1) := by decide +kernel
theorem d_M_grant_142 : decode (yMb m_M_grant) 142 = .ok (.iastore, 1) := by decide +kernel
theorem d_M_grant_143 : decode (yMb m_M_grant) 143 = .ok (.aload_n 0, 1) := by decide +kernel
theorem d_M_grant_144 : decode (yMb m_M_grant) 144 = .ok (.getfield 50, 3) := by decide +kernel
theorem d_M_grant_147 : decode (yMb m_M_grant) 147 = .ok (.iload_n 2, 1) := by decide +kernel
theorem d_M_grant_148 : decode (yMb m_M_grant) 148 = .ok (.dup2, 1) := by decide +kernel
theorem d_M_grant_149 : decode (yMb m_M_grant) 149 = .ok (.iaload, 1) := by decide +kernel
theorem d_M_grant_150 : decode (yMb m_M_grant) 150 = .ok (.iconst 1, 1) := by decide +kernel
theorem d_M_grant_151 : decode (yMb m_M_grant) 151 = .ok (.isub, 1) := by decide +kernel
theorem d_M_grant_152 : decode (yMb m_M_grant) 152 = .ok (.iastore, 1) := by decide +kernel
theorem d_M_grant_153 : decode (yMb m_M_grant) 153 = .ok (.iconst 0, 1) := by decide +kernel
theorem d_M_grant_154 : decode (yMb m_M_grant) 154 = .ok (.istore 4, 2) := by decide +kernel
theorem d_M_grant_156 : decode (yMb m_M_grant) 156 = .ok (.iload 4, 2) := by decide +kernel
theorem d_M_grant_158 : decode (yMb m_M_grant) 158 = .ok (.aload_n 0, 1) := by decide +kernel
theorem d_M_grant_159 : decode (yMb m_M_grant) 159 = .ok (.getfield 50, 3) := by decide +kernel
theorem d_M_grant_162 : decode (yMb m_M_grant) 162 = .ok (.iload_n 2, 1) := by decide +kernel
theorem d_M_grant_163 : decode (yMb m_M_grant) 163 = .ok (.iaload, 1) := by decide +kernel
theorem d_M_grant_164 : decode (yMb m_M_grant) 164 = .ok (.if_icmp .ge 33, 3) := by decide +kernel
theorem d_M_grant_167 : decode (yMb m_M_grant) 167 = .ok (.aload_n 0, 1) := by decide +kernel
theorem d_M_grant_168 : decode (yMb m_M_grant) 168 = .ok (.getfield 71, 3) := by decide +kernel
theorem d_M_grant_171 : decode (yMb m_M_grant) 171 = .ok (.iload_n 2, 1) := by decide +kernel
theorem d_M_grant_172 : decode (yMb m_M_grant) 172 = .ok (.iconst 3, 1) := by decide +kernel
theorem d_M_grant_173 : decode (yMb m_M_grant) 173 = .ok (.imul, 1) := by decide +kernel
theorem d_M_grant_174 : decode (yMb m_M_grant) 174 = .ok (.iload 4, 2) := by decide +kernel
theorem d_M_grant_176 : decode (yMb m_M_grant) 176 = .ok (.iadd, 1) := by decide +kernel
theorem d_M_grant_177 : decode (yMb m_M_grant) 177 = .ok (.aload_n 0, 1) := by decide +kernel
theorem d_M_grant_178 : decode (yMb m_M_grant) 178 = .ok (.getfield 71, 3) := by decide +kernel
theorem d_M_grant_181 : decode (yMb m_M_grant) 181 = .ok (.iload_n 2, 1) := by decide +kernel
theorem d_M_grant_182 : decode (yMb m_M_grant) 182 = .ok (.iconst 3, 1) := by decide +kernel
theorem d_M_grant_183 : decode (yMb m_M_grant) 183 = .ok (.imul, 1) := by decide +kernel
theorem d_M_grant_184 : decode (yMb m_M_grant) 184 = .ok (.iload 4, 2) := by decide +kernel
theorem d_M_grant_186 : decode (yMb m_M_grant) 186 = .ok (.iadd, 1) := by decide +kernel
theorem d_M_grant_187 : decode (yMb m_M_grant) 187 = .ok (.iconst 1, 1) := by decide +kernel
theorem d_M_grant_188 : decode (yMb m_M_grant) 188 = .ok (.iadd, 1) := by decide +kernel
theorem d_M_grant_189 : decode (yMb m_M_grant) 189 = .ok (.iaload, 1) := by decide +kernel
theorem d_M_grant_190 : decode (yMb m_M_grant) 190 = .ok (.iastore, 1) := by decide +kernel
theorem d_M_grant_191 : decode (yMb m_M_grant) 191 = .ok (.iinc 4 1, 3) := by decide +kernel
theorem d_M_grant_194 : decode (yMb m_M_grant) 194 = .ok (.goto (-38), 3) := by decide +kernel
theorem d_M_grant_197 : decode (yMb m_M_grant) 197 = .ok (.return_, 1) := by decide +kernel
theorem d_M_pass_0 : decode (yMb m_M_pass) 0 = .ok (.iconst 1, 1) := by decide +kernel
theorem d_M_pass_1 : decode (yMb m_M_pass) 1 = .ok (.istore_n 2, 1) := by decide +kernel
theorem d_M_pass_2 : decode (yMb m_M_pass) 2 = .ok (.iload_n 2, 1) := by decide +kernel
theorem d_M_pass_3 : decode (yMb m_M_pass) 3 = .ok (.ifCond .eq 191, 3) := by decide +kernel
theorem d_M_pass_6 : decode (yMb m_M_pass) 6 = .ok (.iconst 0, 1) := by decide +kernel
theorem d_M_pass_7 : decode (yMb m_M_pass) 7 = .ok (.istore_n 2, 1) := by decide +kernel
theorem d_M_pass_8 : decode (yMb m_M_pass) 8 = .ok (.iconst 1, 1) := by decide +kernel
theorem d_M_pass_9 : decode (yMb m_M_pass) 9 = .ok (.istore_n 3, 1) := by decide +kernel
theorem d_M_pass_10 : decode (yMb m_M_pass) 10 = .ok (.iconst 1, 1) := by decide +kernel
theorem d_M_pass_11 : decode (yMb m_M_pass) 11 = .ok (.istore 4, 2) := by decide +kernel
theorem d_M_pass_13 : decode (yMb m_M_pass) 13 = .ok (.iconst 0, 1) := by decide +kernel
theorem d_M_pass_14 : decode (yMb m_M_pass) 14 = .ok (.istore 5, 2) := by decide +kernel
theorem d_M_pass_16 : decode (yMb m_M_pass) 16 = .ok (.iload 5, 2) := by decide +kernel
theorem d_M_pass_18 : decode (yMb m_M_pass) 18 = .ok (.aload_n 0, 1) := by decide +kernel
theorem d_M_pass_19 : decode (yMb m_M_pass) 19 = .ok (.getfield 56, 3) := by decide +kernel
theorem d_M_pass_22 : decode (yMb m_M_pass) 22 = .ok (.iload_n 1, 1) := by decide +kernel
theorem d_M_pass_23 : decode (yMb m_M_pass) 23 = .ok (.iaload, 1) := by decide +kernel
theorem d_M_pass_24 : decode (yMb m_M_pass) 24 = .ok (.if_icmp .ge 167, 3) := by decide +kernel
theorem d_M_pass_27 : decode (yMb m_M_pass) 27 = .ok (.iload_n 3, 1) := by decide +kernel
theorem d_M_pass_28 : decode (yMb m_M_pass) 28 = .ok (.ifCond .ne 8, 3) := by decide +kernel
theorem d_M_pass_31 : decode (yMb m_M_pass) 31 = .ok (.iload 4, 2) := by decide +kernel
theorem d_M_pass_33 : decode (yMb m_M_pass) 33 = .ok (.ifCond .eq 158, 3) := by decide +kernel
theorem d_M_pass_36 : decode (yMb m_M_pass) 36 = .ok (.aload_n 0, 1) := by decide +kernel
theorem d_M_pass_37 : decode (yMb m_M_pass) 37 = .ok (.getfield 59, 3) := by decide +kernel
theorem d_M_pass_40 : decode (yMb m_M_pass) 40 = .ok (.iload_n 1, 1) := by decide +kernel
theorem d_M_pass_41 : decode (yMb m_M_pass) 41 = .ok (.bipush 6, 2) := by decide +kernel
theorem d_M_pass_43 : decode (yMb m_M_pass) 43 = .ok (.imul, 1) := by decide +kernel
theorem d_M_pass_44 : decode (yMb m_M_pass) 44 = .ok (.iload 5, 2) := by decide +kernel
theorem d_M_pass_46 : decode (yMb m_M_pass) 46 = .ok (.iadd, 1) := by decide +kernel
theorem d_M_pass_47 : decode (yMb m_M_pass) 47 = .ok (.iaload, 1) := by decide +kernel
theorem d_M_pass_48 : decode (yMb m_M_pass) 48 = .ok (.istore 6, 2) := by decide +kernel
theorem d_M_pass_50 : decode (yMb m_M_pass) 50 = .ok (.aload_n 0, 1) := by decide +kernel
theorem d_M_pass_51 : decode (yMb m_M_pass) 51 = .ok (.getfield 25, 3) := by decide +kernel
theorem d_M_pass_54 : decode (yMb m_M_pass) 54 = .ok (.iload 6, 2) := by decide +kernel
theorem d_M_pass_56 : decode (yMb m_M_pass) 56 = .ok (.iaload, 1) := by decide +kernel
theorem d_M_pass_57 : decode (yMb m_M_pass) 57 = .ok (.istore 7, 2) := by decide +kernel
theorem d_M_pass_59 : decode (yMb m_M_pass) 59 = .ok (.iload 7, 2) := by decide +kernel
theorem d_M_pass_61 : decode (yMb m_M_pass) 61 = .ok (.bipush 15, 2) := by decide +kernel
theorem d_M_pass_63 : decode (yMb m_M_pass) 63 = .ok (.if_icmp .ne 7, 3) := by decide +kernel
theorem d_M_pass_66 : decode (yMb m_M_pass) 66 = .ok (.iconst 1, 1) := by decide +kernel
theorem d_M_pass_67 : decode (yMb m_M_pass) 67 = .ok (.goto 4, 3) := by decide +kernel
theorem d_M_pass_70 : decode (yMb m_M_pass) 70 = .ok (.iconst 0, 1) := by decide +kernel
theorem d_M_pass_71 : decode (yMb m_M_pass) 71 = .ok (.istore 8, 2) := by decide +kernel
theorem d_M_pass_73 : decode (yMb m_M_pass) 73 = .ok (.iload 8, 2) := by decide +kernel
theorem d_M_pass_75 : decode (yMb m_M_pass) 75 = .ok (.ifCond .eq 10, 3) := by decide +kernel
theorem d_M_pass_78 : decode (yMb m_M_pass) 78 = .ok (.iload_n 3, 1) := by decide +kernel
theorem d_M_pass_79 : decode (yMb m_M_pass) 79 = .ok (.ifCond .ne 14, 3) := by decide +kernel
theorem d_M_pass_82 : decode (yMb m_M_pass) 82 = .ok (.goto 103, 3) := by decide +kernel
theorem d_M_pass_85 : decode (yMb m_M_pass) 85 = .ok (.iload 4, 2) := by decide +kernel
theorem d_M_pass_87 : decode (yMb m_M_pass) 87 = .ok (.ifCond .ne 6, 3) := by decide +kernel
theorem d_M_pass_90 : decode (yMb m_M_pass) 90 = .ok (.goto 95, 3) := by decide +kernel
theorem d_M_pass_93 : decode (yMb m_M_pass) 93 = .ok (.aload_n 0, 1) := by decide +kernel
theorem d_M_pass_94 : decode (yMb m_M_pass) 94 = .ok (.iload 6, 2) := by decide +kernel
theorem d_M_pass_96 : decode (yMb m_M_pass) 96 = .ok (.iload_n 1, 1) := by decide +kernel
theorem d_M_pass_97 : decode (yMb m_M_pass) 97 = .ok (.iload 7, 2) := by decide +kernel
theorem d_M_pass_99 : decode (yMb m_M_pass) 99 = .ok (.invokevirtual 99, 3) := by decide +kernel
theorem d_M_pass_102 : decode (yMb m_M_pass) 102 = .ok (.ifCond .eq 70, 3) := by decide +kernel
theorem d_M_pass_105 : decode (yMb m_M_pass) 105 = .ok (.aload_n 0, 1) := by decide +kernel
theorem d_M_pass_106 : decode (yMb m_M_pass) 106 = .ok (.iload 6, 2) := by decide +kernel
theorem d_M_pass_108 : decode (yMb m_M_pass) 108 = .ok (.iload_n 1, 1) := by decide +kernel
theorem d_M_pass_109 : decode (yMb m_M_pass) 109 = .ok (.iload 7, 2) := by decide +kernel
theorem d_M_pass_111 : decode (yMb m_M_pass) 111 = .ok (.invokevirtual 102, 3) := by decide +kernel
theorem d_M_pass_114 : decode (yMb m_M_pass) 114 = .ok (.aload_n 0, 1) := by decide +kernel
theorem d_M_pass_115 : decode (yMb m_M_pass) 115 = .ok (.aload_n 0, 1) := by decide +kernel
theorem d_M_pass_116 : decode (yMb m_M_pass) 116 = .ok (.getfield 59, 3) := by decide +kernel
theorem d_M_pass_119 : decode (yMb m_M_pass) 119 = .ok (.iload_n 1, 1) := by decide +kernel
theorem d_M_pass_120 : decode (yMb m_M_pass) 120 = .ok (.bipush 6, 2) := by decide +kernel
theorem d_M_pass_122 : decode (yMb m_M_pass) 122 = .ok (.imul, 1) := by decide +kernel
theorem d_M_pass_123 : decode (yMb m_M_pass) 123 = .ok (.aload_n 0, 1) := by decide +kernel
theorem d_M_pass_124 : decode (yMb m_M_pass) 124 = .ok (.getfield 56, 3) := by decide +kernel
theorem d_M_pass_127 : decode (yMb m_M_pass) 127 = .ok (.iload_n 1, 1) := by decide +kernel
theorem d_M_pass_128 : decode (yMb m_M_pass) 128 = .ok (.iload 6, 2) := by decide +kernel
theorem d_M_pass_130 : decode (yMb m_M_pass) 130 = .ok (.invokevirtual 106, 3) := by decide +kernel
theorem d_M_pass_133 : decode (yMb m_M_pass) 133 = .ok (.aload_n 0, 1) := by decide +kernel
theorem d_M_pass_134 : decode (yMb m_M_pass) 134 = .ok (.aload_n 0, 1) := by decide +kernel
theorem d_M_pass_135 : decode (yMb m_M_pass) 135 = .ok (.iload 6, 2) := by decide +kernel
theorem d_M_pass_137 : decode (yMb m_M_pass) 137 = .ok (.aload_n 0, 1) := by decide +kernel
theorem d_M_pass_138 : decode (yMb m_M_pass) 138 = .ok (.getfield 41, 3) := by decide +kernel
theorem d_M_pass_141 : decode (yMb m_M_pass) 141 = .ok (.iload 6, 2) := by decide +kernel
theorem d_M_pass_143 : decode (yMb m_M_pass) 143 = .ok (.baload, 1) := by decide +kernel
theorem d_M_pass_144 : decode (yMb m_M_pass) 144 = .ok (.ifCond .eq 13, 3) := by decide +kernel
theorem d_M_pass_147 : decode (yMb m_M_pass) 147 = .ok (.aload_n 0, 1) := by decide +kernel
theorem d_M_pass_148 : decode (yMb m_M_pass) 148 = .ok (.getfield 34, 3) := by decide +kernel
theorem d_M_pass_151 : decode (yMb m_M_pass) 151 = .ok (.iload 6, 2) := by decide +kernel
theorem d_M_pass_153 : decode (yMb m_M_pass) 153 = .ok (.iaload, 1) := by decide +kernel
theorem d_M_pass_154 : decode (yMb m_M_pass) 154 = .ok (.goto 4, 3) := by decide +kernel
theorem d_M_pass_157 : decode (yMb m_M_pass) 157 = .ok (.iconst 0, 1) := by decide +kernel
theorem d_M_pass_158 : decode (yMb m_M_pass) 158 = .ok (.invokevirtual 110, 3) := by decide +kernel
theorem d_M_pass_161 : decode (yMb m_M_pass) 161 = .ok (.putfield 113, 3) := by decide +kernel
theorem d_M_pass_164 : decode (yMb m_M_pass) 164 = .ok (.iinc 5 (-1), 3) := by decide +kernel
theorem d_M_pass_167 : decode (yMb m_M_pass) 167 = .ok (.iconst 1, 1) := by decide +kernel
theorem d_M_pass_168 : decode (yMb m_M_pass) 168 = .ok (.istore_n 2, 1) := by decide +kernel
theorem d_M_pass_169 : decode (yMb m_M_pass) 169 = .ok (.goto 16, 3) := by decide +kernel
theorem d_M_pass_172 : decode (yMb m_M_pass) 172 = .ok (.iload 8, 2) := by decide +kernel
theorem d_M_pass_174 : decode (yMb m_M_pass) 174 = .ok (.ifCond .eq 8, 3) := by decide +kernel
theorem d_M_pass_177 : decode (yMb m_M_pass) 177 = .ok (.iconst 0, 1) := by decide +kernel
theorem d_M_pass_178 : decode (yMb m_M_pass) 178 = .ok (.istore_n 3, 1) := by decide +kernel
theorem d_M_pass_179 : decode (yMb m_M_pass) 179 = .ok (.goto 6, 3) := by decide +kernel
theorem d_M_pass_182 : decode (yMb m_M_pass) 182 = .ok (.iconst 0, 1) := by decide +kernel
theorem d_M_pass_183 : decode (yMb m_M_pass) 183 = .ok (.istore 4, 2) := by decide +kernel
theorem d_M_pass_185 : decode (yMb m_M_pass) 185 = .ok (.iinc 5 1, 3) := by decide +kernel
theorem d_M_pass_188 : decode (yMb m_M_pass) 188 = .ok (.goto (-172), 3) := by decide +kernel
theorem d_M_pass_191 : decode (yMb m_M_pass) 191 = .ok (.goto (-189), 3) := by decide +kernel
theorem d_M_pass_194 : decode (yMb m_M_pass) 194 = .ok (.return_, 1) := by decide +kernel
