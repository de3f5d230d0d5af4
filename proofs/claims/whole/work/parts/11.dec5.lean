theorem d_M_refused_0 : decode (yMb m_M_refused) 0 = .ok (.aload_n 0, 1) := by decide +kernel
theorem d_M_refused_1 : decode (yMb m_M_refused) 1 = .ok (.getfield 37, 3) := by decide +kernel
theorem d_M_refused_4 : decode (yMb m_M_refused) 4 = .ok (.iload_n 1, 1) := by decide +kernel
theorem d_M_refused_5 : decode (yMb m_M_refused) 5 = .ok (.baload, 1) := by decide +kernel
theorem d_M_refused_6 : decode (yMb m_M_refused) 6 = .ok (.istore 4, 2) := by decide +kernel
theorem d_M_refused_8 : decode (yMb m_M_refused) 8 = .ok (.aload_n 0, 1) := by decide +kernel
theorem d_M_refused_9 : decode (yMb m_M_refused) 9 = .ok (.getfield 37, 3) := by decide +kernel
theorem d_M_refused_12 : decode (yMb m_M_refused) 12 = .ok (.iload_n 1, 1) := by decide +kernel
theorem d_M_refused_13 : decode (yMb m_M_refused) 13 = .ok (.iconst 0, 1) := by decide +kernel
theorem d_M_refused_14 : decode (yMb m_M_refused) 14 = .ok (.bastore, 1) := by decide +kernel
theorem d_M_refused_15 : decode (yMb m_M_refused) 15 = .ok (.iload_n 3, 1) := by decide +kernel
theorem d_M_refused_16 : decode (yMb m_M_refused) 16 = .ok (.bipush 13, 2) := by decide +kernel
theorem d_M_refused_18 : decode (yMb m_M_refused) 18 = .ok (.if_icmp .ne 20, 3) := by decide +kernel
theorem d_M_refused_21 : decode (yMb m_M_refused) 21 = .ok (.iload 4, 2) := by decide +kernel
theorem d_M_refused_23 : decode (yMb m_M_refused) 23 = .ok (.ifCond .eq 15, 3) := by decide +kernel
theorem d_M_refused_26 : decode (yMb m_M_refused) 26 = .ok (.aload_n 0, 1) := by decide +kernel
theorem d_M_refused_27 : decode (yMb m_M_refused) 27 = .ok (.getfield 77, 3) := by decide +kernel
theorem d_M_refused_30 : decode (yMb m_M_refused) 30 = .ok (.iload_n 2, 1) := by decide +kernel
theorem d_M_refused_31 : decode (yMb m_M_refused) 31 = .ok (.iconst 1, 1) := by decide +kernel
theorem d_M_refused_32 : decode (yMb m_M_refused) 32 = .ok (.bastore, 1) := by decide +kernel
theorem d_M_refused_33 : decode (yMb m_M_refused) 33 = .ok (.aload_n 0, 1) := by decide +kernel
theorem d_M_refused_34 : decode (yMb m_M_refused) 34 = .ok (.iload_n 2, 1) := by decide +kernel
theorem d_M_refused_35 : decode (yMb m_M_refused) 35 = .ok (.invokevirtual 130, 3) := by decide +kernel
theorem d_M_refused_38 : decode (yMb m_M_refused) 38 = .ok (.aload_n 0, 1) := by decide +kernel
theorem d_M_refused_39 : decode (yMb m_M_refused) 39 = .ok (.iload_n 1, 1) := by decide +kernel
theorem d_M_refused_40 : decode (yMb m_M_refused) 40 = .ok (.iload 4, 2) := by decide +kernel
theorem d_M_refused_42 : decode (yMb m_M_refused) 42 = .ok (.ifCond .eq 7, 3) := by decide +kernel
theorem d_M_refused_45 : decode (yMb m_M_refused) 45 = .ok (.iconst 4, 1) := by decide +kernel
theorem d_M_refused_46 : decode (yMb m_M_refused) 46 = .ok (.goto 4, 3) := by decide +kernel
theorem d_M_refused_49 : decode (yMb m_M_refused) 49 = .ok (.iconst 2, 1) := by decide +kernel
theorem d_M_refused_50 : decode (yMb m_M_refused) 50 = .ok (.invokevirtual 110, 3) := by decide +kernel
theorem d_M_refused_53 : decode (yMb m_M_refused) 53 = .ok (.ireturn, 1) := by decide +kernel
theorem d_M_leave_0 : decode (yMb m_M_leave) 0 = .ok (.aload_n 0, 1) := by decide +kernel
theorem d_M_leave_1 : decode (yMb m_M_leave) 1 = .ok (.getfield 16, 3) := by decide +kernel
theorem d_M_leave_4 : decode (yMb m_M_leave) 4 = .ok (.iload_n 1, 1) := by decide +kernel
theorem d_M_leave_5 : decode (yMb m_M_leave) 5 = .ok (.iaload, 1) := by decide +kernel
theorem d_M_leave_6 : decode (yMb m_M_leave) 6 = .ok (.istore_n 3, 1) := by decide +kernel
theorem d_M_leave_7 : decode (yMb m_M_leave) 7 = .ok (.aload_n 0, 1) := by decide +kernel
theorem d_M_leave_8 : decode (yMb m_M_leave) 8 = .ok (.getfield 7, 3) := by decide +kernel
theorem d_M_leave_11 : decode (yMb m_M_leave) 11 = .ok (.iload_n 1, 1) := by decide +kernel
theorem d_M_leave_12 : decode (yMb m_M_leave) 12 = .ok (.iaload, 1) := by decide +kernel
theorem d_M_leave_13 : decode (yMb m_M_leave) 13 = .ok (.iconst 2, 1) := by decide +kernel
theorem d_M_leave_14 : decode (yMb m_M_leave) 14 = .ok (.if_icmp .ne 103, 3) := by decide +kernel
theorem d_M_leave_17 : decode (yMb m_M_leave) 17 = .ok (.iload_n 3, 1) := by decide +kernel
theorem d_M_leave_18 : decode (yMb m_M_leave) 18 = .ok (.iconst 2, 1) := by decide +kernel
theorem d_M_leave_19 : decode (yMb m_M_leave) 19 = .ok (.imul, 1) := by decide +kernel
theorem d_M_leave_20 : decode (yMb m_M_leave) 20 = .ok (.istore 4, 2) := by decide +kernel
theorem d_M_leave_22 : decode (yMb m_M_leave) 22 = .ok (.iload 4, 2) := by decide +kernel
theorem d_M_leave_24 : decode (yMb m_M_leave) 24 = .ok (.iload_n 3, 1) := by decide +kernel
theorem d_M_leave_25 : decode (yMb m_M_leave) 25 = .ok (.iconst 2, 1) := by decide +kernel
theorem d_M_leave_26 : decode (yMb m_M_leave) 26 = .ok (.imul, 1) := by decide +kernel
theorem d_M_leave_27 : decode (yMb m_M_leave) 27 = .ok (.iconst 2, 1) := by decide +kernel
theorem d_M_leave_28 : decode (yMb m_M_leave) 28 = .ok (.iadd, 1) := by decide +kernel
theorem d_M_leave_29 : decode (yMb m_M_leave) 29 = .ok (.if_icmp .ge 78, 3) := by decide +kernel
theorem d_M_leave_32 : decode (yMb m_M_leave) 32 = .ok (.iconst 0, 1) := by decide +kernel
theorem d_M_leave_33 : decode (yMb m_M_leave) 33 = .ok (.istore 5, 2) := by decide +kernel
theorem d_M_leave_35 : decode (yMb m_M_leave) 35 = .ok (.iconst 0, 1) := by decide +kernel
theorem d_M_leave_36 : decode (yMb m_M_leave) 36 = .ok (.istore 6, 2) := by decide +kernel
theorem d_M_leave_38 : decode (yMb m_M_leave) 38 = .ok (.iload 6, 2) := by decide +kernel
theorem d_M_leave_40 : decode (yMb m_M_leave) 40 = .ok (.aload_n 0, 1) := by decide +kernel
theorem d_M_leave_41 : decode (yMb m_M_leave) 41 = .ok (.getfield 62, 3) := by decide +kernel
theorem d_M_leave_44 : decode (yMb m_M_leave) 44 = .ok (.iload 4, 2) := by decide +kernel
theorem d_M_leave_46 : decode (yMb m_M_leave) 46 = .ok (.iaload, 1) := by decide +kernel
theorem d_M_leave_47 : decode (yMb m_M_leave) 47 = .ok (.if_icmp .ge 29, 3) := by decide +kernel
theorem d_M_leave_50 : decode (yMb m_M_leave) 50 = .ok (.aload_n 0, 1) := by decide +kernel
theorem d_M_leave_51 : decode (yMb m_M_leave) 51 = .ok (.getfield 65, 3) := by decide +kernel
theorem d_M_leave_54 : decode (yMb m_M_leave) 54 = .ok (.iload 4, 2) := by decide +kernel
theorem d_M_leave_56 : decode (yMb m_M_leave) 56 = .ok (.bipush 6, 2) := by decide +kernel
theorem d_M_leave_58 : decode (yMb m_M_leave) 58 = .ok (.imul, 1) := by decide +kernel
theorem d_M_leave_59 : decode (yMb m_M_leave) 59 = .ok (.iload 6, 2) := by decide +kernel
theorem d_M_leave_61 : decode (yMb m_M_leave) 61 = .ok (.iadd, 1) := by decide +kernel
theorem d_M_leave_62 : decode (yMb m_M_leave) 62 = .ok (.iaload, 1) := by decide +kernel
theorem d_M_leave_63 : decode (yMb m_M_leave) 63 = .ok (.iload_n 1, 1) := by decide +kernel
theorem d_M_leave_64 : decode (yMb m_M_leave) 64 = .ok (.if_icmp .ne 6, 3) := by decide +kernel
theorem d_M_leave_67 : decode (yMb m_M_leave) 67 = .ok (.iconst 1, 1) := by decide +kernel
theorem d_M_leave_68 : decode (yMb m_M_leave) 68 = .ok (.istore 5, 2) := by decide +kernel
theorem d_M_leave_70 : decode (yMb m_M_leave) 70 = .ok (.iinc 6 1, 3) := by decide +kernel
theorem d_M_leave_73 : decode (yMb m_M_leave) 73 = .ok (.goto (-35), 3) := by decide +kernel
theorem d_M_leave_76 : decode (yMb m_M_leave) 76 = .ok (.iload 5, 2) := by decide +kernel
theorem d_M_leave_78 : decode (yMb m_M_leave) 78 = .ok (.ifCond .eq 23, 3) := by decide +kernel
theorem d_M_leave_81 : decode (yMb m_M_leave) 81 = .ok (.aload_n 0, 1) := by decide +kernel
theorem d_M_leave_82 : decode (yMb m_M_leave) 82 = .ok (.aload_n 0, 1) := by decide +kernel
theorem d_M_leave_83 : decode (yMb m_M_leave) 83 = .ok (.getfield 65, 3) := by decide +kernel
theorem d_M_leave_86 : decode (yMb m_M_leave) 86 = .ok (.iload 4, 2) := by decide +kernel
theorem d_M_leave_88 : decode (yMb m_M_leave) 88 = .ok (.bipush 6, 2) := by decide +kernel
theorem d_M_leave_90 : decode (yMb m_M_leave) 90 = .ok (.imul, 1) := by decide +kernel
theorem d_M_leave_91 : decode (yMb m_M_leave) 91 = .ok (.aload_n 0, 1) := by decide +kernel
theorem d_M_leave_92 : decode (yMb m_M_leave) 92 = .ok (.getfield 62, 3) := by decide +kernel
theorem d_M_leave_95 : decode (yMb m_M_leave) 95 = .ok (.iload 4, 2) := by decide +kernel
theorem d_M_leave_97 : decode (yMb m_M_leave) 97 = .ok (.iload_n 1, 1) := by decide +kernel
theorem d_M_leave_98 : decode (yMb m_M_leave) 98 = .ok (.invokevirtual 106, 3) := by decide +kernel
theorem d_M_leave_101 : decode (yMb m_M_leave) 101 = .ok (.iinc 4 1, 3) := by decide +kernel
theorem d_M_leave_104 : decode (yMb m_M_leave) 104 = .ok (.goto (-82), 3) := by decide +kernel
theorem d_M_leave_107 : decode (yMb m_M_leave) 107 = .ok (.aload_n 0, 1) := by decide +kernel
theorem d_M_leave_108 : decode (yMb m_M_leave) 108 = .ok (.iload_n 1, 1) := by decide +kernel
theorem d_M_leave_109 : decode (yMb m_M_leave) 109 = .ok (.iload_n 3, 1) := by decide +kernel
theorem d_M_leave_110 : decode (yMb m_M_leave) 110 = .ok (.iload_n 2, 1) := by decide +kernel
theorem d_M_leave_111 : decode (yMb m_M_leave) 111 = .ok (.invokevirtual 120, 3) := by decide +kernel
theorem d_M_leave_114 : decode (yMb m_M_leave) 114 = .ok (.goto 53, 3) := by decide +kernel
theorem d_M_leave_117 : decode (yMb m_M_leave) 117 = .ok (.aload_n 0, 1) := by decide +kernel
theorem d_M_leave_118 : decode (yMb m_M_leave) 118 = .ok (.aload_n 0, 1) := by decide +kernel
theorem d_M_leave_119 : decode (yMb m_M_leave) 119 = .ok (.getfield 59, 3) := by decide +kernel
theorem d_M_leave_122 : decode (yMb m_M_leave) 122 = .ok (.iload_n 3, 1) := by decide +kernel
theorem d_M_leave_123 : decode (yMb m_M_leave) 123 = .ok (.bipush 6, 2) := by decide +kernel
theorem d_M_leave_125 : decode (yMb m_M_leave) 125 = .ok (.imul, 1) := by decide +kernel
theorem d_M_leave_126 : decode (yMb m_M_leave) 126 = .ok (.aload_n 0, 1) := by decide +kernel
theorem d_M_leave_127 : decode (yMb m_M_leave) 127 = .ok (.getfield 56, 3) := by decide +kernel
theorem d_M_leave_130 : decode (yMb m_M_leave) 130 = .ok (.iload_n 3, 1) := by decide +kernel
theorem d_M_leave_131 : decode (yMb m_M_leave) 131 = .ok (.iload_n 1, 1) := by decide +kernel
theorem d_M_leave_132 : decode (yMb m_M_leave) 132 = .ok (.invokevirtual 106, 3) := by decide +kernel
theorem d_M_leave_135 : decode (yMb m_M_leave) 135 = .ok (.aload_n 0, 1) := by decide +kernel
theorem d_M_leave_136 : decode (yMb m_M_leave) 136 = .ok (.aload_n 0, 1) := by decide +kernel
theorem d_M_leave_137 : decode (yMb m_M_leave) 137 = .ok (.iload_n 1, 1) := by decide +kernel
theorem d_M_leave_138 : decode (yMb m_M_leave) 138 = .ok (.iload_n 2, 1) := by decide +kernel
theorem d_M_leave_139 : decode (yMb m_M_leave) 139 = .ok (.invokevirtual 110, 3) := by decide +kernel
theorem d_M_leave_142 : decode (yMb m_M_leave) 142 = .ok (.putfield 113, 3) := by decide +kernel
theorem d_M_leave_145 : decode (yMb m_M_leave) 145 = .ok (.aload_n 0, 1) := by decide +kernel
theorem d_M_leave_146 : decode (yMb m_M_leave) 146 = .ok (.getfield 44, 3) := by decide +kernel
theorem d_M_leave_149 : decode (yMb m_M_leave) 149 = .ok (.iload_n 3, 1) := by decide +kernel
theorem d_M_leave_150 : decode (yMb m_M_leave) 150 = .ok (.iaload, 1) := by decide +kernel
theorem d_M_leave_151 : decode (yMb m_M_leave) 151 = .ok (.iconst 4, 1) := by decide +kernel
theorem d_M_leave_152 : decode (yMb m_M_leave) 152 = .ok (.if_icmp .ne 15, 3) := by decide +kernel
theorem d_M_leave_155 : decode (yMb m_M_leave) 155 = .ok (.aload_n 0, 1) := by decide +kernel
theorem d_M_leave_156 : decode (yMb m_M_leave) 156 = .ok (.getfield 77, 3) := by decide +kernel
theorem d_M_leave_159 : decode (yMb m_M_leave) 159 = .ok (.iload_n 3, 1) := by decide +kernel
theorem d_M_leave_160 : decode (yMb m_M_leave) 160 = .ok (.iconst 1, 1) := by decide +kernel
theorem d_M_leave_161 : decode (yMb m_M_leave) 161 = .ok (.bastore, 1) := by decide +kernel
theorem d_M_leave_162 : decode (yMb m_M_leave) 162 = .ok (.aload_n 0, 1) := by decide +kernel
theorem d_M_leave_163 : decode (yMb m_M_leave) 163 = .ok (.iload_n 3, 1) := by decide +kernel
theorem d_M_leave_164 : decode (yMb m_M_leave) 164 = .ok (.invokevirtual 130, 3) := by decide +kernel
theorem d_M_leave_167 : decode (yMb m_M_leave) 167 = .ok (.aload_n 0, 1) := by decide +kernel
theorem d_M_leave_168 : decode (yMb m_M_leave) 168 = .ok (.iload_n 3, 1) := by decide +kernel
theorem d_M_leave_169 : decode (yMb m_M_leave) 169 = .ok (.invokevirtual 133, 3) := by decide +kernel
theorem d_M_leave_172 : decode (yMb m_M_leave) 172 = .ok (.return_, 1) := by decide +kernel
theorem d_M_tick_0 : decode (yMb m_M_tick) 0 = .ok (.aload_n 0, 1) := by decide +kernel
theorem d_M_tick_1 : decode (yMb m_M_tick) 1 = .ok (.iload_n 1, 1) := by decide +kernel
theorem d_M_tick_2 : decode (yMb m_M_tick) 2 = .ok (.iconst 1, 1) := by decide +kernel
theorem d_M_tick_3 : decode (yMb m_M_tick) 3 = .ok (.bipush 50, 2) := by decide +kernel
theorem d_M_tick_5 : decode (yMb m_M_tick) 5 = .ok (.invokestatic 84, 3) := by decide +kernel
theorem d_M_tick_8 : decode (yMb m_M_tick) 8 = .ok (.invokevirtual 88, 3) := by decide +kernel
theorem d_M_tick_11 : decode (yMb m_M_tick) 11 = .ok (.ifCond .eq 5, 3) := by decide +kernel
theorem d_M_tick_14 : decode (yMb m_M_tick) 14 = .ok (.iconst 0, 1) := by decide +kernel
theorem d_M_tick_15 : decode (yMb m_M_tick) 15 = .ok (.ireturn, 1) := by decide +kernel
theorem d_M_tick_16 : decode (yMb m_M_tick) 16 = .ok (.iconst 0, 1) := by decide +kernel
theorem d_M_tick_17 : decode (yMb m_M_tick) 17 = .ok (.istore_n 2, 1) := by decide +kernel
theorem d_M_tick_18 : decode (yMb m_M_tick) 18 = .ok (.iconst 0, 1) := by decide +kernel
theorem d_M_tick_19 : decode (yMb m_M_tick) 19 = .ok (.istore_n 3, 1) := by decide +kernel
theorem d_M_tick_20 : decode (yMb m_M_tick) 20 = .ok (.iload_n 3, 1) := by decide +kernel
theorem d_M_tick_21 : decode (yMb m_M_tick) 21 = .ok (.iload_n 1, 1) := by decide +kernel
theorem d_M_tick_22 : decode (yMb m_M_tick) 22 = .ok (.if_icmp .ge 82, 3) := by decide +kernel
theorem d_M_tick_25 : decode (yMb m_M_tick) 25 = .ok (.aload_n 0, 1) := by decide +kernel
theorem d_M_tick_26 : decode (yMb m_M_tick) 26 = .ok (.dup, 1) := by decide +kernel
theorem d_M_tick_27 : decode (yMb m_M_tick) 27 = .ok (.getfield 161, 3) := by decide +kernel
theorem d_M_tick_30 : decode (yMb m_M_tick) 30 = .ok (.iconst 1, 1) := by decide +kernel
theorem d_M_tick_31 : decode (yMb m_M_tick) 31 = .ok (.iadd, 1) := by decide +kernel
theorem d_M_tick_32 : decode (yMb m_M_tick) 32 = .ok (.putfield 161, 3) := by decide +kernel
theorem d_M_tick_35 : decode (yMb m_M_tick) 35 = .ok (.iconst 0, 1) := by decide +kernel
theorem d_M_tick_36 : decode (yMb m_M_tick) 36 = .ok (.istore 4, 2) := by decide +kernel
theorem d_M_tick_38 : decode (yMb m_M_tick) 38 = .ok (.iload 4, 2) := by decide +kernel
theorem d_M_tick_40 : decode (yMb m_M_tick) 40 = .ok (.bipush 6, 2) := by decide +kernel
theorem d_M_tick_42 : decode (yMb m_M_tick) 42 = .ok (.if_icmp .ge 56, 3) := by decide +kernel
theorem d_M_tick_45 : decode (yMb m_M_tick) 45 = .ok (.aload_n 0, 1) := by decide +kernel
theorem d_M_tick_46 : decode (yMb m_M_tick) 46 = .ok (.getfield 22, 3) := by decide +kernel
theorem d_M_tick_49 : decode (yMb m_M_tick) 49 = .ok (.iload 4, 2) := by decide +kernel
theorem d_M_tick_51 : decode (yMb m_M_tick) 51 = .ok (.iaload, 1) := by decide +kernel
theorem d_M_tick_52 : decode (yMb m_M_tick) 52 = .ok (.ifCond .gt 6, 3) := by decide +kernel
theorem d_M_tick_55 : decode (yMb m_M_tick) 55 = .ok (.goto 37, 3) := by decide +kernel
theorem d_M_tick_58 : decode (yMb m_M_tick) 58 = .ok (.aload_n 0, 1) := by decide +kernel
theorem d_M_tick_59 : decode (yMb m_M_tick) 59 = .ok (.getfield 22, 3) := by decide +kernel
theorem d_M_tick_62 : decode (yMb m_M_tick) 62 = .ok (.iload 4, 2) := by decide +kernel
theorem d_M_tick_64 : decode (yMb m_M_tick) 64 = .ok (.dup2, 1) := by decide +kernel
theorem d_M_tick_65 : decode (yMb m_M_tick) 65 = .ok (.iaload, 1) := by decide +kernel
theorem d_M_tick_66 : decode (yMb m_M_tick) 66 = .ok (.iconst 1, 1) := by decide +kernel
theorem d_M_tick_67 : decode (yMb m_M_tick) 67 = .ok (.isub, 1) := by decide +kernel
theorem d_M_tick_68 : decode (yMb m_M_tick) 68 = .ok (.iastore, 1) := by decide +kernel
theorem d_M_tick_69 : decode (yMb m_M_tick) 69 = .ok (.aload_n 0, 1) := by decide +kernel
theorem d_M_tick_70 : decode (yMb m_M_tick) 70 = .ok (.getfield 22, 3) := by decide +kernel
theorem d_M_tick_73 : decode (yMb m_M_tick) 73 = .ok (.iload 4, 2) := by decide +kernel
theorem d_M_tick_75 : decode (yMb m_M_tick) 75 = .ok (.iaload, 1) := by decide +kernel
theorem d_M_tick_76 : decode (yMb m_M_tick) 76 = .ok (.ifCond .le 6, 3) := by decide +kernel
theorem d_M_tick_79 : decode (yMb m_M_tick) 79 = .ok (.goto 13, 3) := by decide +kernel
theorem d_M_tick_82 : decode (yMb m_M_tick) 82 = .ok (.iinc 2 1, 3) := by decide +kernel
theorem d_M_tick_85 : decode (yMb m_M_tick) 85 = .ok (.aload_n 0, 1) := by decide +kernel
theorem d_M_tick_86 : decode (yMb m_M_tick) 86 = .ok (.iload 4, 2) := by decide +kernel
theorem d_M_tick_88 : decode (yMb m_M_tick) 88 = .ok (.iconst 2, 1) := by decide +kernel
theorem d_M_tick_89 : decode (yMb m_M_tick) 89 = .ok (.invokevirtual 164, 3) := by decide +kernel
theorem d_M_tick_92 : decode (yMb m_M_tick) 92 = .ok (.iinc 4 1, 3) := by decide +kernel
theorem d_M_tick_95 : decode (yMb m_M_tick) 95 = .ok (.goto (-57), 3) := by decide +kernel
theorem d_M_tick_98 : decode (yMb m_M_tick) 98 = .ok (.iinc 3 1, 3) := by decide +kernel
theorem d_M_tick_101 : decode (yMb m_M_tick) 101 = .ok (.goto (-81), 3) := by decide +kernel
theorem d_M_tick_104 : decode (yMb m_M_tick) 104 = .ok (.iload_n 2, 1) := by decide +kernel
theorem d_M_tick_105 : decode (yMb m_M_tick) 105 = .ok (.ireturn, 1) := by decide +kernel
theorem d_M_interrupt_0 : decode (yMb m_M_interrupt) 0 = .ok (.aload_n 0, 1) := by decide +kernel
theorem d_M_interrupt_1 : decode (yMb m_M_interrupt) 1 = .ok (.iload_n 1, 1) := by decide +kernel
theorem d_M_interrupt_2 : decode (yMb m_M_interrupt) 2 = .ok (.iconst 0, 1) := by decide +kernel
theorem d_M_interrupt_3 : decode (yMb m_M_interrupt) 3 = .ok (.iconst 5, 1) := by decide +kernel
theorem d_M_interrupt_4 : decode (yMb m_M_interrupt) 4 = .ok (.invokestatic 84, 3) := by decide +kernel
theorem d_M_interrupt_7 : decode (yMb m_M_interrupt) 7 = .ok (.invokevirtual 88, 3) := by decide +kernel
theorem d_M_interrupt_10 : decode (yMb m_M_interrupt) 10 = .ok (.ifCond .eq 4, 3) := by decide +kernel
theorem d_M_interrupt_13 : decode (yMb m_M_interrupt) 13 = .ok (.return_, 1) := by decide +kernel
theorem d_M_interrupt_14 : decode (yMb m_M_interrupt) 14 = .ok (.aload_n 0, 1) := by decide +kernel
theorem d_M_interrupt_15 : decode (yMb m_M_interrupt) 15 = .ok (.getfield 7, 3) := by decide +kernel
theorem d_M_interrupt_18 : decode (yMb m_M_interrupt) 18 = .ok (.iload_n 1, 1) := by decide +kernel
theorem d_M_interrupt_19 : decode (yMb m_M_interrupt) 19 = .ok (.iaload, 1) := by decide +kernel
theorem d_M_interrupt_20 : decode (yMb m_M_interrupt) 20 = .ok (.ifCond .eq 12, 3) := by decide +kernel
theorem d_M_interrupt_23 : decode (yMb m_M_interrupt) 23 = .ok (.aload_n 0, 1) := by decide +kernel
theorem d_M_interrupt_24 : decode (yMb m_M_interrupt) 24 = .ok (.getfield 41, 3) := by decide +kernel
theorem d_M_interrupt_27 : decode (yMb m_M_interrupt) 27 = .ok (.iload_n 1, 1) := by decide +kernel
theorem d_M_interrupt_28 : decode (yMb m_M_interrupt) 28 = .ok (.baload, 1) := by decide +kernel
theorem d_M_interrupt_29 : decode (yMb m_M_interrupt) 29 = .ok (.ifCond .eq 13, 3) := by decide +kernel
theorem d_M_interrupt_32 : decode (yMb m_M_interrupt) 32 = .ok (.aload_n 0, 1) := by decide +kernel
theorem d_M_interrupt_33 : decode (yMb m_M_interrupt) 33 = .ok (.getfield 37, 3) := by decide +kernel
theorem d_M_interrupt_36 : decode (yMb m_M_interrupt) 36 = .ok (.iload_n 1, 1) := by decide +kernel
theorem d_M_interrupt_37 : decode (yMb m_M_interrupt) 37 = .ok (.iconst 1, 1) := by decide +kernel
theorem d_M_interrupt_38 : decode (yMb m_M_interrupt) 38 = .ok (.bastore, 1) := by decide +kernel
theorem d_M_interrupt_39 : decode (yMb m_M_interrupt) 39 = .ok (.goto 9, 3) := by decide +kernel
theorem d_M_interrupt_42 : decode (yMb m_M_interrupt) 42 = .ok (.aload_n 0, 1) := by decide +kernel
theorem d_M_interrupt_43 : decode (yMb m_M_interrupt) 43 = .ok (.iload_n 1, 1) := by decide +kernel
theorem d_M_interrupt_44 : decode (yMb m_M_interrupt) 44 = .ok (.iconst 4, 1) := by decide +kernel
theorem d_M_interrupt_45 : decode (yMb m_M_interrupt) 45 = .ok (.invokevirtual 164, 3) := by decide +kernel
theorem d_M_interrupt_48 : decode (yMb m_M_interrupt) 48 = .ok (.return_, 1) := by decide +kernel
theorem d_M_told_0 : decode (yMb m_M_told) 0 = .ok (.aload_n 0, 1) := by decide +kernel
theorem d_M_told_1 : decode (yMb m_M_told) 1 = .ok (.iload_n 1, 1) := by decide +kernel
theorem d_M_told_2 : decode (yMb m_M_told) 2 = .ok (.iconst 0, 1) := by decide +kernel
theorem d_M_told_3 : decode (yMb m_M_told) 3 = .ok (.iconst 5, 1) := by decide +kernel
theorem d_M_told_4 : decode (yMb m_M_told) 4 = .ok (.invokestatic 84, 3) := by decide +kernel
theorem d_M_told_7 : decode (yMb m_M_told) 7 = .ok (.ifCond .eq 16, 3) := by decide +kernel
theorem d_M_told_10 : decode (yMb m_M_told) 10 = .ok (.iload_n 2, 1) := by decide +kernel
theorem d_M_told_11 : decode (yMb m_M_told) 11 = .ok (.iconst 0, 1) := by decide +kernel
theorem d_M_told_12 : decode (yMb m_M_told) 12 = .ok (.iconst 5, 1) := by decide +kernel
theorem d_M_told_13 : decode (yMb m_M_told) 13 = .ok (.invokestatic 84, 3) := by decide +kernel
theorem d_M_told_16 : decode (yMb m_M_told) 16 = .ok (.ifCond .eq 7, 3) := by decide +kernel
theorem d_M_told_19 : decode (yMb m_M_told) 19 = .ok (.iconst 1, 1) := by decide +kernel
theorem d_M_told_20 : decode (yMb m_M_told) 20 = .ok (.goto 4, 3) := by decide +kernel
theorem d_M_told_23 : decode (yMb m_M_told) 23 = .ok (.iconst 0, 1) := by decide +kernel
theorem d_M_told_24 : decode (yMb m_M_told) 24 = .ok (.invokevirtual 88, 3) := by decide +kernel
theorem d_M_told_27 : decode (yMb m_M_told) 27 = .ok (.ifCond .eq 5, 3) := by decide +kernel
theorem d_M_told_30 : decode (yMb m_M_told) 30 = .ok (.iconst 0, 1) := by decide +kernel
theorem d_M_told_31 : decode (yMb m_M_told) 31 = .ok (.ireturn, 1) := by decide +kernel
theorem d_M_told_32 : decode (yMb m_M_told) 32 = .ok (.iload_n 2, 1) := by decide +kernel
theorem d_M_told_33 : decode (yMb m_M_told) 33 = .ok (.tableswitch 78 0 4 #[35, 42, 49, 56, 63], 35) := by decide +kernel
theorem d_M_told_68 : decode (yMb m_M_told) 68 = .ok (.aload_n 0, 1) := by decide +kernel
theorem d_M_told_69 : decode (yMb m_M_told) 69 = .ok (.getfield 7, 3) := by decide +kernel
theorem d_M_told_72 : decode (yMb m_M_told) 72 = .ok (.iload_n 1, 1) := by decide +kernel
theorem d_M_told_73 : decode (yMb m_M_told) 73 = .ok (.iaload, 1) := by decide +kernel
theorem d_M_told_74 : decode (yMb m_M_told) 74 = .ok (.ireturn, 1) := by decide +kernel
theorem d_M_told_75 : decode (yMb m_M_told) 75 = .ok (.aload_n 0, 1) := by decide +kernel
theorem d_M_told_76 : decode (yMb m_M_told) 76 = .ok (.getfield 13, 3) := by decide +kernel
theorem d_M_told_79 : decode (yMb m_M_told) 79 = .ok (.iload_n 1, 1) := by decide +kernel
theorem d_M_told_80 : decode (yMb m_M_told) 80 = .ok (.iaload, 1) := by decide +kernel
theorem d_M_told_81 : decode (yMb m_M_told) 81 = .ok (.ireturn, 1) := by decide +kernel
theorem d_M_told_82 : decode (yMb m_M_told) 82 = .ok (.aload_n 0, 1) := by decide +kernel
theorem d_M_told_83 : decode (yMb m_M_told) 83 = .ok (.getfield 16, 3) := by decide +kernel
theorem d_M_told_86 : decode (yMb m_M_told) 86 = .ok (.iload_n 1, 1) := by decide +kernel
theorem d_M_told_87 : decode (yMb m_M_told) 87 = .ok (.iaload, 1) := by decide +kernel
theorem d_M_told_88 : decode (yMb m_M_told) 88 = .ok (.ireturn, 1) := by decide +kernel
theorem d_M_told_89 : decode (yMb m_M_told) 89 = .ok (.aload_n 0, 1) := by decide +kernel
theorem d_M_told_90 : decode (yMb m_M_told) 90 = .ok (.getfield 19, 3) := by decide +kernel
theorem d_M_told_93 : decode (yMb m_M_told) 93 = .ok (.iload_n 1, 1) := by decide +kernel
theorem d_M_told_94 : decode (yMb m_M_told) 94 = .ok (.iaload, 1) := by decide +kernel
theorem d_M_told_95 : decode (yMb m_M_told) 95 = .ok (.ireturn, 1) := by decide +kernel
theorem d_M_told_96 : decode (yMb m_M_told) 96 = .ok (.aload_n 0, 1) := by decide +kernel
theorem d_M_told_97 : decode (yMb m_M_told) 97 = .ok (.getfield 37, 3) := by decide +kernel
theorem d_M_told_100 : decode (yMb m_M_told) 100 = .ok (.iload_n 1, 1) := by decide +kernel
theorem d_M_told_101 : decode (yMb m_M_told) 101 = .ok (.baload, 1) := by decide +kernel
theorem d_M_told_102 : decode (yMb m_M_told) 102 = .ok (.ifCond .eq 7, 3) := by decide +kernel
theorem d_M_told_105 : decode (yMb m_M_told) 105 = .ok (.iconst 1, 1) := by decide +kernel
theorem d_M_told_106 : decode (yMb m_M_told) 106 = .ok (.goto 4, 3) := by decide +kernel
theorem d_M_told_109 : decode (yMb m_M_told) 109 = .ok (.iconst 0, 1) := by decide +kernel
theorem d_M_told_110 : decode (yMb m_M_told) 110 = .ok (.ireturn, 1) := by decide +kernel
theorem d_M_told_111 : decode (yMb m_M_told) 111 = .ok (.aload_n 0, 1) := by decide +kernel
theorem d_M_told_112 : decode (yMb m_M_told) 112 = .ok (.getfield 22, 3) := by decide +kernel
theorem d_M_told_115 : decode (yMb m_M_told) 115 = .ok (.iload_n 1, 1) := by decide +kernel
theorem d_M_told_116 : decode (yMb m_M_told) 116 = .ok (.iaload, 1) := by decide +kernel
theorem d_M_told_117 : decode (yMb m_M_told) 117 = .ok (.ireturn, 1) := by decide +kernel
theorem d_M_object_0 : decode (yMb m_M_object) 0 = .ok (.aload_n 0, 1) := by decide +kernel
theorem d_M_object_1 : decode (yMb m_M_object) 1 = .ok (.iload_n 1, 1) := by decide +kernel
theorem d_M_object_2 : decode (yMb m_M_object) 2 = .ok (.iconst 0, 1) := by decide +kernel
theorem d_M_object_3 : decode (yMb m_M_object) 3 = .ok (.aload_n 0, 1) := by decide +kernel
theorem d_M_object_4 : decode (yMb m_M_object) 4 = .ok (.getfield 92, 3) := by decide +kernel
theorem d_M_object_7 : decode (yMb m_M_object) 7 = .ok (.iconst 1, 1) := by decide +kernel
theorem d_M_object_8 : decode (yMb m_M_object) 8 = .ok (.isub, 1) := by decide +kernel
theorem d_M_object_9 : decode (yMb m_M_object) 9 = .ok (.invokestatic 84, 3) := by decide +kernel
theorem d_M_object_12 : decode (yMb m_M_object) 12 = .ok (.ifCond .eq 17, 3) := by decide +kernel
theorem d_M_object_15 : decode (yMb m_M_object) 15 = .ok (.iload_n 2, 1) := by decide +kernel
theorem d_M_object_16 : decode (yMb m_M_object) 16 = .ok (.iconst 0, 1) := by decide +kernel
theorem d_M_object_17 : decode (yMb m_M_object) 17 = .ok (.bipush 7, 2) := by decide +kernel
theorem d_M_object_19 : decode (yMb m_M_object) 19 = .ok (.invokestatic 84, 3) := by decide +kernel
theorem d_M_object_22 : decode (yMb m_M_object) 22 = .ok (.ifCond .eq 7, 3) := by decide +kernel
theorem d_M_object_25 : decode (yMb m_M_object) 25 = .ok (.iconst 1, 1) := by decide +kernel
theorem d_M_object_26 : decode (yMb m_M_object) 26 = .ok (.goto 4, 3) := by decide +kernel
theorem d_M_object_29 : decode (yMb m_M_object) 29 = .ok (.iconst 0, 1) := by decide +kernel
theorem d_M_object_30 : decode (yMb m_M_object) 30 = .ok (.invokevirtual 88, 3) := by decide +kernel
theorem d_M_object_33 : decode (yMb m_M_object) 33 = .ok (.ifCond .eq 5, 3) := by decide +kernel
theorem d_M_object_36 : decode (yMb m_M_object) 36 = .ok (.iconst 0, 1) := by decide +kernel
theorem d_M_object_37 : decode (yMb m_M_object) 37 = .ok (.ireturn, 1) := by decide +kernel
theorem d_M_object_38 : decode (yMb m_M_object) 38 = .ok (.aload_n 0, 1) := by decide +kernel
theorem d_M_object_39 : decode (yMb m_M_object) 39 = .ok (.getfield 44, 3) := by decide +kernel
theorem d_M_object_42 : decode (yMb m_M_object) 42 = .ok (.iload_n 1, 1) := by decide +kernel
theorem d_M_object_43 : decode (yMb m_M_object) 43 = .ok (.iaload, 1) := by decide +kernel
theorem d_M_object_44 : decode (yMb m_M_object) 44 = .ok (.istore_n 3, 1) := by decide +kernel
theorem d_M_object_45 : decode (yMb m_M_object) 45 = .ok (.iload_n 2, 1) := by decide +kernel
theorem d_M_object_46 : decode (yMb m_M_object) 46 = .ok (.tableswitch 108 0 6 #[42, 44, 65, 81, 88, 88, 101], 42) := by decide +kernel
theorem d_M_object_88 : decode (yMb m_M_object) 88 = .ok (.iload_n 3, 1) := by decide +kernel
theorem d_M_object_89 : decode (yMb m_M_object) 89 = .ok (.ireturn, 1) := by decide +kernel
theorem d_M_object_90 : decode (yMb m_M_object) 90 = .ok (.iload_n 3, 1) := by decide +kernel
theorem d_M_object_91 : decode (yMb m_M_object) 91 = .ok (.iconst 4, 1) := by decide +kernel
theorem d_M_object_92 : decode (yMb m_M_object) 92 = .ok (.if_icmp .ne 12, 3) := by decide +kernel
theorem d_M_object_95 : decode (yMb m_M_object) 95 = .ok (.aload_n 0, 1) := by decide +kernel
theorem d_M_object_96 : decode (yMb m_M_object) 96 = .ok (.getfield 56, 3) := by decide +kernel
theorem d_M_object_99 : decode (yMb m_M_object) 99 = .ok (.iload_n 1, 1) := by decide +kernel
theorem d_M_object_100 : decode (yMb m_M_object) 100 = .ok (.iaload, 1) := by decide +kernel
theorem d_M_object_101 : decode (yMb m_M_object) 101 = .ok (.goto 9, 3) := by decide +kernel
theorem d_M_object_104 : decode (yMb m_M_object) 104 = .ok (.aload_n 0, 1) := by decide +kernel
theorem d_M_object_105 : decode (yMb m_M_object) 105 = .ok (.getfield 50, 3) := by decide +kernel
theorem d_M_object_108 : decode (yMb m_M_object) 108 = .ok (.iload_n 1, 1) := by decide +kernel
theorem d_M_object_109 : decode (yMb m_M_object) 109 = .ok (.iaload, 1) := by decide +kernel
theorem d_M_object_110 : decode (yMb m_M_object) 110 = .ok (.ireturn, 1) := by decide +kernel
theorem d_M_object_111 : decode (yMb m_M_object) 111 = .ok (.iload_n 3, 1) := by decide +kernel
theorem d_M_object_112 : decode (yMb m_M_object) 112 = .ok (.iconst 2, 1) := by decide +kernel
theorem d_M_object_113 : decode (yMb m_M_object) 113 = .ok (.if_icmp .ge 12, 3) := by decide +kernel
theorem d_M_object_116 : decode (yMb m_M_object) 116 = .ok (.aload_n 0, 1) := by decide +kernel
theorem d_M_object_117 : decode (yMb m_M_object) 117 = .ok (.getfield 53, 3) := by decide +kernel
theorem d_M_object_120 : decode (yMb m_M_object) 120 = .ok (.iload_n 1, 1) := by decide +kernel
theorem d_M_object_121 : decode (yMb m_M_object) 121 = .ok (.iaload, 1) := by decide +kernel
theorem d_M_object_122 : decode (yMb m_M_object) 122 = .ok (.goto 4, 3) := by decide +kernel
theorem d_M_object_125 : decode (yMb m_M_object) 125 = .ok (.iconst 0, 1) := by decide +kernel
theorem d_M_object_126 : decode (yMb m_M_object) 126 = .ok (.ireturn, 1) := by decide +kernel
theorem d_M_object_127 : decode (yMb m_M_object) 127 = .ok (.aload_n 0, 1) := by decide +kernel
theorem d_M_object_128 : decode (yMb m_M_object) 128 = .ok (.getfield 56, 3) := by decide +kernel
theorem d_M_object_131 : decode (yMb m_M_object) 131 = .ok (.iload_n 1, 1) := by decide +kernel
theorem d_M_object_132 : decode (yMb m_M_object) 132 = .ok (.iaload, 1) := by decide +kernel
theorem d_M_object_133 : decode (yMb m_M_object) 133 = .ok (.ireturn, 1) := by decide +kernel
theorem d_M_object_134 : decode (yMb m_M_object) 134 = .ok (.aload_n 0, 1) := by decide +kernel
theorem d_M_object_135 : decode (yMb m_M_object) 135 = .ok (.getfield 62, 3) := by decide +kernel
theorem d_M_object_138 : decode (yMb m_M_object) 138 = .ok (.iload_n 1, 1) := by decide +kernel
theorem d_M_object_139 : decode (yMb m_M_object) 139 = .ok (.iconst 2, 1) := by decide +kernel
theorem d_M_object_140 : decode (yMb m_M_object) 140 = .ok (.imul, 1) := by decide +kernel
theorem d_M_object_141 : decode (yMb m_M_object) 141 = .ok (.iload_n 2, 1) := by decide +kernel
theorem d_M_object_142 : decode (yMb m_M_object) 142 = .ok (.iadd, 1) := by decide +kernel
theorem d_M_object_143 : decode (yMb m_M_object) 143 = .ok (.iconst 4, 1) := by decide +kernel
theorem d_M_object_144 : decode (yMb m_M_object) 144 = .ok (.isub, 1) := by decide +kernel
theorem d_M_object_145 : decode (yMb m_M_object) 145 = .ok (.iaload, 1) := by decide +kernel
theorem d_M_object_146 : decode (yMb m_M_object) 146 = .ok (.ireturn, 1) := by decide +kernel
theorem d_M_object_147 : decode (yMb m_M_object) 147 = .ok (.aload_n 0, 1) := by decide +kernel
theorem d_M_object_148 : decode (yMb m_M_object) 148 = .ok (.iload_n 1, 1) := by decide +kernel
theorem d_M_object_149 : decode (yMb m_M_object) 149 = .ok (.iconst (-1), 1) := by decide +kernel
theorem d_M_object_150 : decode (yMb m_M_object) 150 = .ok (.invokevirtual 95, 3) := by decide +kernel
theorem d_M_object_153 : decode (yMb m_M_object) 153 = .ok (.ireturn, 1) := by decide +kernel
theorem d_M_object_154 : decode (yMb m_M_object) 154 = .ok (.aload_n 0, 1) := by decide +kernel
theorem d_M_object_155 : decode (yMb m_M_object) 155 = .ok (.getfield 77, 3) := by decide +kernel
theorem d_M_object_158 : decode (yMb m_M_object) 158 = .ok (.iload_n 1, 1) := by decide +kernel
theorem d_M_object_159 : decode (yMb m_M_object) 159 = .ok (.baload, 1) := by decide +kernel
theorem d_M_object_160 : decode (yMb m_M_object) 160 = .ok (.ifCond .eq 7, 3) := by decide +kernel
theorem d_M_object_163 : decode (yMb m_M_object) 163 = .ok (.iconst 1, 1) := by decide +kernel
theorem d_M_object_164 : decode (yMb m_M_object) 164 = .ok (.goto 4, 3) := by decide +kernel
theorem d_M_object_167 : decode (yMb m_M_object) 167 = .ok (.iconst 0, 1) := by decide +kernel
theorem d_M_object_168 : decode (yMb m_M_object) 168 = .ok (.ireturn, 1) := by decide +kernel
theorem d_M_waiter_0 : decode (yMb m_M_waiter) 0 = .ok (.aload_n 0, 1) := by decide +kernel
theorem d_M_waiter_1 : decode (yMb m_M_waiter) 1 = .ok (.iload_n 1, 1) := by decide +kernel
theorem d_M_waiter_2 : decode (yMb m_M_waiter) 2 = .ok (.iconst 0, 1) := by decide +kernel
theorem d_M_waiter_3 : decode (yMb m_M_waiter) 3 = .ok (.aload_n 0, 1) := by decide +kernel
theorem d_M_waiter_4 : decode (yMb m_M_waiter) 4 = .ok (.getfield 92, 3) := by decide +kernel
theorem d_M_waiter_7 : decode (yMb m_M_waiter) 7 = .ok (.iconst 1, 1) := by decide +kernel
theorem d_M_waiter_8 : decode (yMb m_M_waiter) 8 = .ok (.isub, 1) := by decide +kernel
theorem d_M_waiter_9 : decode (yMb m_M_waiter) 9 = .ok (.invokestatic 84, 3) := by decide +kernel
theorem d_M_waiter_12 : decode (yMb m_M_waiter) 12 = .ok (.invokevirtual 88, 3) := by decide +kernel
theorem d_M_waiter_15 : decode (yMb m_M_waiter) 15 = .ok (.ifCond .eq 5, 3) := by decide +kernel
theorem d_M_waiter_18 : decode (yMb m_M_waiter) 18 = .ok (.iconst 0, 1) := by decide +kernel
theorem d_M_waiter_19 : decode (yMb m_M_waiter) 19 = .ok (.ireturn, 1) := by decide +kernel
theorem d_M_waiter_20 : decode (yMb m_M_waiter) 20 = .ok (.iload_n 2, 1) := by decide +kernel
theorem d_M_waiter_21 : decode (yMb m_M_waiter) 21 = .ok (.iconst 0, 1) := by decide +kernel
theorem d_M_waiter_22 : decode (yMb m_M_waiter) 22 = .ok (.aload_n 0, 1) := by decide +kernel
theorem d_M_waiter_23 : decode (yMb m_M_waiter) 23 = .ok (.getfield 56, 3) := by decide +kernel
theorem d_M_waiter_26 : decode (yMb m_M_waiter) 26 = .ok (.iload_n 1, 1) := by decide +kernel
theorem d_M_waiter_27 : decode (yMb m_M_waiter) 27 = .ok (.iaload, 1) := by decide +kernel
theorem d_M_waiter_28 : decode (yMb m_M_waiter) 28 = .ok (.iconst 1, 1) := by decide +kernel
theorem d_M_waiter_29 : decode (yMb m_M_waiter) 29 = .ok (.isub, 1) := by decide +kernel
theorem d_M_waiter_30 : decode (yMb m_M_waiter) 30 = .ok (.invokestatic 84, 3) := by decide +kernel
theorem d_M_waiter_33 : decode (yMb m_M_waiter) 33 = .ok (.ifCond .ne 10, 3) := by decide +kernel
theorem d_M_waiter_36 : decode (yMb m_M_waiter) 36 = .ok (.aload_n 0, 1) := by decide +kernel
theorem d_M_waiter_37 : decode (yMb m_M_waiter) 37 = .ok (.iconst 2, 1) := by decide +kernel
theorem d_M_waiter_38 : decode (yMb m_M_waiter) 38 = .ok (.putfield 80, 3) := by decide +kernel
theorem d_M_waiter_41 : decode (yMb m_M_waiter) 41 = .ok (.iconst 0, 1) := by decide +kernel
theorem d_M_waiter_42 : decode (yMb m_M_waiter) 42 = .ok (.ireturn, 1) := by decide +kernel
theorem d_M_waiter_43 : decode (yMb m_M_waiter) 43 = .ok (.aload_n 0, 1) := by decide +kernel
theorem d_M_waiter_44 : decode (yMb m_M_waiter) 44 = .ok (.getfield 59, 3) := by decide +kernel
theorem d_M_waiter_47 : decode (yMb m_M_waiter) 47 = .ok (.iload_n 1, 1) := by decide +kernel
theorem d_M_waiter_48 : decode (yMb m_M_waiter) 48 = .ok (.bipush 6, 2) := by decide +kernel
theorem d_M_waiter_50 : decode (yMb m_M_waiter) 50 = .ok (.imul, 1) := by decide +kernel
theorem d_M_waiter_51 : decode (yMb m_M_waiter) 51 = .ok (.iload_n 2, 1) := by decide +kernel
theorem d_M_waiter_52 : decode (yMb m_M_waiter) 52 = .ok (.iadd, 1) := by decide +kernel
theorem d_M_waiter_53 : decode (yMb m_M_waiter) 53 = .ok (.iaload, 1) := by decide +kernel
theorem d_M_waiter_54 : decode (yMb m_M_waiter) 54 = .ok (.ireturn, 1) := by decide +kernel
theorem d_M_leans_0 : decode (yMb m_M_leans) 0 = .ok (.aload_n 0, 1) := by decide +kernel
theorem d_M_leans_1 : decode (yMb m_M_leans) 1 = .ok (.getfield 7, 3) := by decide +kernel
theorem d_M_leans_4 : decode (yMb m_M_leans) 4 = .ok (.iload_n 1, 1) := by decide +kernel
theorem d_M_leans_5 : decode (yMb m_M_leans) 5 = .ok (.iaload, 1) := by decide +kernel
theorem d_M_leans_6 : decode (yMb m_M_leans) 6 = .ok (.iconst 1, 1) := by decide +kernel
theorem d_M_leans_7 : decode (yMb m_M_leans) 7 = .ok (.if_icmp .ne 31, 3) := by decide +kernel
theorem d_M_leans_10 : decode (yMb m_M_leans) 10 = .ok (.aload_n 0, 1) := by decide +kernel
theorem d_M_leans_11 : decode (yMb m_M_leans) 11 = .ok (.getfield 44, 3) := by decide +kernel
theorem d_M_leans_14 : decode (yMb m_M_leans) 14 = .ok (.aload_n 0, 1) := by decide +kernel
theorem d_M_leans_15 : decode (yMb m_M_leans) 15 = .ok (.getfield 16, 3) := by decide +kernel
theorem d_M_leans_18 : decode (yMb m_M_leans) 18 = .ok (.iload_n 1, 1) := by decide +kernel
theorem d_M_leans_19 : decode (yMb m_M_leans) 19 = .ok (.iaload, 1) := by decide +kernel
theorem d_M_leans_20 : decode (yMb m_M_leans) 20 = .ok (.iaload, 1) := by decide +kernel
theorem d_M_leans_21 : decode (yMb m_M_leans) 21 = .ok (.ifCond .ne 17, 3) := by decide +kernel
theorem d_M_leans_24 : decode (yMb m_M_leans) 24 = .ok (.aload_n 0, 1) := by decide +kernel
theorem d_M_leans_25 : decode (yMb m_M_leans) 25 = .ok (.getfield 53, 3) := by decide +kernel
theorem d_M_leans_28 : decode (yMb m_M_leans) 28 = .ok (.aload_n 0, 1) := by decide +kernel
theorem d_M_leans_29 : decode (yMb m_M_leans) 29 = .ok (.getfield 16, 3) := by decide +kernel
theorem d_M_leans_32 : decode (yMb m_M_leans) 32 = .ok (.iload_n 1, 1) := by decide +kernel
theorem d_M_leans_33 : decode (yMb m_M_leans) 33 = .ok (.iaload, 1) := by decide +kernel
theorem d_M_leans_34 : decode (yMb m_M_leans) 34 = .ok (.iaload, 1) := by decide +kernel
theorem d_M_leans_35 : decode (yMb m_M_leans) 35 = .ok (.goto 4, 3) := by decide +kernel
theorem d_M_leans_38 : decode (yMb m_M_leans) 38 = .ok (.iconst (-1), 1) := by decide +kernel
theorem d_M_leans_39 : decode (yMb m_M_leans) 39 = .ok (.ireturn, 1) := by decide +kernel
theorem d_M_stuck_0 : decode (yMb m_M_stuck) 0 = .ok (.aload_n 0, 1) := by decide +kernel
theorem d_M_stuck_1 : decode (yMb m_M_stuck) 1 = .ok (.iconst 0, 1) := by decide +kernel
theorem d_M_stuck_2 : decode (yMb m_M_stuck) 2 = .ok (.putfield 80, 3) := by decide +kernel
theorem d_M_stuck_5 : decode (yMb m_M_stuck) 5 = .ok (.iconst 0, 1) := by decide +kernel
theorem d_M_stuck_6 : decode (yMb m_M_stuck) 6 = .ok (.istore_n 1, 1) := by decide +kernel
theorem d_M_stuck_7 : decode (yMb m_M_stuck) 7 = .ok (.iconst 0, 1) := by decide +kernel
theorem d_M_stuck_8 : decode (yMb m_M_stuck) 8 = .ok (.istore_n 2, 1) := by decide +kernel
theorem d_M_stuck_9 : decode (yMb m_M_stuck) 9 = .ok (.iload_n 2, 1) := by decide +kernel
theorem d_M_stuck_10 : decode (yMb m_M_stuck) 10 = .ok (.bipush 6, 2) := by decide +kernel
theorem d_M_stuck_12 : decode (yMb m_M_stuck) 12 = .ok (.if_icmp .ge 54, 3) := by decide +kernel
theorem d_M_stuck_15 : decode (yMb m_M_stuck) 15 = .ok (.aload_n 0, 1) := by decide +kernel
theorem d_M_stuck_16 : decode (yMb m_M_stuck) 16 = .ok (.iload_n 2, 1) := by decide +kernel
theorem d_M_stuck_17 : decode (yMb m_M_stuck) 17 = .ok (.invokevirtual 167, 3) := by decide +kernel
theorem d_M_stuck_20 : decode (yMb m_M_stuck) 20 = .ok (.istore_n 3, 1) := by decide +kernel
theorem d_M_stuck_21 : decode (yMb m_M_stuck) 21 = .ok (.iconst 0, 1) := by decide +kernel
theorem d_M_stuck_22 : decode (yMb m_M_stuck) 22 = .ok (.istore 4, 2) := by decide +kernel
theorem d_M_stuck_24 : decode (yMb m_M_stuck) 24 = .ok (.iload 4, 2) := by decide +kernel
theorem d_M_stuck_26 : decode (yMb m_M_stuck) 26 = .ok (.bipush 6, 2) := by decide +kernel
theorem d_M_stuck_28 : decode (yMb m_M_stuck) 28 = .ok (.if_icmp .ge 24, 3) := by decide +kernel
theorem d_M_stuck_31 : decode (yMb m_M_stuck) 31 = .ok (.iload_n 3, 1) := by decide +kernel
theorem d_M_stuck_32 : decode (yMb m_M_stuck) 32 = .ok (.ifCond .lt 20, 3) := by decide +kernel
theorem d_M_stuck_35 : decode (yMb m_M_stuck) 35 = .ok (.iload_n 3, 1) := by decide +kernel
theorem d_M_stuck_36 : decode (yMb m_M_stuck) 36 = .ok (.iload_n 2, 1) := by decide +kernel
theorem d_M_stuck_37 : decode (yMb m_M_stuck) 37 = .ok (.if_icmp .eq 15, 3) := by decide +kernel
theorem d_M_stuck_40 : decode (yMb m_M_stuck) 40 = .ok (.aload_n 0, 1) := by decide +kernel
theorem d_M_stuck_41 : decode (yMb m_M_stuck) 41 = .ok (.iload_n 3, 1) := by decide +kernel
theorem d_M_stuck_42 : decode (yMb m_M_stuck) 42 = .ok (.invokevirtual 167, 3) := by decide +kernel
theorem d_M_stuck_45 : decode (yMb m_M_stuck) 45 = .ok (.istore_n 3, 1) := by decide +kernel
theorem d_M_stuck_46 : decode (yMb m_M_stuck) 46 = .ok (.iinc 4 1, 3) := by decide +kernel
theorem d_M_stuck_49 : decode (yMb m_M_stuck) 49 = .ok (.goto (-25), 3) := by decide +kernel
theorem d_M_stuck_52 : decode (yMb m_M_stuck) 52 = .ok (.iload_n 3, 1) := by decide +kernel
theorem d_M_stuck_53 : decode (yMb m_M_stuck) 53 = .ok (.iload_n 2, 1) := by decide +kernel
theorem d_M_stuck_54 : decode (yMb m_M_stuck) 54 = .ok (.if_icmp .ne 6, 3) := by decide +kernel
theorem d_M_stuck_57 : decode (yMb m_M_stuck) 57 = .ok (.iinc 1 1, 3) := by decide +kernel
theorem d_M_stuck_60 : decode (yMb m_M_stuck) 60 = .ok (.iinc 2 1, 3) := by decide +kernel
theorem d_M_stuck_63 : decode (yMb m_M_stuck) 63 = .ok (.goto (-54), 3) := by decide +kernel
theorem d_M_stuck_66 : decode (yMb m_M_stuck) 66 = .ok (.iload_n 1, 1) := by decide +kernel
theorem d_M_stuck_67 : decode (yMb m_M_stuck) 67 = .ok (.ireturn, 1) := by decide +kernel
theorem d_M_count_0 : decode (yMb m_M_count) 0 = .ok (.aload_n 0, 1) := by decide +kernel
theorem d_M_count_1 : decode (yMb m_M_count) 1 = .ok (.iconst 0, 1) := by decide +kernel
theorem d_M_count_2 : decode (yMb m_M_count) 2 = .ok (.putfield 80, 3) := by decide +kernel
theorem d_M_count_5 : decode (yMb m_M_count) 5 = .ok (.iconst 0, 1) := by decide +kernel
theorem d_M_count_6 : decode (yMb m_M_count) 6 = .ok (.istore_n 2, 1) := by decide +kernel
theorem d_M_count_7 : decode (yMb m_M_count) 7 = .ok (.iconst 0, 1) := by decide +kernel
theorem d_M_count_8 : decode (yMb m_M_count) 8 = .ok (.istore_n 3, 1) := by decide +kernel
theorem d_M_count_9 : decode (yMb m_M_count) 9 = .ok (.iload_n 3, 1) := by decide +kernel
theorem d_M_count_10 : decode (yMb m_M_count) 10 = .ok (.bipush 6, 2) := by decide +kernel
theorem d_M_count_12 : decode (yMb m_M_count) 12 = .ok (.if_icmp .ge 21, 3) := by decide +kernel
theorem d_M_count_15 : decode (yMb m_M_count) 15 = .ok (.aload_n 0, 1) := by decide +kernel
theorem d_M_count_16 : decode (yMb m_M_count) 16 = .ok (.getfield 7, 3) := by decide +kernel
theorem d_M_count_19 : decode (yMb m_M_count) 19 = .ok (.iload_n 3, 1) := by decide +kernel
theorem d_M_count_20 : decode (yMb m_M_count) 20 = .ok (.iaload, 1) := by decide +kernel
theorem d_M_count_21 : decode (yMb m_M_count) 21 = .ok (.ifCond .ne 6, 3) := by decide +kernel
theorem d_M_count_24 : decode (yMb m_M_count) 24 = .ok (.iinc 2 1, 3) := by decide +kernel
theorem d_M_count_27 : decode (yMb m_M_count) 27 = .ok (.iinc 3 1, 3) := by decide +kernel
theorem d_M_count_30 : decode (yMb m_M_count) 30 = .ok (.goto (-21), 3) := by decide +kernel
theorem d_M_count_33 : decode (yMb m_M_count) 33 = .ok (.iload_n 1, 1) := by decide +kernel
theorem d_M_count_34 : decode (yMb m_M_count) 34 = .ok (.tableswitch 82 0 6 #[42, 47, 54, 61, 68, 75, 80], 42) := by decide +kernel
theorem d_M_count_76 : decode (yMb m_M_count) 76 = .ok (.aload_n 0, 1) := by decide +kernel
theorem d_M_count_77 : decode (yMb m_M_count) 77 = .ok (.getfield 92, 3) := by decide +kernel
theorem d_M_count_80 : decode (yMb m_M_count) 80 = .ok (.ireturn, 1) := by decide +kernel
theorem d_M_count_81 : decode (yMb m_M_count) 81 = .ok (.aload_n 0, 1) := by decide +kernel
theorem d_M_count_82 : decode (yMb m_M_count) 82 = .ok (.getfield 74, 3) := by decide +kernel
theorem d_M_count_85 : decode (yMb m_M_count) 85 = .ok (.iconst 0, 1) := by decide +kernel
theorem d_M_count_86 : decode (yMb m_M_count) 86 = .ok (.iaload, 1) := by decide +kernel
theorem d_M_count_87 : decode (yMb m_M_count) 87 = .ok (.ireturn, 1) := by decide +kernel
theorem d_M_count_88 : decode (yMb m_M_count) 88 = .ok (.aload_n 0, 1) := by decide +kernel
theorem d_M_count_89 : decode (yMb m_M_count) 89 = .ok (.getfield 74, 3) := by decide +kernel
theorem d_M_count_92 : decode (yMb m_M_count) 92 = .ok (.iconst 2, 1) := by decide +kernel
theorem d_M_count_93 : decode (yMb m_M_count) 93 = .ok (.iaload, 1) := by decide +kernel
theorem d_M_count_94 : decode (yMb m_M_count) 94 = .ok (.ireturn, 1) := by decide +kernel
theorem d_M_count_95 : decode (yMb m_M_count) 95 = .ok (.aload_n 0, 1) := by decide +kernel
theorem d_M_count_96 : decode (yMb m_M_count) 96 = .ok (.getfield 74, 3) := by decide +kernel
theorem d_M_count_99 : decode (yMb m_M_count) 99 = .ok (.iconst 3, 1) := by decide +kernel
theorem d_M_count_100 : decode (yMb m_M_count) 100 = .ok (.iaload, 1) := by decide +kernel
theorem d_M_count_101 : decode (yMb m_M_count) 101 = .ok (.ireturn, 1) := by decide +kernel
theorem d_M_count_102 : decode (yMb m_M_count) 102 = .ok (.aload_n 0, 1) := by decide +kernel
theorem d_M_count_103 : decode (yMb m_M_count) 103 = .ok (.getfield 74, 3) := by decide +kernel
theorem d_M_count_106 : decode (yMb m_M_count) 106 = .ok (.iconst 4, 1) := by decide +kernel
theorem d_M_count_107 : decode (yMb m_M_count) 107 = .ok (.iaload, 1) := by decide +kernel
theorem d_M_count_108 : decode (yMb m_M_count) 108 = .ok (.ireturn, 1) := by decide +kernel
theorem d_M_count_109 : decode (yMb m_M_count) 109 = .ok (.aload_n 0, 1) := by decide +kernel
theorem d_M_count_110 : decode (yMb m_M_count) 110 = .ok (.getfield 161, 3) := by decide +kernel
theorem d_M_count_113 : decode (yMb m_M_count) 113 = .ok (.ireturn, 1) := by decide +kernel
theorem d_M_count_114 : decode (yMb m_M_count) 114 = .ok (.iload_n 2, 1) := by decide +kernel
theorem d_M_count_115 : decode (yMb m_M_count) 115 = .ok (.ireturn, 1) := by decide +kernel
theorem d_M_count_116 : decode (yMb m_M_count) 116 = .ok (.iconst (-1), 1) := by decide +kernel
theorem d_M_count_117 : decode (yMb m_M_count) 117 = .ok (.ireturn, 1) := by decide +kernel
theorem d_P_init_0 : decode (yMb m_P_init) 0 = .ok (.aload_n 0, 1) := by decide +kernel
theorem d_P_init_1 : decode (yMb m_P_init) 1 = .ok (.invokespecial 3, 3) := by decide +kernel
theorem d_P_init_4 : decode (yMb m_P_init) 4 = .ok (.aload_n 0, 1) := by decide +kernel
theorem d_P_init_5 : decode (yMb m_P_init) 5 = .ok (.new 9, 3) := by decide +kernel
theorem d_P_init_8 : decode (yMb m_P_init) 8 = .ok (.dup, 1) := by decide +kernel
theorem d_P_init_9 : decode (yMb m_P_init) 9 = .ok (.invokespecial 11, 3) := by decide +kernel
theorem d_P_init_12 : decode (yMb m_P_init) 12 = .ok (.putfield 12, 3) := by decide +kernel
theorem d_P_init_15 : decode (yMb m_P_init) 15 = .ok (.aload_n 0, 1) := by decide +kernel
theorem d_P_init_16 : decode (yMb m_P_init) 16 = .ok (.iload_n 1, 1) := by decide +kernel
theorem d_P_init_17 : decode (yMb m_P_init) 17 = .ok (.putfield 18, 3) := by decide +kernel
theorem d_P_init_20 : decode (yMb m_P_init) 20 = .ok (.aload_n 0, 1) := by decide +kernel
theorem d_P_init_21 : decode (yMb m_P_init) 21 = .ok (.iload_n 2, 1) := by decide +kernel
theorem d_P_init_22 : decode (yMb m_P_init) 22 = .ok (.putfield 22, 3) := by decide +kernel
theorem d_P_init_25 : decode (yMb m_P_init) 25 = .ok (.return_, 1) := by decide +kernel
theorem d_P_allows_0 : decode (yMb m_P_allows) 0 = .ok (.iconst 1, 1) := by decide +kernel
theorem d_P_allows_1 : decode (yMb m_P_allows) 1 = .ok (.ireturn, 1) := by decide +kernel
theorem d_P_refuses_0 : decode (yMb m_P_refuses) 0 = .ok (.iconst 0, 1) := by decide +kernel
theorem d_P_refuses_1 : decode (yMb m_P_refuses) 1 = .ok (.ireturn, 1) := by decide +kernel
theorem d_P_whenOneGaveUp_0 : decode (yMb m_P_whenOneGaveUp) 0 = .ok (.return_, 1) := by decide +kernel
theorem d_P_sortOf_0 : decode (yMb m_P_sortOf) 0 = .ok (.iconst 0, 1) := by decide +kernel
theorem d_P_sortOf_1 : decode (yMb m_P_sortOf) 1 = .ok (.ireturn, 1) := by decide +kernel
theorem d_P_owner_0 : decode (yMb m_P_owner) 0 = .ok (.iconst 0, 1) := by decide +kernel
theorem d_P_owner_1 : decode (yMb m_P_owner) 1 = .ok (.ireturn, 1) := by decide +kernel
theorem d_P_waitersAt_0 : decode (yMb m_P_waitersAt) 0 = .ok (.iconst 0, 1) := by decide +kernel
theorem d_P_waitersAt_1 : decode (yMb m_P_waitersAt) 1 = .ok (.ireturn, 1) := by decide +kernel
theorem d_P_timesRead_0 : decode (yMb m_P_timesRead) 0 = .ok (.iconst 0, 1) := by decide +kernel
theorem d_P_timesRead_1 : decode (yMb m_P_timesRead) 1 = .ok (.ireturn, 1) := by decide +kernel
theorem d_P_isBroken_0 : decode (yMb m_P_isBroken) 0 = .ok (.iconst 0, 1) := by decide +kernel
theorem d_P_isBroken_1 : decode (yMb m_P_isBroken) 1 = .ok (.ireturn, 1) := by decide +kernel
theorem d_P_leanedOn_0 : decode (yMb m_P_leanedOn) 0 = .ok (.aconst_null, 1) := by decide +kernel
theorem d_P_leanedOn_1 : decode (yMb m_P_leanedOn) 1 = .ok (.areturn, 1) := by decide +kernel
theorem d_P_perform_0 : decode (yMb m_P_perform) 0 = .ok (.aload_n 0, 1) := by decide +kernel
theorem d_P_perform_1 : decode (yMb m_P_perform) 1 = .ok (.aload_n 1, 1) := by decide +kernel
theorem d_P_perform_2 : decode (yMb m_P_perform) 2 = .ok (.invokevirtual 25, 3) := by decide +kernel
theorem d_P_perform_5 : decode (yMb m_P_perform) 5 = .ok (.ifCond .eq 11, 3) := by decide +kernel
theorem d_P_perform_8 : decode (yMb m_P_perform) 8 = .ok (.aload_n 1, 1) := by decide +kernel
theorem d_P_perform_9 : decode (yMb m_P_perform) 9 = .ok (.iconst 3, 1) := by decide +kernel
theorem d_P_perform_10 : decode (yMb m_P_perform) 10 = .ok (.invokevirtual 29, 3) := by decide +kernel
theorem d_P_perform_13 : decode (yMb m_P_perform) 13 = .ok (.goto 66, 3) := by decide +kernel
theorem d_P_perform_16 : decode (yMb m_P_perform) 16 = .ok (.aload_n 0, 1) := by decide +kernel
theorem d_P_perform_17 : decode (yMb m_P_perform) 17 = .ok (.aload_n 1, 1) := by decide +kernel
theorem d_P_perform_18 : decode (yMb m_P_perform) 18 = .ok (.invokevirtual 35, 3) := by decide +kernel
theorem d_P_perform_21 : decode (yMb m_P_perform) 21 = .ok (.ifCond .eq 16, 3) := by decide +kernel
theorem d_P_perform_24 : decode (yMb m_P_perform) 24 = .ok (.aload_n 0, 1) := by decide +kernel
theorem d_P_perform_25 : decode (yMb m_P_perform) 25 = .ok (.aload_n 1, 1) := by decide +kernel
theorem d_P_perform_26 : decode (yMb m_P_perform) 26 = .ok (.invokevirtual 38, 3) := by decide +kernel
theorem d_P_perform_29 : decode (yMb m_P_perform) 29 = .ok (.aload_n 1, 1) := by decide +kernel
theorem d_P_perform_30 : decode (yMb m_P_perform) 30 = .ok (.iconst 0, 1) := by decide +kernel
theorem d_P_perform_31 : decode (yMb m_P_perform) 31 = .ok (.invokevirtual 29, 3) := by decide +kernel
theorem d_P_perform_34 : decode (yMb m_P_perform) 34 = .ok (.goto 45, 3) := by decide +kernel
theorem d_P_perform_37 : decode (yMb m_P_perform) 37 = .ok (.aload_n 1, 1) := by decide +kernel
theorem d_P_perform_38 : decode (yMb m_P_perform) 38 = .ok (.getfield 42, 3) := by decide +kernel
theorem d_P_perform_41 : decode (yMb m_P_perform) 41 = .ok (.ifCond .eq 20, 3) := by decide +kernel
theorem d_P_perform_44 : decode (yMb m_P_perform) 44 = .ok (.aload_n 1, 1) := by decide +kernel
theorem d_P_perform_45 : decode (yMb m_P_perform) 45 = .ok (.iconst 0, 1) := by decide +kernel
theorem d_P_perform_46 : decode (yMb m_P_perform) 46 = .ok (.putfield 42, 3) := by decide +kernel
theorem d_P_perform_49 : decode (yMb m_P_perform) 49 = .ok (.aload_n 1, 1) := by decide +kernel
theorem d_P_perform_50 : decode (yMb m_P_perform) 50 = .ok (.iconst 4, 1) := by decide +kernel
theorem d_P_perform_51 : decode (yMb m_P_perform) 51 = .ok (.invokevirtual 29, 3) := by decide +kernel
theorem d_P_perform_54 : decode (yMb m_P_perform) 54 = .ok (.aload_n 0, 1) := by decide +kernel
theorem d_P_perform_55 : decode (yMb m_P_perform) 55 = .ok (.invokevirtual 46, 3) := by decide +kernel
theorem d_P_perform_58 : decode (yMb m_P_perform) 58 = .ok (.goto 21, 3) := by decide +kernel
theorem d_P_perform_61 : decode (yMb m_P_perform) 61 = .ok (.iload_n 2, 1) := by decide +kernel
theorem d_P_perform_62 : decode (yMb m_P_perform) 62 = .ok (.ifCond .ne 11, 3) := by decide +kernel
theorem d_P_perform_65 : decode (yMb m_P_perform) 65 = .ok (.aload_n 1, 1) := by decide +kernel
theorem d_P_perform_66 : decode (yMb m_P_perform) 66 = .ok (.iconst 2, 1) := by decide +kernel
theorem d_P_perform_67 : decode (yMb m_P_perform) 67 = .ok (.invokevirtual 29, 3) := by decide +kernel
theorem d_P_perform_70 : decode (yMb m_P_perform) 70 = .ok (.goto 9, 3) := by decide +kernel
theorem d_P_perform_73 : decode (yMb m_P_perform) 73 = .ok (.aload_n 0, 1) := by decide +kernel
theorem d_P_perform_74 : decode (yMb m_P_perform) 74 = .ok (.aload_n 1, 1) := by decide +kernel
theorem d_P_perform_75 : decode (yMb m_P_perform) 75 = .ok (.iload_n 2, 1) := by decide +kernel
theorem d_P_perform_76 : decode (yMb m_P_perform) 76 = .ok (.invokevirtual 49, 3) := by decide +kernel
theorem d_P_perform_79 : decode (yMb m_P_perform) 79 = .ok (.return_, 1) := by decide +kernel
theorem d_P_holdBack_0 : decode (yMb m_P_holdBack) 0 = .ok (.aload_n 0, 1) := by decide +kernel
theorem d_P_holdBack_1 : decode (yMb m_P_holdBack) 1 = .ok (.aload_n 1, 1) := by decide +kernel
theorem d_P_holdBack_2 : decode (yMb m_P_holdBack) 2 = .ok (.iload_n 2, 1) := by decide +kernel
theorem d_P_holdBack_3 : decode (yMb m_P_holdBack) 3 = .ok (.invokevirtual 53, 3) := by decide +kernel
theorem d_P_holdBack_6 : decode (yMb m_P_holdBack) 6 = .ok (.return_, 1) := by decide +kernel
theorem d_P_giveUp_0 : decode (yMb m_P_giveUp) 0 = .ok (.aload_n 0, 1) := by decide +kernel
theorem d_P_giveUp_1 : decode (yMb m_P_giveUp) 1 = .ok (.aload_n 1, 1) := by decide +kernel
theorem d_P_giveUp_2 : decode (yMb m_P_giveUp) 2 = .ok (.iload_n 2, 1) := by decide +kernel
theorem d_P_giveUp_3 : decode (yMb m_P_giveUp) 3 = .ok (.invokevirtual 56, 3) := by decide +kernel
theorem d_P_giveUp_6 : decode (yMb m_P_giveUp) 6 = .ok (.return_, 1) := by decide +kernel
theorem d_P_joinRow_0 : decode (yMb m_P_joinRow) 0 = .ok (.aload_n 0, 1) := by decide +kernel
theorem d_P_joinRow_1 : decode (yMb m_P_joinRow) 1 = .ok (.getfield 12, 3) := by decide +kernel
theorem d_P_joinRow_4 : decode (yMb m_P_joinRow) 4 = .ok (.aload_n 1, 1) := by decide +kernel
theorem d_P_joinRow_5 : decode (yMb m_P_joinRow) 5 = .ok (.invokevirtual 59, 3) := by decide +kernel
theorem d_P_joinRow_8 : decode (yMb m_P_joinRow) 8 = .ok (.aload_n 1, 1) := by decide +kernel
theorem d_P_joinRow_9 : decode (yMb m_P_joinRow) 9 = .ok (.aload_n 0, 1) := by decide +kernel
theorem d_P_joinRow_10 : decode (yMb m_P_joinRow) 10 = .ok (.iconst 1, 1) := by decide +kernel
theorem d_P_joinRow_11 : decode (yMb m_P_joinRow) 11 = .ok (.iload_n 2, 1) := by decide +kernel
theorem d_P_joinRow_12 : decode (yMb m_P_joinRow) 12 = .ok (.invokevirtual 62, 3) := by decide +kernel
theorem d_P_joinRow_15 : decode (yMb m_P_joinRow) 15 = .ok (.return_, 1) := by decide +kernel
theorem d_P_leaveRow_0 : decode (yMb m_P_leaveRow) 0 = .ok (.aload_n 0, 1) := by decide +kernel
theorem d_P_leaveRow_1 : decode (yMb m_P_leaveRow) 1 = .ok (.getfield 12, 3) := by decide +kernel
theorem d_P_leaveRow_4 : decode (yMb m_P_leaveRow) 4 = .ok (.aload_n 1, 1) := by decide +kernel
theorem d_P_leaveRow_5 : decode (yMb m_P_leaveRow) 5 = .ok (.invokevirtual 66, 3) := by decide +kernel
theorem d_P_leaveRow_8 : decode (yMb m_P_leaveRow) 8 = .ok (.aload_n 1, 1) := by decide +kernel
theorem d_P_leaveRow_9 : decode (yMb m_P_leaveRow) 9 = .ok (.iload_n 2, 1) := by decide +kernel
theorem d_P_leaveRow_10 : decode (yMb m_P_leaveRow) 10 = .ok (.invokevirtual 29, 3) := by decide +kernel
theorem d_P_leaveRow_13 : decode (yMb m_P_leaveRow) 13 = .ok (.aload_n 0, 1) := by decide +kernel
theorem d_P_leaveRow_14 : decode (yMb m_P_leaveRow) 14 = .ok (.invokevirtual 46, 3) := by decide +kernel
theorem d_P_leaveRow_17 : decode (yMb m_P_leaveRow) 17 = .ok (.return_, 1) := by decide +kernel
theorem d_P_endAllInRow_0 : decode (yMb m_P_endAllInRow) 0 = .ok (.aload_n 0, 1) := by decide +kernel
theorem d_P_endAllInRow_1 : decode (yMb m_P_endAllInRow) 1 = .ok (.getfield 12, 3) := by decide +kernel
theorem d_P_endAllInRow_4 : decode (yMb m_P_endAllInRow) 4 = .ok (.getfield 69, 3) := by decide +kernel
theorem d_P_endAllInRow_7 : decode (yMb m_P_endAllInRow) 7 = .ok (.istore_n 2, 1) := by decide +kernel
theorem d_P_endAllInRow_8 : decode (yMb m_P_endAllInRow) 8 = .ok (.iload_n 2, 1) := by decide +kernel
theorem d_P_endAllInRow_9 : decode (yMb m_P_endAllInRow) 9 = .ok (.ifCond .le 26, 3) := by decide +kernel
theorem d_P_endAllInRow_12 : decode (yMb m_P_endAllInRow) 12 = .ok (.aload_n 0, 1) := by decide +kernel
theorem d_P_endAllInRow_13 : decode (yMb m_P_endAllInRow) 13 = .ok (.getfield 12, 3) := by decide +kernel
theorem d_P_endAllInRow_16 : decode (yMb m_P_endAllInRow) 16 = .ok (.invokevirtual 72, 3) := by decide +kernel
theorem d_P_endAllInRow_19 : decode (yMb m_P_endAllInRow) 19 = .ok (.astore_n 3, 1) := by decide +kernel
theorem d_P_endAllInRow_20 : decode (yMb m_P_endAllInRow) 20 = .ok (.aload_n 3, 1) := by decide +kernel
theorem d_P_endAllInRow_21 : decode (yMb m_P_endAllInRow) 21 = .ok (.ifnull 8, 3) := by decide +kernel
theorem d_P_endAllInRow_24 : decode (yMb m_P_endAllInRow) 24 = .ok (.aload_n 3, 1) := by decide +kernel
theorem d_P_endAllInRow_25 : decode (yMb m_P_endAllInRow) 25 = .ok (.iload_n 1, 1) := by decide +kernel
theorem d_P_endAllInRow_26 : decode (yMb m_P_endAllInRow) 26 = .ok (.invokevirtual 29, 3) := by decide +kernel
theorem d_P_endAllInRow_29 : decode (yMb m_P_endAllInRow) 29 = .ok (.iinc 2 (-1), 3) := by decide +kernel
theorem d_P_endAllInRow_32 : decode (yMb m_P_endAllInRow) 32 = .ok (.goto (-24), 3) := by decide +kernel
theorem d_P_endAllInRow_35 : decode (yMb m_P_endAllInRow) 35 = .ok (.return_, 1) := by decide +kernel
theorem d_P_settle_0 : decode (yMb m_P_settle) 0 = .ok (.iconst 1, 1) := by decide +kernel
theorem d_P_settle_1 : decode (yMb m_P_settle) 1 = .ok (.istore_n 1, 1) := by decide +kernel
theorem d_P_settle_2 : decode (yMb m_P_settle) 2 = .ok (.iconst 0, 1) := by decide +kernel
theorem d_P_settle_3 : decode (yMb m_P_settle) 3 = .ok (.istore_n 2, 1) := by decide +kernel
theorem d_P_settle_4 : decode (yMb m_P_settle) 4 = .ok (.iload_n 1, 1) := by decide +kernel
theorem d_P_settle_5 : decode (yMb m_P_settle) 5 = .ok (.ifCond .eq 20, 3) := by decide +kernel
theorem d_P_settle_8 : decode (yMb m_P_settle) 8 = .ok (.iload_n 2, 1) := by decide +kernel
theorem d_P_settle_9 : decode (yMb m_P_settle) 9 = .ok (.bipush 6, 2) := by decide +kernel
theorem d_P_settle_11 : decode (yMb m_P_settle) 11 = .ok (.if_icmp .gt 14, 3) := by decide +kernel
theorem d_P_settle_14 : decode (yMb m_P_settle) 14 = .ok (.aload_n 0, 1) := by decide +kernel
theorem d_P_settle_15 : decode (yMb m_P_settle) 15 = .ok (.invokevirtual 76, 3) := by decide +kernel
theorem d_P_settle_18 : decode (yMb m_P_settle) 18 = .ok (.istore_n 1, 1) := by decide +kernel
theorem d_P_settle_19 : decode (yMb m_P_settle) 19 = .ok (.iinc 2 1, 3) := by decide +kernel
theorem d_P_settle_22 : decode (yMb m_P_settle) 22 = .ok (.goto (-18), 3) := by decide +kernel
theorem d_P_settle_25 : decode (yMb m_P_settle) 25 = .ok (.return_, 1) := by decide +kernel
theorem d_P_canBeAtOnce_0 : decode (yMb m_P_canBeAtOnce) 0 = .ok (.aload_n 0, 1) := by decide +kernel
theorem d_P_canBeAtOnce_1 : decode (yMb m_P_canBeAtOnce) 1 = .ok (.aload_n 1, 1) := by decide +kernel
theorem d_P_canBeAtOnce_2 : decode (yMb m_P_canBeAtOnce) 2 = .ok (.invokevirtual 80, 3) := by decide +kernel
theorem d_P_canBeAtOnce_5 : decode (yMb m_P_canBeAtOnce) 5 = .ok (.ifCond .ne 26, 3) := by decide +kernel
theorem d_P_canBeAtOnce_8 : decode (yMb m_P_canBeAtOnce) 8 = .ok (.aload_n 0, 1) := by decide +kernel
theorem d_P_canBeAtOnce_9 : decode (yMb m_P_canBeAtOnce) 9 = .ok (.aload_n 1, 1) := by decide +kernel
theorem d_P_canBeAtOnce_10 : decode (yMb m_P_canBeAtOnce) 10 = .ok (.invokevirtual 83, 3) := by decide +kernel
theorem d_P_canBeAtOnce_13 : decode (yMb m_P_canBeAtOnce) 13 = .ok (.ifCond .eq 22, 3) := by decide +kernel
theorem d_P_canBeAtOnce_16 : decode (yMb m_P_canBeAtOnce) 16 = .ok (.aload_n 0, 1) := by decide +kernel
theorem d_P_canBeAtOnce_17 : decode (yMb m_P_canBeAtOnce) 17 = .ok (.aload_n 0, 1) := by decide +kernel
theorem d_P_canBeAtOnce_18 : decode (yMb m_P_canBeAtOnce) 18 = .ok (.aload_n 1, 1) := by decide +kernel
theorem d_P_canBeAtOnce_19 : decode (yMb m_P_canBeAtOnce) 19 = .ok (.getfield 86, 3) := by decide +kernel
theorem d_P_canBeAtOnce_22 : decode (yMb m_P_canBeAtOnce) 22 = .ok (.invokevirtual 89, 3) := by decide +kernel
theorem d_P_canBeAtOnce_25 : decode (yMb m_P_canBeAtOnce) 25 = .ok (.invokevirtual 93, 3) := by decide +kernel
theorem d_P_canBeAtOnce_28 : decode (yMb m_P_canBeAtOnce) 28 = .ok (.ifCond .ne 7, 3) := by decide +kernel
theorem d_P_canBeAtOnce_31 : decode (yMb m_P_canBeAtOnce) 31 = .ok (.iconst 1, 1) := by decide +kernel
theorem d_P_canBeAtOnce_32 : decode (yMb m_P_canBeAtOnce) 32 = .ok (.goto 4, 3) := by decide +kernel
theorem d_P_canBeAtOnce_35 : decode (yMb m_P_canBeAtOnce) 35 = .ok (.iconst 0, 1) := by decide +kernel
theorem d_P_canBeAtOnce_36 : decode (yMb m_P_canBeAtOnce) 36 = .ok (.ireturn, 1) := by decide +kernel
theorem d_P_hasInRow_0 : decode (yMb m_P_hasInRow) 0 = .ok (.iconst 0, 1) := by decide +kernel
theorem d_P_hasInRow_1 : decode (yMb m_P_hasInRow) 1 = .ok (.istore_n 2, 1) := by decide +kernel
theorem d_P_hasInRow_2 : decode (yMb m_P_hasInRow) 2 = .ok (.iload_n 2, 1) := by decide +kernel
theorem d_P_hasInRow_3 : decode (yMb m_P_hasInRow) 3 = .ok (.aload_n 0, 1) := by decide +kernel
theorem d_P_hasInRow_4 : decode (yMb m_P_hasInRow) 4 = .ok (.getfield 12, 3) := by decide +kernel
theorem d_P_hasInRow_7 : decode (yMb m_P_hasInRow) 7 = .ok (.getfield 69, 3) := by decide +kernel
theorem d_P_hasInRow_10 : decode (yMb m_P_hasInRow) 10 = .ok (.if_icmp .ge 36, 3) := by decide +kernel
theorem d_P_hasInRow_13 : decode (yMb m_P_hasInRow) 13 = .ok (.aload_n 0, 1) := by decide +kernel
theorem d_P_hasInRow_14 : decode (yMb m_P_hasInRow) 14 = .ok (.getfield 12, 3) := by decide +kernel
theorem d_P_hasInRow_17 : decode (yMb m_P_hasInRow) 17 = .ok (.iload_n 2, 1) := by decide +kernel
theorem d_P_hasInRow_18 : decode (yMb m_P_hasInRow) 18 = .ok (.invokevirtual 97, 3) := by decide +kernel
theorem d_P_hasInRow_21 : decode (yMb m_P_hasInRow) 21 = .ok (.astore_n 3, 1) := by decide +kernel
theorem d_P_hasInRow_22 : decode (yMb m_P_hasInRow) 22 = .ok (.aload_n 3, 1) := by decide +kernel
theorem d_P_hasInRow_23 : decode (yMb m_P_hasInRow) 23 = .ok (.ifnull 17, 3) := by decide +kernel
theorem d_P_hasInRow_26 : decode (yMb m_P_hasInRow) 26 = .ok (.aload_n 0, 1) := by decide +kernel
theorem d_P_hasInRow_27 : decode (yMb m_P_hasInRow) 27 = .ok (.aload_n 3, 1) := by decide +kernel
theorem d_P_hasInRow_28 : decode (yMb m_P_hasInRow) 28 = .ok (.getfield 86, 3) := by decide +kernel
theorem d_P_hasInRow_31 : decode (yMb m_P_hasInRow) 31 = .ok (.invokevirtual 89, 3) := by decide +kernel
theorem d_P_hasInRow_34 : decode (yMb m_P_hasInRow) 34 = .ok (.iload_n 1, 1) := by decide +kernel
theorem d_P_hasInRow_35 : decode (yMb m_P_hasInRow) 35 = .ok (.if_icmp .ne 5, 3) := by decide +kernel
theorem d_P_hasInRow_38 : decode (yMb m_P_hasInRow) 38 = .ok (.iconst 1, 1) := by decide +kernel
theorem d_P_hasInRow_39 : decode (yMb m_P_hasInRow) 39 = .ok (.ireturn, 1) := by decide +kernel
theorem d_P_hasInRow_40 : decode (yMb m_P_hasInRow) 40 = .ok (.iinc 2 1, 3) := by decide +kernel
theorem d_P_hasInRow_43 : decode (yMb m_P_hasInRow) 43 = .ok (.goto (-41), 3) := by decide +kernel
theorem d_P_hasInRow_46 : decode (yMb m_P_hasInRow) 46 = .ok (.iconst 0, 1) := by decide +kernel
theorem d_P_hasInRow_47 : decode (yMb m_P_hasInRow) 47 = .ok (.ireturn, 1) := by decide +kernel
