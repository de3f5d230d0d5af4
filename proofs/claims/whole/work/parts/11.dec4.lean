theorem d_M_sameSort_0 : decode (yMb m_M_sameSort) 0 = .ok (.iconst 0, 1) := by decide +kernel
theorem d_M_sameSort_1 : decode (yMb m_M_sameSort) 1 = .ok (.istore_n 3, 1) := by decide +kernel
theorem d_M_sameSort_2 : decode (yMb m_M_sameSort) 2 = .ok (.iload_n 3, 1) := by decide +kernel
theorem d_M_sameSort_3 : decode (yMb m_M_sameSort) 3 = .ok (.aload_n 0, 1) := by decide +kernel
theorem d_M_sameSort_4 : decode (yMb m_M_sameSort) 4 = .ok (.getfield 56, 3) := by decide +kernel
theorem d_M_sameSort_7 : decode (yMb m_M_sameSort) 7 = .ok (.iload_n 1, 1) := by decide +kernel
theorem d_M_sameSort_8 : decode (yMb m_M_sameSort) 8 = .ok (.iaload, 1) := by decide +kernel
theorem d_M_sameSort_9 : decode (yMb m_M_sameSort) 9 = .ok (.if_icmp .ge 51, 3) := by decide +kernel
theorem d_M_sameSort_12 : decode (yMb m_M_sameSort) 12 = .ok (.aload_n 0, 1) := by decide +kernel
theorem d_M_sameSort_13 : decode (yMb m_M_sameSort) 13 = .ok (.getfield 25, 3) := by decide +kernel
theorem d_M_sameSort_16 : decode (yMb m_M_sameSort) 16 = .ok (.aload_n 0, 1) := by decide +kernel
theorem d_M_sameSort_17 : decode (yMb m_M_sameSort) 17 = .ok (.getfield 59, 3) := by decide +kernel
theorem d_M_sameSort_20 : decode (yMb m_M_sameSort) 20 = .ok (.iload_n 1, 1) := by decide +kernel
theorem d_M_sameSort_21 : decode (yMb m_M_sameSort) 21 = .ok (.bipush 6, 2) := by decide +kernel
theorem d_M_sameSort_23 : decode (yMb m_M_sameSort) 23 = .ok (.imul, 1) := by decide +kernel
theorem d_M_sameSort_24 : decode (yMb m_M_sameSort) 24 = .ok (.iload_n 3, 1) := by decide +kernel
theorem d_M_sameSort_25 : decode (yMb m_M_sameSort) 25 = .ok (.iadd, 1) := by decide +kernel
theorem d_M_sameSort_26 : decode (yMb m_M_sameSort) 26 = .ok (.iaload, 1) := by decide +kernel
theorem d_M_sameSort_27 : decode (yMb m_M_sameSort) 27 = .ok (.iaload, 1) := by decide +kernel
theorem d_M_sameSort_28 : decode (yMb m_M_sameSort) 28 = .ok (.bipush 15, 2) := by decide +kernel
theorem d_M_sameSort_30 : decode (yMb m_M_sameSort) 30 = .ok (.if_icmp .ne 7, 3) := by decide +kernel
theorem d_M_sameSort_33 : decode (yMb m_M_sameSort) 33 = .ok (.iconst 1, 1) := by decide +kernel
theorem d_M_sameSort_34 : decode (yMb m_M_sameSort) 34 = .ok (.goto 4, 3) := by decide +kernel
theorem d_M_sameSort_37 : decode (yMb m_M_sameSort) 37 = .ok (.iconst 0, 1) := by decide +kernel
theorem d_M_sameSort_38 : decode (yMb m_M_sameSort) 38 = .ok (.iload_n 2, 1) := by decide +kernel
theorem d_M_sameSort_39 : decode (yMb m_M_sameSort) 39 = .ok (.bipush 15, 2) := by decide +kernel
theorem d_M_sameSort_41 : decode (yMb m_M_sameSort) 41 = .ok (.if_icmp .ne 7, 3) := by decide +kernel
theorem d_M_sameSort_44 : decode (yMb m_M_sameSort) 44 = .ok (.iconst 1, 1) := by decide +kernel
theorem d_M_sameSort_45 : decode (yMb m_M_sameSort) 45 = .ok (.goto 4, 3) := by decide +kernel
theorem d_M_sameSort_48 : decode (yMb m_M_sameSort) 48 = .ok (.iconst 0, 1) := by decide +kernel
theorem d_M_sameSort_49 : decode (yMb m_M_sameSort) 49 = .ok (.if_icmp .ne 5, 3) := by decide +kernel
theorem d_M_sameSort_52 : decode (yMb m_M_sameSort) 52 = .ok (.iconst 1, 1) := by decide +kernel
theorem d_M_sameSort_53 : decode (yMb m_M_sameSort) 53 = .ok (.ireturn, 1) := by decide +kernel
theorem d_M_sameSort_54 : decode (yMb m_M_sameSort) 54 = .ok (.iinc 3 1, 3) := by decide +kernel
theorem d_M_sameSort_57 : decode (yMb m_M_sameSort) 57 = .ok (.goto (-55), 3) := by decide +kernel
theorem d_M_sameSort_60 : decode (yMb m_M_sameSort) 60 = .ok (.iconst 0, 1) := by decide +kernel
theorem d_M_sameSort_61 : decode (yMb m_M_sameSort) 61 = .ok (.ireturn, 1) := by decide +kernel
theorem d_M_ofKind_0 : decode (yMb m_M_ofKind) 0 = .ok (.iload_n 1, 1) := by decide +kernel
theorem d_M_ofKind_1 : decode (yMb m_M_ofKind) 1 = .ok (.tableswitch 108 0 4 #[35, 46, 54, 72, 90], 35) := by decide +kernel
theorem d_M_ofKind_36 : decode (yMb m_M_ofKind) 36 = .ok (.iload_n 2, 1) := by decide +kernel
theorem d_M_ofKind_37 : decode (yMb m_M_ofKind) 37 = .ok (.iconst 5, 1) := by decide +kernel
theorem d_M_ofKind_38 : decode (yMb m_M_ofKind) 38 = .ok (.if_icmp .ge 7, 3) := by decide +kernel
theorem d_M_ofKind_41 : decode (yMb m_M_ofKind) 41 = .ok (.iconst 1, 1) := by decide +kernel
theorem d_M_ofKind_42 : decode (yMb m_M_ofKind) 42 = .ok (.goto 4, 3) := by decide +kernel
theorem d_M_ofKind_45 : decode (yMb m_M_ofKind) 45 = .ok (.iconst 0, 1) := by decide +kernel
theorem d_M_ofKind_46 : decode (yMb m_M_ofKind) 46 = .ok (.ireturn, 1) := by decide +kernel
theorem d_M_ofKind_47 : decode (yMb m_M_ofKind) 47 = .ok (.iload_n 2, 1) := by decide +kernel
theorem d_M_ofKind_48 : decode (yMb m_M_ofKind) 48 = .ok (.iconst 5, 1) := by decide +kernel
theorem d_M_ofKind_49 : decode (yMb m_M_ofKind) 49 = .ok (.bipush 8, 2) := by decide +kernel
theorem d_M_ofKind_51 : decode (yMb m_M_ofKind) 51 = .ok (.invokestatic 84, 3) := by decide +kernel
theorem d_M_ofKind_54 : decode (yMb m_M_ofKind) 54 = .ok (.ireturn, 1) := by decide +kernel
theorem d_M_ofKind_55 : decode (yMb m_M_ofKind) 55 = .ok (.iload_n 2, 1) := by decide +kernel
theorem d_M_ofKind_56 : decode (yMb m_M_ofKind) 56 = .ok (.bipush 9, 2) := by decide +kernel
theorem d_M_ofKind_58 : decode (yMb m_M_ofKind) 58 = .ok (.if_icmp .eq 9, 3) := by decide +kernel
theorem d_M_ofKind_61 : decode (yMb m_M_ofKind) 61 = .ok (.iload_n 2, 1) := by decide +kernel
theorem d_M_ofKind_62 : decode (yMb m_M_ofKind) 62 = .ok (.bipush 10, 2) := by decide +kernel
theorem d_M_ofKind_64 : decode (yMb m_M_ofKind) 64 = .ok (.if_icmp .ne 7, 3) := by decide +kernel
theorem d_M_ofKind_67 : decode (yMb m_M_ofKind) 67 = .ok (.iconst 1, 1) := by decide +kernel
theorem d_M_ofKind_68 : decode (yMb m_M_ofKind) 68 = .ok (.goto 4, 3) := by decide +kernel
theorem d_M_ofKind_71 : decode (yMb m_M_ofKind) 71 = .ok (.iconst 0, 1) := by decide +kernel
theorem d_M_ofKind_72 : decode (yMb m_M_ofKind) 72 = .ok (.ireturn, 1) := by decide +kernel
theorem d_M_ofKind_73 : decode (yMb m_M_ofKind) 73 = .ok (.iload_n 2, 1) := by decide +kernel
theorem d_M_ofKind_74 : decode (yMb m_M_ofKind) 74 = .ok (.bipush 11, 2) := by decide +kernel
theorem d_M_ofKind_76 : decode (yMb m_M_ofKind) 76 = .ok (.if_icmp .eq 9, 3) := by decide +kernel
theorem d_M_ofKind_79 : decode (yMb m_M_ofKind) 79 = .ok (.iload_n 2, 1) := by decide +kernel
theorem d_M_ofKind_80 : decode (yMb m_M_ofKind) 80 = .ok (.bipush 12, 2) := by decide +kernel
theorem d_M_ofKind_82 : decode (yMb m_M_ofKind) 82 = .ok (.if_icmp .ne 7, 3) := by decide +kernel
theorem d_M_ofKind_85 : decode (yMb m_M_ofKind) 85 = .ok (.iconst 1, 1) := by decide +kernel
theorem d_M_ofKind_86 : decode (yMb m_M_ofKind) 86 = .ok (.goto 4, 3) := by decide +kernel
theorem d_M_ofKind_89 : decode (yMb m_M_ofKind) 89 = .ok (.iconst 0, 1) := by decide +kernel
theorem d_M_ofKind_90 : decode (yMb m_M_ofKind) 90 = .ok (.ireturn, 1) := by decide +kernel
theorem d_M_ofKind_91 : decode (yMb m_M_ofKind) 91 = .ok (.iload_n 2, 1) := by decide +kernel
theorem d_M_ofKind_92 : decode (yMb m_M_ofKind) 92 = .ok (.bipush 13, 2) := by decide +kernel
theorem d_M_ofKind_94 : decode (yMb m_M_ofKind) 94 = .ok (.if_icmp .eq 9, 3) := by decide +kernel
theorem d_M_ofKind_97 : decode (yMb m_M_ofKind) 97 = .ok (.iload_n 2, 1) := by decide +kernel
theorem d_M_ofKind_98 : decode (yMb m_M_ofKind) 98 = .ok (.bipush 14, 2) := by decide +kernel
theorem d_M_ofKind_100 : decode (yMb m_M_ofKind) 100 = .ok (.if_icmp .ne 7, 3) := by decide +kernel
theorem d_M_ofKind_103 : decode (yMb m_M_ofKind) 103 = .ok (.iconst 1, 1) := by decide +kernel
theorem d_M_ofKind_104 : decode (yMb m_M_ofKind) 104 = .ok (.goto 4, 3) := by decide +kernel
theorem d_M_ofKind_107 : decode (yMb m_M_ofKind) 107 = .ok (.iconst 0, 1) := by decide +kernel
theorem d_M_ofKind_108 : decode (yMb m_M_ofKind) 108 = .ok (.ireturn, 1) := by decide +kernel
theorem d_M_ofKind_109 : decode (yMb m_M_ofKind) 109 = .ok (.iload_n 2, 1) := by decide +kernel
theorem d_M_ofKind_110 : decode (yMb m_M_ofKind) 110 = .ok (.bipush 14, 2) := by decide +kernel
theorem d_M_ofKind_112 : decode (yMb m_M_ofKind) 112 = .ok (.if_icmp .le 7, 3) := by decide +kernel
theorem d_M_ofKind_115 : decode (yMb m_M_ofKind) 115 = .ok (.iconst 1, 1) := by decide +kernel
theorem d_M_ofKind_116 : decode (yMb m_M_ofKind) 116 = .ok (.goto 4, 3) := by decide +kernel
theorem d_M_ofKind_119 : decode (yMb m_M_ofKind) 119 = .ok (.iconst 0, 1) := by decide +kernel
theorem d_M_ofKind_120 : decode (yMb m_M_ofKind) 120 = .ok (.ireturn, 1) := by decide +kernel
theorem d_M_notNow_0 : decode (yMb m_M_notNow) 0 = .ok (.aload_n 0, 1) := by decide +kernel
theorem d_M_notNow_1 : decode (yMb m_M_notNow) 1 = .ok (.getfield 7, 3) := by decide +kernel
theorem d_M_notNow_4 : decode (yMb m_M_notNow) 4 = .ok (.iload_n 1, 1) := by decide +kernel
theorem d_M_notNow_5 : decode (yMb m_M_notNow) 5 = .ok (.iaload, 1) := by decide +kernel
theorem d_M_notNow_6 : decode (yMb m_M_notNow) 6 = .ok (.ifCond .eq 5, 3) := by decide +kernel
theorem d_M_notNow_9 : decode (yMb m_M_notNow) 9 = .ok (.iconst 1, 1) := by decide +kernel
theorem d_M_notNow_10 : decode (yMb m_M_notNow) 10 = .ok (.ireturn, 1) := by decide +kernel
theorem d_M_notNow_11 : decode (yMb m_M_notNow) 11 = .ok (.iload_n 3, 1) := by decide +kernel
theorem d_M_notNow_12 : decode (yMb m_M_notNow) 12 = .ok (.iconst 1, 1) := by decide +kernel
theorem d_M_notNow_13 : decode (yMb m_M_notNow) 13 = .ok (.iconst 4, 1) := by decide +kernel
theorem d_M_notNow_14 : decode (yMb m_M_notNow) 14 = .ok (.invokestatic 84, 3) := by decide +kernel
theorem d_M_notNow_17 : decode (yMb m_M_notNow) 17 = .ok (.ifCond .ne 9, 3) := by decide +kernel
theorem d_M_notNow_20 : decode (yMb m_M_notNow) 20 = .ok (.iload_n 3, 1) := by decide +kernel
theorem d_M_notNow_21 : decode (yMb m_M_notNow) 21 = .ok (.bipush 8, 2) := by decide +kernel
theorem d_M_notNow_23 : decode (yMb m_M_notNow) 23 = .ok (.if_icmp .ne 19, 3) := by decide +kernel
theorem d_M_notNow_26 : decode (yMb m_M_notNow) 26 = .ok (.aload_n 0, 1) := by decide +kernel
theorem d_M_notNow_27 : decode (yMb m_M_notNow) 27 = .ok (.getfield 53, 3) := by decide +kernel
theorem d_M_notNow_30 : decode (yMb m_M_notNow) 30 = .ok (.iload_n 2, 1) := by decide +kernel
theorem d_M_notNow_31 : decode (yMb m_M_notNow) 31 = .ok (.iaload, 1) := by decide +kernel
theorem d_M_notNow_32 : decode (yMb m_M_notNow) 32 = .ok (.iload_n 1, 1) := by decide +kernel
theorem d_M_notNow_33 : decode (yMb m_M_notNow) 33 = .ok (.if_icmp .eq 7, 3) := by decide +kernel
theorem d_M_notNow_36 : decode (yMb m_M_notNow) 36 = .ok (.iconst 1, 1) := by decide +kernel
theorem d_M_notNow_37 : decode (yMb m_M_notNow) 37 = .ok (.goto 4, 3) := by decide +kernel
theorem d_M_notNow_40 : decode (yMb m_M_notNow) 40 = .ok (.iconst 0, 1) := by decide +kernel
theorem d_M_notNow_41 : decode (yMb m_M_notNow) 41 = .ok (.ireturn, 1) := by decide +kernel
theorem d_M_notNow_42 : decode (yMb m_M_notNow) 42 = .ok (.iload_n 3, 1) := by decide +kernel
theorem d_M_notNow_43 : decode (yMb m_M_notNow) 43 = .ok (.bipush 6, 2) := by decide +kernel
theorem d_M_notNow_45 : decode (yMb m_M_notNow) 45 = .ok (.if_icmp .ne 23, 3) := by decide +kernel
theorem d_M_notNow_48 : decode (yMb m_M_notNow) 48 = .ok (.aload_n 0, 1) := by decide +kernel
theorem d_M_notNow_49 : decode (yMb m_M_notNow) 49 = .ok (.getfield 68, 3) := by decide +kernel
theorem d_M_notNow_52 : decode (yMb m_M_notNow) 52 = .ok (.iload_n 2, 1) := by decide +kernel
theorem d_M_notNow_53 : decode (yMb m_M_notNow) 53 = .ok (.bipush 6, 2) := by decide +kernel
theorem d_M_notNow_55 : decode (yMb m_M_notNow) 55 = .ok (.imul, 1) := by decide +kernel
theorem d_M_notNow_56 : decode (yMb m_M_notNow) 56 = .ok (.iload_n 1, 1) := by decide +kernel
theorem d_M_notNow_57 : decode (yMb m_M_notNow) 57 = .ok (.iadd, 1) := by decide +kernel
theorem d_M_notNow_58 : decode (yMb m_M_notNow) 58 = .ok (.iaload, 1) := by decide +kernel
theorem d_M_notNow_59 : decode (yMb m_M_notNow) 59 = .ok (.ifCond .ne 7, 3) := by decide +kernel
theorem d_M_notNow_62 : decode (yMb m_M_notNow) 62 = .ok (.iconst 1, 1) := by decide +kernel
theorem d_M_notNow_63 : decode (yMb m_M_notNow) 63 = .ok (.goto 4, 3) := by decide +kernel
theorem d_M_notNow_66 : decode (yMb m_M_notNow) 66 = .ok (.iconst 0, 1) := by decide +kernel
theorem d_M_notNow_67 : decode (yMb m_M_notNow) 67 = .ok (.ireturn, 1) := by decide +kernel
theorem d_M_notNow_68 : decode (yMb m_M_notNow) 68 = .ok (.iload_n 3, 1) := by decide +kernel
theorem d_M_notNow_69 : decode (yMb m_M_notNow) 69 = .ok (.bipush 10, 2) := by decide +kernel
theorem d_M_notNow_71 : decode (yMb m_M_notNow) 71 = .ok (.if_icmp .ne 21, 3) := by decide +kernel
theorem d_M_notNow_74 : decode (yMb m_M_notNow) 74 = .ok (.aload_n 0, 1) := by decide +kernel
theorem d_M_notNow_75 : decode (yMb m_M_notNow) 75 = .ok (.getfield 50, 3) := by decide +kernel
theorem d_M_notNow_78 : decode (yMb m_M_notNow) 78 = .ok (.iload_n 2, 1) := by decide +kernel
theorem d_M_notNow_79 : decode (yMb m_M_notNow) 79 = .ok (.iaload, 1) := by decide +kernel
theorem d_M_notNow_80 : decode (yMb m_M_notNow) 80 = .ok (.iload 4, 2) := by decide +kernel
theorem d_M_notNow_82 : decode (yMb m_M_notNow) 82 = .ok (.iadd, 1) := by decide +kernel
theorem d_M_notNow_83 : decode (yMb m_M_notNow) 83 = .ok (.bipush 50, 2) := by decide +kernel
theorem d_M_notNow_85 : decode (yMb m_M_notNow) 85 = .ok (.if_icmp .le 7, 3) := by decide +kernel
theorem d_M_notNow_88 : decode (yMb m_M_notNow) 88 = .ok (.iconst 1, 1) := by decide +kernel
theorem d_M_notNow_89 : decode (yMb m_M_notNow) 89 = .ok (.goto 4, 3) := by decide +kernel
theorem d_M_notNow_92 : decode (yMb m_M_notNow) 92 = .ok (.iconst 0, 1) := by decide +kernel
theorem d_M_notNow_93 : decode (yMb m_M_notNow) 93 = .ok (.ireturn, 1) := by decide +kernel
theorem d_M_breakAll_0 : decode (yMb m_M_breakAll) 0 = .ok (.iconst 0, 1) := by decide +kernel
theorem d_M_breakAll_1 : decode (yMb m_M_breakAll) 1 = .ok (.istore_n 2, 1) := by decide +kernel
theorem d_M_breakAll_2 : decode (yMb m_M_breakAll) 2 = .ok (.iload_n 2, 1) := by decide +kernel
theorem d_M_breakAll_3 : decode (yMb m_M_breakAll) 3 = .ok (.aload_n 0, 1) := by decide +kernel
theorem d_M_breakAll_4 : decode (yMb m_M_breakAll) 4 = .ok (.getfield 56, 3) := by decide +kernel
theorem d_M_breakAll_7 : decode (yMb m_M_breakAll) 7 = .ok (.iload_n 1, 1) := by decide +kernel
theorem d_M_breakAll_8 : decode (yMb m_M_breakAll) 8 = .ok (.iaload, 1) := by decide +kernel
theorem d_M_breakAll_9 : decode (yMb m_M_breakAll) 9 = .ok (.if_icmp .ge 29, 3) := by decide +kernel
theorem d_M_breakAll_12 : decode (yMb m_M_breakAll) 12 = .ok (.aload_n 0, 1) := by decide +kernel
theorem d_M_breakAll_13 : decode (yMb m_M_breakAll) 13 = .ok (.aload_n 0, 1) := by decide +kernel
theorem d_M_breakAll_14 : decode (yMb m_M_breakAll) 14 = .ok (.aload_n 0, 1) := by decide +kernel
theorem d_M_breakAll_15 : decode (yMb m_M_breakAll) 15 = .ok (.getfield 59, 3) := by decide +kernel
theorem d_M_breakAll_18 : decode (yMb m_M_breakAll) 18 = .ok (.iload_n 1, 1) := by decide +kernel
theorem d_M_breakAll_19 : decode (yMb m_M_breakAll) 19 = .ok (.bipush 6, 2) := by decide +kernel
theorem d_M_breakAll_21 : decode (yMb m_M_breakAll) 21 = .ok (.imul, 1) := by decide +kernel
theorem d_M_breakAll_22 : decode (yMb m_M_breakAll) 22 = .ok (.iload_n 2, 1) := by decide +kernel
theorem d_M_breakAll_23 : decode (yMb m_M_breakAll) 23 = .ok (.iadd, 1) := by decide +kernel
theorem d_M_breakAll_24 : decode (yMb m_M_breakAll) 24 = .ok (.iaload, 1) := by decide +kernel
theorem d_M_breakAll_25 : decode (yMb m_M_breakAll) 25 = .ok (.iconst 3, 1) := by decide +kernel
theorem d_M_breakAll_26 : decode (yMb m_M_breakAll) 26 = .ok (.invokevirtual 110, 3) := by decide +kernel
theorem d_M_breakAll_29 : decode (yMb m_M_breakAll) 29 = .ok (.putfield 113, 3) := by decide +kernel
theorem d_M_breakAll_32 : decode (yMb m_M_breakAll) 32 = .ok (.iinc 2 1, 3) := by decide +kernel
theorem d_M_breakAll_35 : decode (yMb m_M_breakAll) 35 = .ok (.goto (-33), 3) := by decide +kernel
theorem d_M_breakAll_38 : decode (yMb m_M_breakAll) 38 = .ok (.aload_n 0, 1) := by decide +kernel
theorem d_M_breakAll_39 : decode (yMb m_M_breakAll) 39 = .ok (.getfield 56, 3) := by decide +kernel
theorem d_M_breakAll_42 : decode (yMb m_M_breakAll) 42 = .ok (.iload_n 1, 1) := by decide +kernel
theorem d_M_breakAll_43 : decode (yMb m_M_breakAll) 43 = .ok (.iconst 0, 1) := by decide +kernel
theorem d_M_breakAll_44 : decode (yMb m_M_breakAll) 44 = .ok (.iastore, 1) := by decide +kernel
theorem d_M_breakAll_45 : decode (yMb m_M_breakAll) 45 = .ok (.return_, 1) := by decide +kernel
theorem d_M_called_0 : decode (yMb m_M_called) 0 = .ok (.aload_n 0, 1) := by decide +kernel
theorem d_M_called_1 : decode (yMb m_M_called) 1 = .ok (.getfield 41, 3) := by decide +kernel
theorem d_M_called_4 : decode (yMb m_M_called) 4 = .ok (.iload_n 1, 1) := by decide +kernel
theorem d_M_called_5 : decode (yMb m_M_called) 5 = .ok (.iconst 1, 1) := by decide +kernel
theorem d_M_called_6 : decode (yMb m_M_called) 6 = .ok (.bastore, 1) := by decide +kernel
theorem d_M_called_7 : decode (yMb m_M_called) 7 = .ok (.aload_n 0, 1) := by decide +kernel
theorem d_M_called_8 : decode (yMb m_M_called) 8 = .ok (.getfield 34, 3) := by decide +kernel
theorem d_M_called_11 : decode (yMb m_M_called) 11 = .ok (.iload_n 1, 1) := by decide +kernel
theorem d_M_called_12 : decode (yMb m_M_called) 12 = .ok (.iload_n 3, 1) := by decide +kernel
theorem d_M_called_13 : decode (yMb m_M_called) 13 = .ok (.iastore, 1) := by decide +kernel
theorem d_M_called_14 : decode (yMb m_M_called) 14 = .ok (.aload_n 0, 1) := by decide +kernel
theorem d_M_called_15 : decode (yMb m_M_called) 15 = .ok (.getfield 22, 3) := by decide +kernel
theorem d_M_called_18 : decode (yMb m_M_called) 18 = .ok (.iload_n 1, 1) := by decide +kernel
theorem d_M_called_19 : decode (yMb m_M_called) 19 = .ok (.iconst (-1), 1) := by decide +kernel
theorem d_M_called_20 : decode (yMb m_M_called) 20 = .ok (.iastore, 1) := by decide +kernel
theorem d_M_called_21 : decode (yMb m_M_called) 21 = .ok (.aload_n 0, 1) := by decide +kernel
theorem d_M_called_22 : decode (yMb m_M_called) 22 = .ok (.getfield 25, 3) := by decide +kernel
theorem d_M_called_25 : decode (yMb m_M_called) 25 = .ok (.iload_n 1, 1) := by decide +kernel
theorem d_M_called_26 : decode (yMb m_M_called) 26 = .ok (.iconst 0, 1) := by decide +kernel
theorem d_M_called_27 : decode (yMb m_M_called) 27 = .ok (.iastore, 1) := by decide +kernel
theorem d_M_called_28 : decode (yMb m_M_called) 28 = .ok (.aload_n 0, 1) := by decide +kernel
theorem d_M_called_29 : decode (yMb m_M_called) 29 = .ok (.iload_n 1, 1) := by decide +kernel
theorem d_M_called_30 : decode (yMb m_M_called) 30 = .ok (.iload_n 2, 1) := by decide +kernel
theorem d_M_called_31 : decode (yMb m_M_called) 31 = .ok (.invokevirtual 116, 3) := by decide +kernel
theorem d_M_called_34 : decode (yMb m_M_called) 34 = .ok (.return_, 1) := by decide +kernel
theorem d_M_call_0 : decode (yMb m_M_call) 0 = .ok (.iload_n 1, 1) := by decide +kernel
theorem d_M_call_1 : decode (yMb m_M_call) 1 = .ok (.iconst 2, 1) := by decide +kernel
theorem d_M_call_2 : decode (yMb m_M_call) 2 = .ok (.imul, 1) := by decide +kernel
theorem d_M_call_3 : decode (yMb m_M_call) 3 = .ok (.iload_n 2, 1) := by decide +kernel
theorem d_M_call_4 : decode (yMb m_M_call) 4 = .ok (.iadd, 1) := by decide +kernel
theorem d_M_call_5 : decode (yMb m_M_call) 5 = .ok (.istore 4, 2) := by decide +kernel
theorem d_M_call_7 : decode (yMb m_M_call) 7 = .ok (.iconst 0, 1) := by decide +kernel
theorem d_M_call_8 : decode (yMb m_M_call) 8 = .ok (.istore 5, 2) := by decide +kernel
theorem d_M_call_10 : decode (yMb m_M_call) 10 = .ok (.iload 5, 2) := by decide +kernel
theorem d_M_call_12 : decode (yMb m_M_call) 12 = .ok (.iload_n 3, 1) := by decide +kernel
theorem d_M_call_13 : decode (yMb m_M_call) 13 = .ok (.if_icmp .ge 60, 3) := by decide +kernel
theorem d_M_call_16 : decode (yMb m_M_call) 16 = .ok (.aload_n 0, 1) := by decide +kernel
theorem d_M_call_17 : decode (yMb m_M_call) 17 = .ok (.getfield 62, 3) := by decide +kernel
theorem d_M_call_20 : decode (yMb m_M_call) 20 = .ok (.iload 4, 2) := by decide +kernel
theorem d_M_call_22 : decode (yMb m_M_call) 22 = .ok (.iaload, 1) := by decide +kernel
theorem d_M_call_23 : decode (yMb m_M_call) 23 = .ok (.ifCond .le 50, 3) := by decide +kernel
theorem d_M_call_26 : decode (yMb m_M_call) 26 = .ok (.aload_n 0, 1) := by decide +kernel
theorem d_M_call_27 : decode (yMb m_M_call) 27 = .ok (.getfield 65, 3) := by decide +kernel
theorem d_M_call_30 : decode (yMb m_M_call) 30 = .ok (.iload 4, 2) := by decide +kernel
theorem d_M_call_32 : decode (yMb m_M_call) 32 = .ok (.bipush 6, 2) := by decide +kernel
theorem d_M_call_34 : decode (yMb m_M_call) 34 = .ok (.imul, 1) := by decide +kernel
theorem d_M_call_35 : decode (yMb m_M_call) 35 = .ok (.iaload, 1) := by decide +kernel
theorem d_M_call_36 : decode (yMb m_M_call) 36 = .ok (.istore 6, 2) := by decide +kernel
theorem d_M_call_38 : decode (yMb m_M_call) 38 = .ok (.aload_n 0, 1) := by decide +kernel
theorem d_M_call_39 : decode (yMb m_M_call) 39 = .ok (.aload_n 0, 1) := by decide +kernel
theorem d_M_call_40 : decode (yMb m_M_call) 40 = .ok (.getfield 65, 3) := by decide +kernel
theorem d_M_call_43 : decode (yMb m_M_call) 43 = .ok (.iload 4, 2) := by decide +kernel
theorem d_M_call_45 : decode (yMb m_M_call) 45 = .ok (.bipush 6, 2) := by decide +kernel
theorem d_M_call_47 : decode (yMb m_M_call) 47 = .ok (.imul, 1) := by decide +kernel
theorem d_M_call_48 : decode (yMb m_M_call) 48 = .ok (.aload_n 0, 1) := by decide +kernel
theorem d_M_call_49 : decode (yMb m_M_call) 49 = .ok (.getfield 62, 3) := by decide +kernel
theorem d_M_call_52 : decode (yMb m_M_call) 52 = .ok (.iload 4, 2) := by decide +kernel
theorem d_M_call_54 : decode (yMb m_M_call) 54 = .ok (.iload 6, 2) := by decide +kernel
theorem d_M_call_56 : decode (yMb m_M_call) 56 = .ok (.invokevirtual 106, 3) := by decide +kernel
theorem d_M_call_59 : decode (yMb m_M_call) 59 = .ok (.aload_n 0, 1) := by decide +kernel
theorem d_M_call_60 : decode (yMb m_M_call) 60 = .ok (.iload 6, 2) := by decide +kernel
theorem d_M_call_62 : decode (yMb m_M_call) 62 = .ok (.iload_n 1, 1) := by decide +kernel
theorem d_M_call_63 : decode (yMb m_M_call) 63 = .ok (.iconst 0, 1) := by decide +kernel
theorem d_M_call_64 : decode (yMb m_M_call) 64 = .ok (.invokevirtual 120, 3) := by decide +kernel
theorem d_M_call_67 : decode (yMb m_M_call) 67 = .ok (.iinc 5 1, 3) := by decide +kernel
theorem d_M_call_70 : decode (yMb m_M_call) 70 = .ok (.goto (-60), 3) := by decide +kernel
theorem d_M_call_73 : decode (yMb m_M_call) 73 = .ok (.return_, 1) := by decide +kernel
theorem d_M_less_0 : decode (yMb m_M_less) 0 = .ok (.aload_n 0, 1) := by decide +kernel
theorem d_M_less_1 : decode (yMb m_M_less) 1 = .ok (.getfield 50, 3) := by decide +kernel
theorem d_M_less_4 : decode (yMb m_M_less) 4 = .ok (.iload_n 1, 1) := by decide +kernel
theorem d_M_less_5 : decode (yMb m_M_less) 5 = .ok (.dup2, 1) := by decide +kernel
theorem d_M_less_6 : decode (yMb m_M_less) 6 = .ok (.iaload, 1) := by decide +kernel
theorem d_M_less_7 : decode (yMb m_M_less) 7 = .ok (.iconst 1, 1) := by decide +kernel
theorem d_M_less_8 : decode (yMb m_M_less) 8 = .ok (.isub, 1) := by decide +kernel
theorem d_M_less_9 : decode (yMb m_M_less) 9 = .ok (.iastore, 1) := by decide +kernel
theorem d_M_less_10 : decode (yMb m_M_less) 10 = .ok (.aload_n 0, 1) := by decide +kernel
theorem d_M_less_11 : decode (yMb m_M_less) 11 = .ok (.getfield 50, 3) := by decide +kernel
theorem d_M_less_14 : decode (yMb m_M_less) 14 = .ok (.iload_n 1, 1) := by decide +kernel
theorem d_M_less_15 : decode (yMb m_M_less) 15 = .ok (.iaload, 1) := by decide +kernel
theorem d_M_less_16 : decode (yMb m_M_less) 16 = .ok (.ifCond .ne 10, 3) := by decide +kernel
theorem d_M_less_19 : decode (yMb m_M_less) 19 = .ok (.aload_n 0, 1) := by decide +kernel
theorem d_M_less_20 : decode (yMb m_M_less) 20 = .ok (.getfield 53, 3) := by decide +kernel
theorem d_M_less_23 : decode (yMb m_M_less) 23 = .ok (.iload_n 1, 1) := by decide +kernel
theorem d_M_less_24 : decode (yMb m_M_less) 24 = .ok (.iconst (-1), 1) := by decide +kernel
theorem d_M_less_25 : decode (yMb m_M_less) 25 = .ok (.iastore, 1) := by decide +kernel
theorem d_M_less_26 : decode (yMb m_M_less) 26 = .ok (.return_, 1) := by decide +kernel
theorem d_M_simple_0 : decode (yMb m_M_simple) 0 = .ok (.iload_n 3, 1) := by decide +kernel
theorem d_M_simple_1 : decode (yMb m_M_simple) 1 = .ok (.iconst 1, 1) := by decide +kernel
theorem d_M_simple_2 : decode (yMb m_M_simple) 2 = .ok (.if_icmp .eq 9, 3) := by decide +kernel
theorem d_M_simple_5 : decode (yMb m_M_simple) 5 = .ok (.iload_n 3, 1) := by decide +kernel
theorem d_M_simple_6 : decode (yMb m_M_simple) 6 = .ok (.bipush 8, 2) := by decide +kernel
theorem d_M_simple_8 : decode (yMb m_M_simple) 8 = .ok (.if_icmp .ne 8, 3) := by decide +kernel
theorem d_M_simple_11 : decode (yMb m_M_simple) 11 = .ok (.aload_n 0, 1) := by decide +kernel
theorem d_M_simple_12 : decode (yMb m_M_simple) 12 = .ok (.iload_n 2, 1) := by decide +kernel
theorem d_M_simple_13 : decode (yMb m_M_simple) 13 = .ok (.invokevirtual 123, 3) := by decide +kernel
theorem d_M_simple_16 : decode (yMb m_M_simple) 16 = .ok (.iload_n 3, 1) := by decide +kernel
theorem d_M_simple_17 : decode (yMb m_M_simple) 17 = .ok (.iconst 3, 1) := by decide +kernel
theorem d_M_simple_18 : decode (yMb m_M_simple) 18 = .ok (.if_icmp .ne 11, 3) := by decide +kernel
theorem d_M_simple_21 : decode (yMb m_M_simple) 21 = .ok (.aload_n 0, 1) := by decide +kernel
theorem d_M_simple_22 : decode (yMb m_M_simple) 22 = .ok (.iload_n 2, 1) := by decide +kernel
theorem d_M_simple_23 : decode (yMb m_M_simple) 23 = .ok (.iload 4, 2) := by decide +kernel
theorem d_M_simple_25 : decode (yMb m_M_simple) 25 = .ok (.iconst 1, 1) := by decide +kernel
theorem d_M_simple_26 : decode (yMb m_M_simple) 26 = .ok (.invokevirtual 127, 3) := by decide +kernel
theorem d_M_simple_29 : decode (yMb m_M_simple) 29 = .ok (.iload_n 3, 1) := by decide +kernel
theorem d_M_simple_30 : decode (yMb m_M_simple) 30 = .ok (.iconst 4, 1) := by decide +kernel
theorem d_M_simple_31 : decode (yMb m_M_simple) 31 = .ok (.if_icmp .ne 12, 3) := by decide +kernel
theorem d_M_simple_34 : decode (yMb m_M_simple) 34 = .ok (.aload_n 0, 1) := by decide +kernel
theorem d_M_simple_35 : decode (yMb m_M_simple) 35 = .ok (.iload_n 2, 1) := by decide +kernel
theorem d_M_simple_36 : decode (yMb m_M_simple) 36 = .ok (.iload 4, 2) := by decide +kernel
theorem d_M_simple_38 : decode (yMb m_M_simple) 38 = .ok (.bipush 6, 2) := by decide +kernel
theorem d_M_simple_40 : decode (yMb m_M_simple) 40 = .ok (.invokevirtual 127, 3) := by decide +kernel
theorem d_M_simple_43 : decode (yMb m_M_simple) 43 = .ok (.iload_n 3, 1) := by decide +kernel
theorem d_M_simple_44 : decode (yMb m_M_simple) 44 = .ok (.bipush 6, 2) := by decide +kernel
theorem d_M_simple_46 : decode (yMb m_M_simple) 46 = .ok (.if_icmp .ne 18, 3) := by decide +kernel
theorem d_M_simple_49 : decode (yMb m_M_simple) 49 = .ok (.aload_n 0, 1) := by decide +kernel
theorem d_M_simple_50 : decode (yMb m_M_simple) 50 = .ok (.getfield 68, 3) := by decide +kernel
theorem d_M_simple_53 : decode (yMb m_M_simple) 53 = .ok (.iload_n 2, 1) := by decide +kernel
theorem d_M_simple_54 : decode (yMb m_M_simple) 54 = .ok (.bipush 6, 2) := by decide +kernel
theorem d_M_simple_56 : decode (yMb m_M_simple) 56 = .ok (.imul, 1) := by decide +kernel
theorem d_M_simple_57 : decode (yMb m_M_simple) 57 = .ok (.iload_n 1, 1) := by decide +kernel
theorem d_M_simple_58 : decode (yMb m_M_simple) 58 = .ok (.iadd, 1) := by decide +kernel
theorem d_M_simple_59 : decode (yMb m_M_simple) 59 = .ok (.dup2, 1) := by decide +kernel
theorem d_M_simple_60 : decode (yMb m_M_simple) 60 = .ok (.iaload, 1) := by decide +kernel
theorem d_M_simple_61 : decode (yMb m_M_simple) 61 = .ok (.iconst 1, 1) := by decide +kernel
theorem d_M_simple_62 : decode (yMb m_M_simple) 62 = .ok (.isub, 1) := by decide +kernel
theorem d_M_simple_63 : decode (yMb m_M_simple) 63 = .ok (.iastore, 1) := by decide +kernel
theorem d_M_simple_64 : decode (yMb m_M_simple) 64 = .ok (.iload_n 3, 1) := by decide +kernel
theorem d_M_simple_65 : decode (yMb m_M_simple) 65 = .ok (.bipush 10, 2) := by decide +kernel
theorem d_M_simple_67 : decode (yMb m_M_simple) 67 = .ok (.if_icmp .ne 14, 3) := by decide +kernel
theorem d_M_simple_70 : decode (yMb m_M_simple) 70 = .ok (.aload_n 0, 1) := by decide +kernel
theorem d_M_simple_71 : decode (yMb m_M_simple) 71 = .ok (.getfield 50, 3) := by decide +kernel
theorem d_M_simple_74 : decode (yMb m_M_simple) 74 = .ok (.iload_n 2, 1) := by decide +kernel
theorem d_M_simple_75 : decode (yMb m_M_simple) 75 = .ok (.dup2, 1) := by decide +kernel
theorem d_M_simple_76 : decode (yMb m_M_simple) 76 = .ok (.iaload, 1) := by decide +kernel
theorem d_M_simple_77 : decode (yMb m_M_simple) 77 = .ok (.iload 4, 2) := by decide +kernel
theorem d_M_simple_79 : decode (yMb m_M_simple) 79 = .ok (.iadd, 1) := by decide +kernel
theorem d_M_simple_80 : decode (yMb m_M_simple) 80 = .ok (.iastore, 1) := by decide +kernel
theorem d_M_simple_81 : decode (yMb m_M_simple) 81 = .ok (.iload_n 3, 1) := by decide +kernel
theorem d_M_simple_82 : decode (yMb m_M_simple) 82 = .ok (.bipush 12, 2) := by decide +kernel
theorem d_M_simple_84 : decode (yMb m_M_simple) 84 = .ok (.if_icmp .ne 22, 3) := by decide +kernel
theorem d_M_simple_87 : decode (yMb m_M_simple) 87 = .ok (.aload_n 0, 1) := by decide +kernel
theorem d_M_simple_88 : decode (yMb m_M_simple) 88 = .ok (.getfield 50, 3) := by decide +kernel
theorem d_M_simple_91 : decode (yMb m_M_simple) 91 = .ok (.iload_n 2, 1) := by decide +kernel
theorem d_M_simple_92 : decode (yMb m_M_simple) 92 = .ok (.iaload, 1) := by decide +kernel
theorem d_M_simple_93 : decode (yMb m_M_simple) 93 = .ok (.ifCond .le 13, 3) := by decide +kernel
theorem d_M_simple_96 : decode (yMb m_M_simple) 96 = .ok (.aload_n 0, 1) := by decide +kernel
theorem d_M_simple_97 : decode (yMb m_M_simple) 97 = .ok (.getfield 50, 3) := by decide +kernel
theorem d_M_simple_100 : decode (yMb m_M_simple) 100 = .ok (.iload_n 2, 1) := by decide +kernel
theorem d_M_simple_101 : decode (yMb m_M_simple) 101 = .ok (.dup2, 1) := by decide +kernel
theorem d_M_simple_102 : decode (yMb m_M_simple) 102 = .ok (.iaload, 1) := by decide +kernel
theorem d_M_simple_103 : decode (yMb m_M_simple) 103 = .ok (.iconst 1, 1) := by decide +kernel
theorem d_M_simple_104 : decode (yMb m_M_simple) 104 = .ok (.isub, 1) := by decide +kernel
theorem d_M_simple_105 : decode (yMb m_M_simple) 105 = .ok (.iastore, 1) := by decide +kernel
theorem d_M_simple_106 : decode (yMb m_M_simple) 106 = .ok (.iload_n 3, 1) := by decide +kernel
theorem d_M_simple_107 : decode (yMb m_M_simple) 107 = .ok (.bipush 14, 2) := by decide +kernel
theorem d_M_simple_109 : decode (yMb m_M_simple) 109 = .ok (.if_icmp .ne 15, 3) := by decide +kernel
theorem d_M_simple_112 : decode (yMb m_M_simple) 112 = .ok (.aload_n 0, 1) := by decide +kernel
theorem d_M_simple_113 : decode (yMb m_M_simple) 113 = .ok (.iload_n 2, 1) := by decide +kernel
theorem d_M_simple_114 : decode (yMb m_M_simple) 114 = .ok (.invokevirtual 130, 3) := by decide +kernel
theorem d_M_simple_117 : decode (yMb m_M_simple) 117 = .ok (.aload_n 0, 1) := by decide +kernel
theorem d_M_simple_118 : decode (yMb m_M_simple) 118 = .ok (.getfield 77, 3) := by decide +kernel
theorem d_M_simple_121 : decode (yMb m_M_simple) 121 = .ok (.iload_n 2, 1) := by decide +kernel
theorem d_M_simple_122 : decode (yMb m_M_simple) 122 = .ok (.iconst 0, 1) := by decide +kernel
theorem d_M_simple_123 : decode (yMb m_M_simple) 123 = .ok (.bastore, 1) := by decide +kernel
theorem d_M_simple_124 : decode (yMb m_M_simple) 124 = .ok (.aload_n 0, 1) := by decide +kernel
theorem d_M_simple_125 : decode (yMb m_M_simple) 125 = .ok (.iload_n 1, 1) := by decide +kernel
theorem d_M_simple_126 : decode (yMb m_M_simple) 126 = .ok (.iconst 0, 1) := by decide +kernel
theorem d_M_simple_127 : decode (yMb m_M_simple) 127 = .ok (.invokevirtual 110, 3) := by decide +kernel
theorem d_M_simple_130 : decode (yMb m_M_simple) 130 = .ok (.istore 5, 2) := by decide +kernel
theorem d_M_simple_132 : decode (yMb m_M_simple) 132 = .ok (.aload_n 0, 1) := by decide +kernel
theorem d_M_simple_133 : decode (yMb m_M_simple) 133 = .ok (.iload_n 2, 1) := by decide +kernel
theorem d_M_simple_134 : decode (yMb m_M_simple) 134 = .ok (.invokevirtual 133, 3) := by decide +kernel
theorem d_M_simple_137 : decode (yMb m_M_simple) 137 = .ok (.iload 5, 2) := by decide +kernel
theorem d_M_simple_139 : decode (yMb m_M_simple) 139 = .ok (.ireturn, 1) := by decide +kernel
theorem d_M_arrive_0 : decode (yMb m_M_arrive) 0 = .ok (.aload_n 0, 1) := by decide +kernel
theorem d_M_arrive_1 : decode (yMb m_M_arrive) 1 = .ok (.getfield 77, 3) := by decide +kernel
theorem d_M_arrive_4 : decode (yMb m_M_arrive) 4 = .ok (.iload_n 2, 1) := by decide +kernel
theorem d_M_arrive_5 : decode (yMb m_M_arrive) 5 = .ok (.baload, 1) := by decide +kernel
theorem d_M_arrive_6 : decode (yMb m_M_arrive) 6 = .ok (.ifCond .eq 10, 3) := by decide +kernel
theorem d_M_arrive_9 : decode (yMb m_M_arrive) 9 = .ok (.aload_n 0, 1) := by decide +kernel
theorem d_M_arrive_10 : decode (yMb m_M_arrive) 10 = .ok (.iload_n 1, 1) := by decide +kernel
theorem d_M_arrive_11 : decode (yMb m_M_arrive) 11 = .ok (.iconst 3, 1) := by decide +kernel
theorem d_M_arrive_12 : decode (yMb m_M_arrive) 12 = .ok (.invokevirtual 110, 3) := by decide +kernel
theorem d_M_arrive_15 : decode (yMb m_M_arrive) 15 = .ok (.ireturn, 1) := by decide +kernel
theorem d_M_arrive_16 : decode (yMb m_M_arrive) 16 = .ok (.aload_n 0, 1) := by decide +kernel
theorem d_M_arrive_17 : decode (yMb m_M_arrive) 17 = .ok (.getfield 56, 3) := by decide +kernel
theorem d_M_arrive_20 : decode (yMb m_M_arrive) 20 = .ok (.iload_n 2, 1) := by decide +kernel
theorem d_M_arrive_21 : decode (yMb m_M_arrive) 21 = .ok (.iaload, 1) := by decide +kernel
theorem d_M_arrive_22 : decode (yMb m_M_arrive) 22 = .ok (.iconst 1, 1) := by decide +kernel
theorem d_M_arrive_23 : decode (yMb m_M_arrive) 23 = .ok (.iadd, 1) := by decide +kernel
theorem d_M_arrive_24 : decode (yMb m_M_arrive) 24 = .ok (.aload_n 0, 1) := by decide +kernel
theorem d_M_arrive_25 : decode (yMb m_M_arrive) 25 = .ok (.getfield 47, 3) := by decide +kernel
theorem d_M_arrive_28 : decode (yMb m_M_arrive) 28 = .ok (.iload_n 2, 1) := by decide +kernel
theorem d_M_arrive_29 : decode (yMb m_M_arrive) 29 = .ok (.iaload, 1) := by decide +kernel
theorem d_M_arrive_30 : decode (yMb m_M_arrive) 30 = .ok (.if_icmp .ge 5, 3) := by decide +kernel
theorem d_M_arrive_33 : decode (yMb m_M_arrive) 33 = .ok (.iconst (-1), 1) := by decide +kernel
theorem d_M_arrive_34 : decode (yMb m_M_arrive) 34 = .ok (.ireturn, 1) := by decide +kernel
theorem d_M_arrive_35 : decode (yMb m_M_arrive) 35 = .ok (.iconst 0, 1) := by decide +kernel
theorem d_M_arrive_36 : decode (yMb m_M_arrive) 36 = .ok (.istore_n 3, 1) := by decide +kernel
theorem d_M_arrive_37 : decode (yMb m_M_arrive) 37 = .ok (.iload_n 3, 1) := by decide +kernel
theorem d_M_arrive_38 : decode (yMb m_M_arrive) 38 = .ok (.aload_n 0, 1) := by decide +kernel
theorem d_M_arrive_39 : decode (yMb m_M_arrive) 39 = .ok (.getfield 56, 3) := by decide +kernel
theorem d_M_arrive_42 : decode (yMb m_M_arrive) 42 = .ok (.iload_n 2, 1) := by decide +kernel
theorem d_M_arrive_43 : decode (yMb m_M_arrive) 43 = .ok (.iaload, 1) := by decide +kernel
theorem d_M_arrive_44 : decode (yMb m_M_arrive) 44 = .ok (.if_icmp .ge 29, 3) := by decide +kernel
theorem d_M_arrive_47 : decode (yMb m_M_arrive) 47 = .ok (.aload_n 0, 1) := by decide +kernel
theorem d_M_arrive_48 : decode (yMb m_M_arrive) 48 = .ok (.aload_n 0, 1) := by decide +kernel
theorem d_M_arrive_49 : decode (yMb m_M_arrive) 49 = .ok (.aload_n 0, 1) := by decide +kernel
theorem d_M_arrive_50 : decode (yMb m_M_arrive) 50 = .ok (.getfield 59, 3) := by decide +kernel
theorem d_M_arrive_53 : decode (yMb m_M_arrive) 53 = .ok (.iload_n 2, 1) := by decide +kernel
theorem d_M_arrive_54 : decode (yMb m_M_arrive) 54 = .ok (.bipush 6, 2) := by decide +kernel
theorem d_M_arrive_56 : decode (yMb m_M_arrive) 56 = .ok (.imul, 1) := by decide +kernel
theorem d_M_arrive_57 : decode (yMb m_M_arrive) 57 = .ok (.iload_n 3, 1) := by decide +kernel
theorem d_M_arrive_58 : decode (yMb m_M_arrive) 58 = .ok (.iadd, 1) := by decide +kernel
theorem d_M_arrive_59 : decode (yMb m_M_arrive) 59 = .ok (.iaload, 1) := by decide +kernel
theorem d_M_arrive_60 : decode (yMb m_M_arrive) 60 = .ok (.iconst 0, 1) := by decide +kernel
theorem d_M_arrive_61 : decode (yMb m_M_arrive) 61 = .ok (.invokevirtual 110, 3) := by decide +kernel
theorem d_M_arrive_64 : decode (yMb m_M_arrive) 64 = .ok (.putfield 113, 3) := by decide +kernel
theorem d_M_arrive_67 : decode (yMb m_M_arrive) 67 = .ok (.iinc 3 1, 3) := by decide +kernel
theorem d_M_arrive_70 : decode (yMb m_M_arrive) 70 = .ok (.goto (-33), 3) := by decide +kernel
theorem d_M_arrive_73 : decode (yMb m_M_arrive) 73 = .ok (.aload_n 0, 1) := by decide +kernel
theorem d_M_arrive_74 : decode (yMb m_M_arrive) 74 = .ok (.getfield 56, 3) := by decide +kernel
theorem d_M_arrive_77 : decode (yMb m_M_arrive) 77 = .ok (.iload_n 2, 1) := by decide +kernel
theorem d_M_arrive_78 : decode (yMb m_M_arrive) 78 = .ok (.iconst 0, 1) := by decide +kernel
theorem d_M_arrive_79 : decode (yMb m_M_arrive) 79 = .ok (.iastore, 1) := by decide +kernel
theorem d_M_arrive_80 : decode (yMb m_M_arrive) 80 = .ok (.aload_n 0, 1) := by decide +kernel
theorem d_M_arrive_81 : decode (yMb m_M_arrive) 81 = .ok (.iload_n 1, 1) := by decide +kernel
theorem d_M_arrive_82 : decode (yMb m_M_arrive) 82 = .ok (.iconst 0, 1) := by decide +kernel
theorem d_M_arrive_83 : decode (yMb m_M_arrive) 83 = .ok (.invokevirtual 110, 3) := by decide +kernel
theorem d_M_arrive_86 : decode (yMb m_M_arrive) 86 = .ok (.ireturn, 1) := by decide +kernel
theorem d_M_waitAt_0 : decode (yMb m_M_waitAt) 0 = .ok (.iload_n 2, 1) := by decide +kernel
theorem d_M_waitAt_1 : decode (yMb m_M_waitAt) 1 = .ok (.iconst 2, 1) := by decide +kernel
theorem d_M_waitAt_2 : decode (yMb m_M_waitAt) 2 = .ok (.imul, 1) := by decide +kernel
theorem d_M_waitAt_3 : decode (yMb m_M_waitAt) 3 = .ok (.iload_n 3, 1) := by decide +kernel
theorem d_M_waitAt_4 : decode (yMb m_M_waitAt) 4 = .ok (.iadd, 1) := by decide +kernel
theorem d_M_waitAt_5 : decode (yMb m_M_waitAt) 5 = .ok (.istore 4, 2) := by decide +kernel
theorem d_M_waitAt_7 : decode (yMb m_M_waitAt) 7 = .ok (.aload_n 0, 1) := by decide +kernel
theorem d_M_waitAt_8 : decode (yMb m_M_waitAt) 8 = .ok (.getfield 31, 3) := by decide +kernel
theorem d_M_waitAt_11 : decode (yMb m_M_waitAt) 11 = .ok (.iload_n 1, 1) := by decide +kernel
theorem d_M_waitAt_12 : decode (yMb m_M_waitAt) 12 = .ok (.aload_n 0, 1) := by decide +kernel
theorem d_M_waitAt_13 : decode (yMb m_M_waitAt) 13 = .ok (.getfield 50, 3) := by decide +kernel
theorem d_M_waitAt_16 : decode (yMb m_M_waitAt) 16 = .ok (.iload_n 2, 1) := by decide +kernel
theorem d_M_waitAt_17 : decode (yMb m_M_waitAt) 17 = .ok (.iaload, 1) := by decide +kernel
theorem d_M_waitAt_18 : decode (yMb m_M_waitAt) 18 = .ok (.iastore, 1) := by decide +kernel
theorem d_M_waitAt_19 : decode (yMb m_M_waitAt) 19 = .ok (.aload_n 0, 1) := by decide +kernel
theorem d_M_waitAt_20 : decode (yMb m_M_waitAt) 20 = .ok (.getfield 50, 3) := by decide +kernel
theorem d_M_waitAt_23 : decode (yMb m_M_waitAt) 23 = .ok (.iload_n 2, 1) := by decide +kernel
theorem d_M_waitAt_24 : decode (yMb m_M_waitAt) 24 = .ok (.iconst 0, 1) := by decide +kernel
theorem d_M_waitAt_25 : decode (yMb m_M_waitAt) 25 = .ok (.iastore, 1) := by decide +kernel
theorem d_M_waitAt_26 : decode (yMb m_M_waitAt) 26 = .ok (.aload_n 0, 1) := by decide +kernel
theorem d_M_waitAt_27 : decode (yMb m_M_waitAt) 27 = .ok (.getfield 53, 3) := by decide +kernel
theorem d_M_waitAt_30 : decode (yMb m_M_waitAt) 30 = .ok (.iload_n 2, 1) := by decide +kernel
theorem d_M_waitAt_31 : decode (yMb m_M_waitAt) 31 = .ok (.iconst (-1), 1) := by decide +kernel
theorem d_M_waitAt_32 : decode (yMb m_M_waitAt) 32 = .ok (.iastore, 1) := by decide +kernel
theorem d_M_waitAt_33 : decode (yMb m_M_waitAt) 33 = .ok (.aload_n 0, 1) := by decide +kernel
theorem d_M_waitAt_34 : decode (yMb m_M_waitAt) 34 = .ok (.getfield 65, 3) := by decide +kernel
theorem d_M_waitAt_37 : decode (yMb m_M_waitAt) 37 = .ok (.iload 4, 2) := by decide +kernel
theorem d_M_waitAt_39 : decode (yMb m_M_waitAt) 39 = .ok (.bipush 6, 2) := by decide +kernel
theorem d_M_waitAt_41 : decode (yMb m_M_waitAt) 41 = .ok (.imul, 1) := by decide +kernel
theorem d_M_waitAt_42 : decode (yMb m_M_waitAt) 42 = .ok (.aload_n 0, 1) := by decide +kernel
theorem d_M_waitAt_43 : decode (yMb m_M_waitAt) 43 = .ok (.getfield 62, 3) := by decide +kernel
theorem d_M_waitAt_46 : decode (yMb m_M_waitAt) 46 = .ok (.iload 4, 2) := by decide +kernel
theorem d_M_waitAt_48 : decode (yMb m_M_waitAt) 48 = .ok (.iaload, 1) := by decide +kernel
theorem d_M_waitAt_49 : decode (yMb m_M_waitAt) 49 = .ok (.iadd, 1) := by decide +kernel
theorem d_M_waitAt_50 : decode (yMb m_M_waitAt) 50 = .ok (.iload_n 1, 1) := by decide +kernel
theorem d_M_waitAt_51 : decode (yMb m_M_waitAt) 51 = .ok (.iastore, 1) := by decide +kernel
theorem d_M_waitAt_52 : decode (yMb m_M_waitAt) 52 = .ok (.aload_n 0, 1) := by decide +kernel
theorem d_M_waitAt_53 : decode (yMb m_M_waitAt) 53 = .ok (.getfield 62, 3) := by decide +kernel
theorem d_M_waitAt_56 : decode (yMb m_M_waitAt) 56 = .ok (.iload 4, 2) := by decide +kernel
theorem d_M_waitAt_58 : decode (yMb m_M_waitAt) 58 = .ok (.dup2, 1) := by decide +kernel
theorem d_M_waitAt_59 : decode (yMb m_M_waitAt) 59 = .ok (.iaload, 1) := by decide +kernel
theorem d_M_waitAt_60 : decode (yMb m_M_waitAt) 60 = .ok (.iconst 1, 1) := by decide +kernel
theorem d_M_waitAt_61 : decode (yMb m_M_waitAt) 61 = .ok (.iadd, 1) := by decide +kernel
theorem d_M_waitAt_62 : decode (yMb m_M_waitAt) 62 = .ok (.iastore, 1) := by decide +kernel
theorem d_M_waitAt_63 : decode (yMb m_M_waitAt) 63 = .ok (.aload_n 0, 1) := by decide +kernel
theorem d_M_waitAt_64 : decode (yMb m_M_waitAt) 64 = .ok (.getfield 7, 3) := by decide +kernel
theorem d_M_waitAt_67 : decode (yMb m_M_waitAt) 67 = .ok (.iload_n 1, 1) := by decide +kernel
theorem d_M_waitAt_68 : decode (yMb m_M_waitAt) 68 = .ok (.iconst 2, 1) := by decide +kernel
theorem d_M_waitAt_69 : decode (yMb m_M_waitAt) 69 = .ok (.iastore, 1) := by decide +kernel
theorem d_M_waitAt_70 : decode (yMb m_M_waitAt) 70 = .ok (.aload_n 0, 1) := by decide +kernel
theorem d_M_waitAt_71 : decode (yMb m_M_waitAt) 71 = .ok (.getfield 16, 3) := by decide +kernel
theorem d_M_waitAt_74 : decode (yMb m_M_waitAt) 74 = .ok (.iload_n 1, 1) := by decide +kernel
theorem d_M_waitAt_75 : decode (yMb m_M_waitAt) 75 = .ok (.iload_n 2, 1) := by decide +kernel
theorem d_M_waitAt_76 : decode (yMb m_M_waitAt) 76 = .ok (.iastore, 1) := by decide +kernel
theorem d_M_waitAt_77 : decode (yMb m_M_waitAt) 77 = .ok (.aload_n 0, 1) := by decide +kernel
theorem d_M_waitAt_78 : decode (yMb m_M_waitAt) 78 = .ok (.iload_n 2, 1) := by decide +kernel
theorem d_M_waitAt_79 : decode (yMb m_M_waitAt) 79 = .ok (.invokevirtual 133, 3) := by decide +kernel
theorem d_M_waitAt_82 : decode (yMb m_M_waitAt) 82 = .ok (.iconst 1, 1) := by decide +kernel
theorem d_M_waitAt_83 : decode (yMb m_M_waitAt) 83 = .ok (.ireturn, 1) := by decide +kernel
theorem d_M_act_0 : decode (yMb m_M_act) 0 = .ok (.iload_n 1, 1) := by decide +kernel
theorem d_M_act_1 : decode (yMb m_M_act) 1 = .ok (.iconst 0, 1) := by decide +kernel
theorem d_M_act_2 : decode (yMb m_M_act) 2 = .ok (.iconst 5, 1) := by decide +kernel
theorem d_M_act_3 : decode (yMb m_M_act) 3 = .ok (.invokestatic 84, 3) := by decide +kernel
theorem d_M_act_6 : decode (yMb m_M_act) 6 = .ok (.ifCond .eq 42, 3) := by decide +kernel
theorem d_M_act_9 : decode (yMb m_M_act) 9 = .ok (.iload_n 2, 1) := by decide +kernel
theorem d_M_act_10 : decode (yMb m_M_act) 10 = .ok (.iconst 0, 1) := by decide +kernel
theorem d_M_act_11 : decode (yMb m_M_act) 11 = .ok (.aload_n 0, 1) := by decide +kernel
theorem d_M_act_12 : decode (yMb m_M_act) 12 = .ok (.getfield 92, 3) := by decide +kernel
theorem d_M_act_15 : decode (yMb m_M_act) 15 = .ok (.iconst 1, 1) := by decide +kernel
theorem d_M_act_16 : decode (yMb m_M_act) 16 = .ok (.isub, 1) := by decide +kernel
theorem d_M_act_17 : decode (yMb m_M_act) 17 = .ok (.invokestatic 84, 3) := by decide +kernel
theorem d_M_act_20 : decode (yMb m_M_act) 20 = .ok (.ifCond .eq 28, 3) := by decide +kernel
theorem d_M_act_23 : decode (yMb m_M_act) 23 = .ok (.iload_n 3, 1) := by decide +kernel
theorem d_M_act_24 : decode (yMb m_M_act) 24 = .ok (.iconst 0, 1) := by decide +kernel
theorem d_M_act_25 : decode (yMb m_M_act) 25 = .ok (.bipush 16, 2) := by decide +kernel
theorem d_M_act_27 : decode (yMb m_M_act) 27 = .ok (.invokestatic 84, 3) := by decide +kernel
theorem d_M_act_30 : decode (yMb m_M_act) 30 = .ok (.ifCond .eq 18, 3) := by decide +kernel
theorem d_M_act_33 : decode (yMb m_M_act) 33 = .ok (.iload 5, 2) := by decide +kernel
theorem d_M_act_35 : decode (yMb m_M_act) 35 = .ok (.iconst (-1), 1) := by decide +kernel
theorem d_M_act_36 : decode (yMb m_M_act) 36 = .ok (.bipush 100, 2) := by decide +kernel
theorem d_M_act_38 : decode (yMb m_M_act) 38 = .ok (.invokestatic 84, 3) := by decide +kernel
theorem d_M_act_41 : decode (yMb m_M_act) 41 = .ok (.ifCond .eq 7, 3) := by decide +kernel
theorem d_M_act_44 : decode (yMb m_M_act) 44 = .ok (.iconst 1, 1) := by decide +kernel
theorem d_M_act_45 : decode (yMb m_M_act) 45 = .ok (.goto 4, 3) := by decide +kernel
theorem d_M_act_48 : decode (yMb m_M_act) 48 = .ok (.iconst 0, 1) := by decide +kernel
theorem d_M_act_49 : decode (yMb m_M_act) 49 = .ok (.istore 6, 2) := by decide +kernel
theorem d_M_act_51 : decode (yMb m_M_act) 51 = .ok (.iload_n 3, 1) := by decide +kernel
theorem d_M_act_52 : decode (yMb m_M_act) 52 = .ok (.iconst 2, 1) := by decide +kernel
theorem d_M_act_53 : decode (yMb m_M_act) 53 = .ok (.iconst 4, 1) := by decide +kernel
theorem d_M_act_54 : decode (yMb m_M_act) 54 = .ok (.invokestatic 84, 3) := by decide +kernel
theorem d_M_act_57 : decode (yMb m_M_act) 57 = .ok (.ifCond .eq 13, 3) := by decide +kernel
theorem d_M_act_60 : decode (yMb m_M_act) 60 = .ok (.iload 4, 2) := by decide +kernel
theorem d_M_act_62 : decode (yMb m_M_act) 62 = .ok (.iconst 0, 1) := by decide +kernel
theorem d_M_act_63 : decode (yMb m_M_act) 63 = .ok (.iconst 1, 1) := by decide +kernel
theorem d_M_act_64 : decode (yMb m_M_act) 64 = .ok (.invokestatic 84, 3) := by decide +kernel
theorem d_M_act_67 : decode (yMb m_M_act) 67 = .ok (.ifCond .eq 25, 3) := by decide +kernel
theorem d_M_act_70 : decode (yMb m_M_act) 70 = .ok (.iload_n 3, 1) := by decide +kernel
theorem d_M_act_71 : decode (yMb m_M_act) 71 = .ok (.bipush 9, 2) := by decide +kernel
theorem d_M_act_73 : decode (yMb m_M_act) 73 = .ok (.if_icmp .eq 9, 3) := by decide +kernel
theorem d_M_act_76 : decode (yMb m_M_act) 76 = .ok (.iload_n 3, 1) := by decide +kernel
theorem d_M_act_77 : decode (yMb m_M_act) 77 = .ok (.bipush 10, 2) := by decide +kernel
theorem d_M_act_79 : decode (yMb m_M_act) 79 = .ok (.if_icmp .ne 16, 3) := by decide +kernel
theorem d_M_act_82 : decode (yMb m_M_act) 82 = .ok (.iload 4, 2) := by decide +kernel
theorem d_M_act_84 : decode (yMb m_M_act) 84 = .ok (.iconst 1, 1) := by decide +kernel
theorem d_M_act_85 : decode (yMb m_M_act) 85 = .ok (.iconst 3, 1) := by decide +kernel
theorem d_M_act_86 : decode (yMb m_M_act) 86 = .ok (.invokestatic 84, 3) := by decide +kernel
theorem d_M_act_89 : decode (yMb m_M_act) 89 = .ok (.ifCond .ne 6, 3) := by decide +kernel
theorem d_M_act_92 : decode (yMb m_M_act) 92 = .ok (.iconst 0, 1) := by decide +kernel
theorem d_M_act_93 : decode (yMb m_M_act) 93 = .ok (.istore 6, 2) := by decide +kernel
theorem d_M_act_95 : decode (yMb m_M_act) 95 = .ok (.aload_n 0, 1) := by decide +kernel
theorem d_M_act_96 : decode (yMb m_M_act) 96 = .ok (.iload 6, 2) := by decide +kernel
theorem d_M_act_98 : decode (yMb m_M_act) 98 = .ok (.invokevirtual 88, 3) := by decide +kernel
theorem d_M_act_101 : decode (yMb m_M_act) 101 = .ok (.ifCond .eq 5, 3) := by decide +kernel
theorem d_M_act_104 : decode (yMb m_M_act) 104 = .ok (.iconst 0, 1) := by decide +kernel
theorem d_M_act_105 : decode (yMb m_M_act) 105 = .ok (.ireturn, 1) := by decide +kernel
theorem d_M_act_106 : decode (yMb m_M_act) 106 = .ok (.aload_n 0, 1) := by decide +kernel
theorem d_M_act_107 : decode (yMb m_M_act) 107 = .ok (.aload_n 0, 1) := by decide +kernel
theorem d_M_act_108 : decode (yMb m_M_act) 108 = .ok (.getfield 44, 3) := by decide +kernel
theorem d_M_act_111 : decode (yMb m_M_act) 111 = .ok (.iload_n 2, 1) := by decide +kernel
theorem d_M_act_112 : decode (yMb m_M_act) 112 = .ok (.iaload, 1) := by decide +kernel
theorem d_M_act_113 : decode (yMb m_M_act) 113 = .ok (.iload_n 3, 1) := by decide +kernel
theorem d_M_act_114 : decode (yMb m_M_act) 114 = .ok (.invokevirtual 136, 3) := by decide +kernel
theorem d_M_act_117 : decode (yMb m_M_act) 117 = .ok (.ifCond .ne 11, 3) := by decide +kernel
theorem d_M_act_120 : decode (yMb m_M_act) 120 = .ok (.aload_n 0, 1) := by decide +kernel
theorem d_M_act_121 : decode (yMb m_M_act) 121 = .ok (.iconst 3, 1) := by decide +kernel
theorem d_M_act_122 : decode (yMb m_M_act) 122 = .ok (.putfield 80, 3) := by decide +kernel
theorem d_M_act_125 : decode (yMb m_M_act) 125 = .ok (.goto 20, 3) := by decide +kernel
theorem d_M_act_128 : decode (yMb m_M_act) 128 = .ok (.aload_n 0, 1) := by decide +kernel
theorem d_M_act_129 : decode (yMb m_M_act) 129 = .ok (.iload_n 1, 1) := by decide +kernel
theorem d_M_act_130 : decode (yMb m_M_act) 130 = .ok (.iload_n 2, 1) := by decide +kernel
theorem d_M_act_131 : decode (yMb m_M_act) 131 = .ok (.iload_n 3, 1) := by decide +kernel
theorem d_M_act_132 : decode (yMb m_M_act) 132 = .ok (.iload 4, 2) := by decide +kernel
theorem d_M_act_134 : decode (yMb m_M_act) 134 = .ok (.invokevirtual 140, 3) := by decide +kernel
theorem d_M_act_137 : decode (yMb m_M_act) 137 = .ok (.ifCond .eq 8, 3) := by decide +kernel
theorem d_M_act_140 : decode (yMb m_M_act) 140 = .ok (.aload_n 0, 1) := by decide +kernel
theorem d_M_act_141 : decode (yMb m_M_act) 141 = .ok (.iconst 2, 1) := by decide +kernel
theorem d_M_act_142 : decode (yMb m_M_act) 142 = .ok (.putfield 80, 3) := by decide +kernel
theorem d_M_act_145 : decode (yMb m_M_act) 145 = .ok (.aload_n 0, 1) := by decide +kernel
theorem d_M_act_146 : decode (yMb m_M_act) 146 = .ok (.getfield 80, 3) := by decide +kernel
theorem d_M_act_149 : decode (yMb m_M_act) 149 = .ok (.ifCond .le 5, 3) := by decide +kernel
theorem d_M_act_152 : decode (yMb m_M_act) 152 = .ok (.iconst 0, 1) := by decide +kernel
theorem d_M_act_153 : decode (yMb m_M_act) 153 = .ok (.ireturn, 1) := by decide +kernel
theorem d_M_act_154 : decode (yMb m_M_act) 154 = .ok (.iload_n 3, 1) := by decide +kernel
theorem d_M_act_155 : decode (yMb m_M_act) 155 = .ok (.iconst 1, 1) := by decide +kernel
theorem d_M_act_156 : decode (yMb m_M_act) 156 = .ok (.if_icmp .eq 43, 3) := by decide +kernel
theorem d_M_act_159 : decode (yMb m_M_act) 159 = .ok (.iload_n 3, 1) := by decide +kernel
theorem d_M_act_160 : decode (yMb m_M_act) 160 = .ok (.iconst 3, 1) := by decide +kernel
theorem d_M_act_161 : decode (yMb m_M_act) 161 = .ok (.if_icmp .eq 38, 3) := by decide +kernel
theorem d_M_act_164 : decode (yMb m_M_act) 164 = .ok (.iload_n 3, 1) := by decide +kernel
theorem d_M_act_165 : decode (yMb m_M_act) 165 = .ok (.iconst 4, 1) := by decide +kernel
theorem d_M_act_166 : decode (yMb m_M_act) 166 = .ok (.if_icmp .eq 33, 3) := by decide +kernel
theorem d_M_act_169 : decode (yMb m_M_act) 169 = .ok (.iload_n 3, 1) := by decide +kernel
theorem d_M_act_170 : decode (yMb m_M_act) 170 = .ok (.bipush 6, 2) := by decide +kernel
theorem d_M_act_172 : decode (yMb m_M_act) 172 = .ok (.if_icmp .eq 27, 3) := by decide +kernel
theorem d_M_act_175 : decode (yMb m_M_act) 175 = .ok (.iload_n 3, 1) := by decide +kernel
theorem d_M_act_176 : decode (yMb m_M_act) 176 = .ok (.bipush 8, 2) := by decide +kernel
theorem d_M_act_178 : decode (yMb m_M_act) 178 = .ok (.if_icmp .eq 21, 3) := by decide +kernel
theorem d_M_act_181 : decode (yMb m_M_act) 181 = .ok (.iload_n 3, 1) := by decide +kernel
theorem d_M_act_182 : decode (yMb m_M_act) 182 = .ok (.bipush 10, 2) := by decide +kernel
theorem d_M_act_184 : decode (yMb m_M_act) 184 = .ok (.if_icmp .eq 15, 3) := by decide +kernel
theorem d_M_act_187 : decode (yMb m_M_act) 187 = .ok (.iload_n 3, 1) := by decide +kernel
theorem d_M_act_188 : decode (yMb m_M_act) 188 = .ok (.bipush 12, 2) := by decide +kernel
theorem d_M_act_190 : decode (yMb m_M_act) 190 = .ok (.if_icmp .eq 9, 3) := by decide +kernel
theorem d_M_act_193 : decode (yMb m_M_act) 193 = .ok (.iload_n 3, 1) := by decide +kernel
theorem d_M_act_194 : decode (yMb m_M_act) 194 = .ok (.bipush 14, 2) := by decide +kernel
theorem d_M_act_196 : decode (yMb m_M_act) 196 = .ok (.if_icmp .ne 13, 3) := by decide +kernel
theorem d_M_act_199 : decode (yMb m_M_act) 199 = .ok (.aload_n 0, 1) := by decide +kernel
theorem d_M_act_200 : decode (yMb m_M_act) 200 = .ok (.iload_n 1, 1) := by decide +kernel
theorem d_M_act_201 : decode (yMb m_M_act) 201 = .ok (.iload_n 2, 1) := by decide +kernel
theorem d_M_act_202 : decode (yMb m_M_act) 202 = .ok (.iload_n 3, 1) := by decide +kernel
theorem d_M_act_203 : decode (yMb m_M_act) 203 = .ok (.iload 4, 2) := by decide +kernel
theorem d_M_act_205 : decode (yMb m_M_act) 205 = .ok (.invokevirtual 144, 3) := by decide +kernel
theorem d_M_act_208 : decode (yMb m_M_act) 208 = .ok (.ireturn, 1) := by decide +kernel
theorem d_M_act_209 : decode (yMb m_M_act) 209 = .ok (.aload_n 0, 1) := by decide +kernel
theorem d_M_act_210 : decode (yMb m_M_act) 210 = .ok (.getfield 25, 3) := by decide +kernel
theorem d_M_act_213 : decode (yMb m_M_act) 213 = .ok (.iload_n 1, 1) := by decide +kernel
theorem d_M_act_214 : decode (yMb m_M_act) 214 = .ok (.iload_n 3, 1) := by decide +kernel
theorem d_M_act_215 : decode (yMb m_M_act) 215 = .ok (.iastore, 1) := by decide +kernel
theorem d_M_act_216 : decode (yMb m_M_act) 216 = .ok (.aload_n 0, 1) := by decide +kernel
theorem d_M_act_217 : decode (yMb m_M_act) 217 = .ok (.getfield 28, 3) := by decide +kernel
theorem d_M_act_220 : decode (yMb m_M_act) 220 = .ok (.iload_n 1, 1) := by decide +kernel
theorem d_M_act_221 : decode (yMb m_M_act) 221 = .ok (.iload 4, 2) := by decide +kernel
theorem d_M_act_223 : decode (yMb m_M_act) 223 = .ok (.iastore, 1) := by decide +kernel
theorem d_M_act_224 : decode (yMb m_M_act) 224 = .ok (.aload_n 0, 1) := by decide +kernel
theorem d_M_act_225 : decode (yMb m_M_act) 225 = .ok (.getfield 41, 3) := by decide +kernel
theorem d_M_act_228 : decode (yMb m_M_act) 228 = .ok (.iload_n 1, 1) := by decide +kernel
theorem d_M_act_229 : decode (yMb m_M_act) 229 = .ok (.iconst 0, 1) := by decide +kernel
theorem d_M_act_230 : decode (yMb m_M_act) 230 = .ok (.bastore, 1) := by decide +kernel
theorem d_M_act_231 : decode (yMb m_M_act) 231 = .ok (.aload_n 0, 1) := by decide +kernel
theorem d_M_act_232 : decode (yMb m_M_act) 232 = .ok (.getfield 44, 3) := by decide +kernel
theorem d_M_act_235 : decode (yMb m_M_act) 235 = .ok (.iload_n 2, 1) := by decide +kernel
theorem d_M_act_236 : decode (yMb m_M_act) 236 = .ok (.iaload, 1) := by decide +kernel
theorem d_M_act_237 : decode (yMb m_M_act) 237 = .ok (.ifCond .eq 13, 3) := by decide +kernel
theorem d_M_act_240 : decode (yMb m_M_act) 240 = .ok (.aload_n 0, 1) := by decide +kernel
theorem d_M_act_241 : decode (yMb m_M_act) 241 = .ok (.getfield 44, 3) := by decide +kernel
theorem d_M_act_244 : decode (yMb m_M_act) 244 = .ok (.iload_n 2, 1) := by decide +kernel
theorem d_M_act_245 : decode (yMb m_M_act) 245 = .ok (.iaload, 1) := by decide +kernel
theorem d_M_act_246 : decode (yMb m_M_act) 246 = .ok (.iconst 1, 1) := by decide +kernel
theorem d_M_act_247 : decode (yMb m_M_act) 247 = .ok (.if_icmp .ne 17, 3) := by decide +kernel
theorem d_M_act_250 : decode (yMb m_M_act) 250 = .ok (.aload_n 0, 1) := by decide +kernel
theorem d_M_act_251 : decode (yMb m_M_act) 251 = .ok (.getfield 53, 3) := by decide +kernel
theorem d_M_act_254 : decode (yMb m_M_act) 254 = .ok (.iload_n 2, 1) := by decide +kernel
theorem d_M_act_255 : decode (yMb m_M_act) 255 = .ok (.iaload, 1) := by decide +kernel
theorem d_M_act_256 : decode (yMb m_M_act) 256 = .ok (.iload_n 1, 1) := by decide +kernel
theorem d_M_act_257 : decode (yMb m_M_act) 257 = .ok (.if_icmp .ne 7, 3) := by decide +kernel
theorem d_M_act_260 : decode (yMb m_M_act) 260 = .ok (.iconst 1, 1) := by decide +kernel
theorem d_M_act_261 : decode (yMb m_M_act) 261 = .ok (.goto 4, 3) := by decide +kernel
theorem d_M_act_264 : decode (yMb m_M_act) 264 = .ok (.iconst 0, 1) := by decide +kernel
theorem d_M_act_265 : decode (yMb m_M_act) 265 = .ok (.istore 7, 2) := by decide +kernel
theorem d_M_act_267 : decode (yMb m_M_act) 267 = .ok (.iload_n 3, 1) := by decide +kernel
theorem d_M_act_268 : decode (yMb m_M_act) 268 = .ok (.iconst 2, 1) := by decide +kernel
theorem d_M_act_269 : decode (yMb m_M_act) 269 = .ok (.if_icmp .eq 56, 3) := by decide +kernel
theorem d_M_act_272 : decode (yMb m_M_act) 272 = .ok (.iload_n 3, 1) := by decide +kernel
theorem d_M_act_273 : decode (yMb m_M_act) 273 = .ok (.bipush 13, 2) := by decide +kernel
theorem d_M_act_275 : decode (yMb m_M_act) 275 = .ok (.if_icmp .eq 50, 3) := by decide +kernel
theorem d_M_act_278 : decode (yMb m_M_act) 278 = .ok (.aload_n 0, 1) := by decide +kernel
theorem d_M_act_279 : decode (yMb m_M_act) 279 = .ok (.iload_n 1, 1) := by decide +kernel
theorem d_M_act_280 : decode (yMb m_M_act) 280 = .ok (.iload_n 2, 1) := by decide +kernel
theorem d_M_act_281 : decode (yMb m_M_act) 281 = .ok (.iload_n 3, 1) := by decide +kernel
theorem d_M_act_282 : decode (yMb m_M_act) 282 = .ok (.invokevirtual 99, 3) := by decide +kernel
theorem d_M_act_285 : decode (yMb m_M_act) 285 = .ok (.ifCond .eq 40, 3) := by decide +kernel
theorem d_M_act_288 : decode (yMb m_M_act) 288 = .ok (.iload 7, 2) := by decide +kernel
theorem d_M_act_290 : decode (yMb m_M_act) 290 = .ok (.ifCond .ne 12, 3) := by decide +kernel
theorem d_M_act_293 : decode (yMb m_M_act) 293 = .ok (.aload_n 0, 1) := by decide +kernel
theorem d_M_act_294 : decode (yMb m_M_act) 294 = .ok (.iload_n 2, 1) := by decide +kernel
theorem d_M_act_295 : decode (yMb m_M_act) 295 = .ok (.iload_n 3, 1) := by decide +kernel
theorem d_M_act_296 : decode (yMb m_M_act) 296 = .ok (.invokevirtual 148, 3) := by decide +kernel
theorem d_M_act_299 : decode (yMb m_M_act) 299 = .ok (.ifCond .ne 26, 3) := by decide +kernel
theorem d_M_act_302 : decode (yMb m_M_act) 302 = .ok (.aload_n 0, 1) := by decide +kernel
theorem d_M_act_303 : decode (yMb m_M_act) 303 = .ok (.iload_n 1, 1) := by decide +kernel
theorem d_M_act_304 : decode (yMb m_M_act) 304 = .ok (.iload_n 2, 1) := by decide +kernel
theorem d_M_act_305 : decode (yMb m_M_act) 305 = .ok (.iload_n 3, 1) := by decide +kernel
theorem d_M_act_306 : decode (yMb m_M_act) 306 = .ok (.invokevirtual 102, 3) := by decide +kernel
theorem d_M_act_309 : decode (yMb m_M_act) 309 = .ok (.aload_n 0, 1) := by decide +kernel
theorem d_M_act_310 : decode (yMb m_M_act) 310 = .ok (.iload_n 1, 1) := by decide +kernel
theorem d_M_act_311 : decode (yMb m_M_act) 311 = .ok (.iconst 0, 1) := by decide +kernel
theorem d_M_act_312 : decode (yMb m_M_act) 312 = .ok (.invokevirtual 110, 3) := by decide +kernel
theorem d_M_act_315 : decode (yMb m_M_act) 315 = .ok (.istore 8, 2) := by decide +kernel
theorem d_M_act_317 : decode (yMb m_M_act) 317 = .ok (.aload_n 0, 1) := by decide +kernel
theorem d_M_act_318 : decode (yMb m_M_act) 318 = .ok (.iload_n 2, 1) := by decide +kernel
theorem d_M_act_319 : decode (yMb m_M_act) 319 = .ok (.invokevirtual 133, 3) := by decide +kernel
theorem d_M_act_322 : decode (yMb m_M_act) 322 = .ok (.iload 8, 2) := by decide +kernel
theorem d_M_act_324 : decode (yMb m_M_act) 324 = .ok (.ireturn, 1) := by decide +kernel
theorem d_M_act_325 : decode (yMb m_M_act) 325 = .ok (.iload_n 3, 1) := by decide +kernel
theorem d_M_act_326 : decode (yMb m_M_act) 326 = .ok (.bipush 13, 2) := by decide +kernel
theorem d_M_act_328 : decode (yMb m_M_act) 328 = .ok (.if_icmp .ne 12, 3) := by decide +kernel
theorem d_M_act_331 : decode (yMb m_M_act) 331 = .ok (.aload_n 0, 1) := by decide +kernel
theorem d_M_act_332 : decode (yMb m_M_act) 332 = .ok (.iload_n 1, 1) := by decide +kernel
theorem d_M_act_333 : decode (yMb m_M_act) 333 = .ok (.iload_n 2, 1) := by decide +kernel
theorem d_M_act_334 : decode (yMb m_M_act) 334 = .ok (.invokevirtual 151, 3) := by decide +kernel
theorem d_M_act_337 : decode (yMb m_M_act) 337 = .ok (.goto 4, 3) := by decide +kernel
theorem d_M_act_340 : decode (yMb m_M_act) 340 = .ok (.iconst (-1), 1) := by decide +kernel
theorem d_M_act_341 : decode (yMb m_M_act) 341 = .ok (.istore 8, 2) := by decide +kernel
theorem d_M_act_343 : decode (yMb m_M_act) 343 = .ok (.iload 8, 2) := by decide +kernel
theorem d_M_act_345 : decode (yMb m_M_act) 345 = .ok (.ifCond .lt 6, 3) := by decide +kernel
theorem d_M_act_348 : decode (yMb m_M_act) 348 = .ok (.iload 8, 2) := by decide +kernel
theorem d_M_act_350 : decode (yMb m_M_act) 350 = .ok (.ireturn, 1) := by decide +kernel
theorem d_M_act_351 : decode (yMb m_M_act) 351 = .ok (.aload_n 0, 1) := by decide +kernel
theorem d_M_act_352 : decode (yMb m_M_act) 352 = .ok (.getfield 37, 3) := by decide +kernel
theorem d_M_act_355 : decode (yMb m_M_act) 355 = .ok (.iload_n 1, 1) := by decide +kernel
theorem d_M_act_356 : decode (yMb m_M_act) 356 = .ok (.baload, 1) := by decide +kernel
theorem d_M_act_357 : decode (yMb m_M_act) 357 = .ok (.ifCond .ne 8, 3) := by decide +kernel
theorem d_M_act_360 : decode (yMb m_M_act) 360 = .ok (.iload 5, 2) := by decide +kernel
theorem d_M_act_362 : decode (yMb m_M_act) 362 = .ok (.ifCond .ne 11, 3) := by decide +kernel
theorem d_M_act_365 : decode (yMb m_M_act) 365 = .ok (.aload_n 0, 1) := by decide +kernel
theorem d_M_act_366 : decode (yMb m_M_act) 366 = .ok (.iload_n 1, 1) := by decide +kernel
theorem d_M_act_367 : decode (yMb m_M_act) 367 = .ok (.iload_n 2, 1) := by decide +kernel
theorem d_M_act_368 : decode (yMb m_M_act) 368 = .ok (.iload_n 3, 1) := by decide +kernel
theorem d_M_act_369 : decode (yMb m_M_act) 369 = .ok (.invokevirtual 154, 3) := by decide +kernel
theorem d_M_act_372 : decode (yMb m_M_act) 372 = .ok (.ireturn, 1) := by decide +kernel
theorem d_M_act_373 : decode (yMb m_M_act) 373 = .ok (.aload_n 0, 1) := by decide +kernel
theorem d_M_act_374 : decode (yMb m_M_act) 374 = .ok (.getfield 13, 3) := by decide +kernel
theorem d_M_act_377 : decode (yMb m_M_act) 377 = .ok (.iload_n 1, 1) := by decide +kernel
theorem d_M_act_378 : decode (yMb m_M_act) 378 = .ok (.iconst 1, 1) := by decide +kernel
theorem d_M_act_379 : decode (yMb m_M_act) 379 = .ok (.iastore, 1) := by decide +kernel
theorem d_M_act_380 : decode (yMb m_M_act) 380 = .ok (.aload_n 0, 1) := by decide +kernel
theorem d_M_act_381 : decode (yMb m_M_act) 381 = .ok (.getfield 22, 3) := by decide +kernel
theorem d_M_act_384 : decode (yMb m_M_act) 384 = .ok (.iload_n 1, 1) := by decide +kernel
theorem d_M_act_385 : decode (yMb m_M_act) 385 = .ok (.iload 5, 2) := by decide +kernel
theorem d_M_act_387 : decode (yMb m_M_act) 387 = .ok (.iastore, 1) := by decide +kernel
theorem d_M_act_388 : decode (yMb m_M_act) 388 = .ok (.iload_n 3, 1) := by decide +kernel
theorem d_M_act_389 : decode (yMb m_M_act) 389 = .ok (.iconst 2, 1) := by decide +kernel
theorem d_M_act_390 : decode (yMb m_M_act) 390 = .ok (.if_icmp .ne 12, 3) := by decide +kernel
theorem d_M_act_393 : decode (yMb m_M_act) 393 = .ok (.aload_n 0, 1) := by decide +kernel
theorem d_M_act_394 : decode (yMb m_M_act) 394 = .ok (.iload_n 1, 1) := by decide +kernel
theorem d_M_act_395 : decode (yMb m_M_act) 395 = .ok (.iload_n 2, 1) := by decide +kernel
theorem d_M_act_396 : decode (yMb m_M_act) 396 = .ok (.iload 4, 2) := by decide +kernel
theorem d_M_act_398 : decode (yMb m_M_act) 398 = .ok (.invokevirtual 158, 3) := by decide +kernel
theorem d_M_act_401 : decode (yMb m_M_act) 401 = .ok (.ireturn, 1) := by decide +kernel
theorem d_M_act_402 : decode (yMb m_M_act) 402 = .ok (.aload_n 0, 1) := by decide +kernel
theorem d_M_act_403 : decode (yMb m_M_act) 403 = .ok (.iload_n 1, 1) := by decide +kernel
theorem d_M_act_404 : decode (yMb m_M_act) 404 = .ok (.iload_n 2, 1) := by decide +kernel
theorem d_M_act_405 : decode (yMb m_M_act) 405 = .ok (.invokevirtual 116, 3) := by decide +kernel
theorem d_M_act_408 : decode (yMb m_M_act) 408 = .ok (.iconst 1, 1) := by decide +kernel
theorem d_M_act_409 : decode (yMb m_M_act) 409 = .ok (.ireturn, 1) := by decide +kernel
