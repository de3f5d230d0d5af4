theorem d_Y_init_0 : decode (yMb m_Y_init) 0 = .ok (.aload_n 0, 1) := by decide +kernel
theorem d_Y_init_1 : decode (yMb m_Y_init) 1 = .ok (.invokespecial 1, 3) := by decide +kernel
theorem d_Y_init_4 : decode (yMb m_Y_init) 4 = .ok (.aload_n 0, 1) := by decide +kernel
theorem d_Y_init_5 : decode (yMb m_Y_init) 5 = .ok (.bipush 6, 2) := by decide +kernel
theorem d_Y_init_7 : decode (yMb m_Y_init) 7 = .ok (.anewarray 9, 3) := by decide +kernel
theorem d_Y_init_10 : decode (yMb m_Y_init) 10 = .ok (.putfield 11, 3) := by decide +kernel
theorem d_Y_init_13 : decode (yMb m_Y_init) 13 = .ok (.aload_n 0, 1) := by decide +kernel
theorem d_Y_init_14 : decode (yMb m_Y_init) 14 = .ok (.bipush 6, 2) := by decide +kernel
theorem d_Y_init_16 : decode (yMb m_Y_init) 16 = .ok (.anewarray 15, 3) := by decide +kernel
theorem d_Y_init_19 : decode (yMb m_Y_init) 19 = .ok (.putfield 17, 3) := by decide +kernel
theorem d_Y_init_22 : decode (yMb m_Y_init) 22 = .ok (.iconst 0, 1) := by decide +kernel
theorem d_Y_init_23 : decode (yMb m_Y_init) 23 = .ok (.istore_n 1, 1) := by decide +kernel
theorem d_Y_init_24 : decode (yMb m_Y_init) 24 = .ok (.iload_n 1, 1) := by decide +kernel
theorem d_Y_init_25 : decode (yMb m_Y_init) 25 = .ok (.bipush 6, 2) := by decide +kernel
theorem d_Y_init_27 : decode (yMb m_Y_init) 27 = .ok (.if_icmp .ge 23, 3) := by decide +kernel
theorem d_Y_init_30 : decode (yMb m_Y_init) 30 = .ok (.aload_n 0, 1) := by decide +kernel
theorem d_Y_init_31 : decode (yMb m_Y_init) 31 = .ok (.getfield 11, 3) := by decide +kernel
theorem d_Y_init_34 : decode (yMb m_Y_init) 34 = .ok (.iload_n 1, 1) := by decide +kernel
theorem d_Y_init_35 : decode (yMb m_Y_init) 35 = .ok (.new 9, 3) := by decide +kernel
theorem d_Y_init_38 : decode (yMb m_Y_init) 38 = .ok (.dup, 1) := by decide +kernel
theorem d_Y_init_39 : decode (yMb m_Y_init) 39 = .ok (.iload_n 1, 1) := by decide +kernel
theorem d_Y_init_40 : decode (yMb m_Y_init) 40 = .ok (.invokespecial 21, 3) := by decide +kernel
theorem d_Y_init_43 : decode (yMb m_Y_init) 43 = .ok (.aastore, 1) := by decide +kernel
theorem d_Y_init_44 : decode (yMb m_Y_init) 44 = .ok (.iinc 1 1, 3) := by decide +kernel
theorem d_Y_init_47 : decode (yMb m_Y_init) 47 = .ok (.goto (-23), 3) := by decide +kernel
theorem d_Y_init_50 : decode (yMb m_Y_init) 50 = .ok (.return_, 1) := by decide +kernel
theorem d_Y_make_0 : decode (yMb m_Y_make) 0 = .ok (.iload_n 1, 1) := by decide +kernel
theorem d_Y_make_1 : decode (yMb m_Y_make) 1 = .ok (.ifCond .lt 18, 3) := by decide +kernel
theorem d_Y_make_4 : decode (yMb m_Y_make) 4 = .ok (.iload_n 1, 1) := by decide +kernel
theorem d_Y_make_5 : decode (yMb m_Y_make) 5 = .ok (.iconst 5, 1) := by decide +kernel
theorem d_Y_make_6 : decode (yMb m_Y_make) 6 = .ok (.if_icmp .gt 13, 3) := by decide +kernel
theorem d_Y_make_9 : decode (yMb m_Y_make) 9 = .ok (.iload_n 2, 1) := by decide +kernel
theorem d_Y_make_10 : decode (yMb m_Y_make) 10 = .ok (.iconst 1, 1) := by decide +kernel
theorem d_Y_make_11 : decode (yMb m_Y_make) 11 = .ok (.if_icmp .lt 8, 3) := by decide +kernel
theorem d_Y_make_14 : decode (yMb m_Y_make) 14 = .ok (.iload_n 2, 1) := by decide +kernel
theorem d_Y_make_15 : decode (yMb m_Y_make) 15 = .ok (.iconst 3, 1) := by decide +kernel
theorem d_Y_make_16 : decode (yMb m_Y_make) 16 = .ok (.if_icmp .le 11, 3) := by decide +kernel
theorem d_Y_make_19 : decode (yMb m_Y_make) 19 = .ok (.new 24, 3) := by decide +kernel
theorem d_Y_make_22 : decode (yMb m_Y_make) 22 = .ok (.dup, 1) := by decide +kernel
theorem d_Y_make_23 : decode (yMb m_Y_make) 23 = .ok (.invokespecial 26, 3) := by decide +kernel
theorem d_Y_make_26 : decode (yMb m_Y_make) 26 = .ok (.athrow, 1) := by decide +kernel
theorem d_Y_make_27 : decode (yMb m_Y_make) 27 = .ok (.aload_n 0, 1) := by decide +kernel
theorem d_Y_make_28 : decode (yMb m_Y_make) 28 = .ok (.getfield 27, 3) := by decide +kernel
theorem d_Y_make_31 : decode (yMb m_Y_make) 31 = .ok (.bipush 6, 2) := by decide +kernel
theorem d_Y_make_33 : decode (yMb m_Y_make) 33 = .ok (.if_icmp .lt 11, 3) := by decide +kernel
theorem d_Y_make_36 : decode (yMb m_Y_make) 36 = .ok (.new 31, 3) := by decide +kernel
theorem d_Y_make_39 : decode (yMb m_Y_make) 39 = .ok (.dup, 1) := by decide +kernel
theorem d_Y_make_40 : decode (yMb m_Y_make) 40 = .ok (.invokespecial 33, 3) := by decide +kernel
theorem d_Y_make_43 : decode (yMb m_Y_make) 43 = .ok (.athrow, 1) := by decide +kernel
theorem d_Y_make_44 : decode (yMb m_Y_make) 44 = .ok (.aload_n 0, 1) := by decide +kernel
theorem d_Y_make_45 : decode (yMb m_Y_make) 45 = .ok (.getfield 27, 3) := by decide +kernel
theorem d_Y_make_48 : decode (yMb m_Y_make) 48 = .ok (.istore_n 3, 1) := by decide +kernel
theorem d_Y_make_49 : decode (yMb m_Y_make) 49 = .ok (.aload_n 0, 1) := by decide +kernel
theorem d_Y_make_50 : decode (yMb m_Y_make) 50 = .ok (.getfield 17, 3) := by decide +kernel
theorem d_Y_make_53 : decode (yMb m_Y_make) 53 = .ok (.iload_n 3, 1) := by decide +kernel
theorem d_Y_make_54 : decode (yMb m_Y_make) 54 = .ok (.iload_n 1, 1) := by decide +kernel
theorem d_Y_make_55 : decode (yMb m_Y_make) 55 = .ok (.iload_n 3, 1) := by decide +kernel
theorem d_Y_make_56 : decode (yMb m_Y_make) 56 = .ok (.iload_n 2, 1) := by decide +kernel
theorem d_Y_make_57 : decode (yMb m_Y_make) 57 = .ok (.invokestatic 34, 3) := by decide +kernel
theorem d_Y_make_60 : decode (yMb m_Y_make) 60 = .ok (.aastore, 1) := by decide +kernel
theorem d_Y_make_61 : decode (yMb m_Y_make) 61 = .ok (.aload_n 0, 1) := by decide +kernel
theorem d_Y_make_62 : decode (yMb m_Y_make) 62 = .ok (.dup, 1) := by decide +kernel
theorem d_Y_make_63 : decode (yMb m_Y_make) 63 = .ok (.getfield 27, 3) := by decide +kernel
theorem d_Y_make_66 : decode (yMb m_Y_make) 66 = .ok (.iconst 1, 1) := by decide +kernel
theorem d_Y_make_67 : decode (yMb m_Y_make) 67 = .ok (.iadd, 1) := by decide +kernel
theorem d_Y_make_68 : decode (yMb m_Y_make) 68 = .ok (.putfield 27, 3) := by decide +kernel
theorem d_Y_make_71 : decode (yMb m_Y_make) 71 = .ok (.iload_n 3, 1) := by decide +kernel
theorem d_Y_make_72 : decode (yMb m_Y_make) 72 = .ok (.ireturn, 1) := by decide +kernel
theorem d_Y_act_0 : decode (yMb m_Y_act) 0 = .ok (.aload_n 0, 1) := by decide +kernel
theorem d_Y_act_1 : decode (yMb m_Y_act) 1 = .ok (.iload_n 1, 1) := by decide +kernel
theorem d_Y_act_2 : decode (yMb m_Y_act) 2 = .ok (.invokevirtual 38, 3) := by decide +kernel
theorem d_Y_act_5 : decode (yMb m_Y_act) 5 = .ok (.astore 6, 2) := by decide +kernel
theorem d_Y_act_7 : decode (yMb m_Y_act) 7 = .ok (.aload_n 0, 1) := by decide +kernel
theorem d_Y_act_8 : decode (yMb m_Y_act) 8 = .ok (.iload_n 2, 1) := by decide +kernel
theorem d_Y_act_9 : decode (yMb m_Y_act) 9 = .ok (.invokevirtual 42, 3) := by decide +kernel
theorem d_Y_act_12 : decode (yMb m_Y_act) 12 = .ok (.astore 7, 2) := by decide +kernel
theorem d_Y_act_14 : decode (yMb m_Y_act) 14 = .ok (.aload 6, 2) := by decide +kernel
theorem d_Y_act_16 : decode (yMb m_Y_act) 16 = .ok (.ifnull 25, 3) := by decide +kernel
theorem d_Y_act_19 : decode (yMb m_Y_act) 19 = .ok (.aload 7, 2) := by decide +kernel
theorem d_Y_act_21 : decode (yMb m_Y_act) 21 = .ok (.ifnull 20, 3) := by decide +kernel
theorem d_Y_act_24 : decode (yMb m_Y_act) 24 = .ok (.iload_n 3, 1) := by decide +kernel
theorem d_Y_act_25 : decode (yMb m_Y_act) 25 = .ok (.iload 4, 2) := by decide +kernel
theorem d_Y_act_27 : decode (yMb m_Y_act) 27 = .ok (.invokestatic 46, 3) := by decide +kernel
theorem d_Y_act_30 : decode (yMb m_Y_act) 30 = .ok (.ifCond .eq 11, 3) := by decide +kernel
theorem d_Y_act_33 : decode (yMb m_Y_act) 33 = .ok (.iload 5, 2) := by decide +kernel
theorem d_Y_act_35 : decode (yMb m_Y_act) 35 = .ok (.invokestatic 50, 3) := by decide +kernel
theorem d_Y_act_38 : decode (yMb m_Y_act) 38 = .ok (.ifCond .ne 11, 3) := by decide +kernel
theorem d_Y_act_41 : decode (yMb m_Y_act) 41 = .ok (.new 24, 3) := by decide +kernel
theorem d_Y_act_44 : decode (yMb m_Y_act) 44 = .ok (.dup, 1) := by decide +kernel
theorem d_Y_act_45 : decode (yMb m_Y_act) 45 = .ok (.invokespecial 26, 3) := by decide +kernel
theorem d_Y_act_48 : decode (yMb m_Y_act) 48 = .ok (.athrow, 1) := by decide +kernel
theorem d_Y_act_49 : decode (yMb m_Y_act) 49 = .ok (.getstatic 54, 3) := by decide +kernel
theorem d_Y_act_52 : decode (yMb m_Y_act) 52 = .ok (.iload_n 3, 1) := by decide +kernel
theorem d_Y_act_53 : decode (yMb m_Y_act) 53 = .ok (.iaload, 1) := by decide +kernel
theorem d_Y_act_54 : decode (yMb m_Y_act) 54 = .ok (.aload 7, 2) := by decide +kernel
theorem d_Y_act_56 : decode (yMb m_Y_act) 56 = .ok (.getfield 58, 3) := by decide +kernel
theorem d_Y_act_59 : decode (yMb m_Y_act) 59 = .ok (.if_icmp .eq 11, 3) := by decide +kernel
theorem d_Y_act_62 : decode (yMb m_Y_act) 62 = .ok (.new 61, 3) := by decide +kernel
theorem d_Y_act_65 : decode (yMb m_Y_act) 65 = .ok (.dup, 1) := by decide +kernel
theorem d_Y_act_66 : decode (yMb m_Y_act) 66 = .ok (.invokespecial 63, 3) := by decide +kernel
theorem d_Y_act_69 : decode (yMb m_Y_act) 69 = .ok (.athrow, 1) := by decide +kernel
theorem d_Y_act_70 : decode (yMb m_Y_act) 70 = .ok (.aload 6, 2) := by decide +kernel
theorem d_Y_act_72 : decode (yMb m_Y_act) 72 = .ok (.getfield 64, 3) := by decide +kernel
theorem d_Y_act_75 : decode (yMb m_Y_act) 75 = .ok (.ifCond .ne 16, 3) := by decide +kernel
theorem d_Y_act_78 : decode (yMb m_Y_act) 78 = .ok (.aload 7, 2) := by decide +kernel
theorem d_Y_act_80 : decode (yMb m_Y_act) 80 = .ok (.aload 6, 2) := by decide +kernel
theorem d_Y_act_82 : decode (yMb m_Y_act) 82 = .ok (.iload_n 3, 1) := by decide +kernel
theorem d_Y_act_83 : decode (yMb m_Y_act) 83 = .ok (.iload 4, 2) := by decide +kernel
theorem d_Y_act_85 : decode (yMb m_Y_act) 85 = .ok (.invokevirtual 67, 3) := by decide +kernel
theorem d_Y_act_88 : decode (yMb m_Y_act) 88 = .ok (.ifCond .ne 11, 3) := by decide +kernel
theorem d_Y_act_91 : decode (yMb m_Y_act) 91 = .ok (.new 31, 3) := by decide +kernel
theorem d_Y_act_94 : decode (yMb m_Y_act) 94 = .ok (.dup, 1) := by decide +kernel
theorem d_Y_act_95 : decode (yMb m_Y_act) 95 = .ok (.invokespecial 33, 3) := by decide +kernel
theorem d_Y_act_98 : decode (yMb m_Y_act) 98 = .ok (.athrow, 1) := by decide +kernel
theorem d_Y_act_99 : decode (yMb m_Y_act) 99 = .ok (.aload 6, 2) := by decide +kernel
theorem d_Y_act_101 : decode (yMb m_Y_act) 101 = .ok (.iload_n 3, 1) := by decide +kernel
theorem d_Y_act_102 : decode (yMb m_Y_act) 102 = .ok (.iload 4, 2) := by decide +kernel
theorem d_Y_act_104 : decode (yMb m_Y_act) 104 = .ok (.invokevirtual 71, 3) := by decide +kernel
theorem d_Y_act_107 : decode (yMb m_Y_act) 107 = .ok (.aload 7, 2) := by decide +kernel
theorem d_Y_act_109 : decode (yMb m_Y_act) 109 = .ok (.aload 6, 2) := by decide +kernel
theorem d_Y_act_111 : decode (yMb m_Y_act) 111 = .ok (.iload 5, 2) := by decide +kernel
theorem d_Y_act_113 : decode (yMb m_Y_act) 113 = .ok (.invokevirtual 75, 3) := by decide +kernel
theorem d_Y_act_116 : decode (yMb m_Y_act) 116 = .ok (.aload 7, 2) := by decide +kernel
theorem d_Y_act_118 : decode (yMb m_Y_act) 118 = .ok (.invokevirtual 79, 3) := by decide +kernel
theorem d_Y_act_121 : decode (yMb m_Y_act) 121 = .ok (.aload 6, 2) := by decide +kernel
theorem d_Y_act_123 : decode (yMb m_Y_act) 123 = .ok (.getfield 82, 3) := by decide +kernel
theorem d_Y_act_126 : decode (yMb m_Y_act) 126 = .ok (.ireturn, 1) := by decide +kernel
theorem d_Y_tick_0 : decode (yMb m_Y_tick) 0 = .ok (.iload_n 1, 1) := by decide +kernel
theorem d_Y_tick_1 : decode (yMb m_Y_tick) 1 = .ok (.iconst 1, 1) := by decide +kernel
theorem d_Y_tick_2 : decode (yMb m_Y_tick) 2 = .ok (.if_icmp .lt 9, 3) := by decide +kernel
theorem d_Y_tick_5 : decode (yMb m_Y_tick) 5 = .ok (.iload_n 1, 1) := by decide +kernel
theorem d_Y_tick_6 : decode (yMb m_Y_tick) 6 = .ok (.bipush 50, 2) := by decide +kernel
theorem d_Y_tick_8 : decode (yMb m_Y_tick) 8 = .ok (.if_icmp .le 11, 3) := by decide +kernel
theorem d_Y_tick_11 : decode (yMb m_Y_tick) 11 = .ok (.new 24, 3) := by decide +kernel
theorem d_Y_tick_14 : decode (yMb m_Y_tick) 14 = .ok (.dup, 1) := by decide +kernel
theorem d_Y_tick_15 : decode (yMb m_Y_tick) 15 = .ok (.invokespecial 26, 3) := by decide +kernel
theorem d_Y_tick_18 : decode (yMb m_Y_tick) 18 = .ok (.athrow, 1) := by decide +kernel
theorem d_Y_tick_19 : decode (yMb m_Y_tick) 19 = .ok (.iconst 0, 1) := by decide +kernel
theorem d_Y_tick_20 : decode (yMb m_Y_tick) 20 = .ok (.istore_n 2, 1) := by decide +kernel
theorem d_Y_tick_21 : decode (yMb m_Y_tick) 21 = .ok (.iconst 0, 1) := by decide +kernel
theorem d_Y_tick_22 : decode (yMb m_Y_tick) 22 = .ok (.istore_n 3, 1) := by decide +kernel
theorem d_Y_tick_23 : decode (yMb m_Y_tick) 23 = .ok (.iload_n 3, 1) := by decide +kernel
theorem d_Y_tick_24 : decode (yMb m_Y_tick) 24 = .ok (.iload_n 1, 1) := by decide +kernel
theorem d_Y_tick_25 : decode (yMb m_Y_tick) 25 = .ok (.if_icmp .ge 16, 3) := by decide +kernel
theorem d_Y_tick_28 : decode (yMb m_Y_tick) 28 = .ok (.iload_n 2, 1) := by decide +kernel
theorem d_Y_tick_29 : decode (yMb m_Y_tick) 29 = .ok (.aload_n 0, 1) := by decide +kernel
theorem d_Y_tick_30 : decode (yMb m_Y_tick) 30 = .ok (.invokevirtual 85, 3) := by decide +kernel
theorem d_Y_tick_33 : decode (yMb m_Y_tick) 33 = .ok (.iadd, 1) := by decide +kernel
theorem d_Y_tick_34 : decode (yMb m_Y_tick) 34 = .ok (.istore_n 2, 1) := by decide +kernel
theorem d_Y_tick_35 : decode (yMb m_Y_tick) 35 = .ok (.iinc 3 1, 3) := by decide +kernel
theorem d_Y_tick_38 : decode (yMb m_Y_tick) 38 = .ok (.goto (-15), 3) := by decide +kernel
theorem d_Y_tick_41 : decode (yMb m_Y_tick) 41 = .ok (.iload_n 2, 1) := by decide +kernel
theorem d_Y_tick_42 : decode (yMb m_Y_tick) 42 = .ok (.ireturn, 1) := by decide +kernel
theorem d_Y_interrupt_0 : decode (yMb m_Y_interrupt) 0 = .ok (.aload_n 0, 1) := by decide +kernel
theorem d_Y_interrupt_1 : decode (yMb m_Y_interrupt) 1 = .ok (.iload_n 1, 1) := by decide +kernel
theorem d_Y_interrupt_2 : decode (yMb m_Y_interrupt) 2 = .ok (.invokevirtual 38, 3) := by decide +kernel
theorem d_Y_interrupt_5 : decode (yMb m_Y_interrupt) 5 = .ok (.astore_n 2, 1) := by decide +kernel
theorem d_Y_interrupt_6 : decode (yMb m_Y_interrupt) 6 = .ok (.aload_n 2, 1) := by decide +kernel
theorem d_Y_interrupt_7 : decode (yMb m_Y_interrupt) 7 = .ok (.ifnonnull 11, 3) := by decide +kernel
theorem d_Y_interrupt_10 : decode (yMb m_Y_interrupt) 10 = .ok (.new 24, 3) := by decide +kernel
theorem d_Y_interrupt_13 : decode (yMb m_Y_interrupt) 13 = .ok (.dup, 1) := by decide +kernel
theorem d_Y_interrupt_14 : decode (yMb m_Y_interrupt) 14 = .ok (.invokespecial 26, 3) := by decide +kernel
theorem d_Y_interrupt_17 : decode (yMb m_Y_interrupt) 17 = .ok (.athrow, 1) := by decide +kernel
theorem d_Y_interrupt_18 : decode (yMb m_Y_interrupt) 18 = .ok (.aload_n 2, 1) := by decide +kernel
theorem d_Y_interrupt_19 : decode (yMb m_Y_interrupt) 19 = .ok (.getfield 89, 3) := by decide +kernel
theorem d_Y_interrupt_22 : decode (yMb m_Y_interrupt) 22 = .ok (.astore_n 3, 1) := by decide +kernel
theorem d_Y_interrupt_23 : decode (yMb m_Y_interrupt) 23 = .ok (.aload_n 3, 1) := by decide +kernel
theorem d_Y_interrupt_24 : decode (yMb m_Y_interrupt) 24 = .ok (.ifnull 10, 3) := by decide +kernel
theorem d_Y_interrupt_27 : decode (yMb m_Y_interrupt) 27 = .ok (.aload_n 2, 1) := by decide +kernel
theorem d_Y_interrupt_28 : decode (yMb m_Y_interrupt) 28 = .ok (.invokevirtual 93, 3) := by decide +kernel
theorem d_Y_interrupt_31 : decode (yMb m_Y_interrupt) 31 = .ok (.ifCond .eq 11, 3) := by decide +kernel
theorem d_Y_interrupt_34 : decode (yMb m_Y_interrupt) 34 = .ok (.aload_n 2, 1) := by decide +kernel
theorem d_Y_interrupt_35 : decode (yMb m_Y_interrupt) 35 = .ok (.iconst 1, 1) := by decide +kernel
theorem d_Y_interrupt_36 : decode (yMb m_Y_interrupt) 36 = .ok (.putfield 97, 3) := by decide +kernel
theorem d_Y_interrupt_39 : decode (yMb m_Y_interrupt) 39 = .ok (.goto 13, 3) := by decide +kernel
theorem d_Y_interrupt_42 : decode (yMb m_Y_interrupt) 42 = .ok (.aload_n 3, 1) := by decide +kernel
theorem d_Y_interrupt_43 : decode (yMb m_Y_interrupt) 43 = .ok (.aload_n 2, 1) := by decide +kernel
theorem d_Y_interrupt_44 : decode (yMb m_Y_interrupt) 44 = .ok (.iconst 4, 1) := by decide +kernel
theorem d_Y_interrupt_45 : decode (yMb m_Y_interrupt) 45 = .ok (.invokevirtual 101, 3) := by decide +kernel
theorem d_Y_interrupt_48 : decode (yMb m_Y_interrupt) 48 = .ok (.aload_n 3, 1) := by decide +kernel
theorem d_Y_interrupt_49 : decode (yMb m_Y_interrupt) 49 = .ok (.invokevirtual 79, 3) := by decide +kernel
theorem d_Y_interrupt_52 : decode (yMb m_Y_interrupt) 52 = .ok (.return_, 1) := by decide +kernel
theorem d_Y_told_0 : decode (yMb m_Y_told) 0 = .ok (.aload_n 0, 1) := by decide +kernel
theorem d_Y_told_1 : decode (yMb m_Y_told) 1 = .ok (.iload_n 1, 1) := by decide +kernel
theorem d_Y_told_2 : decode (yMb m_Y_told) 2 = .ok (.invokevirtual 38, 3) := by decide +kernel
theorem d_Y_told_5 : decode (yMb m_Y_told) 5 = .ok (.astore_n 3, 1) := by decide +kernel
theorem d_Y_told_6 : decode (yMb m_Y_told) 6 = .ok (.aload_n 3, 1) := by decide +kernel
theorem d_Y_told_7 : decode (yMb m_Y_told) 7 = .ok (.ifnull 12, 3) := by decide +kernel
theorem d_Y_told_10 : decode (yMb m_Y_told) 10 = .ok (.iload_n 2, 1) := by decide +kernel
theorem d_Y_told_11 : decode (yMb m_Y_told) 11 = .ok (.ifCond .lt 8, 3) := by decide +kernel
theorem d_Y_told_14 : decode (yMb m_Y_told) 14 = .ok (.iload_n 2, 1) := by decide +kernel
theorem d_Y_told_15 : decode (yMb m_Y_told) 15 = .ok (.iconst 5, 1) := by decide +kernel
theorem d_Y_told_16 : decode (yMb m_Y_told) 16 = .ok (.if_icmp .le 11, 3) := by decide +kernel
theorem d_Y_told_19 : decode (yMb m_Y_told) 19 = .ok (.new 24, 3) := by decide +kernel
theorem d_Y_told_22 : decode (yMb m_Y_told) 22 = .ok (.dup, 1) := by decide +kernel
theorem d_Y_told_23 : decode (yMb m_Y_told) 23 = .ok (.invokespecial 26, 3) := by decide +kernel
theorem d_Y_told_26 : decode (yMb m_Y_told) 26 = .ok (.athrow, 1) := by decide +kernel
theorem d_Y_told_27 : decode (yMb m_Y_told) 27 = .ok (.iload_n 2, 1) := by decide +kernel
theorem d_Y_told_28 : decode (yMb m_Y_told) 28 = .ok (.tableswitch 83 0 4 #[36, 41, 46, 65, 70], 36) := by decide +kernel
theorem d_Y_told_64 : decode (yMb m_Y_told) 64 = .ok (.aload_n 3, 1) := by decide +kernel
theorem d_Y_told_65 : decode (yMb m_Y_told) 65 = .ok (.getfield 64, 3) := by decide +kernel
theorem d_Y_told_68 : decode (yMb m_Y_told) 68 = .ok (.ireturn, 1) := by decide +kernel
theorem d_Y_told_69 : decode (yMb m_Y_told) 69 = .ok (.aload_n 3, 1) := by decide +kernel
theorem d_Y_told_70 : decode (yMb m_Y_told) 70 = .ok (.getfield 82, 3) := by decide +kernel
theorem d_Y_told_73 : decode (yMb m_Y_told) 73 = .ok (.ireturn, 1) := by decide +kernel
theorem d_Y_told_74 : decode (yMb m_Y_told) 74 = .ok (.aload_n 3, 1) := by decide +kernel
theorem d_Y_told_75 : decode (yMb m_Y_told) 75 = .ok (.getfield 89, 3) := by decide +kernel
theorem d_Y_told_78 : decode (yMb m_Y_told) 78 = .ok (.ifnonnull 7, 3) := by decide +kernel
theorem d_Y_told_81 : decode (yMb m_Y_told) 81 = .ok (.iconst (-1), 1) := by decide +kernel
theorem d_Y_told_82 : decode (yMb m_Y_told) 82 = .ok (.goto 10, 3) := by decide +kernel
theorem d_Y_told_85 : decode (yMb m_Y_told) 85 = .ok (.aload_n 3, 1) := by decide +kernel
theorem d_Y_told_86 : decode (yMb m_Y_told) 86 = .ok (.getfield 89, 3) := by decide +kernel
theorem d_Y_told_89 : decode (yMb m_Y_told) 89 = .ok (.getfield 104, 3) := by decide +kernel
theorem d_Y_told_92 : decode (yMb m_Y_told) 92 = .ok (.ireturn, 1) := by decide +kernel
theorem d_Y_told_93 : decode (yMb m_Y_told) 93 = .ok (.aload_n 3, 1) := by decide +kernel
theorem d_Y_told_94 : decode (yMb m_Y_told) 94 = .ok (.getfield 107, 3) := by decide +kernel
theorem d_Y_told_97 : decode (yMb m_Y_told) 97 = .ok (.ireturn, 1) := by decide +kernel
theorem d_Y_told_98 : decode (yMb m_Y_told) 98 = .ok (.aload_n 3, 1) := by decide +kernel
theorem d_Y_told_99 : decode (yMb m_Y_told) 99 = .ok (.getfield 97, 3) := by decide +kernel
theorem d_Y_told_102 : decode (yMb m_Y_told) 102 = .ok (.ifCond .eq 7, 3) := by decide +kernel
theorem d_Y_told_105 : decode (yMb m_Y_told) 105 = .ok (.iconst 1, 1) := by decide +kernel
theorem d_Y_told_106 : decode (yMb m_Y_told) 106 = .ok (.goto 4, 3) := by decide +kernel
theorem d_Y_told_109 : decode (yMb m_Y_told) 109 = .ok (.iconst 0, 1) := by decide +kernel
theorem d_Y_told_110 : decode (yMb m_Y_told) 110 = .ok (.ireturn, 1) := by decide +kernel
theorem d_Y_told_111 : decode (yMb m_Y_told) 111 = .ok (.aload_n 3, 1) := by decide +kernel
theorem d_Y_told_112 : decode (yMb m_Y_told) 112 = .ok (.getfield 110, 3) := by decide +kernel
theorem d_Y_told_115 : decode (yMb m_Y_told) 115 = .ok (.ireturn, 1) := by decide +kernel
theorem d_Y_object_0 : decode (yMb m_Y_object) 0 = .ok (.aload_n 0, 1) := by decide +kernel
theorem d_Y_object_1 : decode (yMb m_Y_object) 1 = .ok (.iload_n 1, 1) := by decide +kernel
theorem d_Y_object_2 : decode (yMb m_Y_object) 2 = .ok (.invokevirtual 42, 3) := by decide +kernel
theorem d_Y_object_5 : decode (yMb m_Y_object) 5 = .ok (.astore_n 3, 1) := by decide +kernel
theorem d_Y_object_6 : decode (yMb m_Y_object) 6 = .ok (.aload_n 3, 1) := by decide +kernel
theorem d_Y_object_7 : decode (yMb m_Y_object) 7 = .ok (.ifnull 13, 3) := by decide +kernel
theorem d_Y_object_10 : decode (yMb m_Y_object) 10 = .ok (.iload_n 2, 1) := by decide +kernel
theorem d_Y_object_11 : decode (yMb m_Y_object) 11 = .ok (.ifCond .lt 9, 3) := by decide +kernel
theorem d_Y_object_14 : decode (yMb m_Y_object) 14 = .ok (.iload_n 2, 1) := by decide +kernel
theorem d_Y_object_15 : decode (yMb m_Y_object) 15 = .ok (.bipush 7, 2) := by decide +kernel
theorem d_Y_object_17 : decode (yMb m_Y_object) 17 = .ok (.if_icmp .le 11, 3) := by decide +kernel
theorem d_Y_object_20 : decode (yMb m_Y_object) 20 = .ok (.new 24, 3) := by decide +kernel
theorem d_Y_object_23 : decode (yMb m_Y_object) 23 = .ok (.dup, 1) := by decide +kernel
theorem d_Y_object_24 : decode (yMb m_Y_object) 24 = .ok (.invokespecial 26, 3) := by decide +kernel
theorem d_Y_object_27 : decode (yMb m_Y_object) 27 = .ok (.athrow, 1) := by decide +kernel
theorem d_Y_object_28 : decode (yMb m_Y_object) 28 = .ok (.iload_n 2, 1) := by decide +kernel
theorem d_Y_object_29 : decode (yMb m_Y_object) 29 = .ok (.tableswitch 83 0 6 #[43, 48, 53, 58, 66, 72, 78], 43) := by decide +kernel
theorem d_Y_object_72 : decode (yMb m_Y_object) 72 = .ok (.aload_n 3, 1) := by decide +kernel
theorem d_Y_object_73 : decode (yMb m_Y_object) 73 = .ok (.getfield 58, 3) := by decide +kernel
theorem d_Y_object_76 : decode (yMb m_Y_object) 76 = .ok (.ireturn, 1) := by decide +kernel
theorem d_Y_object_77 : decode (yMb m_Y_object) 77 = .ok (.aload_n 3, 1) := by decide +kernel
theorem d_Y_object_78 : decode (yMb m_Y_object) 78 = .ok (.invokevirtual 113, 3) := by decide +kernel
theorem d_Y_object_81 : decode (yMb m_Y_object) 81 = .ok (.ireturn, 1) := by decide +kernel
theorem d_Y_object_82 : decode (yMb m_Y_object) 82 = .ok (.aload_n 3, 1) := by decide +kernel
theorem d_Y_object_83 : decode (yMb m_Y_object) 83 = .ok (.invokevirtual 116, 3) := by decide +kernel
theorem d_Y_object_86 : decode (yMb m_Y_object) 86 = .ok (.ireturn, 1) := by decide +kernel
theorem d_Y_object_87 : decode (yMb m_Y_object) 87 = .ok (.aload_n 3, 1) := by decide +kernel
theorem d_Y_object_88 : decode (yMb m_Y_object) 88 = .ok (.getfield 119, 3) := by decide +kernel
theorem d_Y_object_91 : decode (yMb m_Y_object) 91 = .ok (.getfield 123, 3) := by decide +kernel
theorem d_Y_object_94 : decode (yMb m_Y_object) 94 = .ok (.ireturn, 1) := by decide +kernel
theorem d_Y_object_95 : decode (yMb m_Y_object) 95 = .ok (.aload_n 3, 1) := by decide +kernel
theorem d_Y_object_96 : decode (yMb m_Y_object) 96 = .ok (.iconst 0, 1) := by decide +kernel
theorem d_Y_object_97 : decode (yMb m_Y_object) 97 = .ok (.invokevirtual 128, 3) := by decide +kernel
theorem d_Y_object_100 : decode (yMb m_Y_object) 100 = .ok (.ireturn, 1) := by decide +kernel
theorem d_Y_object_101 : decode (yMb m_Y_object) 101 = .ok (.aload_n 3, 1) := by decide +kernel
theorem d_Y_object_102 : decode (yMb m_Y_object) 102 = .ok (.iconst 1, 1) := by decide +kernel
theorem d_Y_object_103 : decode (yMb m_Y_object) 103 = .ok (.invokevirtual 128, 3) := by decide +kernel
theorem d_Y_object_106 : decode (yMb m_Y_object) 106 = .ok (.ireturn, 1) := by decide +kernel
theorem d_Y_object_107 : decode (yMb m_Y_object) 107 = .ok (.aload_n 3, 1) := by decide +kernel
theorem d_Y_object_108 : decode (yMb m_Y_object) 108 = .ok (.invokevirtual 132, 3) := by decide +kernel
theorem d_Y_object_111 : decode (yMb m_Y_object) 111 = .ok (.ireturn, 1) := by decide +kernel
theorem d_Y_object_112 : decode (yMb m_Y_object) 112 = .ok (.aload_n 3, 1) := by decide +kernel
theorem d_Y_object_113 : decode (yMb m_Y_object) 113 = .ok (.invokevirtual 135, 3) := by decide +kernel
theorem d_Y_object_116 : decode (yMb m_Y_object) 116 = .ok (.ifCond .eq 7, 3) := by decide +kernel
theorem d_Y_object_119 : decode (yMb m_Y_object) 119 = .ok (.iconst 1, 1) := by decide +kernel
theorem d_Y_object_120 : decode (yMb m_Y_object) 120 = .ok (.goto 4, 3) := by decide +kernel
theorem d_Y_object_123 : decode (yMb m_Y_object) 123 = .ok (.iconst 0, 1) := by decide +kernel
theorem d_Y_object_124 : decode (yMb m_Y_object) 124 = .ok (.ireturn, 1) := by decide +kernel
theorem d_Y_waiter_0 : decode (yMb m_Y_waiter) 0 = .ok (.aload_n 0, 1) := by decide +kernel
theorem d_Y_waiter_1 : decode (yMb m_Y_waiter) 1 = .ok (.iload_n 1, 1) := by decide +kernel
theorem d_Y_waiter_2 : decode (yMb m_Y_waiter) 2 = .ok (.invokevirtual 42, 3) := by decide +kernel
theorem d_Y_waiter_5 : decode (yMb m_Y_waiter) 5 = .ok (.astore_n 3, 1) := by decide +kernel
theorem d_Y_waiter_6 : decode (yMb m_Y_waiter) 6 = .ok (.aload_n 3, 1) := by decide +kernel
theorem d_Y_waiter_7 : decode (yMb m_Y_waiter) 7 = .ok (.ifnonnull 11, 3) := by decide +kernel
theorem d_Y_waiter_10 : decode (yMb m_Y_waiter) 10 = .ok (.new 24, 3) := by decide +kernel
theorem d_Y_waiter_13 : decode (yMb m_Y_waiter) 13 = .ok (.dup, 1) := by decide +kernel
theorem d_Y_waiter_14 : decode (yMb m_Y_waiter) 14 = .ok (.invokespecial 26, 3) := by decide +kernel
theorem d_Y_waiter_17 : decode (yMb m_Y_waiter) 17 = .ok (.athrow, 1) := by decide +kernel
theorem d_Y_waiter_18 : decode (yMb m_Y_waiter) 18 = .ok (.aload_n 3, 1) := by decide +kernel
theorem d_Y_waiter_19 : decode (yMb m_Y_waiter) 19 = .ok (.getfield 119, 3) := by decide +kernel
theorem d_Y_waiter_22 : decode (yMb m_Y_waiter) 22 = .ok (.iload_n 2, 1) := by decide +kernel
theorem d_Y_waiter_23 : decode (yMb m_Y_waiter) 23 = .ok (.invokevirtual 138, 3) := by decide +kernel
theorem d_Y_waiter_26 : decode (yMb m_Y_waiter) 26 = .ok (.astore 4, 2) := by decide +kernel
theorem d_Y_waiter_28 : decode (yMb m_Y_waiter) 28 = .ok (.aload 4, 2) := by decide +kernel
theorem d_Y_waiter_30 : decode (yMb m_Y_waiter) 30 = .ok (.ifnonnull 11, 3) := by decide +kernel
theorem d_Y_waiter_33 : decode (yMb m_Y_waiter) 33 = .ok (.new 141, 3) := by decide +kernel
theorem d_Y_waiter_36 : decode (yMb m_Y_waiter) 36 = .ok (.dup, 1) := by decide +kernel
theorem d_Y_waiter_37 : decode (yMb m_Y_waiter) 37 = .ok (.invokespecial 143, 3) := by decide +kernel
theorem d_Y_waiter_40 : decode (yMb m_Y_waiter) 40 = .ok (.athrow, 1) := by decide +kernel
theorem d_Y_waiter_41 : decode (yMb m_Y_waiter) 41 = .ok (.aload 4, 2) := by decide +kernel
theorem d_Y_waiter_43 : decode (yMb m_Y_waiter) 43 = .ok (.getfield 144, 3) := by decide +kernel
theorem d_Y_waiter_46 : decode (yMb m_Y_waiter) 46 = .ok (.ireturn, 1) := by decide +kernel
theorem d_Y_stuck_0 : decode (yMb m_Y_stuck) 0 = .ok (.iconst 0, 1) := by decide +kernel
theorem d_Y_stuck_1 : decode (yMb m_Y_stuck) 1 = .ok (.istore_n 1, 1) := by decide +kernel
theorem d_Y_stuck_2 : decode (yMb m_Y_stuck) 2 = .ok (.aload_n 0, 1) := by decide +kernel
theorem d_Y_stuck_3 : decode (yMb m_Y_stuck) 3 = .ok (.getfield 11, 3) := by decide +kernel
theorem d_Y_stuck_6 : decode (yMb m_Y_stuck) 6 = .ok (.astore_n 2, 1) := by decide +kernel
theorem d_Y_stuck_7 : decode (yMb m_Y_stuck) 7 = .ok (.aload_n 2, 1) := by decide +kernel
theorem d_Y_stuck_8 : decode (yMb m_Y_stuck) 8 = .ok (.arraylength, 1) := by decide +kernel
theorem d_Y_stuck_9 : decode (yMb m_Y_stuck) 9 = .ok (.istore_n 3, 1) := by decide +kernel
theorem d_Y_stuck_10 : decode (yMb m_Y_stuck) 10 = .ok (.iconst 0, 1) := by decide +kernel
theorem d_Y_stuck_11 : decode (yMb m_Y_stuck) 11 = .ok (.istore 4, 2) := by decide +kernel
theorem d_Y_stuck_13 : decode (yMb m_Y_stuck) 13 = .ok (.iload 4, 2) := by decide +kernel
theorem d_Y_stuck_15 : decode (yMb m_Y_stuck) 15 = .ok (.iload_n 3, 1) := by decide +kernel
theorem d_Y_stuck_16 : decode (yMb m_Y_stuck) 16 = .ok (.if_icmp .ge 26, 3) := by decide +kernel
theorem d_Y_stuck_19 : decode (yMb m_Y_stuck) 19 = .ok (.aload_n 2, 1) := by decide +kernel
theorem d_Y_stuck_20 : decode (yMb m_Y_stuck) 20 = .ok (.iload 4, 2) := by decide +kernel
theorem d_Y_stuck_22 : decode (yMb m_Y_stuck) 22 = .ok (.aaload, 1) := by decide +kernel
theorem d_Y_stuck_23 : decode (yMb m_Y_stuck) 23 = .ok (.astore 5, 2) := by decide +kernel
theorem d_Y_stuck_25 : decode (yMb m_Y_stuck) 25 = .ok (.aload 5, 2) := by decide +kernel
theorem d_Y_stuck_27 : decode (yMb m_Y_stuck) 27 = .ok (.invokestatic 145, 3) := by decide +kernel
theorem d_Y_stuck_30 : decode (yMb m_Y_stuck) 30 = .ok (.ifCond .eq 6, 3) := by decide +kernel
theorem d_Y_stuck_33 : decode (yMb m_Y_stuck) 33 = .ok (.iinc 1 1, 3) := by decide +kernel
theorem d_Y_stuck_36 : decode (yMb m_Y_stuck) 36 = .ok (.iinc 4 1, 3) := by decide +kernel
theorem d_Y_stuck_39 : decode (yMb m_Y_stuck) 39 = .ok (.goto (-26), 3) := by decide +kernel
theorem d_Y_stuck_42 : decode (yMb m_Y_stuck) 42 = .ok (.iload_n 1, 1) := by decide +kernel
theorem d_Y_stuck_43 : decode (yMb m_Y_stuck) 43 = .ok (.ireturn, 1) := by decide +kernel
theorem d_Y_count_0 : decode (yMb m_Y_count) 0 = .ok (.iload_n 1, 1) := by decide +kernel
theorem d_Y_count_1 : decode (yMb m_Y_count) 1 = .ok (.tableswitch 82 0 6 #[43, 48, 54, 60, 66, 72, 77], 43) := by decide +kernel
theorem d_Y_count_44 : decode (yMb m_Y_count) 44 = .ok (.aload_n 0, 1) := by decide +kernel
theorem d_Y_count_45 : decode (yMb m_Y_count) 45 = .ok (.getfield 27, 3) := by decide +kernel
theorem d_Y_count_48 : decode (yMb m_Y_count) 48 = .ok (.ireturn, 1) := by decide +kernel
theorem d_Y_count_49 : decode (yMb m_Y_count) 49 = .ok (.aload_n 0, 1) := by decide +kernel
theorem d_Y_count_50 : decode (yMb m_Y_count) 50 = .ok (.iconst 0, 1) := by decide +kernel
theorem d_Y_count_51 : decode (yMb m_Y_count) 51 = .ok (.invokevirtual 149, 3) := by decide +kernel
theorem d_Y_count_54 : decode (yMb m_Y_count) 54 = .ok (.ireturn, 1) := by decide +kernel
theorem d_Y_count_55 : decode (yMb m_Y_count) 55 = .ok (.aload_n 0, 1) := by decide +kernel
theorem d_Y_count_56 : decode (yMb m_Y_count) 56 = .ok (.iconst 2, 1) := by decide +kernel
theorem d_Y_count_57 : decode (yMb m_Y_count) 57 = .ok (.invokevirtual 149, 3) := by decide +kernel
theorem d_Y_count_60 : decode (yMb m_Y_count) 60 = .ok (.ireturn, 1) := by decide +kernel
theorem d_Y_count_61 : decode (yMb m_Y_count) 61 = .ok (.aload_n 0, 1) := by decide +kernel
theorem d_Y_count_62 : decode (yMb m_Y_count) 62 = .ok (.iconst 3, 1) := by decide +kernel
theorem d_Y_count_63 : decode (yMb m_Y_count) 63 = .ok (.invokevirtual 149, 3) := by decide +kernel
theorem d_Y_count_66 : decode (yMb m_Y_count) 66 = .ok (.ireturn, 1) := by decide +kernel
theorem d_Y_count_67 : decode (yMb m_Y_count) 67 = .ok (.aload_n 0, 1) := by decide +kernel
theorem d_Y_count_68 : decode (yMb m_Y_count) 68 = .ok (.iconst 4, 1) := by decide +kernel
theorem d_Y_count_69 : decode (yMb m_Y_count) 69 = .ok (.invokevirtual 149, 3) := by decide +kernel
theorem d_Y_count_72 : decode (yMb m_Y_count) 72 = .ok (.ireturn, 1) := by decide +kernel
theorem d_Y_count_73 : decode (yMb m_Y_count) 73 = .ok (.aload_n 0, 1) := by decide +kernel
theorem d_Y_count_74 : decode (yMb m_Y_count) 74 = .ok (.getfield 152, 3) := by decide +kernel
theorem d_Y_count_77 : decode (yMb m_Y_count) 77 = .ok (.ireturn, 1) := by decide +kernel
theorem d_Y_count_78 : decode (yMb m_Y_count) 78 = .ok (.aload_n 0, 1) := by decide +kernel
theorem d_Y_count_79 : decode (yMb m_Y_count) 79 = .ok (.invokevirtual 155, 3) := by decide +kernel
theorem d_Y_count_82 : decode (yMb m_Y_count) 82 = .ok (.ireturn, 1) := by decide +kernel
theorem d_Y_count_83 : decode (yMb m_Y_count) 83 = .ok (.iconst (-1), 1) := by decide +kernel
theorem d_Y_count_84 : decode (yMb m_Y_count) 84 = .ok (.ireturn, 1) := by decide +kernel
theorem d_Y_threadAt_0 : decode (yMb m_Y_threadAt) 0 = .ok (.iload_n 1, 1) := by decide +kernel
theorem d_Y_threadAt_1 : decode (yMb m_Y_threadAt) 1 = .ok (.ifCond .lt 9, 3) := by decide +kernel
theorem d_Y_threadAt_4 : decode (yMb m_Y_threadAt) 4 = .ok (.iload_n 1, 1) := by decide +kernel
theorem d_Y_threadAt_5 : decode (yMb m_Y_threadAt) 5 = .ok (.bipush 6, 2) := by decide +kernel
theorem d_Y_threadAt_7 : decode (yMb m_Y_threadAt) 7 = .ok (.if_icmp .lt 7, 3) := by decide +kernel
theorem d_Y_threadAt_10 : decode (yMb m_Y_threadAt) 10 = .ok (.aconst_null, 1) := by decide +kernel
theorem d_Y_threadAt_11 : decode (yMb m_Y_threadAt) 11 = .ok (.goto 9, 3) := by decide +kernel
theorem d_Y_threadAt_14 : decode (yMb m_Y_threadAt) 14 = .ok (.aload_n 0, 1) := by decide +kernel
theorem d_Y_threadAt_15 : decode (yMb m_Y_threadAt) 15 = .ok (.getfield 11, 3) := by decide +kernel
theorem d_Y_threadAt_18 : decode (yMb m_Y_threadAt) 18 = .ok (.iload_n 1, 1) := by decide +kernel
theorem d_Y_threadAt_19 : decode (yMb m_Y_threadAt) 19 = .ok (.aaload, 1) := by decide +kernel
theorem d_Y_threadAt_20 : decode (yMb m_Y_threadAt) 20 = .ok (.areturn, 1) := by decide +kernel
theorem d_Y_placeAt_0 : decode (yMb m_Y_placeAt) 0 = .ok (.iload_n 1, 1) := by decide +kernel
theorem d_Y_placeAt_1 : decode (yMb m_Y_placeAt) 1 = .ok (.ifCond .lt 11, 3) := by decide +kernel
theorem d_Y_placeAt_4 : decode (yMb m_Y_placeAt) 4 = .ok (.iload_n 1, 1) := by decide +kernel
theorem d_Y_placeAt_5 : decode (yMb m_Y_placeAt) 5 = .ok (.aload_n 0, 1) := by decide +kernel
theorem d_Y_placeAt_6 : decode (yMb m_Y_placeAt) 6 = .ok (.getfield 27, 3) := by decide +kernel
theorem d_Y_placeAt_9 : decode (yMb m_Y_placeAt) 9 = .ok (.if_icmp .lt 7, 3) := by decide +kernel
theorem d_Y_placeAt_12 : decode (yMb m_Y_placeAt) 12 = .ok (.aconst_null, 1) := by decide +kernel
theorem d_Y_placeAt_13 : decode (yMb m_Y_placeAt) 13 = .ok (.goto 9, 3) := by decide +kernel
theorem d_Y_placeAt_16 : decode (yMb m_Y_placeAt) 16 = .ok (.aload_n 0, 1) := by decide +kernel
theorem d_Y_placeAt_17 : decode (yMb m_Y_placeAt) 17 = .ok (.getfield 17, 3) := by decide +kernel
theorem d_Y_placeAt_20 : decode (yMb m_Y_placeAt) 20 = .ok (.iload_n 1, 1) := by decide +kernel
theorem d_Y_placeAt_21 : decode (yMb m_Y_placeAt) 21 = .ok (.aaload, 1) := by decide +kernel
theorem d_Y_placeAt_22 : decode (yMb m_Y_placeAt) 22 = .ok (.areturn, 1) := by decide +kernel
theorem d_Y_newPlace_0 : decode (yMb m_Y_newPlace) 0 = .ok (.iload_n 0, 1) := by decide +kernel
theorem d_Y_newPlace_1 : decode (yMb m_Y_newPlace) 1 = .ok (.tableswitch 83 0 4 #[35, 44, 53, 63, 73], 35) := by decide +kernel
theorem d_Y_newPlace_36 : decode (yMb m_Y_newPlace) 36 = .ok (.new 158, 3) := by decide +kernel
theorem d_Y_newPlace_39 : decode (yMb m_Y_newPlace) 39 = .ok (.dup, 1) := by decide +kernel
theorem d_Y_newPlace_40 : decode (yMb m_Y_newPlace) 40 = .ok (.iload_n 1, 1) := by decide +kernel
theorem d_Y_newPlace_41 : decode (yMb m_Y_newPlace) 41 = .ok (.invokespecial 160, 3) := by decide +kernel
theorem d_Y_newPlace_44 : decode (yMb m_Y_newPlace) 44 = .ok (.areturn, 1) := by decide +kernel
theorem d_Y_newPlace_45 : decode (yMb m_Y_newPlace) 45 = .ok (.new 161, 3) := by decide +kernel
theorem d_Y_newPlace_48 : decode (yMb m_Y_newPlace) 48 = .ok (.dup, 1) := by decide +kernel
theorem d_Y_newPlace_49 : decode (yMb m_Y_newPlace) 49 = .ok (.iload_n 1, 1) := by decide +kernel
theorem d_Y_newPlace_50 : decode (yMb m_Y_newPlace) 50 = .ok (.invokespecial 163, 3) := by decide +kernel
theorem d_Y_newPlace_53 : decode (yMb m_Y_newPlace) 53 = .ok (.areturn, 1) := by decide +kernel
theorem d_Y_newPlace_54 : decode (yMb m_Y_newPlace) 54 = .ok (.new 164, 3) := by decide +kernel
theorem d_Y_newPlace_57 : decode (yMb m_Y_newPlace) 57 = .ok (.dup, 1) := by decide +kernel
theorem d_Y_newPlace_58 : decode (yMb m_Y_newPlace) 58 = .ok (.iload_n 1, 1) := by decide +kernel
theorem d_Y_newPlace_59 : decode (yMb m_Y_newPlace) 59 = .ok (.iload_n 2, 1) := by decide +kernel
theorem d_Y_newPlace_60 : decode (yMb m_Y_newPlace) 60 = .ok (.invokespecial 166, 3) := by decide +kernel
theorem d_Y_newPlace_63 : decode (yMb m_Y_newPlace) 63 = .ok (.areturn, 1) := by decide +kernel
theorem d_Y_newPlace_64 : decode (yMb m_Y_newPlace) 64 = .ok (.new 168, 3) := by decide +kernel
theorem d_Y_newPlace_67 : decode (yMb m_Y_newPlace) 67 = .ok (.dup, 1) := by decide +kernel
theorem d_Y_newPlace_68 : decode (yMb m_Y_newPlace) 68 = .ok (.iload_n 1, 1) := by decide +kernel
theorem d_Y_newPlace_69 : decode (yMb m_Y_newPlace) 69 = .ok (.iload_n 2, 1) := by decide +kernel
theorem d_Y_newPlace_70 : decode (yMb m_Y_newPlace) 70 = .ok (.invokespecial 170, 3) := by decide +kernel
theorem d_Y_newPlace_73 : decode (yMb m_Y_newPlace) 73 = .ok (.areturn, 1) := by decide +kernel
theorem d_Y_newPlace_74 : decode (yMb m_Y_newPlace) 74 = .ok (.new 171, 3) := by decide +kernel
theorem d_Y_newPlace_77 : decode (yMb m_Y_newPlace) 77 = .ok (.dup, 1) := by decide +kernel
theorem d_Y_newPlace_78 : decode (yMb m_Y_newPlace) 78 = .ok (.iload_n 1, 1) := by decide +kernel
theorem d_Y_newPlace_79 : decode (yMb m_Y_newPlace) 79 = .ok (.iload_n 2, 1) := by decide +kernel
theorem d_Y_newPlace_80 : decode (yMb m_Y_newPlace) 80 = .ok (.invokespecial 173, 3) := by decide +kernel
theorem d_Y_newPlace_83 : decode (yMb m_Y_newPlace) 83 = .ok (.areturn, 1) := by decide +kernel
theorem d_Y_newPlace_84 : decode (yMb m_Y_newPlace) 84 = .ok (.new 174, 3) := by decide +kernel
theorem d_Y_newPlace_87 : decode (yMb m_Y_newPlace) 87 = .ok (.dup, 1) := by decide +kernel
theorem d_Y_newPlace_88 : decode (yMb m_Y_newPlace) 88 = .ok (.iload_n 1, 1) := by decide +kernel
theorem d_Y_newPlace_89 : decode (yMb m_Y_newPlace) 89 = .ok (.iload_n 2, 1) := by decide +kernel
theorem d_Y_newPlace_90 : decode (yMb m_Y_newPlace) 90 = .ok (.invokespecial 176, 3) := by decide +kernel
theorem d_Y_newPlace_93 : decode (yMb m_Y_newPlace) 93 = .ok (.areturn, 1) := by decide +kernel
theorem d_Y_isAct_0 : decode (yMb m_Y_isAct) 0 = .ok (.iload_n 0, 1) := by decide +kernel
theorem d_Y_isAct_1 : decode (yMb m_Y_isAct) 1 = .ok (.tableswitch 82 2 10 #[51, 51, 51, 82, 82, 82, 82, 66, 66], 51) := by decide +kernel
theorem d_Y_isAct_52 : decode (yMb m_Y_isAct) 52 = .ok (.iload_n 1, 1) := by decide +kernel
theorem d_Y_isAct_53 : decode (yMb m_Y_isAct) 53 = .ok (.ifCond .eq 8, 3) := by decide +kernel
theorem d_Y_isAct_56 : decode (yMb m_Y_isAct) 56 = .ok (.iload_n 1, 1) := by decide +kernel
theorem d_Y_isAct_57 : decode (yMb m_Y_isAct) 57 = .ok (.iconst 1, 1) := by decide +kernel
theorem d_Y_isAct_58 : decode (yMb m_Y_isAct) 58 = .ok (.if_icmp .ne 7, 3) := by decide +kernel
theorem d_Y_isAct_61 : decode (yMb m_Y_isAct) 61 = .ok (.iconst 1, 1) := by decide +kernel
theorem d_Y_isAct_62 : decode (yMb m_Y_isAct) 62 = .ok (.goto 4, 3) := by decide +kernel
theorem d_Y_isAct_65 : decode (yMb m_Y_isAct) 65 = .ok (.iconst 0, 1) := by decide +kernel
theorem d_Y_isAct_66 : decode (yMb m_Y_isAct) 66 = .ok (.ireturn, 1) := by decide +kernel
theorem d_Y_isAct_67 : decode (yMb m_Y_isAct) 67 = .ok (.iload_n 1, 1) := by decide +kernel
theorem d_Y_isAct_68 : decode (yMb m_Y_isAct) 68 = .ok (.iconst 1, 1) := by decide +kernel
theorem d_Y_isAct_69 : decode (yMb m_Y_isAct) 69 = .ok (.if_icmp .lt 12, 3) := by decide +kernel
theorem d_Y_isAct_72 : decode (yMb m_Y_isAct) 72 = .ok (.iload_n 1, 1) := by decide +kernel
theorem d_Y_isAct_73 : decode (yMb m_Y_isAct) 73 = .ok (.iconst 3, 1) := by decide +kernel
theorem d_Y_isAct_74 : decode (yMb m_Y_isAct) 74 = .ok (.if_icmp .gt 7, 3) := by decide +kernel
theorem d_Y_isAct_77 : decode (yMb m_Y_isAct) 77 = .ok (.iconst 1, 1) := by decide +kernel
theorem d_Y_isAct_78 : decode (yMb m_Y_isAct) 78 = .ok (.goto 4, 3) := by decide +kernel
theorem d_Y_isAct_81 : decode (yMb m_Y_isAct) 81 = .ok (.iconst 0, 1) := by decide +kernel
theorem d_Y_isAct_82 : decode (yMb m_Y_isAct) 82 = .ok (.ireturn, 1) := by decide +kernel
theorem d_Y_isAct_83 : decode (yMb m_Y_isAct) 83 = .ok (.iload_n 0, 1) := by decide +kernel
theorem d_Y_isAct_84 : decode (yMb m_Y_isAct) 84 = .ok (.ifCond .lt 15, 3) := by decide +kernel
theorem d_Y_isAct_87 : decode (yMb m_Y_isAct) 87 = .ok (.iload_n 0, 1) := by decide +kernel
theorem d_Y_isAct_88 : decode (yMb m_Y_isAct) 88 = .ok (.getstatic 54, 3) := by decide +kernel
theorem d_Y_isAct_91 : decode (yMb m_Y_isAct) 91 = .ok (.arraylength, 1) := by decide +kernel
theorem d_Y_isAct_92 : decode (yMb m_Y_isAct) 92 = .ok (.if_icmp .ge 7, 3) := by decide +kernel
theorem d_Y_isAct_95 : decode (yMb m_Y_isAct) 95 = .ok (.iconst 1, 1) := by decide +kernel
theorem d_Y_isAct_96 : decode (yMb m_Y_isAct) 96 = .ok (.goto 4, 3) := by decide +kernel
theorem d_Y_isAct_99 : decode (yMb m_Y_isAct) 99 = .ok (.iconst 0, 1) := by decide +kernel
theorem d_Y_isAct_100 : decode (yMb m_Y_isAct) 100 = .ok (.ireturn, 1) := by decide +kernel
theorem d_Y_isPatience_0 : decode (yMb m_Y_isPatience) 0 = .ok (.iload_n 0, 1) := by decide +kernel
theorem d_Y_isPatience_1 : decode (yMb m_Y_isPatience) 1 = .ok (.iconst (-1), 1) := by decide +kernel
theorem d_Y_isPatience_2 : decode (yMb m_Y_isPatience) 2 = .ok (.if_icmp .lt 13, 3) := by decide +kernel
theorem d_Y_isPatience_5 : decode (yMb m_Y_isPatience) 5 = .ok (.iload_n 0, 1) := by decide +kernel
theorem d_Y_isPatience_6 : decode (yMb m_Y_isPatience) 6 = .ok (.bipush 100, 2) := by decide +kernel
theorem d_Y_isPatience_8 : decode (yMb m_Y_isPatience) 8 = .ok (.if_icmp .gt 7, 3) := by decide +kernel
theorem d_Y_isPatience_11 : decode (yMb m_Y_isPatience) 11 = .ok (.iconst 1, 1) := by decide +kernel
theorem d_Y_isPatience_12 : decode (yMb m_Y_isPatience) 12 = .ok (.goto 4, 3) := by decide +kernel
theorem d_Y_isPatience_15 : decode (yMb m_Y_isPatience) 15 = .ok (.iconst 0, 1) := by decide +kernel
theorem d_Y_isPatience_16 : decode (yMb m_Y_isPatience) 16 = .ok (.ireturn, 1) := by decide +kernel
theorem d_Y_passOneTick_0 : decode (yMb m_Y_passOneTick) 0 = .ok (.aload_n 0, 1) := by decide +kernel
theorem d_Y_passOneTick_1 : decode (yMb m_Y_passOneTick) 1 = .ok (.dup, 1) := by decide +kernel
theorem d_Y_passOneTick_2 : decode (yMb m_Y_passOneTick) 2 = .ok (.getfield 152, 3) := by decide +kernel
theorem d_Y_passOneTick_5 : decode (yMb m_Y_passOneTick) 5 = .ok (.iconst 1, 1) := by decide +kernel
theorem d_Y_passOneTick_6 : decode (yMb m_Y_passOneTick) 6 = .ok (.iadd, 1) := by decide +kernel
theorem d_Y_passOneTick_7 : decode (yMb m_Y_passOneTick) 7 = .ok (.putfield 152, 3) := by decide +kernel
theorem d_Y_passOneTick_10 : decode (yMb m_Y_passOneTick) 10 = .ok (.iconst 0, 1) := by decide +kernel
theorem d_Y_passOneTick_11 : decode (yMb m_Y_passOneTick) 11 = .ok (.istore_n 1, 1) := by decide +kernel
theorem d_Y_passOneTick_12 : decode (yMb m_Y_passOneTick) 12 = .ok (.aload_n 0, 1) := by decide +kernel
theorem d_Y_passOneTick_13 : decode (yMb m_Y_passOneTick) 13 = .ok (.getfield 11, 3) := by decide +kernel
theorem d_Y_passOneTick_16 : decode (yMb m_Y_passOneTick) 16 = .ok (.astore_n 2, 1) := by decide +kernel
theorem d_Y_passOneTick_17 : decode (yMb m_Y_passOneTick) 17 = .ok (.aload_n 2, 1) := by decide +kernel
theorem d_Y_passOneTick_18 : decode (yMb m_Y_passOneTick) 18 = .ok (.arraylength, 1) := by decide +kernel
theorem d_Y_passOneTick_19 : decode (yMb m_Y_passOneTick) 19 = .ok (.istore_n 3, 1) := by decide +kernel
theorem d_Y_passOneTick_20 : decode (yMb m_Y_passOneTick) 20 = .ok (.iconst 0, 1) := by decide +kernel
theorem d_Y_passOneTick_21 : decode (yMb m_Y_passOneTick) 21 = .ok (.istore 4, 2) := by decide +kernel
theorem d_Y_passOneTick_23 : decode (yMb m_Y_passOneTick) 23 = .ok (.iload 4, 2) := by decide +kernel
theorem d_Y_passOneTick_25 : decode (yMb m_Y_passOneTick) 25 = .ok (.iload_n 3, 1) := by decide +kernel
theorem d_Y_passOneTick_26 : decode (yMb m_Y_passOneTick) 26 = .ok (.if_icmp .ge 51, 3) := by decide +kernel
theorem d_Y_passOneTick_29 : decode (yMb m_Y_passOneTick) 29 = .ok (.aload_n 2, 1) := by decide +kernel
theorem d_Y_passOneTick_30 : decode (yMb m_Y_passOneTick) 30 = .ok (.iload 4, 2) := by decide +kernel
theorem d_Y_passOneTick_32 : decode (yMb m_Y_passOneTick) 32 = .ok (.aaload, 1) := by decide +kernel
theorem d_Y_passOneTick_33 : decode (yMb m_Y_passOneTick) 33 = .ok (.astore 5, 2) := by decide +kernel
theorem d_Y_passOneTick_35 : decode (yMb m_Y_passOneTick) 35 = .ok (.aload 5, 2) := by decide +kernel
theorem d_Y_passOneTick_37 : decode (yMb m_Y_passOneTick) 37 = .ok (.getfield 89, 3) := by decide +kernel
theorem d_Y_passOneTick_40 : decode (yMb m_Y_passOneTick) 40 = .ok (.astore 6, 2) := by decide +kernel
theorem d_Y_passOneTick_42 : decode (yMb m_Y_passOneTick) 42 = .ok (.aload 6, 2) := by decide +kernel
theorem d_Y_passOneTick_44 : decode (yMb m_Y_passOneTick) 44 = .ok (.ifnull 27, 3) := by decide +kernel
theorem d_Y_passOneTick_47 : decode (yMb m_Y_passOneTick) 47 = .ok (.aload 5, 2) := by decide +kernel
theorem d_Y_passOneTick_49 : decode (yMb m_Y_passOneTick) 49 = .ok (.invokevirtual 177, 3) := by decide +kernel
theorem d_Y_passOneTick_52 : decode (yMb m_Y_passOneTick) 52 = .ok (.ifCond .eq 19, 3) := by decide +kernel
theorem d_Y_passOneTick_55 : decode (yMb m_Y_passOneTick) 55 = .ok (.aload 6, 2) := by decide +kernel
theorem d_Y_passOneTick_57 : decode (yMb m_Y_passOneTick) 57 = .ok (.aload 5, 2) := by decide +kernel
theorem d_Y_passOneTick_59 : decode (yMb m_Y_passOneTick) 59 = .ok (.iconst 2, 1) := by decide +kernel
theorem d_Y_passOneTick_60 : decode (yMb m_Y_passOneTick) 60 = .ok (.invokevirtual 101, 3) := by decide +kernel
theorem d_Y_passOneTick_63 : decode (yMb m_Y_passOneTick) 63 = .ok (.aload 6, 2) := by decide +kernel
theorem d_Y_passOneTick_65 : decode (yMb m_Y_passOneTick) 65 = .ok (.invokevirtual 79, 3) := by decide +kernel
theorem d_Y_passOneTick_68 : decode (yMb m_Y_passOneTick) 68 = .ok (.iinc 1 1, 3) := by decide +kernel
theorem d_Y_passOneTick_71 : decode (yMb m_Y_passOneTick) 71 = .ok (.iinc 4 1, 3) := by decide +kernel
theorem d_Y_passOneTick_74 : decode (yMb m_Y_passOneTick) 74 = .ok (.goto (-51), 3) := by decide +kernel
theorem d_Y_passOneTick_77 : decode (yMb m_Y_passOneTick) 77 = .ok (.iload_n 1, 1) := by decide +kernel
theorem d_Y_passOneTick_78 : decode (yMb m_Y_passOneTick) 78 = .ok (.ireturn, 1) := by decide +kernel
theorem d_Y_comesBackByLeaning_0 : decode (yMb m_Y_comesBackByLeaning) 0 = .ok (.aload_n 0, 1) := by decide +kernel
theorem d_Y_comesBackByLeaning_1 : decode (yMb m_Y_comesBackByLeaning) 1 = .ok (.invokevirtual 180, 3) := by decide +kernel
theorem d_Y_comesBackByLeaning_4 : decode (yMb m_Y_comesBackByLeaning) 4 = .ok (.astore_n 1, 1) := by decide +kernel
theorem d_Y_comesBackByLeaning_5 : decode (yMb m_Y_comesBackByLeaning) 5 = .ok (.iconst 1, 1) := by decide +kernel
theorem d_Y_comesBackByLeaning_6 : decode (yMb m_Y_comesBackByLeaning) 6 = .ok (.istore_n 2, 1) := by decide +kernel
theorem d_Y_comesBackByLeaning_7 : decode (yMb m_Y_comesBackByLeaning) 7 = .ok (.iload_n 2, 1) := by decide +kernel
theorem d_Y_comesBackByLeaning_8 : decode (yMb m_Y_comesBackByLeaning) 8 = .ok (.bipush 6, 2) := by decide +kernel
theorem d_Y_comesBackByLeaning_10 : decode (yMb m_Y_comesBackByLeaning) 10 = .ok (.if_icmp .ge 23, 3) := by decide +kernel
theorem d_Y_comesBackByLeaning_13 : decode (yMb m_Y_comesBackByLeaning) 13 = .ok (.aload_n 1, 1) := by decide +kernel
theorem d_Y_comesBackByLeaning_14 : decode (yMb m_Y_comesBackByLeaning) 14 = .ok (.ifnull 19, 3) := by decide +kernel
theorem d_Y_comesBackByLeaning_17 : decode (yMb m_Y_comesBackByLeaning) 17 = .ok (.aload_n 1, 1) := by decide +kernel
theorem d_Y_comesBackByLeaning_18 : decode (yMb m_Y_comesBackByLeaning) 18 = .ok (.aload_n 0, 1) := by decide +kernel
theorem d_Y_comesBackByLeaning_19 : decode (yMb m_Y_comesBackByLeaning) 19 = .ok (.if_acmp .eq 14, 3) := by decide +kernel
theorem d_Y_comesBackByLeaning_22 : decode (yMb m_Y_comesBackByLeaning) 22 = .ok (.aload_n 1, 1) := by decide +kernel
theorem d_Y_comesBackByLeaning_23 : decode (yMb m_Y_comesBackByLeaning) 23 = .ok (.invokevirtual 180, 3) := by decide +kernel
theorem d_Y_comesBackByLeaning_26 : decode (yMb m_Y_comesBackByLeaning) 26 = .ok (.astore_n 1, 1) := by decide +kernel
theorem d_Y_comesBackByLeaning_27 : decode (yMb m_Y_comesBackByLeaning) 27 = .ok (.iinc 2 1, 3) := by decide +kernel
theorem d_Y_comesBackByLeaning_30 : decode (yMb m_Y_comesBackByLeaning) 30 = .ok (.goto (-23), 3) := by decide +kernel
theorem d_Y_comesBackByLeaning_33 : decode (yMb m_Y_comesBackByLeaning) 33 = .ok (.aload_n 1, 1) := by decide +kernel
theorem d_Y_comesBackByLeaning_34 : decode (yMb m_Y_comesBackByLeaning) 34 = .ok (.aload_n 0, 1) := by decide +kernel
theorem d_Y_comesBackByLeaning_35 : decode (yMb m_Y_comesBackByLeaning) 35 = .ok (.if_acmp .ne 7, 3) := by decide +kernel
theorem d_Y_comesBackByLeaning_38 : decode (yMb m_Y_comesBackByLeaning) 38 = .ok (.iconst 1, 1) := by decide +kernel
theorem d_Y_comesBackByLeaning_39 : decode (yMb m_Y_comesBackByLeaning) 39 = .ok (.goto 4, 3) := by decide +kernel
theorem d_Y_comesBackByLeaning_42 : decode (yMb m_Y_comesBackByLeaning) 42 = .ok (.iconst 0, 1) := by decide +kernel
theorem d_Y_comesBackByLeaning_43 : decode (yMb m_Y_comesBackByLeaning) 43 = .ok (.ireturn, 1) := by decide +kernel
theorem d_Y_actsEnded_0 : decode (yMb m_Y_actsEnded) 0 = .ok (.iconst 0, 1) := by decide +kernel
theorem d_Y_actsEnded_1 : decode (yMb m_Y_actsEnded) 1 = .ok (.istore_n 2, 1) := by decide +kernel
theorem d_Y_actsEnded_2 : decode (yMb m_Y_actsEnded) 2 = .ok (.aload_n 0, 1) := by decide +kernel
theorem d_Y_actsEnded_3 : decode (yMb m_Y_actsEnded) 3 = .ok (.getfield 11, 3) := by decide +kernel
theorem d_Y_actsEnded_6 : decode (yMb m_Y_actsEnded) 6 = .ok (.astore_n 3, 1) := by decide +kernel
theorem d_Y_actsEnded_7 : decode (yMb m_Y_actsEnded) 7 = .ok (.aload_n 3, 1) := by decide +kernel
theorem d_Y_actsEnded_8 : decode (yMb m_Y_actsEnded) 8 = .ok (.arraylength, 1) := by decide +kernel
theorem d_Y_actsEnded_9 : decode (yMb m_Y_actsEnded) 9 = .ok (.istore 4, 2) := by decide +kernel
theorem d_Y_actsEnded_11 : decode (yMb m_Y_actsEnded) 11 = .ok (.iconst 0, 1) := by decide +kernel
theorem d_Y_actsEnded_12 : decode (yMb m_Y_actsEnded) 12 = .ok (.istore 5, 2) := by decide +kernel
theorem d_Y_actsEnded_14 : decode (yMb m_Y_actsEnded) 14 = .ok (.iload 5, 2) := by decide +kernel
theorem d_Y_actsEnded_16 : decode (yMb m_Y_actsEnded) 16 = .ok (.iload 4, 2) := by decide +kernel
theorem d_Y_actsEnded_18 : decode (yMb m_Y_actsEnded) 18 = .ok (.if_icmp .ge 25, 3) := by decide +kernel
theorem d_Y_actsEnded_21 : decode (yMb m_Y_actsEnded) 21 = .ok (.aload_n 3, 1) := by decide +kernel
theorem d_Y_actsEnded_22 : decode (yMb m_Y_actsEnded) 22 = .ok (.iload 5, 2) := by decide +kernel
theorem d_Y_actsEnded_24 : decode (yMb m_Y_actsEnded) 24 = .ok (.aaload, 1) := by decide +kernel
theorem d_Y_actsEnded_25 : decode (yMb m_Y_actsEnded) 25 = .ok (.astore 6, 2) := by decide +kernel
theorem d_Y_actsEnded_27 : decode (yMb m_Y_actsEnded) 27 = .ok (.iload_n 2, 1) := by decide +kernel
theorem d_Y_actsEnded_28 : decode (yMb m_Y_actsEnded) 28 = .ok (.aload 6, 2) := by decide +kernel
theorem d_Y_actsEnded_30 : decode (yMb m_Y_actsEnded) 30 = .ok (.getfield 184, 3) := by decide +kernel
theorem d_Y_actsEnded_33 : decode (yMb m_Y_actsEnded) 33 = .ok (.iload_n 1, 1) := by decide +kernel
theorem d_Y_actsEnded_34 : decode (yMb m_Y_actsEnded) 34 = .ok (.iaload, 1) := by decide +kernel
theorem d_Y_actsEnded_35 : decode (yMb m_Y_actsEnded) 35 = .ok (.iadd, 1) := by decide +kernel
theorem d_Y_actsEnded_36 : decode (yMb m_Y_actsEnded) 36 = .ok (.istore_n 2, 1) := by decide +kernel
theorem d_Y_actsEnded_37 : decode (yMb m_Y_actsEnded) 37 = .ok (.iinc 5 1, 3) := by decide +kernel
theorem d_Y_actsEnded_40 : decode (yMb m_Y_actsEnded) 40 = .ok (.goto (-26), 3) := by decide +kernel
theorem d_Y_actsEnded_43 : decode (yMb m_Y_actsEnded) 43 = .ok (.iload_n 2, 1) := by decide +kernel
theorem d_Y_actsEnded_44 : decode (yMb m_Y_actsEnded) 44 = .ok (.ireturn, 1) := by decide +kernel
theorem d_Y_runningThreads_0 : decode (yMb m_Y_runningThreads) 0 = .ok (.iconst 0, 1) := by decide +kernel
theorem d_Y_runningThreads_1 : decode (yMb m_Y_runningThreads) 1 = .ok (.istore_n 1, 1) := by decide +kernel
theorem d_Y_runningThreads_2 : decode (yMb m_Y_runningThreads) 2 = .ok (.aload_n 0, 1) := by decide +kernel
theorem d_Y_runningThreads_3 : decode (yMb m_Y_runningThreads) 3 = .ok (.getfield 11, 3) := by decide +kernel
theorem d_Y_runningThreads_6 : decode (yMb m_Y_runningThreads) 6 = .ok (.astore_n 2, 1) := by decide +kernel
theorem d_Y_runningThreads_7 : decode (yMb m_Y_runningThreads) 7 = .ok (.aload_n 2, 1) := by decide +kernel
theorem d_Y_runningThreads_8 : decode (yMb m_Y_runningThreads) 8 = .ok (.arraylength, 1) := by decide +kernel
theorem d_Y_runningThreads_9 : decode (yMb m_Y_runningThreads) 9 = .ok (.istore_n 3, 1) := by decide +kernel
theorem d_Y_runningThreads_10 : decode (yMb m_Y_runningThreads) 10 = .ok (.iconst 0, 1) := by decide +kernel
theorem d_Y_runningThreads_11 : decode (yMb m_Y_runningThreads) 11 = .ok (.istore 4, 2) := by decide +kernel
theorem d_Y_runningThreads_13 : decode (yMb m_Y_runningThreads) 13 = .ok (.iload 4, 2) := by decide +kernel
theorem d_Y_runningThreads_15 : decode (yMb m_Y_runningThreads) 15 = .ok (.iload_n 3, 1) := by decide +kernel
theorem d_Y_runningThreads_16 : decode (yMb m_Y_runningThreads) 16 = .ok (.if_icmp .ge 26, 3) := by decide +kernel
theorem d_Y_runningThreads_19 : decode (yMb m_Y_runningThreads) 19 = .ok (.aload_n 2, 1) := by decide +kernel
theorem d_Y_runningThreads_20 : decode (yMb m_Y_runningThreads) 20 = .ok (.iload 4, 2) := by decide +kernel
theorem d_Y_runningThreads_22 : decode (yMb m_Y_runningThreads) 22 = .ok (.aaload, 1) := by decide +kernel
theorem d_Y_runningThreads_23 : decode (yMb m_Y_runningThreads) 23 = .ok (.astore 5, 2) := by decide +kernel
theorem d_Y_runningThreads_25 : decode (yMb m_Y_runningThreads) 25 = .ok (.aload 5, 2) := by decide +kernel
theorem d_Y_runningThreads_27 : decode (yMb m_Y_runningThreads) 27 = .ok (.getfield 64, 3) := by decide +kernel
theorem d_Y_runningThreads_30 : decode (yMb m_Y_runningThreads) 30 = .ok (.ifCond .ne 6, 3) := by decide +kernel
theorem d_Y_runningThreads_33 : decode (yMb m_Y_runningThreads) 33 = .ok (.iinc 1 1, 3) := by decide +kernel
theorem d_Y_runningThreads_36 : decode (yMb m_Y_runningThreads) 36 = .ok (.iinc 4 1, 3) := by decide +kernel
theorem d_Y_runningThreads_39 : decode (yMb m_Y_runningThreads) 39 = .ok (.goto (-26), 3) := by decide +kernel
theorem d_Y_runningThreads_42 : decode (yMb m_Y_runningThreads) 42 = .ok (.iload_n 1, 1) := by decide +kernel
theorem d_Y_runningThreads_43 : decode (yMb m_Y_runningThreads) 43 = .ok (.ireturn, 1) := by decide +kernel
theorem d_Y_numberOf_0 : decode (yMb m_Y_numberOf) 0 = .ok (.aload_n 0, 1) := by decide +kernel
theorem d_Y_numberOf_1 : decode (yMb m_Y_numberOf) 1 = .ok (.ifnonnull 7, 3) := by decide +kernel
theorem d_Y_numberOf_4 : decode (yMb m_Y_numberOf) 4 = .ok (.iconst (-1), 1) := by decide +kernel
theorem d_Y_numberOf_5 : decode (yMb m_Y_numberOf) 5 = .ok (.goto 7, 3) := by decide +kernel
theorem d_Y_numberOf_8 : decode (yMb m_Y_numberOf) 8 = .ok (.aload_n 0, 1) := by decide +kernel
theorem d_Y_numberOf_9 : decode (yMb m_Y_numberOf) 9 = .ok (.getfield 144, 3) := by decide +kernel
theorem d_Y_numberOf_12 : decode (yMb m_Y_numberOf) 12 = .ok (.ireturn, 1) := by decide +kernel
theorem d_T_init_0 : decode (yMb m_T_init) 0 = .ok (.aload_n 0, 1) := by decide +kernel
theorem d_T_init_1 : decode (yMb m_T_init) 1 = .ok (.invokespecial 3, 3) := by decide +kernel
theorem d_T_init_4 : decode (yMb m_T_init) 4 = .ok (.aload_n 0, 1) := by decide +kernel
theorem d_T_init_5 : decode (yMb m_T_init) 5 = .ok (.iconst 5, 1) := by decide +kernel
theorem d_T_init_6 : decode (yMb m_T_init) 6 = .ok (.newarray .int, 2) := by decide +kernel
theorem d_T_init_8 : decode (yMb m_T_init) 8 = .ok (.putfield 9, 3) := by decide +kernel
theorem d_T_init_11 : decode (yMb m_T_init) 11 = .ok (.aload_n 0, 1) := by decide +kernel
theorem d_T_init_12 : decode (yMb m_T_init) 12 = .ok (.iconst 0, 1) := by decide +kernel
theorem d_T_init_13 : decode (yMb m_T_init) 13 = .ok (.putfield 15, 3) := by decide +kernel
theorem d_T_init_16 : decode (yMb m_T_init) 16 = .ok (.aload_n 0, 1) := by decide +kernel
theorem d_T_init_17 : decode (yMb m_T_init) 17 = .ok (.iconst 0, 1) := by decide +kernel
theorem d_T_init_18 : decode (yMb m_T_init) 18 = .ok (.putfield 19, 3) := by decide +kernel
theorem d_T_init_21 : decode (yMb m_T_init) 21 = .ok (.aload_n 0, 1) := by decide +kernel
theorem d_T_init_22 : decode (yMb m_T_init) 22 = .ok (.iconst (-1), 1) := by decide +kernel
theorem d_T_init_23 : decode (yMb m_T_init) 23 = .ok (.putfield 22, 3) := by decide +kernel
theorem d_T_init_26 : decode (yMb m_T_init) 26 = .ok (.aload_n 0, 1) := by decide +kernel
theorem d_T_init_27 : decode (yMb m_T_init) 27 = .ok (.iload_n 1, 1) := by decide +kernel
theorem d_T_init_28 : decode (yMb m_T_init) 28 = .ok (.putfield 25, 3) := by decide +kernel
theorem d_T_init_31 : decode (yMb m_T_init) 31 = .ok (.return_, 1) := by decide +kernel
theorem d_T_begin_0 : decode (yMb m_T_begin) 0 = .ok (.aload_n 0, 1) := by decide +kernel
theorem d_T_begin_1 : decode (yMb m_T_begin) 1 = .ok (.iload_n 1, 1) := by decide +kernel
theorem d_T_begin_2 : decode (yMb m_T_begin) 2 = .ok (.putfield 28, 3) := by decide +kernel
theorem d_T_begin_5 : decode (yMb m_T_begin) 5 = .ok (.aload_n 0, 1) := by decide +kernel
theorem d_T_begin_6 : decode (yMb m_T_begin) 6 = .ok (.iload_n 2, 1) := by decide +kernel
theorem d_T_begin_7 : decode (yMb m_T_begin) 7 = .ok (.putfield 31, 3) := by decide +kernel
theorem d_T_begin_10 : decode (yMb m_T_begin) 10 = .ok (.aload_n 0, 1) := by decide +kernel
theorem d_T_begin_11 : decode (yMb m_T_begin) 11 = .ok (.iconst 1, 1) := by decide +kernel
theorem d_T_begin_12 : decode (yMb m_T_begin) 12 = .ok (.putfield 19, 3) := by decide +kernel
theorem d_T_begin_15 : decode (yMb m_T_begin) 15 = .ok (.aload_n 0, 1) := by decide +kernel
theorem d_T_begin_16 : decode (yMb m_T_begin) 16 = .ok (.iconst 0, 1) := by decide +kernel
theorem d_T_begin_17 : decode (yMb m_T_begin) 17 = .ok (.putfield 34, 3) := by decide +kernel
theorem d_T_begin_20 : decode (yMb m_T_begin) 20 = .ok (.return_, 1) := by decide +kernel
theorem d_T_stay_0 : decode (yMb m_T_stay) 0 = .ok (.aload_n 0, 1) := by decide +kernel
theorem d_T_stay_1 : decode (yMb m_T_stay) 1 = .ok (.aload_n 1, 1) := by decide +kernel
theorem d_T_stay_2 : decode (yMb m_T_stay) 2 = .ok (.putfield 37, 3) := by decide +kernel
theorem d_T_stay_5 : decode (yMb m_T_stay) 5 = .ok (.aload_n 0, 1) := by decide +kernel
theorem d_T_stay_6 : decode (yMb m_T_stay) 6 = .ok (.iload_n 2, 1) := by decide +kernel
theorem d_T_stay_7 : decode (yMb m_T_stay) 7 = .ok (.putfield 15, 3) := by decide +kernel
theorem d_T_stay_10 : decode (yMb m_T_stay) 10 = .ok (.aload_n 0, 1) := by decide +kernel
theorem d_T_stay_11 : decode (yMb m_T_stay) 11 = .ok (.iload_n 3, 1) := by decide +kernel
theorem d_T_stay_12 : decode (yMb m_T_stay) 12 = .ok (.putfield 22, 3) := by decide +kernel
theorem d_T_stay_15 : decode (yMb m_T_stay) 15 = .ok (.return_, 1) := by decide +kernel
theorem d_T_end_0 : decode (yMb m_T_end) 0 = .ok (.aload_n 0, 1) := by decide +kernel
theorem d_T_end_1 : decode (yMb m_T_end) 1 = .ok (.aconst_null, 1) := by decide +kernel
theorem d_T_end_2 : decode (yMb m_T_end) 2 = .ok (.putfield 37, 3) := by decide +kernel
theorem d_T_end_5 : decode (yMb m_T_end) 5 = .ok (.aload_n 0, 1) := by decide +kernel
theorem d_T_end_6 : decode (yMb m_T_end) 6 = .ok (.iconst 0, 1) := by decide +kernel
theorem d_T_end_7 : decode (yMb m_T_end) 7 = .ok (.putfield 15, 3) := by decide +kernel
theorem d_T_end_10 : decode (yMb m_T_end) 10 = .ok (.aload_n 0, 1) := by decide +kernel
theorem d_T_end_11 : decode (yMb m_T_end) 11 = .ok (.iconst (-1), 1) := by decide +kernel
theorem d_T_end_12 : decode (yMb m_T_end) 12 = .ok (.putfield 22, 3) := by decide +kernel
theorem d_T_end_15 : decode (yMb m_T_end) 15 = .ok (.aload_n 0, 1) := by decide +kernel
theorem d_T_end_16 : decode (yMb m_T_end) 16 = .ok (.iload_n 1, 1) := by decide +kernel
theorem d_T_end_17 : decode (yMb m_T_end) 17 = .ok (.putfield 19, 3) := by decide +kernel
theorem d_T_end_20 : decode (yMb m_T_end) 20 = .ok (.aload_n 0, 1) := by decide +kernel
theorem d_T_end_21 : decode (yMb m_T_end) 21 = .ok (.getfield 9, 3) := by decide +kernel
theorem d_T_end_24 : decode (yMb m_T_end) 24 = .ok (.iload_n 1, 1) := by decide +kernel
theorem d_T_end_25 : decode (yMb m_T_end) 25 = .ok (.dup2, 1) := by decide +kernel
theorem d_T_end_26 : decode (yMb m_T_end) 26 = .ok (.iaload, 1) := by decide +kernel
theorem d_T_end_27 : decode (yMb m_T_end) 27 = .ok (.iconst 1, 1) := by decide +kernel
theorem d_T_end_28 : decode (yMb m_T_end) 28 = .ok (.iadd, 1) := by decide +kernel
theorem d_T_end_29 : decode (yMb m_T_end) 29 = .ok (.iastore, 1) := by decide +kernel
theorem d_T_end_30 : decode (yMb m_T_end) 30 = .ok (.return_, 1) := by decide +kernel
theorem d_T_losesPatience_0 : decode (yMb m_T_losesPatience) 0 = .ok (.aload_n 0, 1) := by decide +kernel
theorem d_T_losesPatience_1 : decode (yMb m_T_losesPatience) 1 = .ok (.getfield 22, 3) := by decide +kernel
theorem d_T_losesPatience_4 : decode (yMb m_T_losesPatience) 4 = .ok (.ifCond .gt 5, 3) := by decide +kernel
theorem d_T_losesPatience_7 : decode (yMb m_T_losesPatience) 7 = .ok (.iconst 0, 1) := by decide +kernel
theorem d_T_losesPatience_8 : decode (yMb m_T_losesPatience) 8 = .ok (.ireturn, 1) := by decide +kernel
theorem d_T_losesPatience_9 : decode (yMb m_T_losesPatience) 9 = .ok (.aload_n 0, 1) := by decide +kernel
theorem d_T_losesPatience_10 : decode (yMb m_T_losesPatience) 10 = .ok (.dup, 1) := by decide +kernel
theorem d_T_losesPatience_11 : decode (yMb m_T_losesPatience) 11 = .ok (.getfield 22, 3) := by decide +kernel
theorem d_T_losesPatience_14 : decode (yMb m_T_losesPatience) 14 = .ok (.iconst 1, 1) := by decide +kernel
theorem d_T_losesPatience_15 : decode (yMb m_T_losesPatience) 15 = .ok (.isub, 1) := by decide +kernel
theorem d_T_losesPatience_16 : decode (yMb m_T_losesPatience) 16 = .ok (.putfield 22, 3) := by decide +kernel
theorem d_T_losesPatience_19 : decode (yMb m_T_losesPatience) 19 = .ok (.aload_n 0, 1) := by decide +kernel
theorem d_T_losesPatience_20 : decode (yMb m_T_losesPatience) 20 = .ok (.getfield 22, 3) := by decide +kernel
theorem d_T_losesPatience_23 : decode (yMb m_T_losesPatience) 23 = .ok (.ifCond .ne 7, 3) := by decide +kernel
theorem d_T_losesPatience_26 : decode (yMb m_T_losesPatience) 26 = .ok (.iconst 1, 1) := by decide +kernel
theorem d_T_losesPatience_27 : decode (yMb m_T_losesPatience) 27 = .ok (.goto 4, 3) := by decide +kernel
theorem d_T_losesPatience_30 : decode (yMb m_T_losesPatience) 30 = .ok (.iconst 0, 1) := by decide +kernel
theorem d_T_losesPatience_31 : decode (yMb m_T_losesPatience) 31 = .ok (.ireturn, 1) := by decide +kernel
theorem d_T_takesAgain_0 : decode (yMb m_T_takesAgain) 0 = .ok (.aload_n 0, 1) := by decide +kernel
theorem d_T_takesAgain_1 : decode (yMb m_T_takesAgain) 1 = .ok (.getfield 15, 3) := by decide +kernel
theorem d_T_takesAgain_4 : decode (yMb m_T_takesAgain) 4 = .ok (.iconst 1, 1) := by decide +kernel
theorem d_T_takesAgain_5 : decode (yMb m_T_takesAgain) 5 = .ok (.if_icmp .ne 15, 3) := by decide +kernel
theorem d_T_takesAgain_8 : decode (yMb m_T_takesAgain) 8 = .ok (.aload_n 0, 1) := by decide +kernel
theorem d_T_takesAgain_9 : decode (yMb m_T_takesAgain) 9 = .ok (.getfield 28, 3) := by decide +kernel
theorem d_T_takesAgain_12 : decode (yMb m_T_takesAgain) 12 = .ok (.iconst 2, 1) := by decide +kernel
theorem d_T_takesAgain_13 : decode (yMb m_T_takesAgain) 13 = .ok (.if_icmp .ne 7, 3) := by decide +kernel
theorem d_T_takesAgain_16 : decode (yMb m_T_takesAgain) 16 = .ok (.iconst 1, 1) := by decide +kernel
theorem d_T_takesAgain_17 : decode (yMb m_T_takesAgain) 17 = .ok (.goto 4, 3) := by decide +kernel
theorem d_T_takesAgain_20 : decode (yMb m_T_takesAgain) 20 = .ok (.iconst 0, 1) := by decide +kernel
theorem d_T_takesAgain_21 : decode (yMb m_T_takesAgain) 21 = .ok (.ireturn, 1) := by decide +kernel
theorem d_T_leansOn_0 : decode (yMb m_T_leansOn) 0 = .ok (.aload_n 0, 1) := by decide +kernel
theorem d_T_leansOn_1 : decode (yMb m_T_leansOn) 1 = .ok (.getfield 15, 3) := by decide +kernel
theorem d_T_leansOn_4 : decode (yMb m_T_leansOn) 4 = .ok (.iconst 1, 1) := by decide +kernel
theorem d_T_leansOn_5 : decode (yMb m_T_leansOn) 5 = .ok (.if_icmp .ne 20, 3) := by decide +kernel
theorem d_T_leansOn_8 : decode (yMb m_T_leansOn) 8 = .ok (.aload_n 0, 1) := by decide +kernel
theorem d_T_leansOn_9 : decode (yMb m_T_leansOn) 9 = .ok (.getfield 37, 3) := by decide +kernel
theorem d_T_leansOn_12 : decode (yMb m_T_leansOn) 12 = .ok (.ifnull 13, 3) := by decide +kernel
theorem d_T_leansOn_15 : decode (yMb m_T_leansOn) 15 = .ok (.aload_n 0, 1) := by decide +kernel
theorem d_T_leansOn_16 : decode (yMb m_T_leansOn) 16 = .ok (.getfield 37, 3) := by decide +kernel
theorem d_T_leansOn_19 : decode (yMb m_T_leansOn) 19 = .ok (.invokevirtual 41, 3) := by decide +kernel
theorem d_T_leansOn_22 : decode (yMb m_T_leansOn) 22 = .ok (.goto 4, 3) := by decide +kernel
theorem d_T_leansOn_25 : decode (yMb m_T_leansOn) 25 = .ok (.aconst_null, 1) := by decide +kernel
theorem d_T_leansOn_26 : decode (yMb m_T_leansOn) 26 = .ok (.areturn, 1) := by decide +kernel
theorem d_R_init_0 : decode (yMb m_R_init) 0 = .ok (.aload_n 0, 1) := by decide +kernel
theorem d_R_init_1 : decode (yMb m_R_init) 1 = .ok (.invokespecial 3, 3) := by decide +kernel
theorem d_R_init_4 : decode (yMb m_R_init) 4 = .ok (.aload_n 0, 1) := by decide +kernel
theorem d_R_init_5 : decode (yMb m_R_init) 5 = .ok (.bipush 6, 2) := by decide +kernel
theorem d_R_init_7 : decode (yMb m_R_init) 7 = .ok (.anewarray 9, 3) := by decide +kernel
theorem d_R_init_10 : decode (yMb m_R_init) 10 = .ok (.putfield 11, 3) := by decide +kernel
theorem d_R_init_13 : decode (yMb m_R_init) 13 = .ok (.return_, 1) := by decide +kernel
