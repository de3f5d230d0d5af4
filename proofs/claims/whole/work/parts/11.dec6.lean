theorem d_P_goThroughRow_0 : decode (yMb m_P_goThroughRow) 0 = .ok (.aload_n 0, 1) := by decide +kernel
theorem d_P_goThroughRow_1 : decode (yMb m_P_goThroughRow) 1 = .ok (.getfield 12, 3) := by decide +kernel
theorem d_P_goThroughRow_4 : decode (yMb m_P_goThroughRow) 4 = .ok (.getfield 69, 3) := by decide +kernel
theorem d_P_goThroughRow_7 : decode (yMb m_P_goThroughRow) 7 = .ok (.istore_n 1, 1) := by decide +kernel
theorem d_P_goThroughRow_8 : decode (yMb m_P_goThroughRow) 8 = .ok (.iconst 0, 1) := by decide +kernel
theorem d_P_goThroughRow_9 : decode (yMb m_P_goThroughRow) 9 = .ok (.istore_n 2, 1) := by decide +kernel
theorem d_P_goThroughRow_10 : decode (yMb m_P_goThroughRow) 10 = .ok (.iconst 0, 1) := by decide +kernel
theorem d_P_goThroughRow_11 : decode (yMb m_P_goThroughRow) 11 = .ok (.istore_n 3, 1) := by decide +kernel
theorem d_P_goThroughRow_12 : decode (yMb m_P_goThroughRow) 12 = .ok (.iconst 0, 1) := by decide +kernel
theorem d_P_goThroughRow_13 : decode (yMb m_P_goThroughRow) 13 = .ok (.istore 4, 2) := by decide +kernel
theorem d_P_goThroughRow_15 : decode (yMb m_P_goThroughRow) 15 = .ok (.iload 4, 2) := by decide +kernel
theorem d_P_goThroughRow_17 : decode (yMb m_P_goThroughRow) 17 = .ok (.iload_n 1, 1) := by decide +kernel
theorem d_P_goThroughRow_18 : decode (yMb m_P_goThroughRow) 18 = .ok (.if_icmp .ge 92, 3) := by decide +kernel
theorem d_P_goThroughRow_21 : decode (yMb m_P_goThroughRow) 21 = .ok (.aload_n 0, 1) := by decide +kernel
theorem d_P_goThroughRow_22 : decode (yMb m_P_goThroughRow) 22 = .ok (.getfield 12, 3) := by decide +kernel
theorem d_P_goThroughRow_25 : decode (yMb m_P_goThroughRow) 25 = .ok (.iload_n 3, 1) := by decide +kernel
theorem d_P_goThroughRow_26 : decode (yMb m_P_goThroughRow) 26 = .ok (.invokevirtual 97, 3) := by decide +kernel
theorem d_P_goThroughRow_29 : decode (yMb m_P_goThroughRow) 29 = .ok (.astore 5, 2) := by decide +kernel
theorem d_P_goThroughRow_31 : decode (yMb m_P_goThroughRow) 31 = .ok (.aload 5, 2) := by decide +kernel
theorem d_P_goThroughRow_33 : decode (yMb m_P_goThroughRow) 33 = .ok (.ifnonnull 6, 3) := by decide +kernel
theorem d_P_goThroughRow_36 : decode (yMb m_P_goThroughRow) 36 = .ok (.goto 74, 3) := by decide +kernel
theorem d_P_goThroughRow_39 : decode (yMb m_P_goThroughRow) 39 = .ok (.iconst 1, 1) := by decide +kernel
theorem d_P_goThroughRow_40 : decode (yMb m_P_goThroughRow) 40 = .ok (.aload_n 0, 1) := by decide +kernel
theorem d_P_goThroughRow_41 : decode (yMb m_P_goThroughRow) 41 = .ok (.aload 5, 2) := by decide +kernel
theorem d_P_goThroughRow_43 : decode (yMb m_P_goThroughRow) 43 = .ok (.getfield 86, 3) := by decide +kernel
theorem d_P_goThroughRow_46 : decode (yMb m_P_goThroughRow) 46 = .ok (.invokevirtual 89, 3) := by decide +kernel
theorem d_P_goThroughRow_49 : decode (yMb m_P_goThroughRow) 49 = .ok (.ishl, 1) := by decide +kernel
theorem d_P_goThroughRow_50 : decode (yMb m_P_goThroughRow) 50 = .ok (.istore 6, 2) := by decide +kernel
theorem d_P_goThroughRow_52 : decode (yMb m_P_goThroughRow) 52 = .ok (.iload_n 2, 1) := by decide +kernel
theorem d_P_goThroughRow_53 : decode (yMb m_P_goThroughRow) 53 = .ok (.iload 6, 2) := by decide +kernel
theorem d_P_goThroughRow_55 : decode (yMb m_P_goThroughRow) 55 = .ok (.iand, 1) := by decide +kernel
theorem d_P_goThroughRow_56 : decode (yMb m_P_goThroughRow) 56 = .ok (.ifCond .ne 40, 3) := by decide +kernel
theorem d_P_goThroughRow_59 : decode (yMb m_P_goThroughRow) 59 = .ok (.aload_n 0, 1) := by decide +kernel
theorem d_P_goThroughRow_60 : decode (yMb m_P_goThroughRow) 60 = .ok (.aload 5, 2) := by decide +kernel
theorem d_P_goThroughRow_62 : decode (yMb m_P_goThroughRow) 62 = .ok (.invokevirtual 83, 3) := by decide +kernel
theorem d_P_goThroughRow_65 : decode (yMb m_P_goThroughRow) 65 = .ok (.ifCond .eq 31, 3) := by decide +kernel
theorem d_P_goThroughRow_68 : decode (yMb m_P_goThroughRow) 68 = .ok (.aload_n 0, 1) := by decide +kernel
theorem d_P_goThroughRow_69 : decode (yMb m_P_goThroughRow) 69 = .ok (.getfield 12, 3) := by decide +kernel
theorem d_P_goThroughRow_72 : decode (yMb m_P_goThroughRow) 72 = .ok (.aload 5, 2) := by decide +kernel
theorem d_P_goThroughRow_74 : decode (yMb m_P_goThroughRow) 74 = .ok (.invokevirtual 66, 3) := by decide +kernel
theorem d_P_goThroughRow_77 : decode (yMb m_P_goThroughRow) 77 = .ok (.aload_n 0, 1) := by decide +kernel
theorem d_P_goThroughRow_78 : decode (yMb m_P_goThroughRow) 78 = .ok (.aload 5, 2) := by decide +kernel
theorem d_P_goThroughRow_80 : decode (yMb m_P_goThroughRow) 80 = .ok (.invokevirtual 38, 3) := by decide +kernel
theorem d_P_goThroughRow_83 : decode (yMb m_P_goThroughRow) 83 = .ok (.aload 5, 2) := by decide +kernel
theorem d_P_goThroughRow_85 : decode (yMb m_P_goThroughRow) 85 = .ok (.aload 5, 2) := by decide +kernel
theorem d_P_goThroughRow_87 : decode (yMb m_P_goThroughRow) 87 = .ok (.getfield 101, 3) := by decide +kernel
theorem d_P_goThroughRow_90 : decode (yMb m_P_goThroughRow) 90 = .ok (.invokevirtual 29, 3) := by decide +kernel
theorem d_P_goThroughRow_93 : decode (yMb m_P_goThroughRow) 93 = .ok (.goto 11, 3) := by decide +kernel
theorem d_P_goThroughRow_96 : decode (yMb m_P_goThroughRow) 96 = .ok (.iload_n 2, 1) := by decide +kernel
theorem d_P_goThroughRow_97 : decode (yMb m_P_goThroughRow) 97 = .ok (.iload 6, 2) := by decide +kernel
theorem d_P_goThroughRow_99 : decode (yMb m_P_goThroughRow) 99 = .ok (.ior, 1) := by decide +kernel
theorem d_P_goThroughRow_100 : decode (yMb m_P_goThroughRow) 100 = .ok (.istore_n 2, 1) := by decide +kernel
theorem d_P_goThroughRow_101 : decode (yMb m_P_goThroughRow) 101 = .ok (.iinc 3 1, 3) := by decide +kernel
theorem d_P_goThroughRow_104 : decode (yMb m_P_goThroughRow) 104 = .ok (.iinc 4 1, 3) := by decide +kernel
theorem d_P_goThroughRow_107 : decode (yMb m_P_goThroughRow) 107 = .ok (.goto (-92), 3) := by decide +kernel
theorem d_P_goThroughRow_110 : decode (yMb m_P_goThroughRow) 110 = .ok (.iload_n 3, 1) := by decide +kernel
theorem d_P_goThroughRow_111 : decode (yMb m_P_goThroughRow) 111 = .ok (.iload_n 1, 1) := by decide +kernel
theorem d_P_goThroughRow_112 : decode (yMb m_P_goThroughRow) 112 = .ok (.if_icmp .ge 7, 3) := by decide +kernel
theorem d_P_goThroughRow_115 : decode (yMb m_P_goThroughRow) 115 = .ok (.iconst 1, 1) := by decide +kernel
theorem d_P_goThroughRow_116 : decode (yMb m_P_goThroughRow) 116 = .ok (.goto 4, 3) := by decide +kernel
theorem d_P_goThroughRow_119 : decode (yMb m_P_goThroughRow) 119 = .ok (.iconst 0, 1) := by decide +kernel
theorem d_P_goThroughRow_120 : decode (yMb m_P_goThroughRow) 120 = .ok (.ireturn, 1) := by decide +kernel
theorem d_W_make_0 : decode (yMb m_W_make) 0 = .ok (.aload_n 3, 1) := by decide +kernel
theorem d_W_make_1 : decode (yMb m_W_make) 1 = .ok (.iconst 0, 1) := by decide +kernel
theorem d_W_make_2 : decode (yMb m_W_make) 2 = .ok (.aload_n 0, 1) := by decide +kernel
theorem d_W_make_3 : decode (yMb m_W_make) 3 = .ok (.iload_n 1, 1) := by decide +kernel
theorem d_W_make_4 : decode (yMb m_W_make) 4 = .ok (.iload_n 2, 1) := by decide +kernel
theorem d_W_make_5 : decode (yMb m_W_make) 5 = .ok (.invokevirtual 7, 3) := by decide +kernel
theorem d_W_make_8 : decode (yMb m_W_make) 8 = .ok (.i2l, 1) := by decide +kernel
theorem d_W_make_9 : decode (yMb m_W_make) 9 = .ok (.lastore, 1) := by decide +kernel
theorem d_W_make_10 : decode (yMb m_W_make) 10 = .ok (.goto 11, 3) := by decide +kernel
theorem d_W_make_13 : decode (yMb m_W_make) 13 = .ok (.astore 4, 2) := by decide +kernel
theorem d_W_make_15 : decode (yMb m_W_make) 15 = .ok (.iconst 1, 1) := by decide +kernel
theorem d_W_make_16 : decode (yMb m_W_make) 16 = .ok (.ireturn, 1) := by decide +kernel
theorem d_W_make_17 : decode (yMb m_W_make) 17 = .ok (.astore 4, 2) := by decide +kernel
theorem d_W_make_19 : decode (yMb m_W_make) 19 = .ok (.iconst 2, 1) := by decide +kernel
theorem d_W_make_20 : decode (yMb m_W_make) 20 = .ok (.ireturn, 1) := by decide +kernel
theorem d_W_make_21 : decode (yMb m_W_make) 21 = .ok (.iconst 0, 1) := by decide +kernel
theorem d_W_make_22 : decode (yMb m_W_make) 22 = .ok (.ireturn, 1) := by decide +kernel
theorem d_W_act_0 : decode (yMb m_W_act) 0 = .ok (.aload 6, 2) := by decide +kernel
theorem d_W_act_2 : decode (yMb m_W_act) 2 = .ok (.iconst 0, 1) := by decide +kernel
theorem d_W_act_3 : decode (yMb m_W_act) 3 = .ok (.aload_n 0, 1) := by decide +kernel
theorem d_W_act_4 : decode (yMb m_W_act) 4 = .ok (.iload_n 1, 1) := by decide +kernel
theorem d_W_act_5 : decode (yMb m_W_act) 5 = .ok (.iload_n 2, 1) := by decide +kernel
theorem d_W_act_6 : decode (yMb m_W_act) 6 = .ok (.iload_n 3, 1) := by decide +kernel
theorem d_W_act_7 : decode (yMb m_W_act) 7 = .ok (.iload 4, 2) := by decide +kernel
theorem d_W_act_9 : decode (yMb m_W_act) 9 = .ok (.iload 5, 2) := by decide +kernel
theorem d_W_act_11 : decode (yMb m_W_act) 11 = .ok (.invokevirtual 17, 3) := by decide +kernel
theorem d_W_act_14 : decode (yMb m_W_act) 14 = .ok (.i2l, 1) := by decide +kernel
theorem d_W_act_15 : decode (yMb m_W_act) 15 = .ok (.lastore, 1) := by decide +kernel
theorem d_W_act_16 : decode (yMb m_W_act) 16 = .ok (.goto 15, 3) := by decide +kernel
theorem d_W_act_19 : decode (yMb m_W_act) 19 = .ok (.astore 7, 2) := by decide +kernel
theorem d_W_act_21 : decode (yMb m_W_act) 21 = .ok (.iconst 1, 1) := by decide +kernel
theorem d_W_act_22 : decode (yMb m_W_act) 22 = .ok (.ireturn, 1) := by decide +kernel
theorem d_W_act_23 : decode (yMb m_W_act) 23 = .ok (.astore 7, 2) := by decide +kernel
theorem d_W_act_25 : decode (yMb m_W_act) 25 = .ok (.iconst 2, 1) := by decide +kernel
theorem d_W_act_26 : decode (yMb m_W_act) 26 = .ok (.ireturn, 1) := by decide +kernel
theorem d_W_act_27 : decode (yMb m_W_act) 27 = .ok (.astore 7, 2) := by decide +kernel
theorem d_W_act_29 : decode (yMb m_W_act) 29 = .ok (.iconst 3, 1) := by decide +kernel
theorem d_W_act_30 : decode (yMb m_W_act) 30 = .ok (.ireturn, 1) := by decide +kernel
theorem d_W_act_31 : decode (yMb m_W_act) 31 = .ok (.iconst 0, 1) := by decide +kernel
theorem d_W_act_32 : decode (yMb m_W_act) 32 = .ok (.ireturn, 1) := by decide +kernel
theorem d_W_tick_0 : decode (yMb m_W_tick) 0 = .ok (.aload_n 2, 1) := by decide +kernel
theorem d_W_tick_1 : decode (yMb m_W_tick) 1 = .ok (.iconst 0, 1) := by decide +kernel
theorem d_W_tick_2 : decode (yMb m_W_tick) 2 = .ok (.aload_n 0, 1) := by decide +kernel
theorem d_W_tick_3 : decode (yMb m_W_tick) 3 = .ok (.iload_n 1, 1) := by decide +kernel
theorem d_W_tick_4 : decode (yMb m_W_tick) 4 = .ok (.invokevirtual 23, 3) := by decide +kernel
theorem d_W_tick_7 : decode (yMb m_W_tick) 7 = .ok (.i2l, 1) := by decide +kernel
theorem d_W_tick_8 : decode (yMb m_W_tick) 8 = .ok (.lastore, 1) := by decide +kernel
theorem d_W_tick_9 : decode (yMb m_W_tick) 9 = .ok (.goto 6, 3) := by decide +kernel
theorem d_W_tick_12 : decode (yMb m_W_tick) 12 = .ok (.astore_n 3, 1) := by decide +kernel
theorem d_W_tick_13 : decode (yMb m_W_tick) 13 = .ok (.iconst 1, 1) := by decide +kernel
theorem d_W_tick_14 : decode (yMb m_W_tick) 14 = .ok (.ireturn, 1) := by decide +kernel
theorem d_W_tick_15 : decode (yMb m_W_tick) 15 = .ok (.iconst 0, 1) := by decide +kernel
theorem d_W_tick_16 : decode (yMb m_W_tick) 16 = .ok (.ireturn, 1) := by decide +kernel
theorem d_W_interrupt_0 : decode (yMb m_W_interrupt) 0 = .ok (.aload_n 0, 1) := by decide +kernel
theorem d_W_interrupt_1 : decode (yMb m_W_interrupt) 1 = .ok (.iload_n 1, 1) := by decide +kernel
theorem d_W_interrupt_2 : decode (yMb m_W_interrupt) 2 = .ok (.invokevirtual 27, 3) := by decide +kernel
theorem d_W_interrupt_5 : decode (yMb m_W_interrupt) 5 = .ok (.goto 6, 3) := by decide +kernel
theorem d_W_interrupt_8 : decode (yMb m_W_interrupt) 8 = .ok (.astore_n 2, 1) := by decide +kernel
theorem d_W_interrupt_9 : decode (yMb m_W_interrupt) 9 = .ok (.iconst 1, 1) := by decide +kernel
theorem d_W_interrupt_10 : decode (yMb m_W_interrupt) 10 = .ok (.ireturn, 1) := by decide +kernel
theorem d_W_interrupt_11 : decode (yMb m_W_interrupt) 11 = .ok (.iconst 0, 1) := by decide +kernel
theorem d_W_interrupt_12 : decode (yMb m_W_interrupt) 12 = .ok (.ireturn, 1) := by decide +kernel
theorem d_W_told_0 : decode (yMb m_W_told) 0 = .ok (.aload_n 3, 1) := by decide +kernel
theorem d_W_told_1 : decode (yMb m_W_told) 1 = .ok (.iconst 0, 1) := by decide +kernel
theorem d_W_told_2 : decode (yMb m_W_told) 2 = .ok (.aload_n 0, 1) := by decide +kernel
theorem d_W_told_3 : decode (yMb m_W_told) 3 = .ok (.iload_n 1, 1) := by decide +kernel
theorem d_W_told_4 : decode (yMb m_W_told) 4 = .ok (.iload_n 2, 1) := by decide +kernel
theorem d_W_told_5 : decode (yMb m_W_told) 5 = .ok (.invokevirtual 31, 3) := by decide +kernel
theorem d_W_told_8 : decode (yMb m_W_told) 8 = .ok (.i2l, 1) := by decide +kernel
theorem d_W_told_9 : decode (yMb m_W_told) 9 = .ok (.lastore, 1) := by decide +kernel
theorem d_W_told_10 : decode (yMb m_W_told) 10 = .ok (.goto 7, 3) := by decide +kernel
theorem d_W_told_13 : decode (yMb m_W_told) 13 = .ok (.astore 4, 2) := by decide +kernel
theorem d_W_told_15 : decode (yMb m_W_told) 15 = .ok (.iconst 1, 1) := by decide +kernel
theorem d_W_told_16 : decode (yMb m_W_told) 16 = .ok (.ireturn, 1) := by decide +kernel
theorem d_W_told_17 : decode (yMb m_W_told) 17 = .ok (.iconst 0, 1) := by decide +kernel
theorem d_W_told_18 : decode (yMb m_W_told) 18 = .ok (.ireturn, 1) := by decide +kernel
theorem d_W_object_0 : decode (yMb m_W_object) 0 = .ok (.aload_n 3, 1) := by decide +kernel
theorem d_W_object_1 : decode (yMb m_W_object) 1 = .ok (.iconst 0, 1) := by decide +kernel
theorem d_W_object_2 : decode (yMb m_W_object) 2 = .ok (.aload_n 0, 1) := by decide +kernel
theorem d_W_object_3 : decode (yMb m_W_object) 3 = .ok (.iload_n 1, 1) := by decide +kernel
theorem d_W_object_4 : decode (yMb m_W_object) 4 = .ok (.iload_n 2, 1) := by decide +kernel
theorem d_W_object_5 : decode (yMb m_W_object) 5 = .ok (.invokevirtual 34, 3) := by decide +kernel
theorem d_W_object_8 : decode (yMb m_W_object) 8 = .ok (.i2l, 1) := by decide +kernel
theorem d_W_object_9 : decode (yMb m_W_object) 9 = .ok (.lastore, 1) := by decide +kernel
theorem d_W_object_10 : decode (yMb m_W_object) 10 = .ok (.goto 7, 3) := by decide +kernel
theorem d_W_object_13 : decode (yMb m_W_object) 13 = .ok (.astore 4, 2) := by decide +kernel
theorem d_W_object_15 : decode (yMb m_W_object) 15 = .ok (.iconst 1, 1) := by decide +kernel
theorem d_W_object_16 : decode (yMb m_W_object) 16 = .ok (.ireturn, 1) := by decide +kernel
theorem d_W_object_17 : decode (yMb m_W_object) 17 = .ok (.iconst 0, 1) := by decide +kernel
theorem d_W_object_18 : decode (yMb m_W_object) 18 = .ok (.ireturn, 1) := by decide +kernel
theorem d_W_waiter_0 : decode (yMb m_W_waiter) 0 = .ok (.aload_n 3, 1) := by decide +kernel
theorem d_W_waiter_1 : decode (yMb m_W_waiter) 1 = .ok (.iconst 0, 1) := by decide +kernel
theorem d_W_waiter_2 : decode (yMb m_W_waiter) 2 = .ok (.aload_n 0, 1) := by decide +kernel
theorem d_W_waiter_3 : decode (yMb m_W_waiter) 3 = .ok (.iload_n 1, 1) := by decide +kernel
theorem d_W_waiter_4 : decode (yMb m_W_waiter) 4 = .ok (.iload_n 2, 1) := by decide +kernel
theorem d_W_waiter_5 : decode (yMb m_W_waiter) 5 = .ok (.invokevirtual 37, 3) := by decide +kernel
theorem d_W_waiter_8 : decode (yMb m_W_waiter) 8 = .ok (.i2l, 1) := by decide +kernel
theorem d_W_waiter_9 : decode (yMb m_W_waiter) 9 = .ok (.lastore, 1) := by decide +kernel
theorem d_W_waiter_10 : decode (yMb m_W_waiter) 10 = .ok (.goto 11, 3) := by decide +kernel
theorem d_W_waiter_13 : decode (yMb m_W_waiter) 13 = .ok (.astore 4, 2) := by decide +kernel
theorem d_W_waiter_15 : decode (yMb m_W_waiter) 15 = .ok (.iconst 1, 1) := by decide +kernel
theorem d_W_waiter_16 : decode (yMb m_W_waiter) 16 = .ok (.ireturn, 1) := by decide +kernel
theorem d_W_waiter_17 : decode (yMb m_W_waiter) 17 = .ok (.astore 4, 2) := by decide +kernel
theorem d_W_waiter_19 : decode (yMb m_W_waiter) 19 = .ok (.iconst 2, 1) := by decide +kernel
theorem d_W_waiter_20 : decode (yMb m_W_waiter) 20 = .ok (.ireturn, 1) := by decide +kernel
theorem d_W_waiter_21 : decode (yMb m_W_waiter) 21 = .ok (.iconst 0, 1) := by decide +kernel
theorem d_W_waiter_22 : decode (yMb m_W_waiter) 22 = .ok (.ireturn, 1) := by decide +kernel
