theorem d_R_at_0 : decode (yMb m_R_at) 0 = .ok (.iload_n 1, 1) := by decide +kernel
theorem d_R_at_1 : decode (yMb m_R_at) 1 = .ok (.ifCond .lt 11, 3) := by decide +kernel
theorem d_R_at_4 : decode (yMb m_R_at) 4 = .ok (.iload_n 1, 1) := by decide +kernel
theorem d_R_at_5 : decode (yMb m_R_at) 5 = .ok (.aload_n 0, 1) := by decide +kernel
theorem d_R_at_6 : decode (yMb m_R_at) 6 = .ok (.getfield 17, 3) := by decide +kernel
theorem d_R_at_9 : decode (yMb m_R_at) 9 = .ok (.if_icmp .lt 7, 3) := by decide +kernel
theorem d_R_at_12 : decode (yMb m_R_at) 12 = .ok (.aconst_null, 1) := by decide +kernel
theorem d_R_at_13 : decode (yMb m_R_at) 13 = .ok (.goto 9, 3) := by decide +kernel
theorem d_R_at_16 : decode (yMb m_R_at) 16 = .ok (.aload_n 0, 1) := by decide +kernel
theorem d_R_at_17 : decode (yMb m_R_at) 17 = .ok (.getfield 11, 3) := by decide +kernel
theorem d_R_at_20 : decode (yMb m_R_at) 20 = .ok (.iload_n 1, 1) := by decide +kernel
theorem d_R_at_21 : decode (yMb m_R_at) 21 = .ok (.aaload, 1) := by decide +kernel
theorem d_R_at_22 : decode (yMb m_R_at) 22 = .ok (.areturn, 1) := by decide +kernel
theorem d_R_add_0 : decode (yMb m_R_add) 0 = .ok (.aload_n 0, 1) := by decide +kernel
theorem d_R_add_1 : decode (yMb m_R_add) 1 = .ok (.getfield 17, 3) := by decide +kernel
theorem d_R_add_4 : decode (yMb m_R_add) 4 = .ok (.bipush 6, 2) := by decide +kernel
theorem d_R_add_6 : decode (yMb m_R_add) 6 = .ok (.if_icmp .ge 23, 3) := by decide +kernel
theorem d_R_add_9 : decode (yMb m_R_add) 9 = .ok (.aload_n 0, 1) := by decide +kernel
theorem d_R_add_10 : decode (yMb m_R_add) 10 = .ok (.getfield 11, 3) := by decide +kernel
theorem d_R_add_13 : decode (yMb m_R_add) 13 = .ok (.aload_n 0, 1) := by decide +kernel
theorem d_R_add_14 : decode (yMb m_R_add) 14 = .ok (.getfield 17, 3) := by decide +kernel
theorem d_R_add_17 : decode (yMb m_R_add) 17 = .ok (.aload_n 1, 1) := by decide +kernel
theorem d_R_add_18 : decode (yMb m_R_add) 18 = .ok (.aastore, 1) := by decide +kernel
theorem d_R_add_19 : decode (yMb m_R_add) 19 = .ok (.aload_n 0, 1) := by decide +kernel
theorem d_R_add_20 : decode (yMb m_R_add) 20 = .ok (.dup, 1) := by decide +kernel
theorem d_R_add_21 : decode (yMb m_R_add) 21 = .ok (.getfield 17, 3) := by decide +kernel
theorem d_R_add_24 : decode (yMb m_R_add) 24 = .ok (.iconst 1, 1) := by decide +kernel
theorem d_R_add_25 : decode (yMb m_R_add) 25 = .ok (.iadd, 1) := by decide +kernel
theorem d_R_add_26 : decode (yMb m_R_add) 26 = .ok (.putfield 17, 3) := by decide +kernel
theorem d_R_add_29 : decode (yMb m_R_add) 29 = .ok (.return_, 1) := by decide +kernel
theorem d_R_removeFirst_0 : decode (yMb m_R_removeFirst) 0 = .ok (.aload_n 0, 1) := by decide +kernel
theorem d_R_removeFirst_1 : decode (yMb m_R_removeFirst) 1 = .ok (.iconst 0, 1) := by decide +kernel
theorem d_R_removeFirst_2 : decode (yMb m_R_removeFirst) 2 = .ok (.invokevirtual 21, 3) := by decide +kernel
theorem d_R_removeFirst_5 : decode (yMb m_R_removeFirst) 5 = .ok (.astore_n 1, 1) := by decide +kernel
theorem d_R_removeFirst_6 : decode (yMb m_R_removeFirst) 6 = .ok (.aload_n 1, 1) := by decide +kernel
theorem d_R_removeFirst_7 : decode (yMb m_R_removeFirst) 7 = .ok (.ifnull 8, 3) := by decide +kernel
theorem d_R_removeFirst_10 : decode (yMb m_R_removeFirst) 10 = .ok (.aload_n 0, 1) := by decide +kernel
theorem d_R_removeFirst_11 : decode (yMb m_R_removeFirst) 11 = .ok (.aload_n 1, 1) := by decide +kernel
theorem d_R_removeFirst_12 : decode (yMb m_R_removeFirst) 12 = .ok (.invokevirtual 25, 3) := by decide +kernel
theorem d_R_removeFirst_15 : decode (yMb m_R_removeFirst) 15 = .ok (.aload_n 1, 1) := by decide +kernel
theorem d_R_removeFirst_16 : decode (yMb m_R_removeFirst) 16 = .ok (.areturn, 1) := by decide +kernel
theorem d_R_remove_0 : decode (yMb m_R_remove) 0 = .ok (.iconst 0, 1) := by decide +kernel
theorem d_R_remove_1 : decode (yMb m_R_remove) 1 = .ok (.istore_n 2, 1) := by decide +kernel
theorem d_R_remove_2 : decode (yMb m_R_remove) 2 = .ok (.iconst 0, 1) := by decide +kernel
theorem d_R_remove_3 : decode (yMb m_R_remove) 3 = .ok (.istore_n 3, 1) := by decide +kernel
theorem d_R_remove_4 : decode (yMb m_R_remove) 4 = .ok (.iload_n 3, 1) := by decide +kernel
theorem d_R_remove_5 : decode (yMb m_R_remove) 5 = .ok (.aload_n 0, 1) := by decide +kernel
theorem d_R_remove_6 : decode (yMb m_R_remove) 6 = .ok (.getfield 17, 3) := by decide +kernel
theorem d_R_remove_9 : decode (yMb m_R_remove) 9 = .ok (.if_icmp .ge 34, 3) := by decide +kernel
theorem d_R_remove_12 : decode (yMb m_R_remove) 12 = .ok (.aload_n 0, 1) := by decide +kernel
theorem d_R_remove_13 : decode (yMb m_R_remove) 13 = .ok (.getfield 11, 3) := by decide +kernel
theorem d_R_remove_16 : decode (yMb m_R_remove) 16 = .ok (.iload_n 3, 1) := by decide +kernel
theorem d_R_remove_17 : decode (yMb m_R_remove) 17 = .ok (.aaload, 1) := by decide +kernel
theorem d_R_remove_18 : decode (yMb m_R_remove) 18 = .ok (.aload_n 1, 1) := by decide +kernel
theorem d_R_remove_19 : decode (yMb m_R_remove) 19 = .ok (.if_acmp .eq 18, 3) := by decide +kernel
theorem d_R_remove_22 : decode (yMb m_R_remove) 22 = .ok (.aload_n 0, 1) := by decide +kernel
theorem d_R_remove_23 : decode (yMb m_R_remove) 23 = .ok (.getfield 11, 3) := by decide +kernel
theorem d_R_remove_26 : decode (yMb m_R_remove) 26 = .ok (.iload_n 2, 1) := by decide +kernel
theorem d_R_remove_27 : decode (yMb m_R_remove) 27 = .ok (.aload_n 0, 1) := by decide +kernel
theorem d_R_remove_28 : decode (yMb m_R_remove) 28 = .ok (.getfield 11, 3) := by decide +kernel
theorem d_R_remove_31 : decode (yMb m_R_remove) 31 = .ok (.iload_n 3, 1) := by decide +kernel
theorem d_R_remove_32 : decode (yMb m_R_remove) 32 = .ok (.aaload, 1) := by decide +kernel
theorem d_R_remove_33 : decode (yMb m_R_remove) 33 = .ok (.aastore, 1) := by decide +kernel
theorem d_R_remove_34 : decode (yMb m_R_remove) 34 = .ok (.iinc 2 1, 3) := by decide +kernel
theorem d_R_remove_37 : decode (yMb m_R_remove) 37 = .ok (.iinc 3 1, 3) := by decide +kernel
theorem d_R_remove_40 : decode (yMb m_R_remove) 40 = .ok (.goto (-36), 3) := by decide +kernel
theorem d_R_remove_43 : decode (yMb m_R_remove) 43 = .ok (.aload_n 0, 1) := by decide +kernel
theorem d_R_remove_44 : decode (yMb m_R_remove) 44 = .ok (.iload_n 2, 1) := by decide +kernel
theorem d_R_remove_45 : decode (yMb m_R_remove) 45 = .ok (.putfield 17, 3) := by decide +kernel
theorem d_R_remove_48 : decode (yMb m_R_remove) 48 = .ok (.return_, 1) := by decide +kernel
theorem d_K_init_0 : decode (yMb m_K_init) 0 = .ok (.aload_n 0, 1) := by decide +kernel
theorem d_K_init_1 : decode (yMb m_K_init) 1 = .ok (.iconst 0, 1) := by decide +kernel
theorem d_K_init_2 : decode (yMb m_K_init) 2 = .ok (.iload_n 1, 1) := by decide +kernel
theorem d_K_init_3 : decode (yMb m_K_init) 3 = .ok (.invokespecial 3, 3) := by decide +kernel
theorem d_K_init_6 : decode (yMb m_K_init) 6 = .ok (.aload_n 0, 1) := by decide +kernel
theorem d_K_init_7 : decode (yMb m_K_init) 7 = .ok (.new 9, 3) := by decide +kernel
theorem d_K_init_10 : decode (yMb m_K_init) 10 = .ok (.dup, 1) := by decide +kernel
theorem d_K_init_11 : decode (yMb m_K_init) 11 = .ok (.invokespecial 11, 3) := by decide +kernel
theorem d_K_init_14 : decode (yMb m_K_init) 14 = .ok (.putfield 14, 3) := by decide +kernel
theorem d_K_init_17 : decode (yMb m_K_init) 17 = .ok (.aload_n 0, 1) := by decide +kernel
theorem d_K_init_18 : decode (yMb m_K_init) 18 = .ok (.new 9, 3) := by decide +kernel
theorem d_K_init_21 : decode (yMb m_K_init) 21 = .ok (.dup, 1) := by decide +kernel
theorem d_K_init_22 : decode (yMb m_K_init) 22 = .ok (.invokespecial 11, 3) := by decide +kernel
theorem d_K_init_25 : decode (yMb m_K_init) 25 = .ok (.putfield 20, 3) := by decide +kernel
theorem d_K_init_28 : decode (yMb m_K_init) 28 = .ok (.return_, 1) := by decide +kernel
theorem d_K_allows_0 : decode (yMb m_K_allows) 0 = .ok (.iload_n 2, 1) := by decide +kernel
theorem d_K_allows_1 : decode (yMb m_K_allows) 1 = .ok (.ifCond .eq 11, 3) := by decide +kernel
theorem d_K_allows_4 : decode (yMb m_K_allows) 4 = .ok (.aload_n 0, 1) := by decide +kernel
theorem d_K_allows_5 : decode (yMb m_K_allows) 5 = .ok (.getfield 23, 3) := by decide +kernel
theorem d_K_allows_8 : decode (yMb m_K_allows) 8 = .ok (.aload_n 1, 1) := by decide +kernel
theorem d_K_allows_9 : decode (yMb m_K_allows) 9 = .ok (.if_acmp .ne 7, 3) := by decide +kernel
theorem d_K_allows_12 : decode (yMb m_K_allows) 12 = .ok (.iconst 1, 1) := by decide +kernel
theorem d_K_allows_13 : decode (yMb m_K_allows) 13 = .ok (.goto 4, 3) := by decide +kernel
theorem d_K_allows_16 : decode (yMb m_K_allows) 16 = .ok (.iconst 0, 1) := by decide +kernel
theorem d_K_allows_17 : decode (yMb m_K_allows) 17 = .ok (.ireturn, 1) := by decide +kernel
theorem d_K_canBe_0 : decode (yMb m_K_canBe) 0 = .ok (.aload_n 0, 1) := by decide +kernel
theorem d_K_canBe_1 : decode (yMb m_K_canBe) 1 = .ok (.getfield 23, 3) := by decide +kernel
theorem d_K_canBe_4 : decode (yMb m_K_canBe) 4 = .ok (.ifnonnull 7, 3) := by decide +kernel
theorem d_K_canBe_7 : decode (yMb m_K_canBe) 7 = .ok (.iconst 1, 1) := by decide +kernel
theorem d_K_canBe_8 : decode (yMb m_K_canBe) 8 = .ok (.goto 4, 3) := by decide +kernel
theorem d_K_canBe_11 : decode (yMb m_K_canBe) 11 = .ok (.iconst 0, 1) := by decide +kernel
theorem d_K_canBe_12 : decode (yMb m_K_canBe) 12 = .ok (.ireturn, 1) := by decide +kernel
theorem d_K_passesRow_0 : decode (yMb m_K_passesRow) 0 = .ok (.aload_n 0, 1) := by decide +kernel
theorem d_K_passesRow_1 : decode (yMb m_K_passesRow) 1 = .ok (.getfield 23, 3) := by decide +kernel
theorem d_K_passesRow_4 : decode (yMb m_K_passesRow) 4 = .ok (.aload_n 1, 1) := by decide +kernel
theorem d_K_passesRow_5 : decode (yMb m_K_passesRow) 5 = .ok (.if_acmp .ne 15, 3) := by decide +kernel
theorem d_K_passesRow_8 : decode (yMb m_K_passesRow) 8 = .ok (.aload_n 1, 1) := by decide +kernel
theorem d_K_passesRow_9 : decode (yMb m_K_passesRow) 9 = .ok (.getfield 27, 3) := by decide +kernel
theorem d_K_passesRow_12 : decode (yMb m_K_passesRow) 12 = .ok (.iconst 2, 1) := by decide +kernel
theorem d_K_passesRow_13 : decode (yMb m_K_passesRow) 13 = .ok (.if_icmp .eq 7, 3) := by decide +kernel
theorem d_K_passesRow_16 : decode (yMb m_K_passesRow) 16 = .ok (.iconst 1, 1) := by decide +kernel
theorem d_K_passesRow_17 : decode (yMb m_K_passesRow) 17 = .ok (.goto 4, 3) := by decide +kernel
theorem d_K_passesRow_20 : decode (yMb m_K_passesRow) 20 = .ok (.iconst 0, 1) := by decide +kernel
theorem d_K_passesRow_21 : decode (yMb m_K_passesRow) 21 = .ok (.ireturn, 1) := by decide +kernel
theorem d_K_grant_0 : decode (yMb m_K_grant) 0 = .ok (.aload_n 1, 1) := by decide +kernel
theorem d_K_grant_1 : decode (yMb m_K_grant) 1 = .ok (.getfield 27, 3) := by decide +kernel
theorem d_K_grant_4 : decode (yMb m_K_grant) 4 = .ok (.tableswitch 85 0 3 #[32, 66, 50, 73], 32) := by decide +kernel
theorem d_K_grant_36 : decode (yMb m_K_grant) 36 = .ok (.aload_n 0, 1) := by decide +kernel
theorem d_K_grant_37 : decode (yMb m_K_grant) 37 = .ok (.aload_n 1, 1) := by decide +kernel
theorem d_K_grant_38 : decode (yMb m_K_grant) 38 = .ok (.putfield 23, 3) := by decide +kernel
theorem d_K_grant_41 : decode (yMb m_K_grant) 41 = .ok (.aload_n 0, 1) := by decide +kernel
theorem d_K_grant_42 : decode (yMb m_K_grant) 42 = .ok (.dup, 1) := by decide +kernel
theorem d_K_grant_43 : decode (yMb m_K_grant) 43 = .ok (.getfield 33, 3) := by decide +kernel
theorem d_K_grant_46 : decode (yMb m_K_grant) 46 = .ok (.iconst 1, 1) := by decide +kernel
theorem d_K_grant_47 : decode (yMb m_K_grant) 47 = .ok (.iadd, 1) := by decide +kernel
theorem d_K_grant_48 : decode (yMb m_K_grant) 48 = .ok (.putfield 33, 3) := by decide +kernel
theorem d_K_grant_51 : decode (yMb m_K_grant) 51 = .ok (.goto 54, 3) := by decide +kernel
theorem d_K_grant_54 : decode (yMb m_K_grant) 54 = .ok (.aload_n 0, 1) := by decide +kernel
theorem d_K_grant_55 : decode (yMb m_K_grant) 55 = .ok (.aload_n 1, 1) := by decide +kernel
theorem d_K_grant_56 : decode (yMb m_K_grant) 56 = .ok (.putfield 23, 3) := by decide +kernel
theorem d_K_grant_59 : decode (yMb m_K_grant) 59 = .ok (.aload_n 0, 1) := by decide +kernel
theorem d_K_grant_60 : decode (yMb m_K_grant) 60 = .ok (.aload_n 1, 1) := by decide +kernel
theorem d_K_grant_61 : decode (yMb m_K_grant) 61 = .ok (.getfield 36, 3) := by decide +kernel
theorem d_K_grant_64 : decode (yMb m_K_grant) 64 = .ok (.putfield 33, 3) := by decide +kernel
theorem d_K_grant_67 : decode (yMb m_K_grant) 67 = .ok (.goto 38, 3) := by decide +kernel
theorem d_K_grant_70 : decode (yMb m_K_grant) 70 = .ok (.aload_n 0, 1) := by decide +kernel
theorem d_K_grant_71 : decode (yMb m_K_grant) 71 = .ok (.invokevirtual 37, 3) := by decide +kernel
theorem d_K_grant_74 : decode (yMb m_K_grant) 74 = .ok (.goto 31, 3) := by decide +kernel
theorem d_K_grant_77 : decode (yMb m_K_grant) 77 = .ok (.aload_n 0, 1) := by decide +kernel
theorem d_K_grant_78 : decode (yMb m_K_grant) 78 = .ok (.aload_n 1, 1) := by decide +kernel
theorem d_K_grant_79 : decode (yMb m_K_grant) 79 = .ok (.getfield 40, 3) := by decide +kernel
theorem d_K_grant_82 : decode (yMb m_K_grant) 82 = .ok (.iconst 1, 1) := by decide +kernel
theorem d_K_grant_83 : decode (yMb m_K_grant) 83 = .ok (.invokevirtual 43, 3) := by decide +kernel
theorem d_K_grant_86 : decode (yMb m_K_grant) 86 = .ok (.goto 19, 3) := by decide +kernel
theorem d_K_grant_89 : decode (yMb m_K_grant) 89 = .ok (.aload_n 0, 1) := by decide +kernel
theorem d_K_grant_90 : decode (yMb m_K_grant) 90 = .ok (.aload_n 1, 1) := by decide +kernel
theorem d_K_grant_91 : decode (yMb m_K_grant) 91 = .ok (.getfield 40, 3) := by decide +kernel
theorem d_K_grant_94 : decode (yMb m_K_grant) 94 = .ok (.aload_n 0, 1) := by decide +kernel
theorem d_K_grant_95 : decode (yMb m_K_grant) 95 = .ok (.aload_n 1, 1) := by decide +kernel
theorem d_K_grant_96 : decode (yMb m_K_grant) 96 = .ok (.getfield 40, 3) := by decide +kernel
theorem d_K_grant_99 : decode (yMb m_K_grant) 99 = .ok (.invokevirtual 46, 3) := by decide +kernel
theorem d_K_grant_102 : decode (yMb m_K_grant) 102 = .ok (.invokevirtual 43, 3) := by decide +kernel
theorem d_K_grant_105 : decode (yMb m_K_grant) 105 = .ok (.return_, 1) := by decide +kernel
theorem d_K_holdBack_0 : decode (yMb m_K_holdBack) 0 = .ok (.aload_n 1, 1) := by decide +kernel
theorem d_K_holdBack_1 : decode (yMb m_K_holdBack) 1 = .ok (.getfield 27, 3) := by decide +kernel
theorem d_K_holdBack_4 : decode (yMb m_K_holdBack) 4 = .ok (.iconst 2, 1) := by decide +kernel
theorem d_K_holdBack_5 : decode (yMb m_K_holdBack) 5 = .ok (.if_icmp .ne 12, 3) := by decide +kernel
theorem d_K_holdBack_8 : decode (yMb m_K_holdBack) 8 = .ok (.aload_n 0, 1) := by decide +kernel
theorem d_K_holdBack_9 : decode (yMb m_K_holdBack) 9 = .ok (.aload_n 1, 1) := by decide +kernel
theorem d_K_holdBack_10 : decode (yMb m_K_holdBack) 10 = .ok (.iload_n 2, 1) := by decide +kernel
theorem d_K_holdBack_11 : decode (yMb m_K_holdBack) 11 = .ok (.invokevirtual 50, 3) := by decide +kernel
theorem d_K_holdBack_14 : decode (yMb m_K_holdBack) 14 = .ok (.goto 9, 3) := by decide +kernel
theorem d_K_holdBack_17 : decode (yMb m_K_holdBack) 17 = .ok (.aload_n 0, 1) := by decide +kernel
theorem d_K_holdBack_18 : decode (yMb m_K_holdBack) 18 = .ok (.aload_n 1, 1) := by decide +kernel
theorem d_K_holdBack_19 : decode (yMb m_K_holdBack) 19 = .ok (.iload_n 2, 1) := by decide +kernel
theorem d_K_holdBack_20 : decode (yMb m_K_holdBack) 20 = .ok (.invokevirtual 54, 3) := by decide +kernel
theorem d_K_holdBack_23 : decode (yMb m_K_holdBack) 23 = .ok (.return_, 1) := by decide +kernel
theorem d_K_giveUp_0 : decode (yMb m_K_giveUp) 0 = .ok (.aload_n 1, 1) := by decide +kernel
theorem d_K_giveUp_1 : decode (yMb m_K_giveUp) 1 = .ok (.getfield 57, 3) := by decide +kernel
theorem d_K_giveUp_4 : decode (yMb m_K_giveUp) 4 = .ok (.iconst 2, 1) := by decide +kernel
theorem d_K_giveUp_5 : decode (yMb m_K_giveUp) 5 = .ok (.if_icmp .ne 24, 3) := by decide +kernel
theorem d_K_giveUp_8 : decode (yMb m_K_giveUp) 8 = .ok (.aload_n 0, 1) := by decide +kernel
theorem d_K_giveUp_9 : decode (yMb m_K_giveUp) 9 = .ok (.aload_n 1, 1) := by decide +kernel
theorem d_K_giveUp_10 : decode (yMb m_K_giveUp) 10 = .ok (.getfield 40, 3) := by decide +kernel
theorem d_K_giveUp_13 : decode (yMb m_K_giveUp) 13 = .ok (.invokevirtual 60, 3) := by decide +kernel
theorem d_K_giveUp_16 : decode (yMb m_K_giveUp) 16 = .ok (.aload_n 1, 1) := by decide +kernel
theorem d_K_giveUp_17 : decode (yMb m_K_giveUp) 17 = .ok (.invokevirtual 64, 3) := by decide +kernel
theorem d_K_giveUp_20 : decode (yMb m_K_giveUp) 20 = .ok (.aload_n 0, 1) := by decide +kernel
theorem d_K_giveUp_21 : decode (yMb m_K_giveUp) 21 = .ok (.aload_n 1, 1) := by decide +kernel
theorem d_K_giveUp_22 : decode (yMb m_K_giveUp) 22 = .ok (.iload_n 2, 1) := by decide +kernel
theorem d_K_giveUp_23 : decode (yMb m_K_giveUp) 23 = .ok (.invokevirtual 68, 3) := by decide +kernel
theorem d_K_giveUp_26 : decode (yMb m_K_giveUp) 26 = .ok (.goto 9, 3) := by decide +kernel
theorem d_K_giveUp_29 : decode (yMb m_K_giveUp) 29 = .ok (.aload_n 0, 1) := by decide +kernel
theorem d_K_giveUp_30 : decode (yMb m_K_giveUp) 30 = .ok (.aload_n 1, 1) := by decide +kernel
theorem d_K_giveUp_31 : decode (yMb m_K_giveUp) 31 = .ok (.iload_n 2, 1) := by decide +kernel
theorem d_K_giveUp_32 : decode (yMb m_K_giveUp) 32 = .ok (.invokevirtual 71, 3) := by decide +kernel
theorem d_K_giveUp_35 : decode (yMb m_K_giveUp) 35 = .ok (.return_, 1) := by decide +kernel
theorem d_K_level_0 : decode (yMb m_K_level) 0 = .ok (.aload_n 0, 1) := by decide +kernel
theorem d_K_level_1 : decode (yMb m_K_level) 1 = .ok (.getfield 33, 3) := by decide +kernel
theorem d_K_level_4 : decode (yMb m_K_level) 4 = .ok (.ireturn, 1) := by decide +kernel
theorem d_K_owner_0 : decode (yMb m_K_owner) 0 = .ok (.aload_n 0, 1) := by decide +kernel
theorem d_K_owner_1 : decode (yMb m_K_owner) 1 = .ok (.getfield 23, 3) := by decide +kernel
theorem d_K_owner_4 : decode (yMb m_K_owner) 4 = .ok (.invokestatic 74, 3) := by decide +kernel
theorem d_K_owner_7 : decode (yMb m_K_owner) 7 = .ok (.ireturn, 1) := by decide +kernel
theorem d_K_waitersAt_0 : decode (yMb m_K_waitersAt) 0 = .ok (.aload_n 0, 1) := by decide +kernel
theorem d_K_waitersAt_1 : decode (yMb m_K_waitersAt) 1 = .ok (.iload_n 1, 1) := by decide +kernel
theorem d_K_waitersAt_2 : decode (yMb m_K_waitersAt) 2 = .ok (.invokevirtual 60, 3) := by decide +kernel
theorem d_K_waitersAt_5 : decode (yMb m_K_waitersAt) 5 = .ok (.getfield 78, 3) := by decide +kernel
theorem d_K_waitersAt_8 : decode (yMb m_K_waitersAt) 8 = .ok (.ireturn, 1) := by decide +kernel
theorem d_K_leanedOn_0 : decode (yMb m_K_leanedOn) 0 = .ok (.aload_n 0, 1) := by decide +kernel
theorem d_K_leanedOn_1 : decode (yMb m_K_leanedOn) 1 = .ok (.getfield 23, 3) := by decide +kernel
theorem d_K_leanedOn_4 : decode (yMb m_K_leanedOn) 4 = .ok (.areturn, 1) := by decide +kernel
theorem d_K_condition_0 : decode (yMb m_K_condition) 0 = .ok (.iload_n 1, 1) := by decide +kernel
theorem d_K_condition_1 : decode (yMb m_K_condition) 1 = .ok (.ifCond .ne 10, 3) := by decide +kernel
theorem d_K_condition_4 : decode (yMb m_K_condition) 4 = .ok (.aload_n 0, 1) := by decide +kernel
theorem d_K_condition_5 : decode (yMb m_K_condition) 5 = .ok (.getfield 14, 3) := by decide +kernel
theorem d_K_condition_8 : decode (yMb m_K_condition) 8 = .ok (.goto 7, 3) := by decide +kernel
theorem d_K_condition_11 : decode (yMb m_K_condition) 11 = .ok (.aload_n 0, 1) := by decide +kernel
theorem d_K_condition_12 : decode (yMb m_K_condition) 12 = .ok (.getfield 20, 3) := by decide +kernel
theorem d_K_condition_15 : decode (yMb m_K_condition) 15 = .ok (.areturn, 1) := by decide +kernel
theorem d_K_joinCondition_0 : decode (yMb m_K_joinCondition) 0 = .ok (.aload_n 1, 1) := by decide +kernel
theorem d_K_joinCondition_1 : decode (yMb m_K_joinCondition) 1 = .ok (.aload_n 0, 1) := by decide +kernel
theorem d_K_joinCondition_2 : decode (yMb m_K_joinCondition) 2 = .ok (.getfield 33, 3) := by decide +kernel
theorem d_K_joinCondition_5 : decode (yMb m_K_joinCondition) 5 = .ok (.putfield 36, 3) := by decide +kernel
theorem d_K_joinCondition_8 : decode (yMb m_K_joinCondition) 8 = .ok (.aload_n 0, 1) := by decide +kernel
theorem d_K_joinCondition_9 : decode (yMb m_K_joinCondition) 9 = .ok (.iconst 0, 1) := by decide +kernel
theorem d_K_joinCondition_10 : decode (yMb m_K_joinCondition) 10 = .ok (.putfield 33, 3) := by decide +kernel
theorem d_K_joinCondition_13 : decode (yMb m_K_joinCondition) 13 = .ok (.aload_n 0, 1) := by decide +kernel
theorem d_K_joinCondition_14 : decode (yMb m_K_joinCondition) 14 = .ok (.aconst_null, 1) := by decide +kernel
theorem d_K_joinCondition_15 : decode (yMb m_K_joinCondition) 15 = .ok (.putfield 23, 3) := by decide +kernel
theorem d_K_joinCondition_18 : decode (yMb m_K_joinCondition) 18 = .ok (.aload_n 0, 1) := by decide +kernel
theorem d_K_joinCondition_19 : decode (yMb m_K_joinCondition) 19 = .ok (.aload_n 1, 1) := by decide +kernel
theorem d_K_joinCondition_20 : decode (yMb m_K_joinCondition) 20 = .ok (.getfield 40, 3) := by decide +kernel
theorem d_K_joinCondition_23 : decode (yMb m_K_joinCondition) 23 = .ok (.invokevirtual 60, 3) := by decide +kernel
theorem d_K_joinCondition_26 : decode (yMb m_K_joinCondition) 26 = .ok (.aload_n 1, 1) := by decide +kernel
theorem d_K_joinCondition_27 : decode (yMb m_K_joinCondition) 27 = .ok (.invokevirtual 81, 3) := by decide +kernel
theorem d_K_joinCondition_30 : decode (yMb m_K_joinCondition) 30 = .ok (.aload_n 1, 1) := by decide +kernel
theorem d_K_joinCondition_31 : decode (yMb m_K_joinCondition) 31 = .ok (.aload_n 0, 1) := by decide +kernel
theorem d_K_joinCondition_32 : decode (yMb m_K_joinCondition) 32 = .ok (.iconst 2, 1) := by decide +kernel
theorem d_K_joinCondition_33 : decode (yMb m_K_joinCondition) 33 = .ok (.iload_n 2, 1) := by decide +kernel
theorem d_K_joinCondition_34 : decode (yMb m_K_joinCondition) 34 = .ok (.invokevirtual 84, 3) := by decide +kernel
theorem d_K_joinCondition_37 : decode (yMb m_K_joinCondition) 37 = .ok (.return_, 1) := by decide +kernel
theorem d_K_leaveOnce_0 : decode (yMb m_K_leaveOnce) 0 = .ok (.aload_n 0, 1) := by decide +kernel
theorem d_K_leaveOnce_1 : decode (yMb m_K_leaveOnce) 1 = .ok (.dup, 1) := by decide +kernel
theorem d_K_leaveOnce_2 : decode (yMb m_K_leaveOnce) 2 = .ok (.getfield 33, 3) := by decide +kernel
theorem d_K_leaveOnce_5 : decode (yMb m_K_leaveOnce) 5 = .ok (.iconst 1, 1) := by decide +kernel
theorem d_K_leaveOnce_6 : decode (yMb m_K_leaveOnce) 6 = .ok (.isub, 1) := by decide +kernel
theorem d_K_leaveOnce_7 : decode (yMb m_K_leaveOnce) 7 = .ok (.putfield 33, 3) := by decide +kernel
theorem d_K_leaveOnce_10 : decode (yMb m_K_leaveOnce) 10 = .ok (.aload_n 0, 1) := by decide +kernel
theorem d_K_leaveOnce_11 : decode (yMb m_K_leaveOnce) 11 = .ok (.getfield 33, 3) := by decide +kernel
theorem d_K_leaveOnce_14 : decode (yMb m_K_leaveOnce) 14 = .ok (.ifCond .ne 8, 3) := by decide +kernel
theorem d_K_leaveOnce_17 : decode (yMb m_K_leaveOnce) 17 = .ok (.aload_n 0, 1) := by decide +kernel
theorem d_K_leaveOnce_18 : decode (yMb m_K_leaveOnce) 18 = .ok (.aconst_null, 1) := by decide +kernel
theorem d_K_leaveOnce_19 : decode (yMb m_K_leaveOnce) 19 = .ok (.putfield 23, 3) := by decide +kernel
theorem d_K_leaveOnce_22 : decode (yMb m_K_leaveOnce) 22 = .ok (.return_, 1) := by decide +kernel
theorem d_K_call_0 : decode (yMb m_K_call) 0 = .ok (.iconst 0, 1) := by decide +kernel
theorem d_K_call_1 : decode (yMb m_K_call) 1 = .ok (.istore_n 3, 1) := by decide +kernel
theorem d_K_call_2 : decode (yMb m_K_call) 2 = .ok (.iload_n 3, 1) := by decide +kernel
theorem d_K_call_3 : decode (yMb m_K_call) 3 = .ok (.iload_n 2, 1) := by decide +kernel
theorem d_K_call_4 : decode (yMb m_K_call) 4 = .ok (.if_icmp .ge 31, 3) := by decide +kernel
theorem d_K_call_7 : decode (yMb m_K_call) 7 = .ok (.aload_n 0, 1) := by decide +kernel
theorem d_K_call_8 : decode (yMb m_K_call) 8 = .ok (.iload_n 1, 1) := by decide +kernel
theorem d_K_call_9 : decode (yMb m_K_call) 9 = .ok (.invokevirtual 60, 3) := by decide +kernel
theorem d_K_call_12 : decode (yMb m_K_call) 12 = .ok (.invokevirtual 88, 3) := by decide +kernel
theorem d_K_call_15 : decode (yMb m_K_call) 15 = .ok (.astore 4, 2) := by decide +kernel
theorem d_K_call_17 : decode (yMb m_K_call) 17 = .ok (.aload 4, 2) := by decide +kernel
theorem d_K_call_19 : decode (yMb m_K_call) 19 = .ok (.ifnull 10, 3) := by decide +kernel
theorem d_K_call_22 : decode (yMb m_K_call) 22 = .ok (.aload_n 0, 1) := by decide +kernel
theorem d_K_call_23 : decode (yMb m_K_call) 23 = .ok (.aload 4, 2) := by decide +kernel
theorem d_K_call_25 : decode (yMb m_K_call) 25 = .ok (.iconst 0, 1) := by decide +kernel
theorem d_K_call_26 : decode (yMb m_K_call) 26 = .ok (.invokevirtual 68, 3) := by decide +kernel
theorem d_K_call_29 : decode (yMb m_K_call) 29 = .ok (.iinc 3 1, 3) := by decide +kernel
theorem d_K_call_32 : decode (yMb m_K_call) 32 = .ok (.goto (-30), 3) := by decide +kernel
theorem d_K_call_35 : decode (yMb m_K_call) 35 = .ok (.return_, 1) := by decide +kernel
theorem d_K_takeAgain_0 : decode (yMb m_K_takeAgain) 0 = .ok (.aload_n 1, 1) := by decide +kernel
theorem d_K_takeAgain_1 : decode (yMb m_K_takeAgain) 1 = .ok (.iload_n 2, 1) := by decide +kernel
theorem d_K_takeAgain_2 : decode (yMb m_K_takeAgain) 2 = .ok (.putfield 92, 3) := by decide +kernel
theorem d_K_takeAgain_5 : decode (yMb m_K_takeAgain) 5 = .ok (.aload_n 0, 1) := by decide +kernel
theorem d_K_takeAgain_6 : decode (yMb m_K_takeAgain) 6 = .ok (.getfield 95, 3) := by decide +kernel
theorem d_K_takeAgain_9 : decode (yMb m_K_takeAgain) 9 = .ok (.aload_n 1, 1) := by decide +kernel
theorem d_K_takeAgain_10 : decode (yMb m_K_takeAgain) 10 = .ok (.invokevirtual 81, 3) := by decide +kernel
theorem d_K_takeAgain_13 : decode (yMb m_K_takeAgain) 13 = .ok (.aload_n 1, 1) := by decide +kernel
theorem d_K_takeAgain_14 : decode (yMb m_K_takeAgain) 14 = .ok (.aload_n 0, 1) := by decide +kernel
theorem d_K_takeAgain_15 : decode (yMb m_K_takeAgain) 15 = .ok (.iconst 1, 1) := by decide +kernel
theorem d_K_takeAgain_16 : decode (yMb m_K_takeAgain) 16 = .ok (.iconst (-1), 1) := by decide +kernel
theorem d_K_takeAgain_17 : decode (yMb m_K_takeAgain) 17 = .ok (.invokevirtual 84, 3) := by decide +kernel
theorem d_K_takeAgain_20 : decode (yMb m_K_takeAgain) 20 = .ok (.return_, 1) := by decide +kernel
theorem d_B_init_0 : decode (yMb m_B_init) 0 = .ok (.aload_n 0, 1) := by decide +kernel
theorem d_B_init_1 : decode (yMb m_B_init) 1 = .ok (.iconst 1, 1) := by decide +kernel
theorem d_B_init_2 : decode (yMb m_B_init) 2 = .ok (.iload_n 1, 1) := by decide +kernel
theorem d_B_init_3 : decode (yMb m_B_init) 3 = .ok (.invokespecial 3, 3) := by decide +kernel
theorem d_B_init_6 : decode (yMb m_B_init) 6 = .ok (.aload_n 0, 1) := by decide +kernel
theorem d_B_init_7 : decode (yMb m_B_init) 7 = .ok (.bipush 6, 2) := by decide +kernel
theorem d_B_init_9 : decode (yMb m_B_init) 9 = .ok (.newarray .int, 2) := by decide +kernel
theorem d_B_init_11 : decode (yMb m_B_init) 11 = .ok (.putfield 9, 3) := by decide +kernel
theorem d_B_init_14 : decode (yMb m_B_init) 14 = .ok (.return_, 1) := by decide +kernel
theorem d_B_allows_0 : decode (yMb m_B_allows) 0 = .ok (.iload_n 2, 1) := by decide +kernel
theorem d_B_allows_1 : decode (yMb m_B_allows) 1 = .ok (.lookupswitch 59 #[(6, 27), (8, 45)], 27) := by decide +kernel
theorem d_B_allows_28 : decode (yMb m_B_allows) 28 = .ok (.aload_n 0, 1) := by decide +kernel
theorem d_B_allows_29 : decode (yMb m_B_allows) 29 = .ok (.getfield 9, 3) := by decide +kernel
theorem d_B_allows_32 : decode (yMb m_B_allows) 32 = .ok (.aload_n 1, 1) := by decide +kernel
theorem d_B_allows_33 : decode (yMb m_B_allows) 33 = .ok (.getfield 15, 3) := by decide +kernel
theorem d_B_allows_36 : decode (yMb m_B_allows) 36 = .ok (.iaload, 1) := by decide +kernel
theorem d_B_allows_37 : decode (yMb m_B_allows) 37 = .ok (.ifCond .le 7, 3) := by decide +kernel
theorem d_B_allows_40 : decode (yMb m_B_allows) 40 = .ok (.iconst 1, 1) := by decide +kernel
theorem d_B_allows_41 : decode (yMb m_B_allows) 41 = .ok (.goto 4, 3) := by decide +kernel
theorem d_B_allows_44 : decode (yMb m_B_allows) 44 = .ok (.iconst 0, 1) := by decide +kernel
theorem d_B_allows_45 : decode (yMb m_B_allows) 45 = .ok (.ireturn, 1) := by decide +kernel
theorem d_B_allows_46 : decode (yMb m_B_allows) 46 = .ok (.aload_n 0, 1) := by decide +kernel
theorem d_B_allows_47 : decode (yMb m_B_allows) 47 = .ok (.getfield 21, 3) := by decide +kernel
theorem d_B_allows_50 : decode (yMb m_B_allows) 50 = .ok (.aload_n 1, 1) := by decide +kernel
theorem d_B_allows_51 : decode (yMb m_B_allows) 51 = .ok (.if_acmp .ne 7, 3) := by decide +kernel
theorem d_B_allows_54 : decode (yMb m_B_allows) 54 = .ok (.iconst 1, 1) := by decide +kernel
theorem d_B_allows_55 : decode (yMb m_B_allows) 55 = .ok (.goto 4, 3) := by decide +kernel
theorem d_B_allows_58 : decode (yMb m_B_allows) 58 = .ok (.iconst 0, 1) := by decide +kernel
theorem d_B_allows_59 : decode (yMb m_B_allows) 59 = .ok (.ireturn, 1) := by decide +kernel
theorem d_B_allows_60 : decode (yMb m_B_allows) 60 = .ok (.iconst 1, 1) := by decide +kernel
theorem d_B_allows_61 : decode (yMb m_B_allows) 61 = .ok (.ireturn, 1) := by decide +kernel
theorem d_B_canBe_0 : decode (yMb m_B_canBe) 0 = .ok (.aload_n 0, 1) := by decide +kernel
theorem d_B_canBe_1 : decode (yMb m_B_canBe) 1 = .ok (.getfield 21, 3) := by decide +kernel
theorem d_B_canBe_4 : decode (yMb m_B_canBe) 4 = .ok (.ifnull 15, 3) := by decide +kernel
theorem d_B_canBe_7 : decode (yMb m_B_canBe) 7 = .ok (.aload_n 0, 1) := by decide +kernel
theorem d_B_canBe_8 : decode (yMb m_B_canBe) 8 = .ok (.getfield 21, 3) := by decide +kernel
theorem d_B_canBe_11 : decode (yMb m_B_canBe) 11 = .ok (.aload_n 1, 1) := by decide +kernel
theorem d_B_canBe_12 : decode (yMb m_B_canBe) 12 = .ok (.if_acmp .eq 7, 3) := by decide +kernel
theorem d_B_canBe_15 : decode (yMb m_B_canBe) 15 = .ok (.iconst 1, 1) := by decide +kernel
theorem d_B_canBe_16 : decode (yMb m_B_canBe) 16 = .ok (.goto 4, 3) := by decide +kernel
theorem d_B_canBe_19 : decode (yMb m_B_canBe) 19 = .ok (.iconst 0, 1) := by decide +kernel
theorem d_B_canBe_20 : decode (yMb m_B_canBe) 20 = .ok (.istore_n 2, 1) := by decide +kernel
theorem d_B_canBe_21 : decode (yMb m_B_canBe) 21 = .ok (.aload_n 0, 1) := by decide +kernel
theorem d_B_canBe_22 : decode (yMb m_B_canBe) 22 = .ok (.getfield 25, 3) := by decide +kernel
theorem d_B_canBe_25 : decode (yMb m_B_canBe) 25 = .ok (.aload_n 0, 1) := by decide +kernel
theorem d_B_canBe_26 : decode (yMb m_B_canBe) 26 = .ok (.getfield 9, 3) := by decide +kernel
theorem d_B_canBe_29 : decode (yMb m_B_canBe) 29 = .ok (.aload_n 1, 1) := by decide +kernel
theorem d_B_canBe_30 : decode (yMb m_B_canBe) 30 = .ok (.getfield 15, 3) := by decide +kernel
theorem d_B_canBe_33 : decode (yMb m_B_canBe) 33 = .ok (.iaload, 1) := by decide +kernel
theorem d_B_canBe_34 : decode (yMb m_B_canBe) 34 = .ok (.if_icmp .le 7, 3) := by decide +kernel
theorem d_B_canBe_37 : decode (yMb m_B_canBe) 37 = .ok (.iconst 1, 1) := by decide +kernel
theorem d_B_canBe_38 : decode (yMb m_B_canBe) 38 = .ok (.goto 4, 3) := by decide +kernel
theorem d_B_canBe_41 : decode (yMb m_B_canBe) 41 = .ok (.iconst 0, 1) := by decide +kernel
theorem d_B_canBe_42 : decode (yMb m_B_canBe) 42 = .ok (.istore_n 3, 1) := by decide +kernel
theorem d_B_canBe_43 : decode (yMb m_B_canBe) 43 = .ok (.iload_n 2, 1) := by decide +kernel
theorem d_B_canBe_44 : decode (yMb m_B_canBe) 44 = .ok (.ifCond .ne 19, 3) := by decide +kernel
theorem d_B_canBe_47 : decode (yMb m_B_canBe) 47 = .ok (.aload_n 1, 1) := by decide +kernel
theorem d_B_canBe_48 : decode (yMb m_B_canBe) 48 = .ok (.getfield 28, 3) := by decide +kernel
theorem d_B_canBe_51 : decode (yMb m_B_canBe) 51 = .ok (.iconst 5, 1) := by decide +kernel
theorem d_B_canBe_52 : decode (yMb m_B_canBe) 52 = .ok (.if_icmp .eq 7, 3) := by decide +kernel
theorem d_B_canBe_55 : decode (yMb m_B_canBe) 55 = .ok (.iload_n 3, 1) := by decide +kernel
theorem d_B_canBe_56 : decode (yMb m_B_canBe) 56 = .ok (.ifCond .ne 7, 3) := by decide +kernel
theorem d_B_canBe_59 : decode (yMb m_B_canBe) 59 = .ok (.iconst 1, 1) := by decide +kernel
theorem d_B_canBe_60 : decode (yMb m_B_canBe) 60 = .ok (.goto 4, 3) := by decide +kernel
theorem d_B_canBe_63 : decode (yMb m_B_canBe) 63 = .ok (.iconst 0, 1) := by decide +kernel
theorem d_B_canBe_64 : decode (yMb m_B_canBe) 64 = .ok (.ireturn, 1) := by decide +kernel
theorem d_B_passesRow_0 : decode (yMb m_B_passesRow) 0 = .ok (.aload_n 0, 1) := by decide +kernel
theorem d_B_passesRow_1 : decode (yMb m_B_passesRow) 1 = .ok (.getfield 21, 3) := by decide +kernel
theorem d_B_passesRow_4 : decode (yMb m_B_passesRow) 4 = .ok (.aload_n 1, 1) := by decide +kernel
theorem d_B_passesRow_5 : decode (yMb m_B_passesRow) 5 = .ok (.if_acmp .eq 12, 3) := by decide +kernel
theorem d_B_passesRow_8 : decode (yMb m_B_passesRow) 8 = .ok (.aload_n 1, 1) := by decide +kernel
theorem d_B_passesRow_9 : decode (yMb m_B_passesRow) 9 = .ok (.getfield 28, 3) := by decide +kernel
theorem d_B_passesRow_12 : decode (yMb m_B_passesRow) 12 = .ok (.bipush 6, 2) := by decide +kernel
theorem d_B_passesRow_14 : decode (yMb m_B_passesRow) 14 = .ok (.if_icmp .ne 7, 3) := by decide +kernel
theorem d_B_passesRow_17 : decode (yMb m_B_passesRow) 17 = .ok (.iconst 1, 1) := by decide +kernel
theorem d_B_passesRow_18 : decode (yMb m_B_passesRow) 18 = .ok (.goto 4, 3) := by decide +kernel
theorem d_B_passesRow_21 : decode (yMb m_B_passesRow) 21 = .ok (.iconst 0, 1) := by decide +kernel
theorem d_B_passesRow_22 : decode (yMb m_B_passesRow) 22 = .ok (.ireturn, 1) := by decide +kernel
theorem d_B_grant_0 : decode (yMb m_B_grant) 0 = .ok (.aload_n 1, 1) := by decide +kernel
theorem d_B_grant_1 : decode (yMb m_B_grant) 1 = .ok (.getfield 28, 3) := by decide +kernel
theorem d_B_grant_4 : decode (yMb m_B_grant) 4 = .ok (.tableswitch 64 5 7 #[28, 37, 46], 28) := by decide +kernel
theorem d_B_grant_32 : decode (yMb m_B_grant) 32 = .ok (.aload_n 0, 1) := by decide +kernel
theorem d_B_grant_33 : decode (yMb m_B_grant) 33 = .ok (.aload_n 1, 1) := by decide +kernel
theorem d_B_grant_34 : decode (yMb m_B_grant) 34 = .ok (.iconst 1, 1) := by decide +kernel
theorem d_B_grant_35 : decode (yMb m_B_grant) 35 = .ok (.invokevirtual 31, 3) := by decide +kernel
theorem d_B_grant_38 : decode (yMb m_B_grant) 38 = .ok (.goto 34, 3) := by decide +kernel
theorem d_B_grant_41 : decode (yMb m_B_grant) 41 = .ok (.aload_n 0, 1) := by decide +kernel
theorem d_B_grant_42 : decode (yMb m_B_grant) 42 = .ok (.aload_n 1, 1) := by decide +kernel
theorem d_B_grant_43 : decode (yMb m_B_grant) 43 = .ok (.iconst (-1), 1) := by decide +kernel
theorem d_B_grant_44 : decode (yMb m_B_grant) 44 = .ok (.invokevirtual 31, 3) := by decide +kernel
theorem d_B_grant_47 : decode (yMb m_B_grant) 47 = .ok (.goto 25, 3) := by decide +kernel
theorem d_B_grant_50 : decode (yMb m_B_grant) 50 = .ok (.aload_n 0, 1) := by decide +kernel
theorem d_B_grant_51 : decode (yMb m_B_grant) 51 = .ok (.aload_n 1, 1) := by decide +kernel
theorem d_B_grant_52 : decode (yMb m_B_grant) 52 = .ok (.putfield 21, 3) := by decide +kernel
theorem d_B_grant_55 : decode (yMb m_B_grant) 55 = .ok (.aload_n 0, 1) := by decide +kernel
theorem d_B_grant_56 : decode (yMb m_B_grant) 56 = .ok (.dup, 1) := by decide +kernel
theorem d_B_grant_57 : decode (yMb m_B_grant) 57 = .ok (.getfield 35, 3) := by decide +kernel
theorem d_B_grant_60 : decode (yMb m_B_grant) 60 = .ok (.iconst 1, 1) := by decide +kernel
theorem d_B_grant_61 : decode (yMb m_B_grant) 61 = .ok (.iadd, 1) := by decide +kernel
theorem d_B_grant_62 : decode (yMb m_B_grant) 62 = .ok (.putfield 35, 3) := by decide +kernel
theorem d_B_grant_65 : decode (yMb m_B_grant) 65 = .ok (.goto 7, 3) := by decide +kernel
theorem d_B_grant_68 : decode (yMb m_B_grant) 68 = .ok (.aload_n 0, 1) := by decide +kernel
theorem d_B_grant_69 : decode (yMb m_B_grant) 69 = .ok (.invokevirtual 38, 3) := by decide +kernel
theorem d_B_grant_72 : decode (yMb m_B_grant) 72 = .ok (.return_, 1) := by decide +kernel
theorem d_B_level_0 : decode (yMb m_B_level) 0 = .ok (.aload_n 0, 1) := by decide +kernel
theorem d_B_level_1 : decode (yMb m_B_level) 1 = .ok (.getfield 35, 3) := by decide +kernel
theorem d_B_level_4 : decode (yMb m_B_level) 4 = .ok (.ireturn, 1) := by decide +kernel
theorem d_B_owner_0 : decode (yMb m_B_owner) 0 = .ok (.aload_n 0, 1) := by decide +kernel
theorem d_B_owner_1 : decode (yMb m_B_owner) 1 = .ok (.getfield 21, 3) := by decide +kernel
theorem d_B_owner_4 : decode (yMb m_B_owner) 4 = .ok (.invokestatic 42, 3) := by decide +kernel
theorem d_B_owner_7 : decode (yMb m_B_owner) 7 = .ok (.ireturn, 1) := by decide +kernel
theorem d_B_timesRead_0 : decode (yMb m_B_timesRead) 0 = .ok (.aload_n 0, 1) := by decide +kernel
theorem d_B_timesRead_1 : decode (yMb m_B_timesRead) 1 = .ok (.getfield 25, 3) := by decide +kernel
theorem d_B_timesRead_4 : decode (yMb m_B_timesRead) 4 = .ok (.ireturn, 1) := by decide +kernel
theorem d_B_countReads_0 : decode (yMb m_B_countReads) 0 = .ok (.aload_n 0, 1) := by decide +kernel
theorem d_B_countReads_1 : decode (yMb m_B_countReads) 1 = .ok (.getfield 9, 3) := by decide +kernel
theorem d_B_countReads_4 : decode (yMb m_B_countReads) 4 = .ok (.aload_n 1, 1) := by decide +kernel
theorem d_B_countReads_5 : decode (yMb m_B_countReads) 5 = .ok (.getfield 15, 3) := by decide +kernel
theorem d_B_countReads_8 : decode (yMb m_B_countReads) 8 = .ok (.dup2, 1) := by decide +kernel
theorem d_B_countReads_9 : decode (yMb m_B_countReads) 9 = .ok (.iaload, 1) := by decide +kernel
theorem d_B_countReads_10 : decode (yMb m_B_countReads) 10 = .ok (.iload_n 2, 1) := by decide +kernel
theorem d_B_countReads_11 : decode (yMb m_B_countReads) 11 = .ok (.iadd, 1) := by decide +kernel
theorem d_B_countReads_12 : decode (yMb m_B_countReads) 12 = .ok (.iastore, 1) := by decide +kernel
theorem d_B_countReads_13 : decode (yMb m_B_countReads) 13 = .ok (.aload_n 0, 1) := by decide +kernel
theorem d_B_countReads_14 : decode (yMb m_B_countReads) 14 = .ok (.dup, 1) := by decide +kernel
theorem d_B_countReads_15 : decode (yMb m_B_countReads) 15 = .ok (.getfield 25, 3) := by decide +kernel
theorem d_B_countReads_18 : decode (yMb m_B_countReads) 18 = .ok (.iload_n 2, 1) := by decide +kernel
theorem d_B_countReads_19 : decode (yMb m_B_countReads) 19 = .ok (.iadd, 1) := by decide +kernel
theorem d_B_countReads_20 : decode (yMb m_B_countReads) 20 = .ok (.putfield 25, 3) := by decide +kernel
theorem d_B_countReads_23 : decode (yMb m_B_countReads) 23 = .ok (.return_, 1) := by decide +kernel
theorem d_B_closeWritingOnce_0 : decode (yMb m_B_closeWritingOnce) 0 = .ok (.aload_n 0, 1) := by decide +kernel
theorem d_B_closeWritingOnce_1 : decode (yMb m_B_closeWritingOnce) 1 = .ok (.dup, 1) := by decide +kernel
theorem d_B_closeWritingOnce_2 : decode (yMb m_B_closeWritingOnce) 2 = .ok (.getfield 35, 3) := by decide +kernel
theorem d_B_closeWritingOnce_5 : decode (yMb m_B_closeWritingOnce) 5 = .ok (.iconst 1, 1) := by decide +kernel
theorem d_B_closeWritingOnce_6 : decode (yMb m_B_closeWritingOnce) 6 = .ok (.isub, 1) := by decide +kernel
theorem d_B_closeWritingOnce_7 : decode (yMb m_B_closeWritingOnce) 7 = .ok (.putfield 35, 3) := by decide +kernel
theorem d_B_closeWritingOnce_10 : decode (yMb m_B_closeWritingOnce) 10 = .ok (.aload_n 0, 1) := by decide +kernel
theorem d_B_closeWritingOnce_11 : decode (yMb m_B_closeWritingOnce) 11 = .ok (.getfield 35, 3) := by decide +kernel
theorem d_B_closeWritingOnce_14 : decode (yMb m_B_closeWritingOnce) 14 = .ok (.ifCond .ne 8, 3) := by decide +kernel
theorem d_B_closeWritingOnce_17 : decode (yMb m_B_closeWritingOnce) 17 = .ok (.aload_n 0, 1) := by decide +kernel
theorem d_B_closeWritingOnce_18 : decode (yMb m_B_closeWritingOnce) 18 = .ok (.aconst_null, 1) := by decide +kernel
theorem d_B_closeWritingOnce_19 : decode (yMb m_B_closeWritingOnce) 19 = .ok (.putfield 21, 3) := by decide +kernel
theorem d_B_closeWritingOnce_22 : decode (yMb m_B_closeWritingOnce) 22 = .ok (.return_, 1) := by decide +kernel
theorem d_S_init_0 : decode (yMb m_S_init) 0 = .ok (.aload_n 0, 1) := by decide +kernel
theorem d_S_init_1 : decode (yMb m_S_init) 1 = .ok (.iconst 2, 1) := by decide +kernel
theorem d_S_init_2 : decode (yMb m_S_init) 2 = .ok (.iload_n 1, 1) := by decide +kernel
theorem d_S_init_3 : decode (yMb m_S_init) 3 = .ok (.invokespecial 3, 3) := by decide +kernel
theorem d_S_init_6 : decode (yMb m_S_init) 6 = .ok (.aload_n 0, 1) := by decide +kernel
theorem d_S_init_7 : decode (yMb m_S_init) 7 = .ok (.iload_n 2, 1) := by decide +kernel
theorem d_S_init_8 : decode (yMb m_S_init) 8 = .ok (.putfield 9, 3) := by decide +kernel
theorem d_S_init_11 : decode (yMb m_S_init) 11 = .ok (.return_, 1) := by decide +kernel
theorem d_S_allows_0 : decode (yMb m_S_allows) 0 = .ok (.iload_n 2, 1) := by decide +kernel
theorem d_S_allows_1 : decode (yMb m_S_allows) 1 = .ok (.bipush 10, 2) := by decide +kernel
theorem d_S_allows_3 : decode (yMb m_S_allows) 3 = .ok (.if_icmp .ne 14, 3) := by decide +kernel
theorem d_S_allows_6 : decode (yMb m_S_allows) 6 = .ok (.aload_n 0, 1) := by decide +kernel
theorem d_S_allows_7 : decode (yMb m_S_allows) 7 = .ok (.getfield 9, 3) := by decide +kernel
theorem d_S_allows_10 : decode (yMb m_S_allows) 10 = .ok (.iload_n 3, 1) := by decide +kernel
theorem d_S_allows_11 : decode (yMb m_S_allows) 11 = .ok (.iadd, 1) := by decide +kernel
theorem d_S_allows_12 : decode (yMb m_S_allows) 12 = .ok (.bipush 50, 2) := by decide +kernel
theorem d_S_allows_14 : decode (yMb m_S_allows) 14 = .ok (.if_icmp .gt 7, 3) := by decide +kernel
theorem d_S_allows_17 : decode (yMb m_S_allows) 17 = .ok (.iconst 1, 1) := by decide +kernel
theorem d_S_allows_18 : decode (yMb m_S_allows) 18 = .ok (.goto 4, 3) := by decide +kernel
theorem d_S_allows_21 : decode (yMb m_S_allows) 21 = .ok (.iconst 0, 1) := by decide +kernel
theorem d_S_allows_22 : decode (yMb m_S_allows) 22 = .ok (.ireturn, 1) := by decide +kernel
theorem d_S_canBe_0 : decode (yMb m_S_canBe) 0 = .ok (.aload_n 0, 1) := by decide +kernel
theorem d_S_canBe_1 : decode (yMb m_S_canBe) 1 = .ok (.getfield 9, 3) := by decide +kernel
theorem d_S_canBe_4 : decode (yMb m_S_canBe) 4 = .ok (.aload_n 1, 1) := by decide +kernel
theorem d_S_canBe_5 : decode (yMb m_S_canBe) 5 = .ok (.getfield 15, 3) := by decide +kernel
theorem d_S_canBe_8 : decode (yMb m_S_canBe) 8 = .ok (.if_icmp .lt 7, 3) := by decide +kernel
theorem d_S_canBe_11 : decode (yMb m_S_canBe) 11 = .ok (.iconst 1, 1) := by decide +kernel
theorem d_S_canBe_12 : decode (yMb m_S_canBe) 12 = .ok (.goto 4, 3) := by decide +kernel
theorem d_S_canBe_15 : decode (yMb m_S_canBe) 15 = .ok (.iconst 0, 1) := by decide +kernel
theorem d_S_canBe_16 : decode (yMb m_S_canBe) 16 = .ok (.ireturn, 1) := by decide +kernel
theorem d_S_passesRow_0 : decode (yMb m_S_passesRow) 0 = .ok (.aload_n 1, 1) := by decide +kernel
theorem d_S_passesRow_1 : decode (yMb m_S_passesRow) 1 = .ok (.getfield 20, 3) := by decide +kernel
theorem d_S_passesRow_4 : decode (yMb m_S_passesRow) 4 = .ok (.bipush 10, 2) := by decide +kernel
theorem d_S_passesRow_6 : decode (yMb m_S_passesRow) 6 = .ok (.if_icmp .ne 7, 3) := by decide +kernel
theorem d_S_passesRow_9 : decode (yMb m_S_passesRow) 9 = .ok (.iconst 1, 1) := by decide +kernel
theorem d_S_passesRow_10 : decode (yMb m_S_passesRow) 10 = .ok (.goto 4, 3) := by decide +kernel
theorem d_S_passesRow_13 : decode (yMb m_S_passesRow) 13 = .ok (.iconst 0, 1) := by decide +kernel
theorem d_S_passesRow_14 : decode (yMb m_S_passesRow) 14 = .ok (.ireturn, 1) := by decide +kernel
theorem d_S_grant_0 : decode (yMb m_S_grant) 0 = .ok (.aload_n 0, 1) := by decide +kernel
theorem d_S_grant_1 : decode (yMb m_S_grant) 1 = .ok (.dup, 1) := by decide +kernel
theorem d_S_grant_2 : decode (yMb m_S_grant) 2 = .ok (.getfield 9, 3) := by decide +kernel
theorem d_S_grant_5 : decode (yMb m_S_grant) 5 = .ok (.aload_n 1, 1) := by decide +kernel
theorem d_S_grant_6 : decode (yMb m_S_grant) 6 = .ok (.getfield 20, 3) := by decide +kernel
theorem d_S_grant_9 : decode (yMb m_S_grant) 9 = .ok (.bipush 10, 2) := by decide +kernel
theorem d_S_grant_11 : decode (yMb m_S_grant) 11 = .ok (.if_icmp .ne 10, 3) := by decide +kernel
theorem d_S_grant_14 : decode (yMb m_S_grant) 14 = .ok (.aload_n 1, 1) := by decide +kernel
theorem d_S_grant_15 : decode (yMb m_S_grant) 15 = .ok (.getfield 15, 3) := by decide +kernel
theorem d_S_grant_18 : decode (yMb m_S_grant) 18 = .ok (.goto 8, 3) := by decide +kernel
theorem d_S_grant_21 : decode (yMb m_S_grant) 21 = .ok (.aload_n 1, 1) := by decide +kernel
theorem d_S_grant_22 : decode (yMb m_S_grant) 22 = .ok (.getfield 15, 3) := by decide +kernel
theorem d_S_grant_25 : decode (yMb m_S_grant) 25 = .ok (.ineg, 1) := by decide +kernel
theorem d_S_grant_26 : decode (yMb m_S_grant) 26 = .ok (.iadd, 1) := by decide +kernel
theorem d_S_grant_27 : decode (yMb m_S_grant) 27 = .ok (.putfield 9, 3) := by decide +kernel
theorem d_S_grant_30 : decode (yMb m_S_grant) 30 = .ok (.return_, 1) := by decide +kernel
theorem d_S_level_0 : decode (yMb m_S_level) 0 = .ok (.aload_n 0, 1) := by decide +kernel
theorem d_S_level_1 : decode (yMb m_S_level) 1 = .ok (.getfield 9, 3) := by decide +kernel
theorem d_S_level_4 : decode (yMb m_S_level) 4 = .ok (.ireturn, 1) := by decide +kernel
theorem d_L_init_0 : decode (yMb m_L_init) 0 = .ok (.aload_n 0, 1) := by decide +kernel
theorem d_L_init_1 : decode (yMb m_L_init) 1 = .ok (.iconst 3, 1) := by decide +kernel
theorem d_L_init_2 : decode (yMb m_L_init) 2 = .ok (.iload_n 1, 1) := by decide +kernel
theorem d_L_init_3 : decode (yMb m_L_init) 3 = .ok (.invokespecial 3, 3) := by decide +kernel
theorem d_L_init_6 : decode (yMb m_L_init) 6 = .ok (.aload_n 0, 1) := by decide +kernel
theorem d_L_init_7 : decode (yMb m_L_init) 7 = .ok (.iload_n 2, 1) := by decide +kernel
theorem d_L_init_8 : decode (yMb m_L_init) 8 = .ok (.putfield 9, 3) := by decide +kernel
theorem d_L_init_11 : decode (yMb m_L_init) 11 = .ok (.return_, 1) := by decide +kernel
theorem d_L_canBe_0 : decode (yMb m_L_canBe) 0 = .ok (.aload_n 0, 1) := by decide +kernel
theorem d_L_canBe_1 : decode (yMb m_L_canBe) 1 = .ok (.getfield 9, 3) := by decide +kernel
theorem d_L_canBe_4 : decode (yMb m_L_canBe) 4 = .ok (.ifCond .ne 7, 3) := by decide +kernel
theorem d_L_canBe_7 : decode (yMb m_L_canBe) 7 = .ok (.iconst 1, 1) := by decide +kernel
theorem d_L_canBe_8 : decode (yMb m_L_canBe) 8 = .ok (.goto 4, 3) := by decide +kernel
theorem d_L_canBe_11 : decode (yMb m_L_canBe) 11 = .ok (.iconst 0, 1) := by decide +kernel
theorem d_L_canBe_12 : decode (yMb m_L_canBe) 12 = .ok (.ireturn, 1) := by decide +kernel
theorem d_L_passesRow_0 : decode (yMb m_L_passesRow) 0 = .ok (.aload_n 1, 1) := by decide +kernel
theorem d_L_passesRow_1 : decode (yMb m_L_passesRow) 1 = .ok (.getfield 15, 3) := by decide +kernel
theorem d_L_passesRow_4 : decode (yMb m_L_passesRow) 4 = .ok (.bipush 12, 2) := by decide +kernel
theorem d_L_passesRow_6 : decode (yMb m_L_passesRow) 6 = .ok (.if_icmp .ne 7, 3) := by decide +kernel
theorem d_L_passesRow_9 : decode (yMb m_L_passesRow) 9 = .ok (.iconst 1, 1) := by decide +kernel
theorem d_L_passesRow_10 : decode (yMb m_L_passesRow) 10 = .ok (.goto 4, 3) := by decide +kernel
theorem d_L_passesRow_13 : decode (yMb m_L_passesRow) 13 = .ok (.iconst 0, 1) := by decide +kernel
theorem d_L_passesRow_14 : decode (yMb m_L_passesRow) 14 = .ok (.ireturn, 1) := by decide +kernel
theorem d_L_grant_0 : decode (yMb m_L_grant) 0 = .ok (.aload_n 1, 1) := by decide +kernel
theorem d_L_grant_1 : decode (yMb m_L_grant) 1 = .ok (.getfield 15, 3) := by decide +kernel
theorem d_L_grant_4 : decode (yMb m_L_grant) 4 = .ok (.bipush 12, 2) := by decide +kernel
theorem d_L_grant_6 : decode (yMb m_L_grant) 6 = .ok (.if_icmp .ne 20, 3) := by decide +kernel
theorem d_L_grant_9 : decode (yMb m_L_grant) 9 = .ok (.aload_n 0, 1) := by decide +kernel
theorem d_L_grant_10 : decode (yMb m_L_grant) 10 = .ok (.getfield 9, 3) := by decide +kernel
theorem d_L_grant_13 : decode (yMb m_L_grant) 13 = .ok (.ifCond .le 13, 3) := by decide +kernel
theorem d_L_grant_16 : decode (yMb m_L_grant) 16 = .ok (.aload_n 0, 1) := by decide +kernel
theorem d_L_grant_17 : decode (yMb m_L_grant) 17 = .ok (.dup, 1) := by decide +kernel
theorem d_L_grant_18 : decode (yMb m_L_grant) 18 = .ok (.getfield 9, 3) := by decide +kernel
theorem d_L_grant_21 : decode (yMb m_L_grant) 21 = .ok (.iconst 1, 1) := by decide +kernel
theorem d_L_grant_22 : decode (yMb m_L_grant) 22 = .ok (.isub, 1) := by decide +kernel
theorem d_L_grant_23 : decode (yMb m_L_grant) 23 = .ok (.putfield 9, 3) := by decide +kernel
theorem d_L_grant_26 : decode (yMb m_L_grant) 26 = .ok (.return_, 1) := by decide +kernel
theorem d_L_level_0 : decode (yMb m_L_level) 0 = .ok (.aload_n 0, 1) := by decide +kernel
theorem d_L_level_1 : decode (yMb m_L_level) 1 = .ok (.getfield 9, 3) := by decide +kernel
theorem d_L_level_4 : decode (yMb m_L_level) 4 = .ok (.ireturn, 1) := by decide +kernel
theorem d_A_init_0 : decode (yMb m_A_init) 0 = .ok (.aload_n 0, 1) := by decide +kernel
theorem d_A_init_1 : decode (yMb m_A_init) 1 = .ok (.iconst 4, 1) := by decide +kernel
theorem d_A_init_2 : decode (yMb m_A_init) 2 = .ok (.iload_n 1, 1) := by decide +kernel
theorem d_A_init_3 : decode (yMb m_A_init) 3 = .ok (.invokespecial 3, 3) := by decide +kernel
theorem d_A_init_6 : decode (yMb m_A_init) 6 = .ok (.aload_n 0, 1) := by decide +kernel
theorem d_A_init_7 : decode (yMb m_A_init) 7 = .ok (.iload_n 2, 1) := by decide +kernel
theorem d_A_init_8 : decode (yMb m_A_init) 8 = .ok (.putfield 9, 3) := by decide +kernel
theorem d_A_init_11 : decode (yMb m_A_init) 11 = .ok (.return_, 1) := by decide +kernel
theorem d_A_refuses_0 : decode (yMb m_A_refuses) 0 = .ok (.aload_n 1, 1) := by decide +kernel
theorem d_A_refuses_1 : decode (yMb m_A_refuses) 1 = .ok (.getfield 15, 3) := by decide +kernel
theorem d_A_refuses_4 : decode (yMb m_A_refuses) 4 = .ok (.bipush 13, 2) := by decide +kernel
theorem d_A_refuses_6 : decode (yMb m_A_refuses) 6 = .ok (.if_icmp .ne 14, 3) := by decide +kernel
theorem d_A_refuses_9 : decode (yMb m_A_refuses) 9 = .ok (.aload_n 0, 1) := by decide +kernel
theorem d_A_refuses_10 : decode (yMb m_A_refuses) 10 = .ok (.getfield 20, 3) := by decide +kernel
theorem d_A_refuses_13 : decode (yMb m_A_refuses) 13 = .ok (.ifCond .eq 7, 3) := by decide +kernel
theorem d_A_refuses_16 : decode (yMb m_A_refuses) 16 = .ok (.iconst 1, 1) := by decide +kernel
theorem d_A_refuses_17 : decode (yMb m_A_refuses) 17 = .ok (.goto 4, 3) := by decide +kernel
theorem d_A_refuses_20 : decode (yMb m_A_refuses) 20 = .ok (.iconst 0, 1) := by decide +kernel
theorem d_A_refuses_21 : decode (yMb m_A_refuses) 21 = .ok (.ireturn, 1) := by decide +kernel
theorem d_A_canBe_0 : decode (yMb m_A_canBe) 0 = .ok (.iconst 0, 1) := by decide +kernel
theorem d_A_canBe_1 : decode (yMb m_A_canBe) 1 = .ok (.ireturn, 1) := by decide +kernel
theorem d_A_passesRow_0 : decode (yMb m_A_passesRow) 0 = .ok (.aload_n 1, 1) := by decide +kernel
theorem d_A_passesRow_1 : decode (yMb m_A_passesRow) 1 = .ok (.getfield 15, 3) := by decide +kernel
theorem d_A_passesRow_4 : decode (yMb m_A_passesRow) 4 = .ok (.bipush 14, 2) := by decide +kernel
theorem d_A_passesRow_6 : decode (yMb m_A_passesRow) 6 = .ok (.if_icmp .eq 19, 3) := by decide +kernel
theorem d_A_passesRow_9 : decode (yMb m_A_passesRow) 9 = .ok (.aload_n 0, 1) := by decide +kernel
theorem d_A_passesRow_10 : decode (yMb m_A_passesRow) 10 = .ok (.getfield 24, 3) := by decide +kernel
theorem d_A_passesRow_13 : decode (yMb m_A_passesRow) 13 = .ok (.getfield 28, 3) := by decide +kernel
theorem d_A_passesRow_16 : decode (yMb m_A_passesRow) 16 = .ok (.iconst 1, 1) := by decide +kernel
theorem d_A_passesRow_17 : decode (yMb m_A_passesRow) 17 = .ok (.iadd, 1) := by decide +kernel
theorem d_A_passesRow_18 : decode (yMb m_A_passesRow) 18 = .ok (.aload_n 0, 1) := by decide +kernel
theorem d_A_passesRow_19 : decode (yMb m_A_passesRow) 19 = .ok (.getfield 9, 3) := by decide +kernel
theorem d_A_passesRow_22 : decode (yMb m_A_passesRow) 22 = .ok (.if_icmp .lt 7, 3) := by decide +kernel
theorem d_A_passesRow_25 : decode (yMb m_A_passesRow) 25 = .ok (.iconst 1, 1) := by decide +kernel
theorem d_A_passesRow_26 : decode (yMb m_A_passesRow) 26 = .ok (.goto 4, 3) := by decide +kernel
theorem d_A_passesRow_29 : decode (yMb m_A_passesRow) 29 = .ok (.iconst 0, 1) := by decide +kernel
theorem d_A_passesRow_30 : decode (yMb m_A_passesRow) 30 = .ok (.ireturn, 1) := by decide +kernel
theorem d_A_grant_0 : decode (yMb m_A_grant) 0 = .ok (.aload_n 1, 1) := by decide +kernel
theorem d_A_grant_1 : decode (yMb m_A_grant) 1 = .ok (.getfield 15, 3) := by decide +kernel
theorem d_A_grant_4 : decode (yMb m_A_grant) 4 = .ok (.bipush 14, 2) := by decide +kernel
theorem d_A_grant_6 : decode (yMb m_A_grant) 6 = .ok (.if_icmp .ne 16, 3) := by decide +kernel
theorem d_A_grant_9 : decode (yMb m_A_grant) 9 = .ok (.aload_n 0, 1) := by decide +kernel
theorem d_A_grant_10 : decode (yMb m_A_grant) 10 = .ok (.iconst 0, 1) := by decide +kernel
theorem d_A_grant_11 : decode (yMb m_A_grant) 11 = .ok (.putfield 20, 3) := by decide +kernel
theorem d_A_grant_14 : decode (yMb m_A_grant) 14 = .ok (.aload_n 0, 1) := by decide +kernel
theorem d_A_grant_15 : decode (yMb m_A_grant) 15 = .ok (.iconst 3, 1) := by decide +kernel
theorem d_A_grant_16 : decode (yMb m_A_grant) 16 = .ok (.invokevirtual 33, 3) := by decide +kernel
theorem d_A_grant_19 : decode (yMb m_A_grant) 19 = .ok (.goto 8, 3) := by decide +kernel
theorem d_A_grant_22 : decode (yMb m_A_grant) 22 = .ok (.aload_n 0, 1) := by decide +kernel
theorem d_A_grant_23 : decode (yMb m_A_grant) 23 = .ok (.iconst 0, 1) := by decide +kernel
theorem d_A_grant_24 : decode (yMb m_A_grant) 24 = .ok (.invokevirtual 33, 3) := by decide +kernel
theorem d_A_grant_27 : decode (yMb m_A_grant) 27 = .ok (.return_, 1) := by decide +kernel
theorem d_A_whenOneGaveUp_0 : decode (yMb m_A_whenOneGaveUp) 0 = .ok (.aload_n 0, 1) := by decide +kernel
theorem d_A_whenOneGaveUp_1 : decode (yMb m_A_whenOneGaveUp) 1 = .ok (.iconst 1, 1) := by decide +kernel
theorem d_A_whenOneGaveUp_2 : decode (yMb m_A_whenOneGaveUp) 2 = .ok (.putfield 20, 3) := by decide +kernel
theorem d_A_whenOneGaveUp_5 : decode (yMb m_A_whenOneGaveUp) 5 = .ok (.aload_n 0, 1) := by decide +kernel
theorem d_A_whenOneGaveUp_6 : decode (yMb m_A_whenOneGaveUp) 6 = .ok (.iconst 3, 1) := by decide +kernel
theorem d_A_whenOneGaveUp_7 : decode (yMb m_A_whenOneGaveUp) 7 = .ok (.invokevirtual 33, 3) := by decide +kernel
theorem d_A_whenOneGaveUp_10 : decode (yMb m_A_whenOneGaveUp) 10 = .ok (.return_, 1) := by decide +kernel
theorem d_A_level_0 : decode (yMb m_A_level) 0 = .ok (.aload_n 0, 1) := by decide +kernel
theorem d_A_level_1 : decode (yMb m_A_level) 1 = .ok (.getfield 24, 3) := by decide +kernel
theorem d_A_level_4 : decode (yMb m_A_level) 4 = .ok (.getfield 28, 3) := by decide +kernel
theorem d_A_level_7 : decode (yMb m_A_level) 7 = .ok (.ireturn, 1) := by decide +kernel
theorem d_A_isBroken_0 : decode (yMb m_A_isBroken) 0 = .ok (.aload_n 0, 1) := by decide +kernel
theorem d_A_isBroken_1 : decode (yMb m_A_isBroken) 1 = .ok (.getfield 20, 3) := by decide +kernel
theorem d_A_isBroken_4 : decode (yMb m_A_isBroken) 4 = .ok (.ireturn, 1) := by decide +kernel
theorem d_Q_init_0 : decode (yMb m_Q_init) 0 = .ok (.aload_n 0, 1) := by decide +kernel
theorem d_Q_init_1 : decode (yMb m_Q_init) 1 = .ok (.iconst 5, 1) := by decide +kernel
theorem d_Q_init_2 : decode (yMb m_Q_init) 2 = .ok (.iload_n 1, 1) := by decide +kernel
theorem d_Q_init_3 : decode (yMb m_Q_init) 3 = .ok (.invokespecial 3, 3) := by decide +kernel
theorem d_Q_init_6 : decode (yMb m_Q_init) 6 = .ok (.aload_n 0, 1) := by decide +kernel
theorem d_Q_init_7 : decode (yMb m_Q_init) 7 = .ok (.iload_n 2, 1) := by decide +kernel
theorem d_Q_init_8 : decode (yMb m_Q_init) 8 = .ok (.newarray .int, 2) := by decide +kernel
theorem d_Q_init_10 : decode (yMb m_Q_init) 10 = .ok (.putfield 9, 3) := by decide +kernel
theorem d_Q_init_13 : decode (yMb m_Q_init) 13 = .ok (.return_, 1) := by decide +kernel
theorem d_Q_sortOf_0 : decode (yMb m_Q_sortOf) 0 = .ok (.iload_n 1, 1) := by decide +kernel
theorem d_Q_sortOf_1 : decode (yMb m_Q_sortOf) 1 = .ok (.bipush 16, 2) := by decide +kernel
theorem d_Q_sortOf_3 : decode (yMb m_Q_sortOf) 3 = .ok (.if_icmp .ne 7, 3) := by decide +kernel
theorem d_Q_sortOf_6 : decode (yMb m_Q_sortOf) 6 = .ok (.iconst 1, 1) := by decide +kernel
theorem d_Q_sortOf_7 : decode (yMb m_Q_sortOf) 7 = .ok (.goto 4, 3) := by decide +kernel
theorem d_Q_sortOf_10 : decode (yMb m_Q_sortOf) 10 = .ok (.iconst 0, 1) := by decide +kernel
theorem d_Q_sortOf_11 : decode (yMb m_Q_sortOf) 11 = .ok (.ireturn, 1) := by decide +kernel
theorem d_Q_canBe_0 : decode (yMb m_Q_canBe) 0 = .ok (.aload_n 1, 1) := by decide +kernel
theorem d_Q_canBe_1 : decode (yMb m_Q_canBe) 1 = .ok (.getfield 15, 3) := by decide +kernel
theorem d_Q_canBe_4 : decode (yMb m_Q_canBe) 4 = .ok (.bipush 15, 2) := by decide +kernel
theorem d_Q_canBe_6 : decode (yMb m_Q_canBe) 6 = .ok (.if_icmp .ne 23, 3) := by decide +kernel
theorem d_Q_canBe_9 : decode (yMb m_Q_canBe) 9 = .ok (.aload_n 0, 1) := by decide +kernel
theorem d_Q_canBe_10 : decode (yMb m_Q_canBe) 10 = .ok (.getfield 21, 3) := by decide +kernel
theorem d_Q_canBe_13 : decode (yMb m_Q_canBe) 13 = .ok (.aload_n 0, 1) := by decide +kernel
theorem d_Q_canBe_14 : decode (yMb m_Q_canBe) 14 = .ok (.getfield 9, 3) := by decide +kernel
theorem d_Q_canBe_17 : decode (yMb m_Q_canBe) 17 = .ok (.arraylength, 1) := by decide +kernel
theorem d_Q_canBe_18 : decode (yMb m_Q_canBe) 18 = .ok (.if_icmp .ge 7, 3) := by decide +kernel
theorem d_Q_canBe_21 : decode (yMb m_Q_canBe) 21 = .ok (.iconst 1, 1) := by decide +kernel
theorem d_Q_canBe_22 : decode (yMb m_Q_canBe) 22 = .ok (.goto 19, 3) := by decide +kernel
theorem d_Q_canBe_25 : decode (yMb m_Q_canBe) 25 = .ok (.iconst 0, 1) := by decide +kernel
theorem d_Q_canBe_26 : decode (yMb m_Q_canBe) 26 = .ok (.goto 15, 3) := by decide +kernel
theorem d_Q_canBe_29 : decode (yMb m_Q_canBe) 29 = .ok (.aload_n 0, 1) := by decide +kernel
theorem d_Q_canBe_30 : decode (yMb m_Q_canBe) 30 = .ok (.getfield 21, 3) := by decide +kernel
theorem d_Q_canBe_33 : decode (yMb m_Q_canBe) 33 = .ok (.ifCond .le 7, 3) := by decide +kernel
theorem d_Q_canBe_36 : decode (yMb m_Q_canBe) 36 = .ok (.iconst 1, 1) := by decide +kernel
theorem d_Q_canBe_37 : decode (yMb m_Q_canBe) 37 = .ok (.goto 4, 3) := by decide +kernel
theorem d_Q_canBe_40 : decode (yMb m_Q_canBe) 40 = .ok (.iconst 0, 1) := by decide +kernel
theorem d_Q_canBe_41 : decode (yMb m_Q_canBe) 41 = .ok (.ireturn, 1) := by decide +kernel
theorem d_Q_passesRow_0 : decode (yMb m_Q_passesRow) 0 = .ok (.iconst 0, 1) := by decide +kernel
theorem d_Q_passesRow_1 : decode (yMb m_Q_passesRow) 1 = .ok (.ireturn, 1) := by decide +kernel
theorem d_Q_grant_0 : decode (yMb m_Q_grant) 0 = .ok (.aload_n 1, 1) := by decide +kernel
theorem d_Q_grant_1 : decode (yMb m_Q_grant) 1 = .ok (.getfield 15, 3) := by decide +kernel
theorem d_Q_grant_4 : decode (yMb m_Q_grant) 4 = .ok (.bipush 15, 2) := by decide +kernel
theorem d_Q_grant_6 : decode (yMb m_Q_grant) 6 = .ok (.if_icmp .ne 14, 3) := by decide +kernel
theorem d_Q_grant_9 : decode (yMb m_Q_grant) 9 = .ok (.aload_n 0, 1) := by decide +kernel
theorem d_Q_grant_10 : decode (yMb m_Q_grant) 10 = .ok (.aload_n 1, 1) := by decide +kernel
theorem d_Q_grant_11 : decode (yMb m_Q_grant) 11 = .ok (.getfield 24, 3) := by decide +kernel
theorem d_Q_grant_14 : decode (yMb m_Q_grant) 14 = .ok (.invokevirtual 27, 3) := by decide +kernel
theorem d_Q_grant_17 : decode (yMb m_Q_grant) 17 = .ok (.goto 11, 3) := by decide +kernel
theorem d_Q_grant_20 : decode (yMb m_Q_grant) 20 = .ok (.aload_n 1, 1) := by decide +kernel
theorem d_Q_grant_21 : decode (yMb m_Q_grant) 21 = .ok (.aload_n 0, 1) := by decide +kernel
theorem d_Q_grant_22 : decode (yMb m_Q_grant) 22 = .ok (.invokevirtual 31, 3) := by decide +kernel
theorem d_Q_grant_25 : decode (yMb m_Q_grant) 25 = .ok (.putfield 35, 3) := by decide +kernel
theorem d_Q_grant_28 : decode (yMb m_Q_grant) 28 = .ok (.return_, 1) := by decide +kernel
theorem d_Q_level_0 : decode (yMb m_Q_level) 0 = .ok (.aload_n 0, 1) := by decide +kernel
theorem d_Q_level_1 : decode (yMb m_Q_level) 1 = .ok (.getfield 21, 3) := by decide +kernel
theorem d_Q_level_4 : decode (yMb m_Q_level) 4 = .ok (.ireturn, 1) := by decide +kernel
theorem d_Q_putLast_0 : decode (yMb m_Q_putLast) 0 = .ok (.aload_n 0, 1) := by decide +kernel
theorem d_Q_putLast_1 : decode (yMb m_Q_putLast) 1 = .ok (.getfield 21, 3) := by decide +kernel
theorem d_Q_putLast_4 : decode (yMb m_Q_putLast) 4 = .ok (.aload_n 0, 1) := by decide +kernel
theorem d_Q_putLast_5 : decode (yMb m_Q_putLast) 5 = .ok (.getfield 9, 3) := by decide +kernel
theorem d_Q_putLast_8 : decode (yMb m_Q_putLast) 8 = .ok (.arraylength, 1) := by decide +kernel
theorem d_Q_putLast_9 : decode (yMb m_Q_putLast) 9 = .ok (.if_icmp .ge 23, 3) := by decide +kernel
theorem d_Q_putLast_12 : decode (yMb m_Q_putLast) 12 = .ok (.aload_n 0, 1) := by decide +kernel
theorem d_Q_putLast_13 : decode (yMb m_Q_putLast) 13 = .ok (.getfield 9, 3) := by decide +kernel
theorem d_Q_putLast_16 : decode (yMb m_Q_putLast) 16 = .ok (.aload_n 0, 1) := by decide +kernel
theorem d_Q_putLast_17 : decode (yMb m_Q_putLast) 17 = .ok (.getfield 21, 3) := by decide +kernel
theorem d_Q_putLast_20 : decode (yMb m_Q_putLast) 20 = .ok (.iload_n 1, 1) := by decide +kernel
theorem d_Q_putLast_21 : decode (yMb m_Q_putLast) 21 = .ok (.iastore, 1) := by decide +kernel
theorem d_Q_putLast_22 : decode (yMb m_Q_putLast) 22 = .ok (.aload_n 0, 1) := by decide +kernel
theorem d_Q_putLast_23 : decode (yMb m_Q_putLast) 23 = .ok (.dup, 1) := by decide +kernel
theorem d_Q_putLast_24 : decode (yMb m_Q_putLast) 24 = .ok (.getfield 21, 3) := by decide +kernel
theorem d_Q_putLast_27 : decode (yMb m_Q_putLast) 27 = .ok (.iconst 1, 1) := by decide +kernel
theorem d_Q_putLast_28 : decode (yMb m_Q_putLast) 28 = .ok (.iadd, 1) := by decide +kernel
theorem d_Q_putLast_29 : decode (yMb m_Q_putLast) 29 = .ok (.putfield 21, 3) := by decide +kernel
theorem d_Q_putLast_32 : decode (yMb m_Q_putLast) 32 = .ok (.return_, 1) := by decide +kernel
theorem d_Q_takeFirst_0 : decode (yMb m_Q_takeFirst) 0 = .ok (.aload_n 0, 1) := by decide +kernel
theorem d_Q_takeFirst_1 : decode (yMb m_Q_takeFirst) 1 = .ok (.getfield 9, 3) := by decide +kernel
theorem d_Q_takeFirst_4 : decode (yMb m_Q_takeFirst) 4 = .ok (.iconst 0, 1) := by decide +kernel
theorem d_Q_takeFirst_5 : decode (yMb m_Q_takeFirst) 5 = .ok (.iaload, 1) := by decide +kernel
theorem d_Q_takeFirst_6 : decode (yMb m_Q_takeFirst) 6 = .ok (.istore_n 1, 1) := by decide +kernel
theorem d_Q_takeFirst_7 : decode (yMb m_Q_takeFirst) 7 = .ok (.aload_n 0, 1) := by decide +kernel
theorem d_Q_takeFirst_8 : decode (yMb m_Q_takeFirst) 8 = .ok (.dup, 1) := by decide +kernel
theorem d_Q_takeFirst_9 : decode (yMb m_Q_takeFirst) 9 = .ok (.getfield 21, 3) := by decide +kernel
theorem d_Q_takeFirst_12 : decode (yMb m_Q_takeFirst) 12 = .ok (.iconst 1, 1) := by decide +kernel
theorem d_Q_takeFirst_13 : decode (yMb m_Q_takeFirst) 13 = .ok (.isub, 1) := by decide +kernel
theorem d_Q_takeFirst_14 : decode (yMb m_Q_takeFirst) 14 = .ok (.putfield 21, 3) := by decide +kernel
theorem d_Q_takeFirst_17 : decode (yMb m_Q_takeFirst) 17 = .ok (.iconst 0, 1) := by decide +kernel
theorem d_Q_takeFirst_18 : decode (yMb m_Q_takeFirst) 18 = .ok (.istore_n 2, 1) := by decide +kernel
theorem d_Q_takeFirst_19 : decode (yMb m_Q_takeFirst) 19 = .ok (.iload_n 2, 1) := by decide +kernel
theorem d_Q_takeFirst_20 : decode (yMb m_Q_takeFirst) 20 = .ok (.aload_n 0, 1) := by decide +kernel
theorem d_Q_takeFirst_21 : decode (yMb m_Q_takeFirst) 21 = .ok (.getfield 21, 3) := by decide +kernel
theorem d_Q_takeFirst_24 : decode (yMb m_Q_takeFirst) 24 = .ok (.if_icmp .ge 23, 3) := by decide +kernel
theorem d_Q_takeFirst_27 : decode (yMb m_Q_takeFirst) 27 = .ok (.aload_n 0, 1) := by decide +kernel
theorem d_Q_takeFirst_28 : decode (yMb m_Q_takeFirst) 28 = .ok (.getfield 9, 3) := by decide +kernel
theorem d_Q_takeFirst_31 : decode (yMb m_Q_takeFirst) 31 = .ok (.iload_n 2, 1) := by decide +kernel
theorem d_Q_takeFirst_32 : decode (yMb m_Q_takeFirst) 32 = .ok (.aload_n 0, 1) := by decide +kernel
theorem d_Q_takeFirst_33 : decode (yMb m_Q_takeFirst) 33 = .ok (.getfield 9, 3) := by decide +kernel
theorem d_Q_takeFirst_36 : decode (yMb m_Q_takeFirst) 36 = .ok (.iload_n 2, 1) := by decide +kernel
theorem d_Q_takeFirst_37 : decode (yMb m_Q_takeFirst) 37 = .ok (.iconst 1, 1) := by decide +kernel
theorem d_Q_takeFirst_38 : decode (yMb m_Q_takeFirst) 38 = .ok (.iadd, 1) := by decide +kernel
theorem d_Q_takeFirst_39 : decode (yMb m_Q_takeFirst) 39 = .ok (.iaload, 1) := by decide +kernel
theorem d_Q_takeFirst_40 : decode (yMb m_Q_takeFirst) 40 = .ok (.iastore, 1) := by decide +kernel
theorem d_Q_takeFirst_41 : decode (yMb m_Q_takeFirst) 41 = .ok (.iinc 2 1, 3) := by decide +kernel
theorem d_Q_takeFirst_44 : decode (yMb m_Q_takeFirst) 44 = .ok (.goto (-25), 3) := by decide +kernel
theorem d_Q_takeFirst_47 : decode (yMb m_Q_takeFirst) 47 = .ok (.iload_n 1, 1) := by decide +kernel
theorem d_Q_takeFirst_48 : decode (yMb m_Q_takeFirst) 48 = .ok (.ireturn, 1) := by decide +kernel
