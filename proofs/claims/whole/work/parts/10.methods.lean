def m_Y_init : yM := (⟨"MonitorYard", "<init>", "()V"⟩, prog_1_method_1_code, 2, (none), { frames := 2, cells := 14, slots := 114, locals := 35 }, [])
def m_Y_make : yM := (⟨"MonitorYard", "make", "(II)I"⟩, prog_1_method_2_code, 4, (some .int), { frames := 7, cells := 7, slots := 31, locals := 100 }, [])
def m_Y_act : yM := (⟨"MonitorYard", "act", "(IIIII)I"⟩, prog_1_method_3_code, 8, (some .int), { frames := 7, cells := 1, slots := 6, locals := 138 }, [])
def m_Y_tick : yM := (⟨"MonitorYard", "tick", "(I)I"⟩, prog_1_method_4_code, 4, (some .int), { frames := 7, cells := 1, slots := 6, locals := 164 }, [])
def m_Y_interrupt : yM := (⟨"MonitorYard", "interrupt", "(I)V"⟩, prog_1_method_5_code, 4, (none), { frames := 7, cells := 1, slots := 6, locals := 138 }, [])
def m_Y_told : yM := (⟨"MonitorYard", "told", "(II)I"⟩, prog_1_method_6_code, 4, (some .int), { frames := 7, cells := 1, slots := 6, locals := 94 }, [])
def m_Y_object : yM := (⟨"MonitorYard", "object", "(II)I"⟩, prog_1_method_7_code, 4, (some .int), { frames := 7, cells := 1, slots := 6, locals := 94 }, [])
def m_Y_waiter : yM := (⟨"MonitorYard", "waiter", "(II)I"⟩, prog_1_method_8_code, 5, (some .int), { frames := 7, cells := 1, slots := 6, locals := 94 }, [])
def m_Y_stuck : yM := (⟨"MonitorYard", "stuck", "()I"⟩, prog_1_method_9_code, 6, (some .int), { frames := 3, cells := 0, slots := 0, locals := 62 }, [])
def m_Y_count : yM := (⟨"MonitorYard", "count", "(I)I"⟩, prog_1_method_10_code, 2, (some .int), { frames := 1, cells := 0, slots := 0, locals := 26 }, [])
def m_Y_threadAt : yM := (⟨"MonitorYard", "threadAt", "(I)LMonitorYard$YardThread;"⟩, prog_1_method_11_code, 2, (some (.object "MonitorYard$YardThread")), { frames := 0, cells := 0, slots := 0, locals := 0 }, [])
def m_Y_placeAt : yM := (⟨"MonitorYard", "placeAt", "(I)LMonitorYard$Place;"⟩, prog_1_method_12_code, 2, (some (.object "MonitorYard$Place")), { frames := 0, cells := 0, slots := 0, locals := 0 }, [])
def m_Y_newPlace : yM := (⟨"MonitorYard", "newPlace", "(III)LMonitorYard$Place;"⟩, prog_1_method_13_code, 3, (some (.object "MonitorYard$Place")), { frames := 4, cells := 7, slots := 31, locals := 78 }, [])
def m_Y_isAct : yM := (⟨"MonitorYard", "isAct", "(II)Z"⟩, prog_1_method_14_code, 2, (some .boolean), { frames := 0, cells := 0, slots := 0, locals := 0 }, [])
def m_Y_isPatience : yM := (⟨"MonitorYard", "isPatience", "(I)Z"⟩, prog_1_method_15_code, 1, (some .boolean), { frames := 0, cells := 0, slots := 0, locals := 0 }, [])
def m_Y_passOneTick : yM := (⟨"MonitorYard", "passOneTick", "()I"⟩, prog_1_method_16_code, 7, (some .int), { frames := 6, cells := 0, slots := 0, locals := 138 }, [])
def m_Y_comesBackByLeaning : yM := (⟨"MonitorYard", "comesBackByLeaning", "(LMonitorYard$YardThread;)Z"⟩, prog_1_method_17_code, 3, (some .boolean), { frames := 2, cells := 0, slots := 0, locals := 40 }, [])
def m_Y_actsEnded : yM := (⟨"MonitorYard", "actsEnded", "(I)I"⟩, prog_1_method_18_code, 7, (some .int), { frames := 0, cells := 0, slots := 0, locals := 0 }, [])
def m_Y_runningThreads : yM := (⟨"MonitorYard", "runningThreads", "()I"⟩, prog_1_method_19_code, 6, (some .int), { frames := 0, cells := 0, slots := 0, locals := 0 }, [])
def m_Y_numberOf : yM := (⟨"MonitorYard", "numberOf", "(LMonitorYard$YardThread;)I"⟩, prog_1_method_20_code, 1, (some .int), { frames := 0, cells := 0, slots := 0, locals := 0 }, [])
def m_T_init : yM := (⟨"MonitorYard$YardThread", "<init>", "(I)V"⟩, prog_10_method_1_code, 2, (none), { frames := 1, cells := 1, slots := 5, locals := 14 }, [])
def m_T_begin : yM := (⟨"MonitorYard$YardThread", "begin", "(II)V"⟩, prog_10_method_2_code, 3, (none), { frames := 0, cells := 0, slots := 0, locals := 0 }, [])
def m_T_stay : yM := (⟨"MonitorYard$YardThread", "stay", "(LMonitorYard$Place;II)V"⟩, prog_10_method_3_code, 4, (none), { frames := 0, cells := 0, slots := 0, locals := 0 }, [])
def m_T_end : yM := (⟨"MonitorYard$YardThread", "end", "(I)V"⟩, prog_10_method_4_code, 2, (none), { frames := 0, cells := 0, slots := 0, locals := 0 }, [])
def m_T_losesPatience : yM := (⟨"MonitorYard$YardThread", "losesPatience", "()Z"⟩, prog_10_method_5_code, 1, (some .boolean), { frames := 0, cells := 0, slots := 0, locals := 0 }, [])
def m_T_takesAgain : yM := (⟨"MonitorYard$YardThread", "takesAgain", "()Z"⟩, prog_10_method_6_code, 1, (some .boolean), { frames := 0, cells := 0, slots := 0, locals := 0 }, [])
def m_T_leansOn : yM := (⟨"MonitorYard$YardThread", "leansOn", "()LMonitorYard$YardThread;"⟩, prog_10_method_7_code, 1, (some (.object "MonitorYard$YardThread")), { frames := 1, cells := 0, slots := 0, locals := 20 }, [])
def m_R_init : yM := (⟨"MonitorYard$Row", "<init>", "()V"⟩, prog_8_method_1_code, 1, (none), { frames := 1, cells := 1, slots := 6, locals := 14 }, [])
def m_R_at : yM := (⟨"MonitorYard$Row", "at", "(I)LMonitorYard$YardThread;"⟩, prog_8_method_2_code, 2, (some (.object "MonitorYard$YardThread")), { frames := 0, cells := 0, slots := 0, locals := 0 }, [])
def m_R_add : yM := (⟨"MonitorYard$Row", "add", "(LMonitorYard$YardThread;)V"⟩, prog_8_method_3_code, 2, (none), { frames := 0, cells := 0, slots := 0, locals := 0 }, [])
def m_R_removeFirst : yM := (⟨"MonitorYard$Row", "removeFirst", "()LMonitorYard$YardThread;"⟩, prog_8_method_4_code, 2, (some (.object "MonitorYard$YardThread")), { frames := 1, cells := 0, slots := 0, locals := 23 }, [])
def m_R_remove : yM := (⟨"MonitorYard$Row", "remove", "(LMonitorYard$YardThread;)V"⟩, prog_8_method_5_code, 4, (none), { frames := 0, cells := 0, slots := 0, locals := 0 }, [])
def m_K_init : yM := (⟨"MonitorYard$Lock", "<init>", "(I)V"⟩, prog_5_method_1_code, 2, (none), { frames := 3, cells := 6, slots := 24, locals := 56 }, [])
def m_K_allows : yM := (⟨"MonitorYard$Lock", "allows", "(LMonitorYard$YardThread;II)Z"⟩, prog_5_method_2_code, 4, (some .boolean), { frames := 0, cells := 0, slots := 0, locals := 0 }, [])
def m_K_canBe : yM := (⟨"MonitorYard$Lock", "canBe", "(LMonitorYard$YardThread;)Z"⟩, prog_5_method_3_code, 2, (some .boolean), { frames := 0, cells := 0, slots := 0, locals := 0 }, [])
def m_K_passesRow : yM := (⟨"MonitorYard$Lock", "passesRow", "(LMonitorYard$YardThread;)Z"⟩, prog_5_method_4_code, 2, (some .boolean), { frames := 0, cells := 0, slots := 0, locals := 0 }, [])
def m_K_grant : yM := (⟨"MonitorYard$Lock", "grant", "(LMonitorYard$YardThread;)V"⟩, prog_5_method_5_code, 2, (none), { frames := 3, cells := 0, slots := 0, locals := 69 }, [])
def m_K_holdBack : yM := (⟨"MonitorYard$Lock", "holdBack", "(LMonitorYard$YardThread;I)V"⟩, prog_5_method_6_code, 3, (none), { frames := 2, cells := 0, slots := 0, locals := 45 }, [])
def m_K_giveUp : yM := (⟨"MonitorYard$Lock", "giveUp", "(LMonitorYard$YardThread;I)V"⟩, prog_5_method_7_code, 3, (none), { frames := 5, cells := 0, slots := 0, locals := 109 }, [])
def m_K_level : yM := (⟨"MonitorYard$Lock", "level", "()I"⟩, prog_5_method_8_code, 1, (some .int), { frames := 0, cells := 0, slots := 0, locals := 0 }, [])
def m_K_owner : yM := (⟨"MonitorYard$Lock", "owner", "()I"⟩, prog_5_method_9_code, 1, (some .int), { frames := 1, cells := 0, slots := 0, locals := 20 }, [])
def m_K_waitersAt : yM := (⟨"MonitorYard$Lock", "waitersAt", "(I)I"⟩, prog_5_method_10_code, 2, (some .int), { frames := 1, cells := 0, slots := 0, locals := 21 }, [])
def m_K_leanedOn : yM := (⟨"MonitorYard$Lock", "leanedOn", "()LMonitorYard$YardThread;"⟩, prog_5_method_11_code, 1, (some (.object "MonitorYard$YardThread")), { frames := 0, cells := 0, slots := 0, locals := 0 }, [])
def m_K_condition : yM := (⟨"MonitorYard$Lock", "condition", "(I)LMonitorYard$Row;"⟩, prog_5_method_12_code, 2, (some (.object "MonitorYard$Row")), { frames := 0, cells := 0, slots := 0, locals := 0 }, [])
def m_K_joinCondition : yM := (⟨"MonitorYard$Lock", "joinCondition", "(LMonitorYard$YardThread;I)V"⟩, prog_5_method_13_code, 3, (none), { frames := 1, cells := 0, slots := 0, locals := 23 }, [])
def m_K_leaveOnce : yM := (⟨"MonitorYard$Lock", "leaveOnce", "()V"⟩, prog_5_method_14_code, 1, (none), { frames := 0, cells := 0, slots := 0, locals := 0 }, [])
def m_K_call : yM := (⟨"MonitorYard$Lock", "call", "(II)V"⟩, prog_5_method_15_code, 5, (none), { frames := 2, cells := 0, slots := 0, locals := 45 }, [])
def m_K_takeAgain : yM := (⟨"MonitorYard$Lock", "takeAgain", "(LMonitorYard$YardThread;I)V"⟩, prog_5_method_16_code, 3, (none), { frames := 1, cells := 0, slots := 0, locals := 23 }, [])
def m_B_init : yM := (⟨"MonitorYard$Book", "<init>", "(I)V"⟩, prog_3_method_1_code, 2, (none), { frames := 3, cells := 3, slots := 14, locals := 56 }, [])
def m_B_allows : yM := (⟨"MonitorYard$Book", "allows", "(LMonitorYard$YardThread;II)Z"⟩, prog_3_method_2_code, 4, (some .boolean), { frames := 0, cells := 0, slots := 0, locals := 0 }, [])
def m_B_canBe : yM := (⟨"MonitorYard$Book", "canBe", "(LMonitorYard$YardThread;)Z"⟩, prog_3_method_3_code, 4, (some .boolean), { frames := 0, cells := 0, slots := 0, locals := 0 }, [])
def m_B_passesRow : yM := (⟨"MonitorYard$Book", "passesRow", "(LMonitorYard$YardThread;)Z"⟩, prog_3_method_4_code, 2, (some .boolean), { frames := 0, cells := 0, slots := 0, locals := 0 }, [])
def m_B_grant : yM := (⟨"MonitorYard$Book", "grant", "(LMonitorYard$YardThread;)V"⟩, prog_3_method_5_code, 2, (none), { frames := 1, cells := 0, slots := 0, locals := 22 }, [])
def m_B_level : yM := (⟨"MonitorYard$Book", "level", "()I"⟩, prog_3_method_6_code, 1, (some .int), { frames := 0, cells := 0, slots := 0, locals := 0 }, [])
def m_B_owner : yM := (⟨"MonitorYard$Book", "owner", "()I"⟩, prog_3_method_7_code, 1, (some .int), { frames := 1, cells := 0, slots := 0, locals := 20 }, [])
def m_B_timesRead : yM := (⟨"MonitorYard$Book", "timesRead", "()I"⟩, prog_3_method_8_code, 1, (some .int), { frames := 0, cells := 0, slots := 0, locals := 0 }, [])
def m_B_countReads : yM := (⟨"MonitorYard$Book", "countReads", "(LMonitorYard$YardThread;I)V"⟩, prog_3_method_9_code, 3, (none), { frames := 0, cells := 0, slots := 0, locals := 0 }, [])
def m_B_closeWritingOnce : yM := (⟨"MonitorYard$Book", "closeWritingOnce", "()V"⟩, prog_3_method_10_code, 1, (none), { frames := 0, cells := 0, slots := 0, locals := 0 }, [])
def m_S_init : yM := (⟨"MonitorYard$Semaphore", "<init>", "(II)V"⟩, prog_9_method_1_code, 3, (none), { frames := 3, cells := 2, slots := 8, locals := 56 }, [])
def m_S_allows : yM := (⟨"MonitorYard$Semaphore", "allows", "(LMonitorYard$YardThread;II)Z"⟩, prog_9_method_2_code, 4, (some .boolean), { frames := 0, cells := 0, slots := 0, locals := 0 }, [])
def m_S_canBe : yM := (⟨"MonitorYard$Semaphore", "canBe", "(LMonitorYard$YardThread;)Z"⟩, prog_9_method_3_code, 2, (some .boolean), { frames := 0, cells := 0, slots := 0, locals := 0 }, [])
def m_S_passesRow : yM := (⟨"MonitorYard$Semaphore", "passesRow", "(LMonitorYard$YardThread;)Z"⟩, prog_9_method_4_code, 2, (some .boolean), { frames := 0, cells := 0, slots := 0, locals := 0 }, [])
def m_S_grant : yM := (⟨"MonitorYard$Semaphore", "grant", "(LMonitorYard$YardThread;)V"⟩, prog_9_method_5_code, 2, (none), { frames := 0, cells := 0, slots := 0, locals := 0 }, [])
def m_S_level : yM := (⟨"MonitorYard$Semaphore", "level", "()I"⟩, prog_9_method_6_code, 1, (some .int), { frames := 0, cells := 0, slots := 0, locals := 0 }, [])
def m_L_init : yM := (⟨"MonitorYard$Latch", "<init>", "(II)V"⟩, prog_4_method_1_code, 3, (none), { frames := 3, cells := 2, slots := 8, locals := 56 }, [])
def m_L_canBe : yM := (⟨"MonitorYard$Latch", "canBe", "(LMonitorYard$YardThread;)Z"⟩, prog_4_method_2_code, 2, (some .boolean), { frames := 0, cells := 0, slots := 0, locals := 0 }, [])
def m_L_passesRow : yM := (⟨"MonitorYard$Latch", "passesRow", "(LMonitorYard$YardThread;)Z"⟩, prog_4_method_3_code, 2, (some .boolean), { frames := 0, cells := 0, slots := 0, locals := 0 }, [])
def m_L_grant : yM := (⟨"MonitorYard$Latch", "grant", "(LMonitorYard$YardThread;)V"⟩, prog_4_method_4_code, 2, (none), { frames := 0, cells := 0, slots := 0, locals := 0 }, [])
def m_L_level : yM := (⟨"MonitorYard$Latch", "level", "()I"⟩, prog_4_method_5_code, 1, (some .int), { frames := 0, cells := 0, slots := 0, locals := 0 }, [])
def m_A_init : yM := (⟨"MonitorYard$Barrier", "<init>", "(II)V"⟩, prog_2_method_1_code, 3, (none), { frames := 3, cells := 2, slots := 8, locals := 56 }, [])
def m_A_refuses : yM := (⟨"MonitorYard$Barrier", "refuses", "(LMonitorYard$YardThread;)Z"⟩, prog_2_method_2_code, 2, (some .boolean), { frames := 0, cells := 0, slots := 0, locals := 0 }, [])
def m_A_canBe : yM := (⟨"MonitorYard$Barrier", "canBe", "(LMonitorYard$YardThread;)Z"⟩, prog_2_method_3_code, 2, (some .boolean), { frames := 0, cells := 0, slots := 0, locals := 0 }, [])
def m_A_passesRow : yM := (⟨"MonitorYard$Barrier", "passesRow", "(LMonitorYard$YardThread;)Z"⟩, prog_2_method_4_code, 2, (some .boolean), { frames := 0, cells := 0, slots := 0, locals := 0 }, [])
def m_A_grant : yM := (⟨"MonitorYard$Barrier", "grant", "(LMonitorYard$YardThread;)V"⟩, prog_2_method_5_code, 2, (none), { frames := 3, cells := 0, slots := 0, locals := 67 }, [])
def m_A_whenOneGaveUp : yM := (⟨"MonitorYard$Barrier", "whenOneGaveUp", "()V"⟩, prog_2_method_6_code, 1, (none), { frames := 3, cells := 0, slots := 0, locals := 67 }, [])
def m_A_level : yM := (⟨"MonitorYard$Barrier", "level", "()I"⟩, prog_2_method_7_code, 1, (some .int), { frames := 0, cells := 0, slots := 0, locals := 0 }, [])
def m_A_isBroken : yM := (⟨"MonitorYard$Barrier", "isBroken", "()Z"⟩, prog_2_method_8_code, 1, (some .boolean), { frames := 0, cells := 0, slots := 0, locals := 0 }, [])
def m_Q_init : yM := (⟨"MonitorYard$Queue", "<init>", "(II)V"⟩, prog_7_method_1_code, 3, (none), { frames := 3, cells := 3, slots := 11, locals := 56 }, [])
def m_Q_sortOf : yM := (⟨"MonitorYard$Queue", "sortOf", "(I)I"⟩, prog_7_method_2_code, 2, (some .int), { frames := 0, cells := 0, slots := 0, locals := 0 }, [])
def m_Q_canBe : yM := (⟨"MonitorYard$Queue", "canBe", "(LMonitorYard$YardThread;)Z"⟩, prog_7_method_3_code, 2, (some .boolean), { frames := 0, cells := 0, slots := 0, locals := 0 }, [])
def m_Q_passesRow : yM := (⟨"MonitorYard$Queue", "passesRow", "(LMonitorYard$YardThread;)Z"⟩, prog_7_method_4_code, 2, (some .boolean), { frames := 0, cells := 0, slots := 0, locals := 0 }, [])
def m_Q_grant : yM := (⟨"MonitorYard$Queue", "grant", "(LMonitorYard$YardThread;)V"⟩, prog_7_method_5_code, 2, (none), { frames := 1, cells := 0, slots := 0, locals := 22 }, [])
def m_Q_level : yM := (⟨"MonitorYard$Queue", "level", "()I"⟩, prog_7_method_6_code, 1, (some .int), { frames := 0, cells := 0, slots := 0, locals := 0 }, [])
def m_Q_putLast : yM := (⟨"MonitorYard$Queue", "putLast", "(I)V"⟩, prog_7_method_7_code, 2, (none), { frames := 0, cells := 0, slots := 0, locals := 0 }, [])
def m_Q_takeFirst : yM := (⟨"MonitorYard$Queue", "takeFirst", "()I"⟩, prog_7_method_8_code, 3, (some .int), { frames := 0, cells := 0, slots := 0, locals := 0 }, [])
def m_M_init : yM := (⟨"MonitorYardModel", "<init>", "()V"⟩, prog_12_method_1_code, 2, (none), { frames := 1, cells := 23, slots := 281, locals := 14 }, [])
def m_M_thrown : yM := (⟨"MonitorYardModel", "thrown", "()I"⟩, prog_12_method_2_code, 1, (some .int), { frames := 0, cells := 0, slots := 0, locals := 0 }, [])
def m_M_in : yM := (⟨"MonitorYardModel", "in", "(III)Z"⟩, prog_12_method_3_code, 3, (some .boolean), { frames := 0, cells := 0, slots := 0, locals := 0 }, [])
def m_M_bad : yM := (⟨"MonitorYardModel", "bad", "(Z)Z"⟩, prog_12_method_4_code, 2, (some .boolean), { frames := 0, cells := 0, slots := 0, locals := 0 }, [])
def m_M_make : yM := (⟨"MonitorYardModel", "make", "(II)I"⟩, prog_12_method_5_code, 3, (some .int), { frames := 1, cells := 0, slots := 0, locals := 22 }, [])
def m_M_end : yM := (⟨"MonitorYardModel", "end", "(II)I"⟩, prog_12_method_6_code, 3, (some .int), { frames := 0, cells := 0, slots := 0, locals := 0 }, [])
def m_M_remove : yM := (⟨"MonitorYardModel", "remove", "([II[III)V"⟩, prog_12_method_7_code, 8, (none), { frames := 0, cells := 0, slots := 0, locals := 0 }, [])
def m_M_enter : yM := (⟨"MonitorYardModel", "enter", "(II)V"⟩, prog_12_method_8_code, 3, (none), { frames := 0, cells := 0, slots := 0, locals := 0 }, [])
def m_M_readers : yM := (⟨"MonitorYardModel", "readers", "(II)I"⟩, prog_12_method_9_code, 5, (some .int), { frames := 0, cells := 0, slots := 0, locals := 0 }, [])
def m_M_can : yM := (⟨"MonitorYardModel", "can", "(III)Z"⟩, prog_12_method_10_code, 4, (some .boolean), { frames := 1, cells := 0, slots := 0, locals := 24 }, [])
def m_M_grant : yM := (⟨"MonitorYardModel", "grant", "(III)V"⟩, prog_12_method_11_code, 5, (none), { frames := 0, cells := 0, slots := 0, locals := 0 }, [])
def m_M_pass : yM := (⟨"MonitorYardModel", "pass", "(I)V"⟩, prog_12_method_12_code, 9, (none), { frames := 2, cells := 0, slots := 0, locals := 47 }, [])
def m_M_sameSort : yM := (⟨"MonitorYardModel", "sameSort", "(II)Z"⟩, prog_12_method_13_code, 4, (some .boolean), { frames := 0, cells := 0, slots := 0, locals := 0 }, [])
def m_M_ofKind : yM := (⟨"MonitorYardModel", "ofKind", "(II)Z"⟩, prog_12_method_14_code, 3, (some .boolean), { frames := 1, cells := 0, slots := 0, locals := 22 }, [])
def m_M_notNow : yM := (⟨"MonitorYardModel", "notNow", "(IIII)Z"⟩, prog_12_method_15_code, 5, (some .boolean), { frames := 1, cells := 0, slots := 0, locals := 22 }, [])
def m_M_breakAll : yM := (⟨"MonitorYardModel", "breakAll", "(I)V"⟩, prog_12_method_16_code, 3, (none), { frames := 1, cells := 0, slots := 0, locals := 22 }, [])
def m_M_called : yM := (⟨"MonitorYardModel", "called", "(III)V"⟩, prog_12_method_17_code, 4, (none), { frames := 1, cells := 0, slots := 0, locals := 22 }, [])
def m_M_call : yM := (⟨"MonitorYardModel", "call", "(III)V"⟩, prog_12_method_18_code, 7, (none), { frames := 2, cells := 0, slots := 0, locals := 45 }, [])
def m_M_less : yM := (⟨"MonitorYardModel", "less", "(I)V"⟩, prog_12_method_19_code, 2, (none), { frames := 0, cells := 0, slots := 0, locals := 0 }, [])
def m_M_simple : yM := (⟨"MonitorYardModel", "simple", "(IIII)I"⟩, prog_12_method_20_code, 6, (some .int), { frames := 3, cells := 0, slots := 0, locals := 75 }, [])
def m_M_arrive : yM := (⟨"MonitorYardModel", "arrive", "(II)I"⟩, prog_12_method_21_code, 4, (some .int), { frames := 1, cells := 0, slots := 0, locals := 22 }, [])
def m_M_waitAt : yM := (⟨"MonitorYardModel", "waitAt", "(III)I"⟩, prog_12_method_22_code, 5, (some .int), { frames := 3, cells := 0, slots := 0, locals := 75 }, [])
def m_M_act : yM := (⟨"MonitorYardModel", "act", "(IIIII)I"⟩, prog_12_method_23_code, 9, (some .int), { frames := 4, cells := 0, slots := 0, locals := 100 }, [])
def m_M_refused : yM := (⟨"MonitorYardModel", "refused", "(III)I"⟩, prog_12_method_24_code, 5, (some .int), { frames := 2, cells := 0, slots := 0, locals := 44 }, [])
def m_M_leave : yM := (⟨"MonitorYardModel", "leave", "(II)V"⟩, prog_12_method_25_code, 7, (none), { frames := 3, cells := 0, slots := 0, locals := 75 }, [])
def m_M_tick : yM := (⟨"MonitorYardModel", "tick", "(I)I"⟩, prog_12_method_26_code, 5, (some .int), { frames := 4, cells := 0, slots := 0, locals := 101 }, [])
def m_M_interrupt : yM := (⟨"MonitorYardModel", "interrupt", "(I)V"⟩, prog_12_method_27_code, 2, (none), { frames := 4, cells := 0, slots := 0, locals := 101 }, [])
def m_M_told : yM := (⟨"MonitorYardModel", "told", "(II)I"⟩, prog_12_method_28_code, 3, (some .int), { frames := 1, cells := 0, slots := 0, locals := 22 }, [])
def m_M_object : yM := (⟨"MonitorYardModel", "object", "(II)I"⟩, prog_12_method_29_code, 4, (some .int), { frames := 1, cells := 0, slots := 0, locals := 24 }, [])
def m_M_waiter : yM := (⟨"MonitorYardModel", "waiter", "(II)I"⟩, prog_12_method_30_code, 3, (some .int), { frames := 1, cells := 0, slots := 0, locals := 22 }, [])
def m_M_leans : yM := (⟨"MonitorYardModel", "leans", "(I)I"⟩, prog_12_method_31_code, 2, (some .int), { frames := 0, cells := 0, slots := 0, locals := 0 }, [])
def m_M_stuck : yM := (⟨"MonitorYardModel", "stuck", "()I"⟩, prog_12_method_32_code, 5, (some .int), { frames := 1, cells := 0, slots := 0, locals := 21 }, [])
def m_M_count : yM := (⟨"MonitorYardModel", "count", "(I)I"⟩, prog_12_method_33_code, 4, (some .int), { frames := 0, cells := 0, slots := 0, locals := 0 }, [])
def m_P_init : yM := (⟨"MonitorYard$Place", "<init>", "(II)V"⟩, prog_6_method_1_code, 3, (none), { frames := 2, cells := 2, slots := 8, locals := 34 }, [])
def m_P_allows : yM := (⟨"MonitorYard$Place", "allows", "(LMonitorYard$YardThread;II)Z"⟩, prog_6_method_6_code, 4, (some .boolean), { frames := 0, cells := 0, slots := 0, locals := 0 }, [])
def m_P_refuses : yM := (⟨"MonitorYard$Place", "refuses", "(LMonitorYard$YardThread;)Z"⟩, prog_6_method_7_code, 2, (some .boolean), { frames := 0, cells := 0, slots := 0, locals := 0 }, [])
def m_P_whenOneGaveUp : yM := (⟨"MonitorYard$Place", "whenOneGaveUp", "()V"⟩, prog_6_method_8_code, 1, (none), { frames := 0, cells := 0, slots := 0, locals := 0 }, [])
def m_P_sortOf : yM := (⟨"MonitorYard$Place", "sortOf", "(I)I"⟩, prog_6_method_9_code, 2, (some .int), { frames := 0, cells := 0, slots := 0, locals := 0 }, [])
def m_P_owner : yM := (⟨"MonitorYard$Place", "owner", "()I"⟩, prog_6_method_10_code, 1, (some .int), { frames := 0, cells := 0, slots := 0, locals := 0 }, [])
def m_P_waitersAt : yM := (⟨"MonitorYard$Place", "waitersAt", "(I)I"⟩, prog_6_method_11_code, 2, (some .int), { frames := 0, cells := 0, slots := 0, locals := 0 }, [])
def m_P_timesRead : yM := (⟨"MonitorYard$Place", "timesRead", "()I"⟩, prog_6_method_12_code, 1, (some .int), { frames := 0, cells := 0, slots := 0, locals := 0 }, [])
def m_P_isBroken : yM := (⟨"MonitorYard$Place", "isBroken", "()Z"⟩, prog_6_method_13_code, 1, (some .boolean), { frames := 0, cells := 0, slots := 0, locals := 0 }, [])
def m_P_leanedOn : yM := (⟨"MonitorYard$Place", "leanedOn", "()LMonitorYard$YardThread;"⟩, prog_6_method_14_code, 1, (some (.object "MonitorYard$YardThread")), { frames := 0, cells := 0, slots := 0, locals := 0 }, [])
def m_P_perform : yM := (⟨"MonitorYard$Place", "perform", "(LMonitorYard$YardThread;I)V"⟩, prog_6_method_15_code, 3, (none), { frames := 4, cells := 0, slots := 0, locals := 90 }, [])
def m_P_holdBack : yM := (⟨"MonitorYard$Place", "holdBack", "(LMonitorYard$YardThread;I)V"⟩, prog_6_method_16_code, 3, (none), { frames := 2, cells := 0, slots := 0, locals := 45 }, [])
def m_P_giveUp : yM := (⟨"MonitorYard$Place", "giveUp", "(LMonitorYard$YardThread;I)V"⟩, prog_6_method_17_code, 3, (none), { frames := 5, cells := 0, slots := 0, locals := 109 }, [])
def m_P_joinRow : yM := (⟨"MonitorYard$Place", "joinRow", "(LMonitorYard$YardThread;I)V"⟩, prog_6_method_18_code, 3, (none), { frames := 1, cells := 0, slots := 0, locals := 23 }, [])
def m_P_leaveRow : yM := (⟨"MonitorYard$Place", "leaveRow", "(LMonitorYard$YardThread;I)V"⟩, prog_6_method_19_code, 3, (none), { frames := 4, cells := 0, slots := 0, locals := 87 }, [])
def m_P_endAllInRow : yM := (⟨"MonitorYard$Place", "endAllInRow", "(I)V"⟩, prog_6_method_20_code, 4, (none), { frames := 2, cells := 0, slots := 0, locals := 44 }, [])
def m_P_settle : yM := (⟨"MonitorYard$Place", "settle", "()V"⟩, prog_6_method_21_code, 3, (none), { frames := 5, cells := 0, slots := 0, locals := 116 }, [])
def m_P_canBeAtOnce : yM := (⟨"MonitorYard$Place", "canBeAtOnce", "(LMonitorYard$YardThread;)Z"⟩, prog_6_method_22_code, 2, (some .boolean), { frames := 2, cells := 0, slots := 0, locals := 44 }, [])
def m_P_hasInRow : yM := (⟨"MonitorYard$Place", "hasInRow", "(I)Z"⟩, prog_6_method_23_code, 4, (some .boolean), { frames := 1, cells := 0, slots := 0, locals := 21 }, [])
def m_P_goThroughRow : yM := (⟨"MonitorYard$Place", "goThroughRow", "()Z"⟩, prog_6_method_24_code, 7, (some .boolean), { frames := 4, cells := 0, slots := 0, locals := 90 }, [])
def m_W_make : yM := (⟨"MonitorYardLaw", "make", "(LMonitorYard;II[J)I"⟩, method_3_code, 5, (some .int), { frames := 8, cells := 7, slots := 31, locals := 123 }, [(0, 10, 13, 13), (0, 10, 17, 15)])
def m_W_act : yM := (⟨"MonitorYardLaw", "act", "(LMonitorYard;IIIII[J)I"⟩, method_4_code, 8, (some .int), { frames := 8, cells := 1, slots := 6, locals := 165 }, [(0, 16, 19, 13), (0, 16, 23, 15), (0, 16, 27, 21)])
def m_W_tick : yM := (⟨"MonitorYardLaw", "tick", "(LMonitorYard;I[J)I"⟩, method_5_code, 4, (some .int), { frames := 8, cells := 1, slots := 6, locals := 187 }, [(0, 9, 12, 13)])
def m_W_interrupt : yM := (⟨"MonitorYardLaw", "interrupt", "(LMonitorYard;I)I"⟩, method_6_code, 3, (some .int), { frames := 8, cells := 1, slots := 6, locals := 161 }, [(0, 5, 8, 13)])
def m_W_told : yM := (⟨"MonitorYardLaw", "told", "(LMonitorYard;II[J)I"⟩, method_7_code, 5, (some .int), { frames := 8, cells := 1, slots := 6, locals := 117 }, [(0, 10, 13, 13)])
def m_W_object : yM := (⟨"MonitorYardLaw", "object", "(LMonitorYard;II[J)I"⟩, method_8_code, 5, (some .int), { frames := 8, cells := 1, slots := 6, locals := 117 }, [(0, 10, 13, 13)])
def m_W_waiter : yM := (⟨"MonitorYardLaw", "waiter", "(LMonitorYard;II[J)I"⟩, method_9_code, 5, (some .int), { frames := 8, cells := 1, slots := 6, locals := 118 }, [(0, 10, 13, 13), (0, 10, 17, 40)])
set_option maxRecDepth 20000 in
theorem cw_Y_init : ycode m_Y_init ∈ lw_tbl := List.mem_of_getElem? (i := 59) rfl
set_option maxRecDepth 20000 in
theorem cw_Y_make : ycode m_Y_make ∈ lw_tbl := List.mem_of_getElem? (i := 188) rfl
set_option maxRecDepth 20000 in
theorem cw_Y_act : ycode m_Y_act ∈ lw_tbl := List.mem_of_getElem? (i := 416) rfl
set_option maxRecDepth 20000 in
theorem cw_Y_tick : ycode m_Y_tick ∈ lw_tbl := List.mem_of_getElem? (i := 699) rfl
set_option maxRecDepth 20000 in
theorem cw_Y_interrupt : ycode m_Y_interrupt ∈ lw_tbl := List.mem_of_getElem? (i := 734) rfl
set_option maxRecDepth 20000 in
theorem cw_Y_told : ycode m_Y_told ∈ lw_tbl := List.mem_of_getElem? (i := 745) rfl
set_option maxRecDepth 20000 in
theorem cw_Y_object : ycode m_Y_object ∈ lw_tbl := List.mem_of_getElem? (i := 752) rfl
set_option maxRecDepth 20000 in
theorem cw_Y_waiter : ycode m_Y_waiter ∈ lw_tbl := List.mem_of_getElem? (i := 833) rfl
set_option maxRecDepth 20000 in
theorem cw_Y_stuck : ycode m_Y_stuck ∈ lw_tbl := List.mem_of_getElem? (i := 148) rfl
set_option maxRecDepth 20000 in
theorem cw_Y_count : ycode m_Y_count ∈ lw_tbl := List.mem_of_getElem? (i := 171) rfl
set_option maxRecDepth 20000 in
theorem cw_Y_threadAt : ycode m_Y_threadAt ∈ lw_tbl := List.mem_of_getElem? (i := 420) rfl
set_option maxRecDepth 20000 in
theorem cw_Y_placeAt : ycode m_Y_placeAt ∈ lw_tbl := List.mem_of_getElem? (i := 424) rfl
set_option maxRecDepth 20000 in
theorem cw_Y_newPlace : ycode m_Y_newPlace ∈ lw_tbl := List.mem_of_getElem? (i := 270) rfl
set_option maxRecDepth 20000 in
theorem cw_Y_isAct : ycode m_Y_isAct ∈ lw_tbl := List.mem_of_getElem? (i := 427) rfl
set_option maxRecDepth 20000 in
theorem cw_Y_isPatience : ycode m_Y_isPatience ∈ lw_tbl := List.mem_of_getElem? (i := 432) rfl
set_option maxRecDepth 20000 in
theorem cw_Y_passOneTick : ycode m_Y_passOneTick ∈ lw_tbl := List.mem_of_getElem? (i := 703) rfl
set_option maxRecDepth 20000 in
theorem cw_Y_comesBackByLeaning : ycode m_Y_comesBackByLeaning ∈ lw_tbl := List.mem_of_getElem? (i := 151) rfl
set_option maxRecDepth 20000 in
theorem cw_Y_actsEnded : ycode m_Y_actsEnded ∈ lw_tbl := List.mem_of_getElem? (i := 175) rfl
set_option maxRecDepth 20000 in
theorem cw_Y_runningThreads : ycode m_Y_runningThreads ∈ lw_tbl := List.mem_of_getElem? (i := 179) rfl
set_option maxRecDepth 20000 in
theorem cw_Y_numberOf : ycode m_Y_numberOf ∈ lw_tbl := List.mem_of_getElem? (i := 783) rfl
set_option maxRecDepth 20000 in
theorem cw_T_init : ycode m_T_init ∈ lw_tbl := List.mem_of_getElem? (i := 70) rfl
set_option maxRecDepth 20000 in
theorem cw_T_begin : ycode m_T_begin ∈ lw_tbl := List.mem_of_getElem? (i := 467) rfl
set_option maxRecDepth 20000 in
theorem cw_T_stay : ycode m_T_stay ∈ lw_tbl := List.mem_of_getElem? (i := 622) rfl
set_option maxRecDepth 20000 in
theorem cw_T_end : ycode m_T_end ∈ lw_tbl := List.mem_of_getElem? (i := 493) rfl
set_option maxRecDepth 20000 in
theorem cw_T_losesPatience : ycode m_T_losesPatience ∈ lw_tbl := List.mem_of_getElem? (i := 707) rfl
set_option maxRecDepth 20000 in
theorem cw_T_takesAgain : ycode m_T_takesAgain ∈ lw_tbl := List.mem_of_getElem? (i := 738) rfl
set_option maxRecDepth 20000 in
theorem cw_T_leansOn : ycode m_T_leansOn ∈ lw_tbl := List.mem_of_getElem? (i := 155) rfl
set_option maxRecDepth 20000 in
theorem cw_R_init : ycode m_R_init ∈ lw_tbl := List.mem_of_getElem? (i := 284) rfl
set_option maxRecDepth 20000 in
theorem cw_R_at : ycode m_R_at ∈ lw_tbl := List.mem_of_getElem? (i := 559) rfl
set_option maxRecDepth 20000 in
theorem cw_R_add : ycode m_R_add ∈ lw_tbl := List.mem_of_getElem? (i := 618) rfl
set_option maxRecDepth 20000 in
theorem cw_R_removeFirst : ycode m_R_removeFirst ∈ lw_tbl := List.mem_of_getElem? (i := 575) rfl
set_option maxRecDepth 20000 in
theorem cw_R_remove : ycode m_R_remove ∈ lw_tbl := List.mem_of_getElem? (i := 580) rfl
set_option maxRecDepth 20000 in
theorem cw_K_init : ycode m_K_init ∈ lw_tbl := List.mem_of_getElem? (i := 275) rfl
set_option maxRecDepth 20000 in
theorem cw_K_allows : ycode m_K_allows ∈ lw_tbl := List.mem_of_getElem? (i := 458) rfl
set_option maxRecDepth 20000 in
theorem cw_K_canBe : ycode m_K_canBe ∈ lw_tbl := List.mem_of_getElem? (i := 533) rfl
set_option maxRecDepth 20000 in
theorem cw_K_passesRow : ycode m_K_passesRow ∈ lw_tbl := List.mem_of_getElem? (i := 512) rfl
set_option maxRecDepth 20000 in
theorem cw_K_grant : ycode m_K_grant ∈ lw_tbl := List.mem_of_getElem? (i := 597) rfl
set_option maxRecDepth 20000 in
theorem cw_K_holdBack : ycode m_K_holdBack ∈ lw_tbl := List.mem_of_getElem? (i := 661) rfl
set_option maxRecDepth 20000 in
theorem cw_K_giveUp : ycode m_K_giveUp ∈ lw_tbl := List.mem_of_getElem? (i := 716) rfl
set_option maxRecDepth 20000 in
theorem cw_K_level : ycode m_K_level ∈ lw_tbl := List.mem_of_getElem? (i := 767) rfl
set_option maxRecDepth 20000 in
theorem cw_K_owner : ycode m_K_owner ∈ lw_tbl := List.mem_of_getElem? (i := 787) rfl
set_option maxRecDepth 20000 in
theorem cw_K_waitersAt : ycode m_K_waitersAt ∈ lw_tbl := List.mem_of_getElem? (i := 626) rfl
set_option maxRecDepth 20000 in
theorem cw_K_leanedOn : ycode m_K_leanedOn ∈ lw_tbl := List.mem_of_getElem? (i := 164) rfl
set_option maxRecDepth 20000 in
theorem cw_K_condition : ycode m_K_condition ∈ lw_tbl := List.mem_of_getElem? (i := 609) rfl
set_option maxRecDepth 20000 in
theorem cw_K_joinCondition : ycode m_K_joinCondition ∈ lw_tbl := List.mem_of_getElem? (i := 665) rfl
set_option maxRecDepth 20000 in
theorem cw_K_leaveOnce : ycode m_K_leaveOnce ∈ lw_tbl := List.mem_of_getElem? (i := 601) rfl
set_option maxRecDepth 20000 in
theorem cw_K_call : ycode m_K_call ∈ lw_tbl := List.mem_of_getElem? (i := 605) rfl
set_option maxRecDepth 20000 in
theorem cw_K_takeAgain : ycode m_K_takeAgain ∈ lw_tbl := List.mem_of_getElem? (i := 614) rfl
set_option maxRecDepth 20000 in
theorem cw_B_init : ycode m_B_init ∈ lw_tbl := List.mem_of_getElem? (i := 333) rfl
set_option maxRecDepth 20000 in
theorem cw_B_allows : ycode m_B_allows ∈ lw_tbl := List.mem_of_getElem? (i := 454) rfl
set_option maxRecDepth 20000 in
theorem cw_B_canBe : ycode m_B_canBe ∈ lw_tbl := List.mem_of_getElem? (i := 527) rfl
set_option maxRecDepth 20000 in
theorem cw_B_passesRow : ycode m_B_passesRow ∈ lw_tbl := List.mem_of_getElem? (i := 506) rfl
set_option maxRecDepth 20000 in
theorem cw_B_grant : ycode m_B_grant ∈ lw_tbl := List.mem_of_getElem? (i := 583) rfl
set_option maxRecDepth 20000 in
theorem cw_B_level : ycode m_B_level ∈ lw_tbl := List.mem_of_getElem? (i := 761) rfl
set_option maxRecDepth 20000 in
theorem cw_B_owner : ycode m_B_owner ∈ lw_tbl := List.mem_of_getElem? (i := 780) rfl
set_option maxRecDepth 20000 in
theorem cw_B_timesRead : ycode m_B_timesRead ∈ lw_tbl := List.mem_of_getElem? (i := 808) rfl
set_option maxRecDepth 20000 in
theorem cw_B_countReads : ycode m_B_countReads ∈ lw_tbl := List.mem_of_getElem? (i := 587) rfl
set_option maxRecDepth 20000 in
theorem cw_B_closeWritingOnce : ycode m_B_closeWritingOnce ∈ lw_tbl := List.mem_of_getElem? (i := 591) rfl
set_option maxRecDepth 20000 in
theorem cw_S_init : ycode m_S_init ∈ lw_tbl := List.mem_of_getElem? (i := 355) rfl
set_option maxRecDepth 20000 in
theorem cw_S_allows : ycode m_S_allows ∈ lw_tbl := List.mem_of_getElem? (i := 462) rfl
set_option maxRecDepth 20000 in
theorem cw_S_canBe : ycode m_S_canBe ∈ lw_tbl := List.mem_of_getElem? (i := 539) rfl
set_option maxRecDepth 20000 in
theorem cw_S_passesRow : ycode m_S_passesRow ∈ lw_tbl := List.mem_of_getElem? (i := 518) rfl
set_option maxRecDepth 20000 in
theorem cw_S_grant : ycode m_S_grant ∈ lw_tbl := List.mem_of_getElem? (i := 640) rfl
set_option maxRecDepth 20000 in
theorem cw_S_level : ycode m_S_level ∈ lw_tbl := List.mem_of_getElem? (i := 773) rfl
set_option maxRecDepth 20000 in
theorem cw_L_init : ycode m_L_init ∈ lw_tbl := List.mem_of_getElem? (i := 368) rfl
set_option maxRecDepth 20000 in
theorem cw_L_canBe : ycode m_L_canBe ∈ lw_tbl := List.mem_of_getElem? (i := 530) rfl
set_option maxRecDepth 20000 in
theorem cw_L_passesRow : ycode m_L_passesRow ∈ lw_tbl := List.mem_of_getElem? (i := 509) rfl
set_option maxRecDepth 20000 in
theorem cw_L_grant : ycode m_L_grant ∈ lw_tbl := List.mem_of_getElem? (i := 594) rfl
set_option maxRecDepth 20000 in
theorem cw_L_level : ycode m_L_level ∈ lw_tbl := List.mem_of_getElem? (i := 764) rfl
set_option maxRecDepth 20000 in
theorem cw_A_init : ycode m_A_init ∈ lw_tbl := List.mem_of_getElem? (i := 381) rfl
set_option maxRecDepth 20000 in
theorem cw_A_refuses : ycode m_A_refuses ∈ lw_tbl := List.mem_of_getElem? (i := 483) rfl
set_option maxRecDepth 20000 in
theorem cw_A_canBe : ycode m_A_canBe ∈ lw_tbl := List.mem_of_getElem? (i := 524) rfl
set_option maxRecDepth 20000 in
theorem cw_A_passesRow : ycode m_A_passesRow ∈ lw_tbl := List.mem_of_getElem? (i := 503) rfl
set_option maxRecDepth 20000 in
theorem cw_A_grant : ycode m_A_grant ∈ lw_tbl := List.mem_of_getElem? (i := 565) rfl
set_option maxRecDepth 20000 in
theorem cw_A_whenOneGaveUp : ycode m_A_whenOneGaveUp ∈ lw_tbl := List.mem_of_getElem? (i := 646) rfl
set_option maxRecDepth 20000 in
theorem cw_A_level : ycode m_A_level ∈ lw_tbl := List.mem_of_getElem? (i := 758) rfl
set_option maxRecDepth 20000 in
theorem cw_A_isBroken : ycode m_A_isBroken ∈ lw_tbl := List.mem_of_getElem? (i := 819) rfl
set_option maxRecDepth 20000 in
theorem cw_Q_init : ycode m_Q_init ∈ lw_tbl := List.mem_of_getElem? (i := 397) rfl
set_option maxRecDepth 20000 in
theorem cw_Q_sortOf : ycode m_Q_sortOf ∈ lw_tbl := List.mem_of_getElem? (i := 549) rfl
set_option maxRecDepth 20000 in
theorem cw_Q_canBe : ycode m_Q_canBe ∈ lw_tbl := List.mem_of_getElem? (i := 536) rfl
set_option maxRecDepth 20000 in
theorem cw_Q_passesRow : ycode m_Q_passesRow ∈ lw_tbl := List.mem_of_getElem? (i := 515) rfl
set_option maxRecDepth 20000 in
theorem cw_Q_grant : ycode m_Q_grant ∈ lw_tbl := List.mem_of_getElem? (i := 629) rfl
set_option maxRecDepth 20000 in
theorem cw_Q_level : ycode m_Q_level ∈ lw_tbl := List.mem_of_getElem? (i := 770) rfl
set_option maxRecDepth 20000 in
theorem cw_Q_putLast : ycode m_Q_putLast ∈ lw_tbl := List.mem_of_getElem? (i := 633) rfl
set_option maxRecDepth 20000 in
theorem cw_Q_takeFirst : ycode m_Q_takeFirst ∈ lw_tbl := List.mem_of_getElem? (i := 637) rfl
set_option maxRecDepth 20000 in
theorem cw_M_init : ycode m_M_init ∈ lw_tbl := List.mem_of_getElem? (i := 854) rfl
set_option maxRecDepth 20000 in
theorem cw_M_thrown : ycode m_M_thrown ∈ lw_tbl := List.mem_of_getElem? (i := 942) rfl
set_option maxRecDepth 20000 in
theorem cw_M_in : ycode m_M_in ∈ lw_tbl := List.mem_of_getElem? (i := 949) rfl
set_option maxRecDepth 20000 in
theorem cw_M_bad : ycode m_M_bad ∈ lw_tbl := List.mem_of_getElem? (i := 953) rfl
set_option maxRecDepth 20000 in
theorem cw_M_make : ycode m_M_make ∈ lw_tbl := List.mem_of_getElem? (i := 946) rfl
set_option maxRecDepth 20000 in
theorem cw_M_end : ycode m_M_end ∈ lw_tbl := List.mem_of_getElem? (i := 997) rfl
set_option maxRecDepth 20000 in
theorem cw_M_remove : ycode m_M_remove ∈ lw_tbl := List.mem_of_getElem? (i := 981) rfl
set_option maxRecDepth 20000 in
theorem cw_M_enter : ycode m_M_enter ∈ lw_tbl := List.mem_of_getElem? (i := 989) rfl
set_option maxRecDepth 20000 in
theorem cw_M_readers : ycode m_M_readers ∈ lw_tbl := List.mem_of_getElem? (i := 1009) rfl
set_option maxRecDepth 20000 in
theorem cw_M_can : ycode m_M_can ∈ lw_tbl := List.mem_of_getElem? (i := 1005) rfl
set_option maxRecDepth 20000 in
theorem cw_M_grant : ycode m_M_grant ∈ lw_tbl := List.mem_of_getElem? (i := 1013) rfl
set_option maxRecDepth 20000 in
theorem cw_M_pass : ycode m_M_pass ∈ lw_tbl := List.mem_of_getElem? (i := 1001) rfl
set_option maxRecDepth 20000 in
theorem cw_M_sameSort : ycode m_M_sameSort ∈ lw_tbl := List.mem_of_getElem? (i := 1017) rfl
set_option maxRecDepth 20000 in
theorem cw_M_ofKind : ycode m_M_ofKind ∈ lw_tbl := List.mem_of_getElem? (i := 961) rfl
set_option maxRecDepth 20000 in
theorem cw_M_notNow : ycode m_M_notNow ∈ lw_tbl := List.mem_of_getElem? (i := 965) rfl
set_option maxRecDepth 20000 in
theorem cw_M_breakAll : ycode m_M_breakAll ∈ lw_tbl := List.mem_of_getElem? (i := 993) rfl
set_option maxRecDepth 20000 in
theorem cw_M_called : ycode m_M_called ∈ lw_tbl := List.mem_of_getElem? (i := 985) rfl
set_option maxRecDepth 20000 in
theorem cw_M_call : ycode m_M_call ∈ lw_tbl := List.mem_of_getElem? (i := 977) rfl
set_option maxRecDepth 20000 in
theorem cw_M_less : ycode m_M_less ∈ lw_tbl := List.mem_of_getElem? (i := 973) rfl
set_option maxRecDepth 20000 in
theorem cw_M_simple : ycode m_M_simple ∈ lw_tbl := List.mem_of_getElem? (i := 969) rfl
set_option maxRecDepth 20000 in
theorem cw_M_arrive : ycode m_M_arrive ∈ lw_tbl := List.mem_of_getElem? (i := 1021) rfl
set_option maxRecDepth 20000 in
theorem cw_M_waitAt : ycode m_M_waitAt ∈ lw_tbl := List.mem_of_getElem? (i := 1029) rfl
set_option maxRecDepth 20000 in
theorem cw_M_act : ycode m_M_act ∈ lw_tbl := List.mem_of_getElem? (i := 957) rfl
set_option maxRecDepth 20000 in
theorem cw_M_refused : ycode m_M_refused ∈ lw_tbl := List.mem_of_getElem? (i := 1025) rfl
set_option maxRecDepth 20000 in
theorem cw_M_leave : ycode m_M_leave ∈ lw_tbl := List.mem_of_getElem? (i := 1037) rfl
set_option maxRecDepth 20000 in
theorem cw_M_tick : ycode m_M_tick ∈ lw_tbl := List.mem_of_getElem? (i := 1033) rfl
set_option maxRecDepth 20000 in
theorem cw_M_interrupt : ycode m_M_interrupt ∈ lw_tbl := List.mem_of_getElem? (i := 1041) rfl
set_option maxRecDepth 20000 in
theorem cw_M_told : ycode m_M_told ∈ lw_tbl := List.mem_of_getElem? (i := 1045) rfl
set_option maxRecDepth 20000 in
theorem cw_M_object : ycode m_M_object ∈ lw_tbl := List.mem_of_getElem? (i := 1049) rfl
set_option maxRecDepth 20000 in
theorem cw_M_waiter : ycode m_M_waiter ∈ lw_tbl := List.mem_of_getElem? (i := 1053) rfl
set_option maxRecDepth 20000 in
theorem cw_M_leans : ycode m_M_leans ∈ lw_tbl := List.mem_of_getElem? (i := 1061) rfl
set_option maxRecDepth 20000 in
theorem cw_M_stuck : ycode m_M_stuck ∈ lw_tbl := List.mem_of_getElem? (i := 1057) rfl
set_option maxRecDepth 20000 in
theorem cw_M_count : ycode m_M_count ∈ lw_tbl := List.mem_of_getElem? (i := 1065) rfl
set_option maxRecDepth 20000 in
theorem cw_P_init : ycode m_P_init ∈ lw_tbl := List.mem_of_getElem? (i := 278) rfl
set_option maxRecDepth 20000 in
theorem cw_P_allows : ycode m_P_allows ∈ lw_tbl := List.mem_of_getElem? (i := 463) rfl
set_option maxRecDepth 20000 in
theorem cw_P_refuses : ycode m_P_refuses ∈ lw_tbl := List.mem_of_getElem? (i := 489) rfl
set_option maxRecDepth 20000 in
theorem cw_P_whenOneGaveUp : ycode m_P_whenOneGaveUp ∈ lw_tbl := List.mem_of_getElem? (i := 652) rfl
set_option maxRecDepth 20000 in
theorem cw_P_sortOf : ycode m_P_sortOf ∈ lw_tbl := List.mem_of_getElem? (i := 551) rfl
set_option maxRecDepth 20000 in
theorem cw_P_owner : ycode m_P_owner ∈ lw_tbl := List.mem_of_getElem? (i := 791) rfl
set_option maxRecDepth 20000 in
theorem cw_P_waitersAt : ycode m_P_waitersAt ∈ lw_tbl := List.mem_of_getElem? (i := 801) rfl
set_option maxRecDepth 20000 in
theorem cw_P_timesRead : ycode m_P_timesRead ∈ lw_tbl := List.mem_of_getElem? (i := 813) rfl
set_option maxRecDepth 20000 in
theorem cw_P_isBroken : ycode m_P_isBroken ∈ lw_tbl := List.mem_of_getElem? (i := 825) rfl
set_option maxRecDepth 20000 in
theorem cw_P_leanedOn : ycode m_P_leanedOn ∈ lw_tbl := List.mem_of_getElem? (i := 167) rfl
set_option maxRecDepth 20000 in
theorem cw_P_perform : ycode m_P_perform ∈ lw_tbl := List.mem_of_getElem? (i := 477) rfl
set_option maxRecDepth 20000 in
theorem cw_P_holdBack : ycode m_P_holdBack ∈ lw_tbl := List.mem_of_getElem? (i := 676) rfl
set_option maxRecDepth 20000 in
theorem cw_P_giveUp : ycode m_P_giveUp ∈ lw_tbl := List.mem_of_getElem? (i := 726) rfl
set_option maxRecDepth 20000 in
theorem cw_P_joinRow : ycode m_P_joinRow ∈ lw_tbl := List.mem_of_getElem? (i := 671) rfl
set_option maxRecDepth 20000 in
theorem cw_P_leaveRow : ycode m_P_leaveRow ∈ lw_tbl := List.mem_of_getElem? (i := 723) rfl
set_option maxRecDepth 20000 in
theorem cw_P_endAllInRow : ycode m_P_endAllInRow ∈ lw_tbl := List.mem_of_getElem? (i := 571) rfl
set_option maxRecDepth 20000 in
theorem cw_P_settle : ycode m_P_settle ∈ lw_tbl := List.mem_of_getElem? (i := 687) rfl
set_option maxRecDepth 20000 in
theorem cw_P_canBeAtOnce : ycode m_P_canBeAtOnce ∈ lw_tbl := List.mem_of_getElem? (i := 497) rfl
set_option maxRecDepth 20000 in
theorem cw_P_hasInRow : ycode m_P_hasInRow ∈ lw_tbl := List.mem_of_getElem? (i := 555) rfl
set_option maxRecDepth 20000 in
theorem cw_P_goThroughRow : ycode m_P_goThroughRow ∈ lw_tbl := List.mem_of_getElem? (i := 691) rfl
