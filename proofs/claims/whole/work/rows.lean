section
-- ===== PART A: goes FIRST, ahead of the names: the tables' words, and 'selects' of the private methods out of them =====
/-- a private method of a class that the tables say can be made, by its rows of tables_1 -/
def lw_okq (q : MethodName × Nat) : Prop := (q.1.cls ≠ "java/lang/invoke/MethodHandle" ∧ q.1.cls ≠ "java/lang/invoke/VarHandle") ∧ Cond.instantiable q.1.cls q.2 ∈ tables_1 ∧ Cond.privateMethod q.1 ∈ tables_1 ∧ Cond.instanceMethod q.1 ∈ tables_1
theorem lw_p0 : lw_okq (⟨"MonitorYard", "actsEnded", "(I)I"⟩, 4) := ⟨⟨by decide +kernel, by decide +kernel⟩, List.mem_of_getElem? (i := 20) (by decide +kernel), List.mem_of_getElem? (i := 137) (by decide +kernel), List.mem_of_getElem? (i := 138) (by decide +kernel)⟩
theorem lw_p1 : lw_okq (⟨"MonitorYard", "runningThreads", "()I"⟩, 4) := ⟨⟨by decide +kernel, by decide +kernel⟩, List.mem_of_getElem? (i := 20) (by decide +kernel), List.mem_of_getElem? (i := 141) (by decide +kernel), List.mem_of_getElem? (i := 142) (by decide +kernel)⟩
theorem lw_p2 : lw_okq (⟨"java/lang/Throwable", "fillInStackTrace", "(I)Ljava/lang/Throwable;"⟩, 6) := ⟨⟨by decide +kernel, by decide +kernel⟩, List.mem_of_getElem? (i := 193) (by decide +kernel), List.mem_of_getElem? (i := 191) (by decide +kernel), List.mem_of_getElem? (i := 192) (by decide +kernel)⟩
theorem lw_p3 : lw_okq (⟨"MonitorYard", "threadAt", "(I)LMonitorYard$YardThread;"⟩, 4) := ⟨⟨by decide +kernel, by decide +kernel⟩, List.mem_of_getElem? (i := 20) (by decide +kernel), List.mem_of_getElem? (i := 382) (by decide +kernel), List.mem_of_getElem? (i := 383) (by decide +kernel)⟩
theorem lw_p4 : lw_okq (⟨"MonitorYard", "placeAt", "(I)LMonitorYard$Place;"⟩, 4) := ⟨⟨by decide +kernel, by decide +kernel⟩, List.mem_of_getElem? (i := 20) (by decide +kernel), List.mem_of_getElem? (i := 386) (by decide +kernel), List.mem_of_getElem? (i := 387) (by decide +kernel)⟩
theorem lw_p5 : lw_okq (⟨"MonitorYard$Book", "countReads", "(LMonitorYard$YardThread;I)V"⟩, 7) := ⟨⟨by decide +kernel, by decide +kernel⟩, List.mem_of_getElem? (i := 294) (by decide +kernel), List.mem_of_getElem? (i := 549) (by decide +kernel), List.mem_of_getElem? (i := 550) (by decide +kernel)⟩
theorem lw_p6 : lw_okq (⟨"MonitorYard$Book", "closeWritingOnce", "()V"⟩, 7) := ⟨⟨by decide +kernel, by decide +kernel⟩, List.mem_of_getElem? (i := 294) (by decide +kernel), List.mem_of_getElem? (i := 553) (by decide +kernel), List.mem_of_getElem? (i := 554) (by decide +kernel)⟩
theorem lw_p7 : lw_okq (⟨"MonitorYard$Lock", "leaveOnce", "()V"⟩, 7) := ⟨⟨by decide +kernel, by decide +kernel⟩, List.mem_of_getElem? (i := 236) (by decide +kernel), List.mem_of_getElem? (i := 563) (by decide +kernel), List.mem_of_getElem? (i := 564) (by decide +kernel)⟩
theorem lw_p8 : lw_okq (⟨"MonitorYard$Lock", "call", "(II)V"⟩, 7) := ⟨⟨by decide +kernel, by decide +kernel⟩, List.mem_of_getElem? (i := 236) (by decide +kernel), List.mem_of_getElem? (i := 567) (by decide +kernel), List.mem_of_getElem? (i := 568) (by decide +kernel)⟩
theorem lw_p9 : lw_okq (⟨"MonitorYard$Lock", "condition", "(I)LMonitorYard$Row;"⟩, 7) := ⟨⟨by decide +kernel, by decide +kernel⟩, List.mem_of_getElem? (i := 236) (by decide +kernel), List.mem_of_getElem? (i := 571) (by decide +kernel), List.mem_of_getElem? (i := 572) (by decide +kernel)⟩
theorem lw_p10 : lw_okq (⟨"MonitorYard$Lock", "takeAgain", "(LMonitorYard$YardThread;I)V"⟩, 7) := ⟨⟨by decide +kernel, by decide +kernel⟩, List.mem_of_getElem? (i := 236) (by decide +kernel), List.mem_of_getElem? (i := 576) (by decide +kernel), List.mem_of_getElem? (i := 577) (by decide +kernel)⟩
theorem lw_p11 : lw_okq (⟨"MonitorYard$Queue", "putLast", "(I)V"⟩, 5) := ⟨⟨by decide +kernel, by decide +kernel⟩, List.mem_of_getElem? (i := 358) (by decide +kernel), List.mem_of_getElem? (i := 595) (by decide +kernel), List.mem_of_getElem? (i := 596) (by decide +kernel)⟩
theorem lw_p12 : lw_okq (⟨"MonitorYard$Queue", "takeFirst", "()I"⟩, 5) := ⟨⟨by decide +kernel, by decide +kernel⟩, List.mem_of_getElem? (i := 358) (by decide +kernel), List.mem_of_getElem? (i := 599) (by decide +kernel), List.mem_of_getElem? (i := 600) (by decide +kernel)⟩
theorem lw_p13 : lw_okq (⟨"MonitorYard$Lock", "joinCondition", "(LMonitorYard$YardThread;I)V"⟩, 7) := ⟨⟨by decide +kernel, by decide +kernel⟩, List.mem_of_getElem? (i := 236) (by decide +kernel), List.mem_of_getElem? (i := 627) (by decide +kernel), List.mem_of_getElem? (i := 628) (by decide +kernel)⟩
theorem lw_p14 : lw_okq (⟨"MonitorYard", "passOneTick", "()I"⟩, 4) := ⟨⟨by decide +kernel, by decide +kernel⟩, List.mem_of_getElem? (i := 20) (by decide +kernel), List.mem_of_getElem? (i := 665) (by decide +kernel), List.mem_of_getElem? (i := 666) (by decide +kernel)⟩
theorem lw_p15 : lw_okq (⟨"MonitorYardModel", "bad", "(Z)Z"⟩, 27) := ⟨⟨by decide +kernel, by decide +kernel⟩, List.mem_of_getElem? (i := 815) (by decide +kernel), List.mem_of_getElem? (i := 915) (by decide +kernel), List.mem_of_getElem? (i := 916) (by decide +kernel)⟩
def lw_privs_1 : List (MethodName × Nat) := [(⟨"MonitorYard", "actsEnded", "(I)I"⟩, 4), (⟨"MonitorYard", "runningThreads", "()I"⟩, 4), (⟨"java/lang/Throwable", "fillInStackTrace", "(I)Ljava/lang/Throwable;"⟩, 6), (⟨"MonitorYard", "threadAt", "(I)LMonitorYard$YardThread;"⟩, 4), (⟨"MonitorYard", "placeAt", "(I)LMonitorYard$Place;"⟩, 4), (⟨"MonitorYard$Book", "countReads", "(LMonitorYard$YardThread;I)V"⟩, 7), (⟨"MonitorYard$Book", "closeWritingOnce", "()V"⟩, 7), (⟨"MonitorYard$Lock", "leaveOnce", "()V"⟩, 7), (⟨"MonitorYard$Lock", "call", "(II)V"⟩, 7), (⟨"MonitorYard$Lock", "condition", "(I)LMonitorYard$Row;"⟩, 7), (⟨"MonitorYard$Lock", "takeAgain", "(LMonitorYard$YardThread;I)V"⟩, 7), (⟨"MonitorYard$Queue", "putLast", "(I)V"⟩, 5), (⟨"MonitorYard$Queue", "takeFirst", "()I"⟩, 5), (⟨"MonitorYard$Lock", "joinCondition", "(LMonitorYard$YardThread;I)V"⟩, 7), (⟨"MonitorYard", "passOneTick", "()I"⟩, 4), (⟨"MonitorYardModel", "bad", "(Z)Z"⟩, 27)]
theorem lw_r1 : ∀ q ∈ lw_privs_1, lw_okq q := List.forall_mem_cons.mpr ⟨lw_p0, List.forall_mem_cons.mpr ⟨lw_p1, List.forall_mem_cons.mpr ⟨lw_p2, List.forall_mem_cons.mpr ⟨lw_p3, List.forall_mem_cons.mpr ⟨lw_p4, List.forall_mem_cons.mpr ⟨lw_p5, List.forall_mem_cons.mpr ⟨lw_p6, List.forall_mem_cons.mpr ⟨lw_p7, List.forall_mem_cons.mpr ⟨lw_p8, List.forall_mem_cons.mpr ⟨lw_p9, List.forall_mem_cons.mpr ⟨lw_p10, List.forall_mem_cons.mpr ⟨lw_p11, List.forall_mem_cons.mpr ⟨lw_p12, List.forall_mem_cons.mpr ⟨lw_p13, List.forall_mem_cons.mpr ⟨lw_p14, List.forall_mem_cons.mpr ⟨lw_p15, fun _ h => absurd h List.not_mem_nil⟩⟩⟩⟩⟩⟩⟩⟩⟩⟩⟩⟩⟩⟩⟩⟩
theorem lw_p16 : lw_okq (⟨"MonitorYardModel", "ofKind", "(II)Z"⟩, 27) := ⟨⟨by decide +kernel, by decide +kernel⟩, List.mem_of_getElem? (i := 815) (by decide +kernel), List.mem_of_getElem? (i := 923) (by decide +kernel), List.mem_of_getElem? (i := 924) (by decide +kernel)⟩
theorem lw_p17 : lw_okq (⟨"MonitorYardModel", "notNow", "(IIII)Z"⟩, 27) := ⟨⟨by decide +kernel, by decide +kernel⟩, List.mem_of_getElem? (i := 815) (by decide +kernel), List.mem_of_getElem? (i := 927) (by decide +kernel), List.mem_of_getElem? (i := 928) (by decide +kernel)⟩
theorem lw_p18 : lw_okq (⟨"MonitorYardModel", "simple", "(IIII)I"⟩, 27) := ⟨⟨by decide +kernel, by decide +kernel⟩, List.mem_of_getElem? (i := 815) (by decide +kernel), List.mem_of_getElem? (i := 931) (by decide +kernel), List.mem_of_getElem? (i := 932) (by decide +kernel)⟩
theorem lw_p19 : lw_okq (⟨"MonitorYardModel", "less", "(I)V"⟩, 27) := ⟨⟨by decide +kernel, by decide +kernel⟩, List.mem_of_getElem? (i := 815) (by decide +kernel), List.mem_of_getElem? (i := 935) (by decide +kernel), List.mem_of_getElem? (i := 936) (by decide +kernel)⟩
theorem lw_p20 : lw_okq (⟨"MonitorYardModel", "call", "(III)V"⟩, 27) := ⟨⟨by decide +kernel, by decide +kernel⟩, List.mem_of_getElem? (i := 815) (by decide +kernel), List.mem_of_getElem? (i := 939) (by decide +kernel), List.mem_of_getElem? (i := 940) (by decide +kernel)⟩
theorem lw_p21 : lw_okq (⟨"MonitorYardModel", "remove", "([II[III)V"⟩, 27) := ⟨⟨by decide +kernel, by decide +kernel⟩, List.mem_of_getElem? (i := 815) (by decide +kernel), List.mem_of_getElem? (i := 943) (by decide +kernel), List.mem_of_getElem? (i := 944) (by decide +kernel)⟩
theorem lw_p22 : lw_okq (⟨"MonitorYardModel", "called", "(III)V"⟩, 27) := ⟨⟨by decide +kernel, by decide +kernel⟩, List.mem_of_getElem? (i := 815) (by decide +kernel), List.mem_of_getElem? (i := 947) (by decide +kernel), List.mem_of_getElem? (i := 948) (by decide +kernel)⟩
theorem lw_p23 : lw_okq (⟨"MonitorYardModel", "enter", "(II)V"⟩, 27) := ⟨⟨by decide +kernel, by decide +kernel⟩, List.mem_of_getElem? (i := 815) (by decide +kernel), List.mem_of_getElem? (i := 951) (by decide +kernel), List.mem_of_getElem? (i := 952) (by decide +kernel)⟩
theorem lw_p24 : lw_okq (⟨"MonitorYardModel", "breakAll", "(I)V"⟩, 27) := ⟨⟨by decide +kernel, by decide +kernel⟩, List.mem_of_getElem? (i := 815) (by decide +kernel), List.mem_of_getElem? (i := 955) (by decide +kernel), List.mem_of_getElem? (i := 956) (by decide +kernel)⟩
theorem lw_p25 : lw_okq (⟨"MonitorYardModel", "end", "(II)I"⟩, 27) := ⟨⟨by decide +kernel, by decide +kernel⟩, List.mem_of_getElem? (i := 815) (by decide +kernel), List.mem_of_getElem? (i := 959) (by decide +kernel), List.mem_of_getElem? (i := 960) (by decide +kernel)⟩
theorem lw_p26 : lw_okq (⟨"MonitorYardModel", "pass", "(I)V"⟩, 27) := ⟨⟨by decide +kernel, by decide +kernel⟩, List.mem_of_getElem? (i := 815) (by decide +kernel), List.mem_of_getElem? (i := 963) (by decide +kernel), List.mem_of_getElem? (i := 964) (by decide +kernel)⟩
theorem lw_p27 : lw_okq (⟨"MonitorYardModel", "can", "(III)Z"⟩, 27) := ⟨⟨by decide +kernel, by decide +kernel⟩, List.mem_of_getElem? (i := 815) (by decide +kernel), List.mem_of_getElem? (i := 967) (by decide +kernel), List.mem_of_getElem? (i := 968) (by decide +kernel)⟩
theorem lw_p28 : lw_okq (⟨"MonitorYardModel", "readers", "(II)I"⟩, 27) := ⟨⟨by decide +kernel, by decide +kernel⟩, List.mem_of_getElem? (i := 815) (by decide +kernel), List.mem_of_getElem? (i := 971) (by decide +kernel), List.mem_of_getElem? (i := 972) (by decide +kernel)⟩
theorem lw_p29 : lw_okq (⟨"MonitorYardModel", "grant", "(III)V"⟩, 27) := ⟨⟨by decide +kernel, by decide +kernel⟩, List.mem_of_getElem? (i := 815) (by decide +kernel), List.mem_of_getElem? (i := 975) (by decide +kernel), List.mem_of_getElem? (i := 976) (by decide +kernel)⟩
theorem lw_p30 : lw_okq (⟨"MonitorYardModel", "sameSort", "(II)Z"⟩, 27) := ⟨⟨by decide +kernel, by decide +kernel⟩, List.mem_of_getElem? (i := 815) (by decide +kernel), List.mem_of_getElem? (i := 979) (by decide +kernel), List.mem_of_getElem? (i := 980) (by decide +kernel)⟩
theorem lw_p31 : lw_okq (⟨"MonitorYardModel", "arrive", "(II)I"⟩, 27) := ⟨⟨by decide +kernel, by decide +kernel⟩, List.mem_of_getElem? (i := 815) (by decide +kernel), List.mem_of_getElem? (i := 983) (by decide +kernel), List.mem_of_getElem? (i := 984) (by decide +kernel)⟩
def lw_privs_2 : List (MethodName × Nat) := [(⟨"MonitorYardModel", "ofKind", "(II)Z"⟩, 27), (⟨"MonitorYardModel", "notNow", "(IIII)Z"⟩, 27), (⟨"MonitorYardModel", "simple", "(IIII)I"⟩, 27), (⟨"MonitorYardModel", "less", "(I)V"⟩, 27), (⟨"MonitorYardModel", "call", "(III)V"⟩, 27), (⟨"MonitorYardModel", "remove", "([II[III)V"⟩, 27), (⟨"MonitorYardModel", "called", "(III)V"⟩, 27), (⟨"MonitorYardModel", "enter", "(II)V"⟩, 27), (⟨"MonitorYardModel", "breakAll", "(I)V"⟩, 27), (⟨"MonitorYardModel", "end", "(II)I"⟩, 27), (⟨"MonitorYardModel", "pass", "(I)V"⟩, 27), (⟨"MonitorYardModel", "can", "(III)Z"⟩, 27), (⟨"MonitorYardModel", "readers", "(II)I"⟩, 27), (⟨"MonitorYardModel", "grant", "(III)V"⟩, 27), (⟨"MonitorYardModel", "sameSort", "(II)Z"⟩, 27), (⟨"MonitorYardModel", "arrive", "(II)I"⟩, 27)]
theorem lw_r2 : ∀ q ∈ lw_privs_2, lw_okq q := List.forall_mem_cons.mpr ⟨lw_p16, List.forall_mem_cons.mpr ⟨lw_p17, List.forall_mem_cons.mpr ⟨lw_p18, List.forall_mem_cons.mpr ⟨lw_p19, List.forall_mem_cons.mpr ⟨lw_p20, List.forall_mem_cons.mpr ⟨lw_p21, List.forall_mem_cons.mpr ⟨lw_p22, List.forall_mem_cons.mpr ⟨lw_p23, List.forall_mem_cons.mpr ⟨lw_p24, List.forall_mem_cons.mpr ⟨lw_p25, List.forall_mem_cons.mpr ⟨lw_p26, List.forall_mem_cons.mpr ⟨lw_p27, List.forall_mem_cons.mpr ⟨lw_p28, List.forall_mem_cons.mpr ⟨lw_p29, List.forall_mem_cons.mpr ⟨lw_p30, List.forall_mem_cons.mpr ⟨lw_p31, fun _ h => absurd h List.not_mem_nil⟩⟩⟩⟩⟩⟩⟩⟩⟩⟩⟩⟩⟩⟩⟩⟩
theorem lw_p32 : lw_okq (⟨"MonitorYardModel", "refused", "(III)I"⟩, 27) := ⟨⟨by decide +kernel, by decide +kernel⟩, List.mem_of_getElem? (i := 815) (by decide +kernel), List.mem_of_getElem? (i := 987) (by decide +kernel), List.mem_of_getElem? (i := 988) (by decide +kernel)⟩
theorem lw_p33 : lw_okq (⟨"MonitorYardModel", "waitAt", "(III)I"⟩, 27) := ⟨⟨by decide +kernel, by decide +kernel⟩, List.mem_of_getElem? (i := 815) (by decide +kernel), List.mem_of_getElem? (i := 991) (by decide +kernel), List.mem_of_getElem? (i := 992) (by decide +kernel)⟩
theorem lw_p34 : lw_okq (⟨"MonitorYardModel", "leave", "(II)V"⟩, 27) := ⟨⟨by decide +kernel, by decide +kernel⟩, List.mem_of_getElem? (i := 815) (by decide +kernel), List.mem_of_getElem? (i := 999) (by decide +kernel), List.mem_of_getElem? (i := 1000) (by decide +kernel)⟩
theorem lw_p35 : lw_okq (⟨"MonitorYardModel", "leans", "(I)I"⟩, 27) := ⟨⟨by decide +kernel, by decide +kernel⟩, List.mem_of_getElem? (i := 815) (by decide +kernel), List.mem_of_getElem? (i := 1023) (by decide +kernel), List.mem_of_getElem? (i := 1024) (by decide +kernel)⟩
def lw_privs_3 : List (MethodName × Nat) := [(⟨"MonitorYardModel", "refused", "(III)I"⟩, 27), (⟨"MonitorYardModel", "waitAt", "(III)I"⟩, 27), (⟨"MonitorYardModel", "leave", "(II)V"⟩, 27), (⟨"MonitorYardModel", "leans", "(I)I"⟩, 27)]
theorem lw_r3 : ∀ q ∈ lw_privs_3, lw_okq q := List.forall_mem_cons.mpr ⟨lw_p32, List.forall_mem_cons.mpr ⟨lw_p33, List.forall_mem_cons.mpr ⟨lw_p34, List.forall_mem_cons.mpr ⟨lw_p35, fun _ h => absurd h List.not_mem_nil⟩⟩⟩⟩
def lw_privs : List (MethodName × Nat) := lw_privs_1 ++ (lw_privs_2 ++ (lw_privs_3))
def lw_tbl : List Cond := k2_sels lw_privs ++ tables_1
theorem lw_privs_ok : ∀ q ∈ lw_privs, lw_okq q := by
  show ∀ q ∈ lw_privs_1 ++ (lw_privs_2 ++ (lw_privs_3)), lw_okq q
  exact List.forall_mem_append.mpr ⟨lw_r1, List.forall_mem_append.mpr ⟨lw_r2, lw_r3⟩⟩
-- ===== end of PART A; then your names; then what follows =====
end
section
/-! ===== BEGIN words of one list among another's, by their places ===== -/
theorem goodIn_r {big : List Cond} (ws : List Cond) (ps : List Nat) (hp : ws = ps.filterMap (fun i => big[i]?)) (h : ws.all goodWord = true) : GoodIn big ws := by
  intro w hw
  have h1 := List.all_eq_true.mp h w hw
  rw [hp] at hw
  obtain ⟨i, -, hi⟩ := List.mem_filterMap.mp hw
  have hm : w ∈ big := by first | exact List.mem_of_getElem? hi | exact List.getElem?_mem hi
  exact ⟨hm, good_of_word h1⟩
theorem goodIn_app {big a b : List Cond} (ha : GoodIn big a) (hb : GoodIn big b) : GoodIn big (a ++ b) := fun w h => (List.mem_append.mp h).elim (ha w) (hb w)
theorem goodIn_ca {big a b : List Cond} {c : Cond} (ha : GoodIn big (c :: a)) (hb : GoodIn big b) : GoodIn big (c :: (a ++ b)) := fun w h => (List.mem_cons.mp h).elim (fun e => ha w (List.mem_cons.mpr (Or.inl e))) (fun h => (List.mem_append.mp h).elim (fun h => ha w (List.mem_cons.mpr (Or.inr h))) (hb w))
theorem goodIn_sub {big ws : List Cond} (hm : ∀ w ∈ ws, w ∈ big) (h : ws.all goodWord = true) : GoodIn big ws := fun w hw => ⟨hm w hw, good_of_word (List.all_eq_true.mp h w hw)⟩
/-! ===== END ===== -/

/-! ===== BEGIN exceptions that leave a method, and their catching by the caller (launches without stack traces) ===== -/
section VXA
/-! The laws vx_back, vx_callV, vx_callS, vx_callSW, vx_throw0, vx_throwS follow proofs of the library, with one case more: JvmDerived/Free/Laws.lean (Back.of_free), Shelf42/LK1.lean (callV, callS), Shelf/KitTraced.lean (throwNew0V, throwNewS). -/
/-- where a method has thrown q: the class by its name, the cell, what was written, the world -/
def vx_T (XC : String → State → State → Prop) (st : State) (q : Addr) (t : State) (mc ms : Nat) (free : Addr → Prop) : Prop :=
  ∃ (E : String) (ce : Cell) (L : List Loc), XC E st t ∧ t.heap[q]? = some ce ∧ ce.vm = .none ∧ st.vm.findClass E = some ce.cls ∧ st.WarmedH t.vm ∧ st.sameButNew ({ t with vm := st.vm } : State) L mc ms ∧ ∀ z ∈ L, free z.base
def vx_Q (Qc : Array Value → State → Outcome → State → Prop) (XC : String → State → State → Prop) (mc ms : Nat) (free : Addr → Prop) : Array Value → State → Outcome → State → Prop := fun a st o t =>
  (Qc a st o t ∧ ∃ L, FrameEnd st o t L mc ms ∧ ∀ q ∈ L, free q.base) ∨ ∃ q, o = .threw q ∧ vx_T XC st q t mc ms free
/-- a callee that returns or throws -/
def vx_Met (l : Launch) (y : MethodName) (ws : List Cond) (rm : Room) (Pc : Array Value → State → Prop) (Qc : Array Value → State → Outcome → State → Prop) (XC : String → State → State → Prop) (mc ms : Nat) (free : Addr → Prop) : Prop :=
  MetFree l y (headSpec ws rm) Pc (fun _ _ _ _ _ => True) (vx_Q Qc XC mc ms free)
def vx_Post (XC : String → State → State → Prop) (mc ms : Nat) (free : Addr → Prop) : Pt → Array Value → Addr → Pt → Prop := fun A a q B =>
  ∃ (g : JFrame) (mk : MethodId) (t : State) (L : List Loc) (E : String) (ce : Cell), B.U.heap = t.heap ∧ B.U.vm = t.vm ∧ XC E (A.U.calling g mk a) t ∧ t.heap[q]? = some ce ∧ ce.vm = .none ∧ A.U.vm.findClass E = some ce.cls ∧ B.locs = A.locs ++ L ∧ (∀ z ∈ L, free z.base) ∧ B.cells = A.cells + mc ∧ B.slots = A.slots + ms
def vx_Back (l : Launch) (R : Room) (p : Program) (e : Env) (below : List Frame) (s : State) (sargs : Array Value) (y : MethodName) (len W9 : Nat)
    (Pre : Pt → Array Value → Prop) (Post : Pt → Array Value → Option Value → Pt → Prop) (PostX : Pt → Array Value → Addr → Pt → Prop) : Prop :=
  ∀ (m : MethodId) (meth : Method) (c : Code) (A : Pt) (g : JFrame) (ig : Instr) (mk : MethodId) (a : Array Value),
    Stand p l e R s m sargs below meth c A.U A.locs A.cells A.slots → g.method = m → g.locals.size = c.maxLocals → decode c.code g.pc = .ok (ig, len) →
    2 * g.monitorRoom + (g.stack.map fun v => v.category).sum ≤ W9 → A.U.methodNamed? y = some mk → Pre A a →
    (∃ (v : Option Value) (B : Pt), Stand p l e R s m sargs below meth c B.U B.locs B.cells B.slots ∧ Post A a v B ∧
      Steps p.tables e below (doInvoke e (A.U.setTop g) [] mk a).1 (B.U.setTop { g with pc := g.pc + len, stack := v.toList ++ g.stack })) ∨
    (∃ (q : Addr) (B : Pt), Stand p l e R s m sargs below meth c B.U B.locs B.cells B.slots ∧ PostX A a q B ∧
      Steps p.tables e below (doInvoke e (A.U.setTop g) [] mk a).1 ((B.U.setTop g).pushFrame (.throwing q)))
section Payer
variable {l : Launch} {R : Room} {p : Program} {e : Env} {below : List Frame} {s : State} {sargs : Array Value} {y : MethodName} {len W9 : Nat}
theorem vx_back {ws : List Cond} {rm : Room} {Pc : Array Value → State → Prop} {Qc : Array Value → State → Outcome → State → Prop} {XC : String → State → State → Prop} {mc ms : Nat} {free : Addr → Prop} {bytes : ByteArray} {maxL : Nat} {ret : Option FieldType}
    (hM : vx_Met l y ws rm Pc Qc XC mc ms free) (hblind : FrameBlind Pc) (hrc : rm.cells = mc) (hrs : rm.slots = ms)
    (hframes : rm.frames + 1 ≤ R.frames) (hlocals : W9 + (maxL + 11) + rm.locals ≤ R.locals)
    (hws : ∀ w ∈ ws, ∀ a' U, s.WarmedH U.vm → w.before a' U = true) (hcode : Cond.code y bytes maxL ret ∈ ws) (hinit : ∀ a' U, s.WarmedH U.vm → (Cond.initialized y.cls).before a' U = true) :
    vx_Back l R p e below s sargs y len W9 (PreOf R mc ms Pc) (PostOf Qc mc ms free) (vx_Post XC mc ms free) := by
  intro m meth c A g ig mk a X hg hsize hdg hW hn hp
  have h1 : (headSpec ws rm).pre.before a A.U = true := atoms_intro fun w hw => hws w hw _ _ X.warmed
  have h2 : (Cond.code y bytes maxL ret).before a A.U = true := hws _ hcode _ _ X.warmed
  have h3 : (Cond.initialized y.cls).before a A.U = true := hinit _ _ X.warmed
  have h4 : A.cells + (headSpec ws rm).room.cells ≤ R.cells := by rw [show (headSpec ws rm).room.cells = mc from hrc]; exact hp.1
  have h5 : A.slots + (headSpec ws rm).room.slots ≤ R.slots := by rw [show (headSpec ws rm).room.slots = ms from hrs]; exact hp.2.1
  have hPc : Pc a (A.U.calling g mk a) := hblind _ _ _ _ hp.2.2
  obtain ⟨U, Ls, c0, s0⟩ := A
  dsimp only [Pt.U, Pt.locs, Pt.cells, Pt.slots] at h1 h2 h3 h4 h5 X hn hPc ⊢
  obtain ⟨methY, cY, hmY, hcY, -, hlY, -, -, -, -⟩ := Cond.code_spec hn h2
  obtain ⟨kY, hkY, -⟩ := className_of_methodNamed hn
  have hinitY : kY.init = .initialized := Cond.initialized_spec (findClass_of_methodNamed hn) hkY h3
  have h : At U g.method c below := by rw [hg]; exact X.here
  have hlocals9 : W9 + (maxL + 11) + (headSpec ws rm).room.locals ≤ R.locals := hlocals
  have happ : (headSpec ws rm).appliesLoose y e.platform (U.calling g mk a) = true :=
    Spec.appliesLoose_calling (g := g) h hdg hn hkY hinitY
      (X.room_calling (g := g) (R' := (headSpec ws rm).room) hsize hmY hcY hframes (by rw [hlY]; omega) h4 h5) h1
  obtain ⟨mid, hmid⟩ := h.above
  have hfr : (U.setTop g).frames = (.java g :: mid) ++ below := by rw [State.frames_setTop' g h.top, hmid]; rfl
  obtain ⟨o, s₂, hsteps, -, hend, hq⟩ := Steps.callFree hM p X.admits X.cas X.clock (acts := []) hfr happ hPc trivial
  have hq' : vx_Q Qc XC mc ms free a (U.calling g mk a) o s₂ := hq
  rw [State.frames_setTop' g h.top] at hend
  obtain ⟨g₀, hg0⟩ := Option.isSome_iff_exists.mp h.top
  obtain ⟨r, hr⟩ := State.topJava?_eq_some.mp hg0
  have hr' : (({ U with heap := s₂.heap, slotsUsed := s₂.slotsUsed } : State).setVm s₂.vm).frames = .java g₀ :: r := hr
  rcases hq' with ⟨hqc, L, hfe, hL⟩ | ⟨q, rfl, E, ce, L, hx, hce, hcv, hcl, hW₂, hsm, hL⟩
  · obtain ⟨⟨v, rfl⟩, hW₂, e2, q2, q3, q4, q5, q6⟩ := id hfe
    have e3 : s₂ = ({ (U.calling g mk a).setFrames s₂.frames with heap := s₂.heap, slotsUsed := s₂.slotsUsed } : State).setVm s₂.vm := by
      have : s₂ = ({ s₂ with vm := (U.calling g mk a).vm } : State).setVm s₂.vm := rfl
      rw [e2] at this
      exact this
    obtain ⟨c₂, i₂, len₂, hc₂, hd₂, hf₂⟩ := hend
    have hW' : U.WarmedH s₂.vm := hW₂
    have hcc : c₂ = c := by
      have h1 : s₂.code? g.method = U.code? g.method := by
        rw [State.code?_eq, State.code?_eq, hW'.alike.method?]
      exact Option.some.inj (hc₂.symm.trans (h1.trans h.code))
    subst hcc
    have hlen : len₂ = len := by rw [hdg] at hd₂; cases hd₂; rfl
    subst hlen
    have hs₂ : s₂ = (({ U with heap := s₂.heap, slotsUsed := s₂.slotsUsed } : State).setVm s₂.vm).setTop { g with pc := g.pc + len₂, stack := v.toList ++ g.stack } := by
      refine e3.trans ?_
      rw [hf₂, State.calling_eq h.top, State.setFrames_setFrames, State.setTop_of_frames _ hr', hr]
      rfl
    have hsame : U.sameButNew ({ U with heap := s₂.heap, slotsUsed := s₂.slotsUsed } : State) L mc ms := by
      refine ⟨?_, q2, q3, q4, q5, q6⟩
      obtain ⟨t, ht, -⟩ := State.frames_cons hr
      show ({ U with heap := s₂.heap, slotsUsed := s₂.slotsUsed } : State) = { U.setFrames U.frames with heap := s₂.heap, slotsUsed := s₂.slotsUsed }
      rw [State.setFrames_self ht]
    subst hg
    refine Or.inl ⟨v, ⟨(({ U with heap := s₂.heap, slotsUsed := s₂.slotsUsed } : State).setVm s₂.vm), Ls ++ L, c0 + mc, s0 + ms⟩,
      ⟨X.admits, X.cas, X.clock, X.frames, X.room, X.hears, X.method, X.code, (X.here.setHeapUsed s₂.heap s₂.slotsUsed).setVm hW'.alike, X.tail, State.WarmedH.trans X.warmed hW', X.limits, X.bytes, X.same.trans (hsame.setVm s.vm)⟩,
      ⟨g, mk, s₂, L, rfl, rfl, hqc, rfl, hL, rfl, rfl⟩, ?_⟩
    show Steps p.tables e below _ ((({ U with heap := s₂.heap, slotsUsed := s₂.slotsUsed } : State).setVm s₂.vm).setTop { g with pc := g.pc + len₂, stack := v.toList ++ g.stack })
    rw [← hs₂]
    exact hsteps
  · obtain ⟨e2, q2, q3, q4, q5, q6⟩ := id hsm
    have e3 : s₂ = ({ (U.calling g mk a).setFrames s₂.frames with heap := s₂.heap, slotsUsed := s₂.slotsUsed } : State).setVm s₂.vm := by
      have : s₂ = ({ s₂ with vm := (U.calling g mk a).vm } : State).setVm s₂.vm := rfl
      rw [e2] at this
      exact this
    have hf₂ : s₂.frames = .throwing q :: .java g :: U.frames.tail := hend
    have hW' : U.WarmedH s₂.vm := hW₂
    have hs₂ : s₂ = ((({ U with heap := s₂.heap, slotsUsed := s₂.slotsUsed } : State).setVm s₂.vm).setTop g).pushFrame (.throwing q) := by
      refine e3.trans ?_
      rw [hf₂, State.calling_eq h.top, State.setFrames_setFrames, State.pushFrame, State.frames_setTop _ hr', State.setTop_of_frames _ hr', State.setFrames_setFrames, hr]
      rfl
    have hsame : U.sameButNew ({ U with heap := s₂.heap, slotsUsed := s₂.slotsUsed } : State) L mc ms := by
      refine ⟨?_, q2, q3, q4, q5, q6⟩
      obtain ⟨t, ht, -⟩ := State.frames_cons hr
      show ({ U with heap := s₂.heap, slotsUsed := s₂.slotsUsed } : State) = { U.setFrames U.frames with heap := s₂.heap, slotsUsed := s₂.slotsUsed }
      rw [State.setFrames_self ht]
    subst hg
    refine Or.inr ⟨q, ⟨(({ U with heap := s₂.heap, slotsUsed := s₂.slotsUsed } : State).setVm s₂.vm), Ls ++ L, c0 + mc, s0 + ms⟩,
      ⟨X.admits, X.cas, X.clock, X.frames, X.room, X.hears, X.method, X.code, (X.here.setHeapUsed s₂.heap s₂.slotsUsed).setVm hW'.alike, X.tail, State.WarmedH.trans X.warmed hW', X.limits, X.bytes, X.same.trans (hsame.setVm s.vm)⟩,
      ⟨g, mk, s₂, L, E, ce, rfl, rfl, hx, hce, hcv, hcl, rfl, hL, rfl, rfl⟩, ?_⟩
    show Steps p.tables e below _ (((({ U with heap := s₂.heap, slotsUsed := s₂.slotsUsed } : State).setVm s₂.vm).setTop g).pushFrame (.throwing q))
    rw [← hs₂]
    exact hsteps
end Payer
section Calls
variable {p : Program} {l : Launch} {e : Env} {R : Room} {s : State} {m : MethodId} {args : Array Value} {below : List Frame} {meth : Method} {c : Code} {T : State} {locs : List Loc} {cells slots : Nat}
theorem vx_callV (X : Stand p l e R s m args below meth c T locs cells slots) (hexec : p.tables.exec = Jvm.exec) {own C : String} {index : Nat} {y : MethodName} {bytes : ByteArray} {maxL : Nat} {ret : Option FieldType}
    (hown : s.vm.findClass own = some m.cls) (hlink : (Cond.methodLink own index y).before args s = true) (hinst : (Cond.instanceMethod y).before args s = true) (hsel : (Cond.selects C y y).before args s = true)
    (hcode : (Cond.code y bytes maxL ret).before args s = true) (hy : y.cls ≠ "java/lang/invoke/MethodHandle" ∧ y.cls ≠ "java/lang/invoke/VarHandle")
    {W9 : Nat} {Pre : Pt → Array Value → Prop} {Post : Pt → Array Value → Option Value → Pt → Prop} {PostX : Pt → Array Value → Addr → Pt → Prop} (hK : vx_Back l R p e below s args y 3 W9 Pre Post PostX)
    {b : Addr} {cellB : Cell} (hcell : T.heap[b]? = some cellB) (hobj : cellB.vm.isStatics = false) (hcls : s.vm.findClass C = some cellB.cls)
    {g : JFrame} (hg : g.method = m) (hsize : g.locals.size = c.maxLocals) {argsL rest : List Value} (hlen : ∀ sig, parseMethodDescriptor y.desc = some sig → argsL.length = sig.parameters.length)
    (hstack : g.stack = argsL.reverse ++ .ref b :: rest) (hW : 2 * g.monitorRoom + (rest.map fun v => v.category).sum ≤ W9) (hdg : decode c.code g.pc = .ok (.invokevirtual index, 3))
    (hpre : ∀ vm₁, s.WarmedH vm₁ → Pre ⟨T.setVm vm₁, locs, cells, slots⟩ (Value.ref b :: argsL).toArray) :
    (∃ (v : Option Value) (vm₁ : Vm) (B : Pt), s.WarmedH vm₁ ∧ Stand p l e R s m args below meth c B.U B.locs B.cells B.slots ∧ Post ⟨T.setVm vm₁, locs, cells, slots⟩ (Value.ref b :: argsL).toArray v B ∧
      ∀ target, Steps p.tables e below (B.U.setTop { g with pc := g.pc + 3, stack := v.toList ++ rest }) target → Steps p.tables e below (T.setTop g) target) ∨
    (∃ (q : Addr) (vm₁ : Vm) (B : Pt), s.WarmedH vm₁ ∧ Stand p l e R s m args below meth c B.U B.locs B.cells B.slots ∧ PostX ⟨T.setVm vm₁, locs, cells, slots⟩ (Value.ref b :: argsL).toArray q B ∧
      Steps p.tables e below (T.setTop g) ((B.U.setTop { g with stack := rest }).pushFrame (.throwing q))) := by
  obtain ⟨mk, methM, hnamed, hmethM, hstM, habM⟩ := Cond.instanceMethod_spec hinst
  obtain ⟨methM', cM, hmethM', -, -, -, -, -, -, hsigM⟩ := Cond.code_spec hnamed hcode
  cases hmethM.symm.trans hmethM'
  obtain ⟨c2, r2, m2, q1, q2, q3, q4, kP, hkP, hkPi⟩ := Cond.selects_spec hsel
  cases hcls.symm.trans q1
  cases (State.methodFound?_of_named hnamed hy).symm.trans q2
  cases hnamed.symm.trans q3
  have hselP : selectMethod e.platform s.vm cellB.cls mk = .method mk := by rw [Launch.admits_selectMethod X.admits]; exact q4
  obtain ⟨vm₁, X₁, hstep₁⟩ := X.invokevirtual hexec hown hlink hnamed hmethM hstM hkP hkPi hy (a := b) (cell := cellB) hcell
    (fun z h => by rw [h] at hobj; cases hobj) hselP hmethM habM hkP hkPi (g := g) hg (argsL := argsL) (rest := rest) (hlen _ hsigM) hstack hdg
  rcases hK m meth c ⟨T.setVm vm₁, locs, cells, slots⟩ { g with stack := rest } (.invokevirtual index) mk (Value.ref b :: argsL).toArray X₁ hg hsize hdg hW (X₁.named hnamed) (hpre vm₁ X₁.warmed) with ⟨v, B, X', hpost, hsteps⟩ | ⟨q, B, X', hpost, hsteps⟩
  · exact Or.inl ⟨v, vm₁, B, X₁.warmed, X', hpost, fun target h => hstep₁ _ fun acts => by rw [doInvoke_state]; exact hsteps.trans h⟩
  · exact Or.inr ⟨q, vm₁, B, X₁.warmed, X', hpost, hstep₁ _ fun acts => by rw [doInvoke_state]; exact hsteps⟩
theorem vx_callS (X : Stand p l e R s m args below meth c T locs cells slots) (hexec : p.tables.exec = Jvm.exec) {own : String} {index : Nat} {y : MethodName} {bytes : ByteArray} {maxL : Nat} {ret : Option FieldType}
    (hown : s.vm.findClass own = some m.cls) (hlink : (Cond.methodLink own index y).before args s = true) (hstat : (Cond.static y).before args s = true) (hinit : (Cond.initialized y.cls).before args s = true)
    (hcode : (Cond.code y bytes maxL ret).before args s = true) (hy : y.cls ≠ "java/lang/invoke/MethodHandle" ∧ y.cls ≠ "java/lang/invoke/VarHandle")
    {W9 : Nat} {Pre : Pt → Array Value → Prop} {Post : Pt → Array Value → Option Value → Pt → Prop} {PostX : Pt → Array Value → Addr → Pt → Prop} (hK : vx_Back l R p e below s args y 3 W9 Pre Post PostX)
    {g : JFrame} (hg : g.method = m) (hsize : g.locals.size = c.maxLocals) {argsL rest : List Value} (hlen : ∀ sig, parseMethodDescriptor y.desc = some sig → argsL.length = sig.parameters.length)
    (hstack : g.stack = argsL.reverse ++ rest) (hW : 2 * g.monitorRoom + (rest.map fun v => v.category).sum ≤ W9) (hdg : decode c.code g.pc = .ok (.invokestatic index, 3))
    (hpre : ∀ vm₁, s.WarmedH vm₁ → Pre ⟨T.setVm vm₁, locs, cells, slots⟩ argsL.toArray) :
    (∃ (v : Option Value) (vm₁ : Vm) (B : Pt), s.WarmedH vm₁ ∧ Stand p l e R s m args below meth c B.U B.locs B.cells B.slots ∧ Post ⟨T.setVm vm₁, locs, cells, slots⟩ argsL.toArray v B ∧
      ∀ target, Steps p.tables e below (B.U.setTop { g with pc := g.pc + 3, stack := v.toList ++ rest }) target → Steps p.tables e below (T.setTop g) target) ∨
    (∃ (q : Addr) (vm₁ : Vm) (B : Pt), s.WarmedH vm₁ ∧ Stand p l e R s m args below meth c B.U B.locs B.cells B.slots ∧ PostX ⟨T.setVm vm₁, locs, cells, slots⟩ argsL.toArray q B ∧
      Steps p.tables e below (T.setTop g) ((B.U.setTop { g with stack := rest }).pushFrame (.throwing q))) := by
  obtain ⟨mk, hnamed⟩ := Cond.code_named hcode
  obtain ⟨methM, cM, hmethM, -, -, -, -, -, -, hsigM⟩ := Cond.code_spec hnamed hcode
  have hstatic : methM.isStatic = true := Cond.static_spec hnamed hmethM hstat
  obtain ⟨kP, hkP, -⟩ := className_of_methodNamed hnamed
  have hinitP : kP.init = .initialized := Cond.initialized_spec (findClass_of_methodNamed hnamed) hkP hinit
  obtain ⟨vm₁, X₁, hstep₁⟩ := X.invokestatic hexec hown hlink hnamed hmethM hstatic hkP hinitP hy (g := g) hg (argsL := argsL) (rest := rest) (hlen _ hsigM) hstack hdg
  rcases hK m meth c ⟨T.setVm vm₁, locs, cells, slots⟩ { g with stack := rest } (.invokestatic index) mk argsL.toArray X₁ hg hsize hdg hW (X₁.named hnamed) (hpre vm₁ X₁.warmed) with ⟨v, B, X', hpost, hsteps⟩ | ⟨q, B, X', hpost, hsteps⟩
  · exact Or.inl ⟨v, vm₁, B, X₁.warmed, X', hpost, fun target h => hstep₁ _ fun acts => by rw [doInvoke_state]; exact hsteps.trans h⟩
  · exact Or.inr ⟨q, vm₁, B, X₁.warmed, X', hpost, hstep₁ _ fun acts => by rw [doInvoke_state]; exact hsteps⟩
end Calls
theorem vx_cls {s : State} {T : State} {vm₁ : Vm} {E : String} {k : ClassId} (hW : s.WarmedH vm₁) (h : (T.setVm vm₁).vm.findClass E = some k) : s.vm.findClass E = some k := by
  have h1 : vm₁.findClass E = some k := h
  rw [hW.alike.findClass] at h1
  exact h1
/-- the method's frame g, with q thrown over it -/
def vx_W (p : Program) (l : Launch) (e : Env) (R : Room) (s : State) (m : MethodId) (args : Array Value) (below : List Frame) (meth : Method) (c : Code) (H : Heap) (locs : List Loc) (cells slots : Nat) (Q : State → Prop) (g : JFrame) (q : Addr) : Prop :=
  ∀ T : State, T.heap = H → Stand p l e R s m args below meth c T locs cells slots → ∃ t, Steps p.tables e below ((T.setTop g).pushFrame (.throwing q)) t ∧ Q t
def vx_Run (p : Program) (l : Launch) (e : Env) (R : Room) (s : State) (m : MethodId) (args : Array Value) (below : List Frame) (meth : Method) (c : Code) (H : Heap) (locs : List Loc) (cells slots mc ms : Nat) (g : JFrame) (rest : List Value) (Qa : State → Outcome → State → Prop) (XC : String → State → State → Prop) (free : Addr → Prop) : Prop :=
  ∀ T : State, T.heap = H → Stand p l e R s m args below meth c T locs cells slots →
    (∃ (v : Option Value) (st₀ t T' : State) (L : List Loc), st₀.heap = H ∧ Stand p l e R s m args below meth c T' (locs ++ L) (cells + mc) (slots + ms) ∧ (∀ q ∈ L, free q.base) ∧ T'.heap = t.heap ∧ T'.vm = t.vm ∧ Qa st₀ (.returned v) t ∧
      Goes p e below T g T' { g with pc := g.pc + 3, stack := v.toList ++ rest }) ∨
    (∃ (q : Addr) (st₀ t T' : State) (L : List Loc) (E : String) (ce : Cell), st₀.heap = H ∧ Stand p l e R s m args below meth c T' (locs ++ L) (cells + mc) (slots + ms) ∧ (∀ z ∈ L, free z.base) ∧ T'.heap = t.heap ∧ T'.vm = t.vm ∧ XC E st₀ t ∧ t.heap[q]? = some ce ∧ ce.vm = .none ∧ s.vm.findClass E = some ce.cls ∧
      Steps p.tables e below (T.setTop g) ((T'.setTop { g with stack := rest }).pushFrame (.throwing q)))
def vx_X {S : Type} (px : S → Prop) (B : String → S → State → Prop) (A : Nat → Prop) : String → State → State → Prop := fun E st t => ∃ u : S, px u ∧ B E u t ∧ va_F A st t
section Runs
variable {p : Program} {l : Launch} {e : Env} {R : Room} {s : State} {m : MethodId} {args : Array Value} {below : List Frame} {meth : Method} {c : Code} {H : Heap} {locs : List Loc} {cells slots : Nat}
variable {y : MethodName} {bytes cc : ByteArray} {maxL nL mc ms n index : Nat} {ret : Option FieldType} {ws : List Cond} {rm : Room} {Pc : Array Value → State → Prop} {Qc : Array Value → State → Outcome → State → Prop} {XC : String → State → State → Prop} {free : Addr → Prop} {Ts : List Cond} {own C : String} {b : Addr} {As rest : List Value} {g : JFrame}
theorem vx_callBack (cb : CallB R s args own index y bytes maxL ret ws rm mc ms n) (hM : vx_Met l y ws rm Pc Qc XC mc ms free) (hbl : FrameBlind Pc) : vx_Back l R p e below s args y 3 8 (PreOf R mc ms Pc) (PostOf Qc mc ms free) (vx_Post XC mc ms free) := by
  obtain ⟨hrc, hrs, hfr, hlo, hws, hcw, -, hini, -⟩ := cb
  exact vx_back (bytes := bytes) (maxL := maxL) (ret := ret) hM hbl hrc hrs hfr hlo hws hcw (fun a' U hW => word_at hW (Or.inl (by first | rfl | simp [Cond.onTables, Cond.keeps, Cond.steady])) hini)
theorem vx_runV (S : CallFix p m c cc nL s args Ts own) (hM : vx_Met l y ws rm Pc Qc XC mc ms free) (cw : CallW R s args own C index y bytes maxL ret ws rm mc ms n) (hp : PreV s H C b Pc As)
    (hg : g.method = m) (hn : As.length = n) (hsize : g.locals.size = nL) (hstack : g.stack = As.reverse ++ .ref b :: rest) (hW : 2 * g.monitorRoom + (rest.map fun v => v.category).sum ≤ 8) (hdg : decode cc g.pc = .ok (.invokevirtual index, 3)) (hf : cells + mc ≤ R.cells ∧ slots + ms ≤ R.slots) :
    vx_Run p l e R s m args below meth c H locs cells slots mc ms g rest (Qc (Value.ref b :: As).toArray) XC free := by
  have hK : vx_Back l R p e below s args y 3 8 (PreOf R mc ms Pc) (PostOf Qc mc ms free) (vx_Post XC mc ms free) := vx_callBack cw.1 hM hp.1
  obtain ⟨⟨-, -, -, -, -, -, hcode, -, hy, hlen, hl⟩, hin, hse⟩ := cw
  obtain ⟨hx, hb, hml, ho, -⟩ := S
  obtain ⟨-, ⟨cellB, hcB, hoB, hclB⟩, hPc⟩ := hp
  intro T hT X
  rcases vx_callV X hx (C := C) (bytes := bytes) (maxL := maxL) (ret := ret) ho hl hin hse hcode hy hK (by rw [hT]; exact hcB) hoB hclB hg (hsize.trans hml.symm) (argsL := As) (rest := rest) (fun sig h => hn.trans (hlen sig h)) hstack hW (by rw [hb]; exact hdg)
    (fun vm₁ hW₁ => ⟨hf.1, hf.2, hPc (T.setVm vm₁) hT hW₁⟩) with ⟨v, vm₁, ⟨U', l2, c2, s2⟩, hW₁, X', ⟨g', mk, t, L, e1, e2, hq, h1, hL, h2, h3⟩, st⟩ | ⟨q, vm₁, ⟨U', l2, c2, s2⟩, hW₁, X', ⟨g', mk, t, L, E, ce, e1, e2, hq, hce, hcv, hcl, h1, hL, h2, h3⟩, st⟩
  · dsimp only [Pt.U, Pt.locs, Pt.cells, Pt.slots] at X' e1 e2 h1 h2 h3 st
    subst h1; subst h2; subst h3
    exact Or.inl ⟨v, (T.setVm vm₁).calling g' mk (Value.ref b :: As).toArray, t, U', L, hT, X', hL, e1, e2, hq, st⟩
  · dsimp only [Pt.U, Pt.locs, Pt.cells, Pt.slots] at X' e1 e2 h1 h2 h3 st hcl
    subst h1; subst h2; subst h3
    exact Or.inr ⟨q, (T.setVm vm₁).calling g' mk (Value.ref b :: As).toArray, t, U', L, E, ce, hT, X', hL, e1, e2, hq, hce, hcv, vx_cls hW₁ hcl, st⟩
theorem vx_runS (S : CallFix p m c cc nL s args Ts own) (hM : vx_Met l y ws rm Pc Qc XC mc ms free) (cw : CallB R s args own index y bytes maxL ret ws rm mc ms n ∧ (Cond.static y).before args s = true) (hp : PreS s H Pc As)
    (hg : g.method = m) (hn : As.length = n) (hsize : g.locals.size = nL) (hstack : g.stack = As.reverse ++ rest) (hW : 2 * g.monitorRoom + (rest.map fun v => v.category).sum ≤ 8) (hdg : decode cc g.pc = .ok (.invokestatic index, 3)) (hf : cells + mc ≤ R.cells ∧ slots + ms ≤ R.slots) :
    vx_Run p l e R s m args below meth c H locs cells slots mc ms g rest (Qc As.toArray) XC free := by
  have hK : vx_Back l R p e below s args y 3 8 (PreOf R mc ms Pc) (PostOf Qc mc ms free) (vx_Post XC mc ms free) := vx_callBack cw.1 hM hp.1
  obtain ⟨⟨-, -, -, -, -, -, hcode, hini, hy, hlen, hl⟩, hstt⟩ := cw
  obtain ⟨hx, hb, hml, ho, -⟩ := S
  intro T hT X
  rcases vx_callS X hx (bytes := bytes) (maxL := maxL) (ret := ret) ho hl hstt hini hcode hy hK hg (hsize.trans hml.symm) (argsL := As) (rest := rest) (fun sig h => hn.trans (hlen sig h)) hstack hW (by rw [hb]; exact hdg)
    (fun vm₁ hW₁ => ⟨hf.1, hf.2, hp.2 (T.setVm vm₁) hT hW₁⟩) with ⟨v, vm₁, ⟨U', l2, c2, s2⟩, hW₁, X', ⟨g', mk, t, L, e1, e2, hq, h1, hL, h2, h3⟩, st⟩ | ⟨q, vm₁, ⟨U', l2, c2, s2⟩, hW₁, X', ⟨g', mk, t, L, E, ce, e1, e2, hq, hce, hcv, hcl, h1, hL, h2, h3⟩, st⟩
  · dsimp only [Pt.U, Pt.locs, Pt.cells, Pt.slots] at X' e1 e2 h1 h2 h3 st
    subst h1; subst h2; subst h3
    exact Or.inl ⟨v, (T.setVm vm₁).calling g' mk As.toArray, t, U', L, hT, X', hL, e1, e2, hq, st⟩
  · dsimp only [Pt.U, Pt.locs, Pt.cells, Pt.slots] at X' e1 e2 h1 h2 h3 st hcl
    subst h1; subst h2; subst h3
    exact Or.inr ⟨q, (T.setVm vm₁).calling g' mk As.toArray, t, U', L, E, ce, hT, X', hL, e1, e2, hq, hce, hcv, vx_cls hW₁ hcl, st⟩
end Runs
section Rows
variable {p : Program} {l : Launch} {e : Env} {R : Room} {s : State} {m : MethodId} {args : Array Value} {below : List Frame} {meth : Method} {c : Code} {H : Heap} {locs : List Loc} {cells slots : Nat} {Q : State → Prop}
variable {mc ms : Nat} {free : Addr → Prop} {A0 A1 : Nat → Prop} {H0 : Heap} {a : Array Value} {pc : Nat} {ls : Array Slot} {st0 rest : List Value}
theorem vx_keep {st₀ t T' : State} {L : List Loc} (h0 : st₀.heap = H) (e1 : T'.heap = t.heap) (hS : va_S A0 H0 H locs) (hA : ∀ q, q < H.size → A1 q → A0 q) (hf : ∀ q, free q → A0 q) (hL : ∀ q ∈ L, free q.base) (hF : va_F A1 st₀ t) :
    H.size ≤ T'.heap.size ∧ (∀ q : Nat, q < H.size → ¬ A1 q → T'.heap[q]? = H[q]?) ∧ va_S A0 H0 T'.heap (locs ++ L) := by
  obtain ⟨hz, hk⟩ := hF
  rw [h0] at hz hk
  exact ⟨by rw [e1]; exact hz, fun q h1 h2 => by rw [e1]; exact hk q h1 h2,
    ⟨Nat.le_trans hS.1 (by rw [e1]; exact hz), fun q h1 h2 => by rw [e1, hk q (Nat.lt_of_lt_of_le h1 hS.1) (fun z => h2 (hA q (Nat.lt_of_lt_of_le h1 hS.1) z))]; exact hS.2.1 q h1 h2, fun q hq => by
      rcases List.mem_append.mp hq with h | h
      · exact hS.2.2 q h
      · exact hf _ (hL q h)⟩⟩
theorem vx_calli {S SX : Type} {post : Int32 → S → Prop} {px : SX → Prop} {B : S → State → Prop} {BX : String → SX → State → Prop} {AX : Nat → Prop} (hr : vx_Run p l e R s m args below meth c H locs cells slots mc ms (F0 m pc ls st0) rest (va_Qi post B A1 a) (vx_X px BX AX) free) (hS : va_S A0 H0 H locs) (hA : ∀ q, q < H.size → A1 q → A0 q) (hf : ∀ q, free q → A0 q) (hAX : ∀ q, q < H.size → AX q → A0 q)
    (kx : ∀ (E : String) (ce : Cell) (q9 : Addr) (u : SX) (t : State) (H1 : Heap) (locs1 : List Loc), t.heap = H1 → s.vm.Alike t.vm → px u → BX E u t → H.size ≤ H1.size → (∀ q : Nat, q < H.size → ¬ AX q → H1[q]? = H[q]?) → va_S A0 H0 H1 locs1 → H1[q9]? = some ce → ce.vm = .none → s.vm.findClass E = some ce.cls → vx_W p l e R s m args below meth c H1 locs1 (cells + mc) (slots + ms) Q (F0 m pc ls rest) q9)
    (kk : ∀ (r : Int32) (u : S) (t : State) (H1 : Heap) (locs1 : List Loc), t.heap = H1 → s.vm.Alike t.vm → post r u → B u t → H.size ≤ H1.size → (∀ q : Nat, q < H.size → ¬ A1 q → H1[q]? = H[q]?) → va_S A0 H0 H1 locs1 → W p l e R s m args below meth c H1 locs1 (cells + mc) (slots + ms) Q (F0 m (pc + 3) ls (.int r :: rest))) : W p l e R s m args below meth c H locs cells slots Q (F0 m pc ls st0) := by
  intro T hT X
  rcases hr T hT X with ⟨v, st₀, t, T', L, h0, X', hL, e1, e2, ⟨⟨r, u, hv, hp, hb⟩, hF⟩, st⟩ | ⟨q, st₀, t, T', L, E, ce, h0, X', hL, e1, e2, ⟨u, hp, hb, hF⟩, hce, hcv, hcl, st⟩
  · cases hv
    obtain ⟨k1, k2, k3⟩ := vx_keep h0 e1 hS hA hf hL hF
    obtain ⟨t2, a1, b1⟩ := kk r u t T'.heap (locs ++ L) e1.symm (by rw [← e2]; exact X'.warmed.alike) hp hb k1 k2 k3 T' rfl X'
    exact ⟨t2, st t2 a1, b1⟩
  · obtain ⟨k1, k2, k3⟩ := vx_keep h0 e1 hS hAX hf hL hF
    obtain ⟨t2, a1, b1⟩ := kx E ce q u t T'.heap (locs ++ L) e1.symm (by rw [← e2]; exact X'.warmed.alike) hp hb k1 k2 k3 (by rw [e1]; exact hce) hcv hcl T' rfl X'
    exact ⟨t2, st.trans a1, b1⟩
theorem vx_calll {S SX : Type} {post : Int64 → S → Prop} {px : SX → Prop} {B : S → State → Prop} {BX : String → SX → State → Prop} {AX : Nat → Prop} (hr : vx_Run p l e R s m args below meth c H locs cells slots mc ms (F0 m pc ls st0) rest (va_Ql post B A1 a) (vx_X px BX AX) free) (hS : va_S A0 H0 H locs) (hA : ∀ q, q < H.size → A1 q → A0 q) (hf : ∀ q, free q → A0 q) (hAX : ∀ q, q < H.size → AX q → A0 q)
    (kx : ∀ (E : String) (ce : Cell) (q9 : Addr) (u : SX) (t : State) (H1 : Heap) (locs1 : List Loc), t.heap = H1 → s.vm.Alike t.vm → px u → BX E u t → H.size ≤ H1.size → (∀ q : Nat, q < H.size → ¬ AX q → H1[q]? = H[q]?) → va_S A0 H0 H1 locs1 → H1[q9]? = some ce → ce.vm = .none → s.vm.findClass E = some ce.cls → vx_W p l e R s m args below meth c H1 locs1 (cells + mc) (slots + ms) Q (F0 m pc ls rest) q9)
    (kk : ∀ (r : Int64) (u : S) (t : State) (H1 : Heap) (locs1 : List Loc), t.heap = H1 → s.vm.Alike t.vm → post r u → B u t → H.size ≤ H1.size → (∀ q : Nat, q < H.size → ¬ A1 q → H1[q]? = H[q]?) → va_S A0 H0 H1 locs1 → W p l e R s m args below meth c H1 locs1 (cells + mc) (slots + ms) Q (F0 m (pc + 3) ls (.long r :: rest))) : W p l e R s m args below meth c H locs cells slots Q (F0 m pc ls st0) := by
  intro T hT X
  rcases hr T hT X with ⟨v, st₀, t, T', L, h0, X', hL, e1, e2, ⟨⟨r, u, hv, hp, hb⟩, hF⟩, st⟩ | ⟨q, st₀, t, T', L, E, ce, h0, X', hL, e1, e2, ⟨u, hp, hb, hF⟩, hce, hcv, hcl, st⟩
  · cases hv
    obtain ⟨k1, k2, k3⟩ := vx_keep h0 e1 hS hA hf hL hF
    obtain ⟨t2, a1, b1⟩ := kk r u t T'.heap (locs ++ L) e1.symm (by rw [← e2]; exact X'.warmed.alike) hp hb k1 k2 k3 T' rfl X'
    exact ⟨t2, st t2 a1, b1⟩
  · obtain ⟨k1, k2, k3⟩ := vx_keep h0 e1 hS hAX hf hL hF
    obtain ⟨t2, a1, b1⟩ := kx E ce q u t T'.heap (locs ++ L) e1.symm (by rw [← e2]; exact X'.warmed.alike) hp hb k1 k2 k3 (by rw [e1]; exact hce) hcv hcl T' rfl X'
    exact ⟨t2, st.trans a1, b1⟩
theorem vx_callf {S SX : Type} {post : UInt32 → S → Prop} {px : SX → Prop} {B : S → State → Prop} {BX : String → SX → State → Prop} {AX : Nat → Prop} (hr : vx_Run p l e R s m args below meth c H locs cells slots mc ms (F0 m pc ls st0) rest (va_Qf post B A1 a) (vx_X px BX AX) free) (hS : va_S A0 H0 H locs) (hA : ∀ q, q < H.size → A1 q → A0 q) (hf : ∀ q, free q → A0 q) (hAX : ∀ q, q < H.size → AX q → A0 q)
    (kx : ∀ (E : String) (ce : Cell) (q9 : Addr) (u : SX) (t : State) (H1 : Heap) (locs1 : List Loc), t.heap = H1 → s.vm.Alike t.vm → px u → BX E u t → H.size ≤ H1.size → (∀ q : Nat, q < H.size → ¬ AX q → H1[q]? = H[q]?) → va_S A0 H0 H1 locs1 → H1[q9]? = some ce → ce.vm = .none → s.vm.findClass E = some ce.cls → vx_W p l e R s m args below meth c H1 locs1 (cells + mc) (slots + ms) Q (F0 m pc ls rest) q9)
    (kk : ∀ (r : UInt32) (u : S) (t : State) (H1 : Heap) (locs1 : List Loc), t.heap = H1 → s.vm.Alike t.vm → post r u → B u t → H.size ≤ H1.size → (∀ q : Nat, q < H.size → ¬ A1 q → H1[q]? = H[q]?) → va_S A0 H0 H1 locs1 → W p l e R s m args below meth c H1 locs1 (cells + mc) (slots + ms) Q (F0 m (pc + 3) ls (.float r :: rest))) : W p l e R s m args below meth c H locs cells slots Q (F0 m pc ls st0) := by
  intro T hT X
  rcases hr T hT X with ⟨v, st₀, t, T', L, h0, X', hL, e1, e2, ⟨⟨r, u, hv, hp, hb⟩, hF⟩, st⟩ | ⟨q, st₀, t, T', L, E, ce, h0, X', hL, e1, e2, ⟨u, hp, hb, hF⟩, hce, hcv, hcl, st⟩
  · cases hv
    obtain ⟨k1, k2, k3⟩ := vx_keep h0 e1 hS hA hf hL hF
    obtain ⟨t2, a1, b1⟩ := kk r u t T'.heap (locs ++ L) e1.symm (by rw [← e2]; exact X'.warmed.alike) hp hb k1 k2 k3 T' rfl X'
    exact ⟨t2, st t2 a1, b1⟩
  · obtain ⟨k1, k2, k3⟩ := vx_keep h0 e1 hS hAX hf hL hF
    obtain ⟨t2, a1, b1⟩ := kx E ce q u t T'.heap (locs ++ L) e1.symm (by rw [← e2]; exact X'.warmed.alike) hp hb k1 k2 k3 (by rw [e1]; exact hce) hcv hcl T' rfl X'
    exact ⟨t2, st.trans a1, b1⟩
theorem vx_calld {S SX : Type} {post : UInt64 → S → Prop} {px : SX → Prop} {B : S → State → Prop} {BX : String → SX → State → Prop} {AX : Nat → Prop} (hr : vx_Run p l e R s m args below meth c H locs cells slots mc ms (F0 m pc ls st0) rest (va_Qd post B A1 a) (vx_X px BX AX) free) (hS : va_S A0 H0 H locs) (hA : ∀ q, q < H.size → A1 q → A0 q) (hf : ∀ q, free q → A0 q) (hAX : ∀ q, q < H.size → AX q → A0 q)
    (kx : ∀ (E : String) (ce : Cell) (q9 : Addr) (u : SX) (t : State) (H1 : Heap) (locs1 : List Loc), t.heap = H1 → s.vm.Alike t.vm → px u → BX E u t → H.size ≤ H1.size → (∀ q : Nat, q < H.size → ¬ AX q → H1[q]? = H[q]?) → va_S A0 H0 H1 locs1 → H1[q9]? = some ce → ce.vm = .none → s.vm.findClass E = some ce.cls → vx_W p l e R s m args below meth c H1 locs1 (cells + mc) (slots + ms) Q (F0 m pc ls rest) q9)
    (kk : ∀ (r : UInt64) (u : S) (t : State) (H1 : Heap) (locs1 : List Loc), t.heap = H1 → s.vm.Alike t.vm → post r u → B u t → H.size ≤ H1.size → (∀ q : Nat, q < H.size → ¬ A1 q → H1[q]? = H[q]?) → va_S A0 H0 H1 locs1 → W p l e R s m args below meth c H1 locs1 (cells + mc) (slots + ms) Q (F0 m (pc + 3) ls (.double r :: rest))) : W p l e R s m args below meth c H locs cells slots Q (F0 m pc ls st0) := by
  intro T hT X
  rcases hr T hT X with ⟨v, st₀, t, T', L, h0, X', hL, e1, e2, ⟨⟨r, u, hv, hp, hb⟩, hF⟩, st⟩ | ⟨q, st₀, t, T', L, E, ce, h0, X', hL, e1, e2, ⟨u, hp, hb, hF⟩, hce, hcv, hcl, st⟩
  · cases hv
    obtain ⟨k1, k2, k3⟩ := vx_keep h0 e1 hS hA hf hL hF
    obtain ⟨t2, a1, b1⟩ := kk r u t T'.heap (locs ++ L) e1.symm (by rw [← e2]; exact X'.warmed.alike) hp hb k1 k2 k3 T' rfl X'
    exact ⟨t2, st t2 a1, b1⟩
  · obtain ⟨k1, k2, k3⟩ := vx_keep h0 e1 hS hAX hf hL hF
    obtain ⟨t2, a1, b1⟩ := kx E ce q u t T'.heap (locs ++ L) e1.symm (by rw [← e2]; exact X'.warmed.alike) hp hb k1 k2 k3 (by rw [e1]; exact hce) hcv hcl T' rfl X'
    exact ⟨t2, st.trans a1, b1⟩
theorem vx_callv {S SX : Type} {post : S → Prop} {px : SX → Prop} {B : S → State → Prop} {BX : String → SX → State → Prop} {AX : Nat → Prop} (hr : vx_Run p l e R s m args below meth c H locs cells slots mc ms (F0 m pc ls st0) rest (va_Qv post B A1 a) (vx_X px BX AX) free) (hS : va_S A0 H0 H locs) (hA : ∀ q, q < H.size → A1 q → A0 q) (hf : ∀ q, free q → A0 q) (hAX : ∀ q, q < H.size → AX q → A0 q)
    (kx : ∀ (E : String) (ce : Cell) (q9 : Addr) (u : SX) (t : State) (H1 : Heap) (locs1 : List Loc), t.heap = H1 → s.vm.Alike t.vm → px u → BX E u t → H.size ≤ H1.size → (∀ q : Nat, q < H.size → ¬ AX q → H1[q]? = H[q]?) → va_S A0 H0 H1 locs1 → H1[q9]? = some ce → ce.vm = .none → s.vm.findClass E = some ce.cls → vx_W p l e R s m args below meth c H1 locs1 (cells + mc) (slots + ms) Q (F0 m pc ls rest) q9)
    (kk : ∀ (u : S) (t : State) (H1 : Heap) (locs1 : List Loc), t.heap = H1 → s.vm.Alike t.vm → post u → B u t → H.size ≤ H1.size → (∀ q : Nat, q < H.size → ¬ A1 q → H1[q]? = H[q]?) → va_S A0 H0 H1 locs1 → W p l e R s m args below meth c H1 locs1 (cells + mc) (slots + ms) Q (F0 m (pc + 3) ls (rest))) : W p l e R s m args below meth c H locs cells slots Q (F0 m pc ls st0) := by
  intro T hT X
  rcases hr T hT X with ⟨v, st₀, t, T', L, h0, X', hL, e1, e2, ⟨⟨u, hv, hp, hb⟩, hF⟩, st⟩ | ⟨q, st₀, t, T', L, E, ce, h0, X', hL, e1, e2, ⟨u, hp, hb, hF⟩, hce, hcv, hcl, st⟩
  · cases hv
    obtain ⟨k1, k2, k3⟩ := vx_keep h0 e1 hS hA hf hL hF
    obtain ⟨t2, a1, b1⟩ := kk u t T'.heap (locs ++ L) e1.symm (by rw [← e2]; exact X'.warmed.alike) hp hb k1 k2 k3 T' rfl X'
    exact ⟨t2, st t2 a1, b1⟩
  · obtain ⟨k1, k2, k3⟩ := vx_keep h0 e1 hS hAX hf hL hF
    obtain ⟨t2, a1, b1⟩ := kx E ce q u t T'.heap (locs ++ L) e1.symm (by rw [← e2]; exact X'.warmed.alike) hp hb k1 k2 k3 (by rw [e1]; exact hce) hcv hcl T' rfl X'
    exact ⟨t2, st.trans a1, b1⟩
/-- caught by the row x of this method's table; the rows ahead don't take it -/
theorem vx_catch {own name : String} {E : String} {ce : Cell} {q : Addr} (hown : s.vm.findClass own = some m.cls) (pre : List ExceptionTableEntry) (x : ExceptionTableEntry) (suf : List ExceptionTableEntry) (hsplit : c.exceptionTable.toList = pre ++ x :: suf)
    (hpass : ∀ z ∈ pre, covers z pc = false ∨ (z.catchType ≠ 0 ∧ ∃ nm : String, (Cond.classLink own z.catchType nm).before args s = true ∧ va_Nc E nm s)) (hx : covers x pc = true) (h0 : x.catchType ≠ 0)
    (hlink : (Cond.classLink own x.catchType name).before args s = true) (hcast : (Cond.castable E name).before args s = true) (hcell : H[q]? = some ce) (hv : ce.vm = .none) (hcl : s.vm.findClass E = some ce.cls)
    (kk : W p l e R s m args below meth c H locs cells slots Q (F0 m x.handlerPc ls [.ref q])) : vx_W p l e R s m args below meth c H locs cells slots Q (F0 m pc ls rest) q := by
  intro T hT X
  have hpl : e.platform.magicAccessors = ({} : Platform).magicAccessors := by rw [X.admits.platform]
  obtain ⟨c3, c4, hc3, hc4, hasg⟩ := Cond.castable_spec hcast
  cases Option.some.inj (hc3.symm.trans hcl)
  obtain ⟨c5, hc5, hcl5⟩ := Cond.classLink_spec hown hlink e.platform hpl
  cases Option.some.inj (hc4.symm.trans hc5)
  obtain ⟨vm', X', st⟩ := X.thenCaughtThrough q (g := F0 m pc ls rest) rfl (Steps.refl _) (by rw [hT]; exact hcell) (by rw [hv]; rfl) (by obtain ⟨k9, h9, -⟩ := Vm.findClass_spec hcl; exact ⟨k9, h9⟩) pre x suf hsplit
    (fun z hz => by
      rcases hpass z hz with h | ⟨hz0, nm, hl1, hn1⟩
      · exact Or.inl h
      · obtain ⟨c6, hc6, hcl6⟩ := Cond.classLink_spec hown hl1 e.platform hpl
        obtain ⟨a8, b8, h1, h2, h3⟩ := hn1
        cases Option.some.inj (h1.symm.trans hcl)
        cases Option.some.inj (h2.symm.trans hc6)
        exact Or.inr ⟨hz0, _, hcl6, h3⟩) hx (Or.inr ⟨h0, c4, hcl5, hasg⟩)
  obtain ⟨t, a1, b1⟩ := kk (T.setVm vm') hT X'
  exact ⟨t, st.trans a1, b1⟩
end Rows
section Ends
variable {p : Program} {l : Launch} {e : Env} {R : Room} {s : State} {m : MethodId} {args : Array Value} {below : List Frame} {meth : Method} {c : Code} {H : Heap} {locs : List Loc} {cells slots : Nat} {Q : State → Prop}
variable {mc ms : Nat} {free : Addr → Prop} {A0 A1 : Nat → Prop} {H0 : Heap} {a : Array Value} {ls : Array Slot} {st0 rest : List Value}
variable {Qc : Array Value → State → Outcome → State → Prop} {XC : String → State → State → Prop}
/-- what a body that may throw owes at its end -/
def vx_MQ (below : List Frame) (Qc : Array Value → State → Outcome → State → Prop) (XC : String → State → State → Prop) (a : Array Value) (s : State) (mc ms : Nat) (free : Addr → Prop) : State → Prop := fun t =>
  ∃ o, t.status = .running ∧ Ended t below o ∧ vx_Q Qc XC mc ms free a s o t
theorem vx_ret {g : JFrame} {mc ms : Nat} (k : W p l e R s m args below meth c H locs cells slots (MQ below Qc args s mc ms free) g) : W p l e R s m args below meth c H locs cells slots (vx_MQ below Qc XC args s mc ms free) g := by
  intro T hT X
  obtain ⟨t, a1, o, b1, b2, b3, b4⟩ := k T hT X
  exact ⟨t, a1, o, b1, b2, Or.inl ⟨b3, b4⟩⟩
/-- not caught here: it goes on to the caller -/
theorem vx_widen {g : JFrame} {q : Addr} {k n : Nat} (h1 : cells ≤ k) (h2 : slots ≤ n) (kk : vx_W p l e R s m args below meth c H locs k n Q g q) : vx_W p l e R s m args below meth c H locs cells slots Q g q := fun T hT X => kk T hT (stand_widen X h1 h2)
theorem vx_out {pc : Nat} {E : String} {ce : Cell} {q : Addr} {mc ms : Nat} (hout : ∀ x ∈ c.exceptionTable.toList, covers x pc = false) (hlocks : meth.locks = false) (hcell : H[q]? = some ce) (hv : ce.vm = .none) (hcl : s.vm.findClass E = some ce.cls)
    (hx : ∀ t : State, t.heap = H → s.vm.Alike t.vm → XC E s t) (hf : ∀ z ∈ locs, free z.base) (hc : cells ≤ mc) (hs : slots ≤ ms) :
    vx_W p l e R s m args below meth c H locs cells slots (vx_MQ below Qc XC args s mc ms free) (F0 m pc ls rest) q := by
  intro T hT X
  obtain ⟨st1, hrun, hend, hW, hsm⟩ := X.leaveThrown q (g := F0 m pc ls rest) rfl rfl rfl hout hlocks
  have hcell9 : (T.setFrames (.throwing q :: below)).heap[q]? = some ce := by
    show T.heap[q]? = some ce
    rw [hT]; exact hcell
  exact ⟨_, st1, .threw q, hrun, hend, Or.inr ⟨q, rfl, E, ce, locs, hx _ hT hW.alike, hcell9, hv, hcl, hW, hsm.mono hc hs, hf⟩⟩
theorem vx_frame {U : State} {k n : Nat} (h : s.sameButNew ({ U with vm := s.vm } : State) locs k n) : s.heap.size ≤ U.heap.size ∧ ∀ q : Nat, q < s.heap.size → (∀ z ∈ locs, z.base ≠ q) → U.heap[q]? = s.heap[q]? := by
  obtain ⟨-, h2, -, -, -, h6⟩ := h
  refine ⟨h2, fun q hq hz => ?_⟩
  obtain ⟨c9, e1, e2, e3, e4⟩ := h6 q _ (Array.getElem?_eq_getElem hq)
  have hs : c9.slots = (s.heap[q]).slots := Array.ext_getElem? fun i => e4 i fun hm => hz _ hm rfl
  have h9 : c9 = s.heap[q] := by
    rw [hs] at e2
    exact e2
  have e5 : U.heap[q]? = some c9 := e1
  rw [e5, h9, Array.getElem?_eq_getElem hq]
/-- the words of a throw but the four that speak of the heap -/
def vx_no (w : Cond) : Bool := decide (w ≠ .isRef (.static Bundle.tN "UNASSIGNED_STACK" Bundle.steD)) && decide (w ≠ .isRef (.static Bundle.tN "SUPPRESSED_SENTINEL" Bundle.listD)) && decide (w ≠ .laysStatic Bundle.tN "UNASSIGNED_STACK" Bundle.steD) && decide (w ≠ .laysStatic Bundle.tN "SUPPRESSED_SENTINEL" Bundle.listD)
def vx_at0 (own : String) (ic : Nat) (X : String) (names : List String) : List Cond := (Bundle.ownAtoms0 own ic X names).filter vx_no
def vx_atS (own : String) (ic : Nat) (X : String) (names : List String) : List Cond := (Bundle.ownAtoms own ic X names).filter vx_no
/-- a word that the tables alone decide, or a good one -/
def vx_ot (w : Cond) : Bool := w.onTables || goodWord w
theorem vx_ot_at {args a' : Array Value} {s U : State} {w : Cond} (hW : s.WarmedH U.vm) (hvm : s.vm = U.vm) (hg : vx_ot w = true) (h : w.before args s = true) : w.before a' U = true := by
  simp only [vx_ot, Bool.or_eq_true] at hg
  rcases hg with hg | hg
  · exact va_tabs hg hvm h
  · exact word_at hW (good_of_word hg) h
/-- a list's words: the good ones out of the method's own list, the others by premises of their own -/
theorem vx_hat {args : Array Value} {s : State} {L B : List Cond} (h1 : ∀ w ∈ L.filter goodWord, w.before args s = true) (h2 : ∀ w ∈ L.filter (fun w => !goodWord w), w ∈ B) (h3 : ∀ w ∈ B, w.before args s = true) : ∀ w ∈ L, w.before args s = true := by
  intro w hw
  by_cases g : goodWord w = true
  · exact h1 w (List.mem_filter.mpr ⟨hw, g⟩)
  · refine h3 w (h2 w (List.mem_filter.mpr ⟨hw, ?_⟩))
    show (!goodWord w) = true
    cases hgw : goodWord w
    · rfl
    · exact absurd hgw g
theorem vx_c {args : Array Value} {s : State} {w : Cond} {B : List Cond} (h : w.before args s = true) (t : ∀ w ∈ B, w.before args s = true) : ∀ w' ∈ w :: B, w'.before args s = true := fun w' h' => (List.mem_cons.mp h').elim (fun e => by rw [e]; exact h) (t w')
theorem vx_n {args : Array Value} {s : State} : ∀ w ∈ ([] : List Cond), w.before args s = true := fun _ h => nomatch h
theorem vx_own {args : Array Value} {s : State} {L : List Cond} (h1 : ∀ w ∈ L.filter vx_no, w.before args s = true)
    (hU : (Cond.isRef (.static Bundle.tN "UNASSIGNED_STACK" Bundle.steD)).before args s = true) (hN : (Cond.isRef (.static Bundle.tN "SUPPRESSED_SENTINEL" Bundle.listD)).before args s = true)
    (lU : (Cond.laysStatic Bundle.tN "UNASSIGNED_STACK" Bundle.steD).before args s = true) (lN : (Cond.laysStatic Bundle.tN "SUPPRESSED_SENTINEL" Bundle.listD).before args s = true) : ∀ w ∈ L, w.before args s = true := by
  intro w hw
  by_cases e1 : w = .isRef (.static Bundle.tN "UNASSIGNED_STACK" Bundle.steD)
  · rw [e1]; exact hU
  · by_cases e2 : w = .isRef (.static Bundle.tN "SUPPRESSED_SENTINEL" Bundle.listD)
    · rw [e2]; exact hN
    · by_cases e3 : w = .laysStatic Bundle.tN "UNASSIGNED_STACK" Bundle.steD
      · rw [e3]; exact lU
      · by_cases e4 : w = .laysStatic Bundle.tN "SUPPRESSED_SENTINEL" Bundle.listD
        · rw [e4]; exact lN
        · exact h1 w (List.mem_filter.mpr ⟨hw, by unfold vx_no; rw [decide_eq_true e1, decide_eq_true e2, decide_eq_true e3, decide_eq_true e4]; rfl⟩)
/-- where a static field lies, its class's statics cell in H -/
def vx_L (C n d : String) (A : Nat → Prop) (U : State) (H : Heap) : Prop := ∃ (c : ClassId) (k : Class) (i : Nat) (f : Field) (a : Nat) (cell : Cell), U.vm.findClass C = some c ∧ U.fieldFound? C n d = some (c, k, i, f) ∧ f.isStatic = true ∧ k.statics = some a ∧ H[a]? = some cell ∧ cell.vm.isStatics = true ∧ cell.cls = c ∧ f.slot < cell.slots.size ∧ k.staticTypes[f.slot]? = some f.type ∧ ¬ A a
theorem vx_L.moved {C n d : String} {A : Nat → Prop} {u U : State} {H : Heap} (hvm : u.vm.Alike U.vm) (h : vx_L C n d A u H) : vx_L C n d A U H := by
  obtain ⟨c, k, i, f, a, cell, h1, h2, h3, h4, h5, h6, h7, h8, h9, h10⟩ := h
  obtain ⟨k', hi', he⟩ := State.fieldFound?_setVm hvm h2
  exact ⟨c, k', i, f, a, cell, by rw [hvm.findClass]; exact h1, hi', h3, by rw [he]; exact h4, h5, h6, h7, h8, by rw [he]; exact h9, h10⟩
theorem vx_L.kept {C n d : String} {A : Nat → Prop} {U : State} {H H1 : Heap} (h : vx_L C n d A U H) (hq : ∀ a : Nat, a < H.size → ¬ A a → H1[a]? = H[a]?) : vx_L C n d A U H1 := by
  obtain ⟨c, k, i, f, a, cell, h1, h2, h3, h4, h5, h6, h7, h8, h9, h10⟩ := h
  exact ⟨c, k, i, f, a, cell, h1, h2, h3, h4, by rw [hq a (Array.getElem?_eq_some_iff.mp h5).1 h10]; exact h5, h6, h7, h8, h9, h10⟩
theorem vx_L.narrow {C n d : String} {A B : Nat → Prop} {U : State} {H : Heap} (h : vx_L C n d A U H) (hAB : ∀ q, B q → A q) : vx_L C n d B U H := by
  obtain ⟨c, k, i, f, a, cell, h1, h2, h3, h4, h5, h6, h7, h8, h9, h10⟩ := h
  exact ⟨c, k, i, f, a, cell, h1, h2, h3, h4, h5, h6, h7, h8, h9, fun z => h10 (hAB _ z)⟩
theorem vx_L.word {C n d : String} {A : Nat → Prop} {s : State} {args : Array Value} (h : vx_L C n d A s s.heap) : (Cond.laysStatic C n d).before args s = true := by
  obtain ⟨c, k, i, f, a, cell, h1, h2, h3, h4, h5, h6, h7, h8, h9, -⟩ := h
  show (Cond.laysStatic C n d).holds args s none s [] = true
  exact Cond.laysStatic_of h1 h2 h3 h4 h5 h6 h7 h8 h9
/-- .. and what it holds: null or some reference -/
def vx_Zq (C n d : String) (A : Nat → Prop) (U : State) (H : Heap) : Prop := va_Zq C n d A U H ∧ vx_L C n d A U H
theorem vx_Zq.moved {C n d : String} {A : Nat → Prop} {u U : State} {H : Heap} (hvm : u.vm.Alike U.vm) (h : vx_Zq C n d A u H) : vx_Zq C n d A U H := ⟨va_Zq.moved hvm h.1, vx_L.moved hvm h.2⟩
theorem vx_Zq.kept {C n d : String} {A : Nat → Prop} {U : State} {H H1 : Heap} (h : vx_Zq C n d A U H) (hq : ∀ a : Nat, a < H.size → ¬ A a → H1[a]? = H[a]?) : vx_Zq C n d A U H1 := ⟨va_Zq.kept h.1 hq, vx_L.kept h.2 hq⟩
theorem vx_Zq.narrow {C n d : String} {A B : Nat → Prop} {U : State} {H : Heap} (h : vx_Zq C n d A U H) (hAB : ∀ q, B q → A q) : vx_Zq C n d B U H := ⟨va_Zq.narrow h.1 hAB, vx_L.narrow h.2 hAB⟩
theorem vx_Zqof {args : Array Value} {s : State} {C n d : String} {A : Nat → Prop} (hl : (Cond.laysStatic C n d).before args s = true) (hini : (Cond.initialized C).before args s = true) (h : (Cond.isRef (.static C n d)).before args s = true) (hA : ∀ a : Nat, a < s.heap.size → ¬ A a) : vx_Zq C n d A s s.heap := by
  refine ⟨va_Zqof hl hini h hA, ?_⟩
  obtain ⟨c, k, i, f, a, cell, h1, h2, h3, h4, h5, h6, h7, h8, h9⟩ := Cond.laysStatic_spec hl
  exact ⟨c, k, i, f, a, cell, h1, h2, h3, h4, h5, h6, h7, h8, h9, hA a (Array.getElem?_eq_some_iff.mp h5).1⟩
theorem vx_isRef {C n d : String} {v : Value} {A : Nat → Prop} {s : State} {args : Array Value} (h : va_Z C n d v A s s.heap) (hv : v.isRef = true) : (Cond.isRef (.static C n d)).before args s = true := by
  obtain ⟨cf, kf, fi, f, a, cell, h1, h2, h3, h4, h5, h6, h7, -⟩ := h
  have he : (Term.static C n d).eval args s none [] s = some v := by
    simp [Term.eval, State.fieldNamed?, h1, h2, h4, h5, h6, h7]
  simp only [Cond.before, Cond.holds, Cond.value, he]
  cases v <;> simp_all [Value.isRef]
theorem vx_isRefq {C n d : String} {A : Nat → Prop} {s : State} {args : Array Value} (h : va_Zq C n d A s s.heap) : (Cond.isRef (.static C n d)).before args s = true := by
  rcases h with h | ⟨t, h⟩
  · exact vx_isRef h rfl
  · exact vx_isRef h rfl
/-- the same frame, seen from here: as if the method were called anew in this heap -/
theorem vx_rebase {T : State} (X : Stand p l e R s m args below meth c T locs cells slots) {R' : Room} (hf : R'.frames ≤ R.frames) (hl : R'.locals ≤ R.locals) (hc : cells + R'.cells ≤ R.cells) (hs : slots + R'.slots ≤ R.slots) :
    Stand p l e R' ((T.setVm s.vm).setFrames (.invoking m args :: below)) m args below meth c T [] 0 0 := by
  have htop : (T.setVm s.vm).topJava?.isSome := X.here.top
  have hF : ((T.setVm s.vm).setFrames (.invoking m args :: below)).frames = .invoking m args :: below := State.frames_setFrames _ (State.cur_lt_of_top htop)
  obtain ⟨g₀, hg0⟩ := Option.isSome_iff_exists.mp htop
  obtain ⟨r, hr⟩ := State.topJava?_eq_some.mp hg0
  have hl9 : e.platform.stackLimits (T.setVm s.vm).me = e.platform.stackLimits s.me := X.limits
  have hb9 : (T.setVm s.vm).me.stackBytes = s.me.stackBytes := X.bytes
  refine ⟨X.admits, X.cas, X.clock, hF, ?_, X.hears, X.method, X.code, X.here, X.tail, X.warmed, ?_, ?_, ?_⟩
  · have h := X.room
    have hU : ((T.setVm s.vm).setFrames (.invoking m args :: below)).localsInUse = s.localsInUse := by
      rw [State.localsInUse_invoking hF (meth := meth) (c := c) X.method X.code, State.localsInUse_invoking X.frames X.method X.code]
    simp only [State.hasRoom, Bool.and_eq_true, decide_eq_true_eq] at h ⊢
    obtain ⟨⟨⟨⟨h1, h2, h3, h4, h5, h6⟩, h7⟩, h8⟩, h9⟩ := h
    rw [X.frames, List.length_cons] at h2 h3
    have q1 := X.heapSize
    have q2 := X.used
    simp only [hF, hU, List.length_cons, State.stackLimits_setFrames, State.stackBytes_setFrames, hl9, hb9]
    refine ⟨⟨⟨⟨by omega, by omega, by omega, by omega, by omega, h6⟩, ?_⟩, ?_⟩, X.book⟩
    · show T.heap.size + R'.cells ≤ e.platform.maxCells
      omega
    · show T.slotsUsed + R'.slots ≤ e.platform.maxSlots
      omega
  · rw [State.stackLimits_setFrames]; rfl
  · rw [State.stackBytes_setFrames]; rfl
  · refine ⟨?_, Nat.le_refl _, Nat.le_refl _, ?_, ?_, fun a c9 h9 => ⟨c9, h9, rfl, rfl, fun _ _ => rfl⟩⟩
    · obtain ⟨t, ht, -⟩ := State.frames_cons hr
      show T.setVm s.vm = { ((T.setVm s.vm).setFrames (.invoking m args :: below)).setFrames (T.setVm s.vm).frames with heap := T.heap, slotsUsed := T.slotsUsed }
      rw [State.setFrames_setFrames, State.setFrames_self ht]
      rfl
    · show T.slotsUsed = T.slotsUsed + ((T.heap.toList.drop T.heap.size).map (·.slots.size)).sum
      rw [List.drop_eq_nil_of_le (Nat.le_of_eq Array.length_toList)]
      rfl
    · show ((T.heap.toList.drop T.heap.size).map (·.slots.size)).sum ≤ 0
      rw [List.drop_eq_nil_of_le (Nat.le_of_eq Array.length_toList)]
      exact Nat.le_refl _
/-- 'throw new E()': new; dup; invokespecial; athrow -/
theorem vx_throw0 {cc : ByteArray} {pc : Nat} (hexec : p.tables.exec = Jvm.exec) (hb : c.code = cc) (hl : l.stackTraces = false) {own cls : String} {names : List String} {ik ic mc ms : Nat} {A : Nat → Prop}
    (hown : s.vm.findClass own = some m.cls) (hcls : Bundle.fit cls = true) (hnames : ∀ n ∈ names, Bundle.fit n = true)
    (hk : (Cond.classLink own ik cls).before args s = true) (hini : (Cond.initialized cls).before args s = true) (hat : ∀ w ∈ vx_at0 own ic cls names, w.before args s = true)
    (hgood : ∀ w ∈ Cond.classLink own ik cls :: Cond.initialized cls :: vx_at0 own ic cls names, vx_ot w = true)
    (hU : vx_Zq Bundle.tN "UNASSIGNED_STACK" Bundle.steD A s s.heap) (hN : vx_Zq Bundle.tN "SUPPRESSED_SENTINEL" Bundle.listD A s s.heap) (hS : va_S A s.heap H locs) (hsize : ls.size = c.maxLocals)
    (d0 : decode cc pc = .ok (.new ik, 3)) (d3 : decode cc (pc + 3) = .ok (.dup, 1)) (d4 : decode cc (pc + 4) = .ok (.invokespecial ic, 3)) (d7 : decode cc (pc + 7) = .ok (.athrow, 1))
    (hout : ∀ x ∈ c.exceptionTable.toList, covers x (pc + 7) = false)
    (hRframes : names.length + 3 < R.frames) (hRlocals : (rest.map fun v => v.category).sum + (13 * (names.length + 1) + 42) ≤ R.locals) (hRcells : cells + 1 ≤ R.cells) (hRslots : slots + 6 ≤ R.slots) (hlocks : meth.locks = false)
    (hx : ∀ t : State, s.vm.Alike t.vm → H.size ≤ t.heap.size → (∀ q : Nat, q < H.size → t.heap[q]? = H[q]?) → XC cls s t)
    (hf : ∀ z ∈ locs, free z.base) (hc : cells + 1 ≤ mc) (hs : slots + 6 ≤ ms) :
    W p l e R s m args below meth c H locs cells slots (vx_MQ below Qc XC args s mc ms free) (F0 m pc ls rest) := by
  intro T hT X
  have htr : e.platform.stackTraces = false := (show e.platform.stackTraces = l.stackTraces by rw [X.admits.platform]).trans hl
  have Y := vx_rebase X (R' := { frames := R.frames, locals := R.locals, cells := 1, slots := 6 }) (Nat.le_refl _) (Nat.le_refl _) hRcells hRslots
  obtain ⟨s', hA⟩ : ∃ z, z = (T.setVm s.vm).setFrames (.invoking m args :: below) := ⟨_, rfl⟩
  rw [← hA] at Y
  have hvm : s'.vm = s.vm := by rw [hA]; rfl
  have hhp : s'.heap = H := by rw [hA]; exact hT
  have hW0 : s.WarmedH s'.vm := by rw [hvm]; exact State.WarmedH.refl s
  have hat' : ∀ w ∈ vx_at0 own ic cls names, w.before args s' = true := fun w hw => vx_ot_at hW0 hvm.symm (hgood w (List.mem_cons_of_mem _ (List.mem_cons_of_mem _ hw))) (hat w hw)
  have hk' : (Cond.classLink own ik cls).before args s' = true := vx_ot_at hW0 hvm.symm (hgood _ List.mem_cons_self) hk
  have hini' : (Cond.initialized cls).before args s' = true := vx_ot_at hW0 hvm.symm (hgood _ (List.mem_cons_of_mem _ List.mem_cons_self)) hini
  have hU' : vx_Zq Bundle.tN "UNASSIGNED_STACK" Bundle.steD A s' s'.heap := by rw [hhp]; exact vx_Zq.moved hW0.alike (hU.kept hS.2.1)
  have hN' : vx_Zq Bundle.tN "SUPPRESSED_SENTINEL" Bundle.listD A s' s'.heap := by rw [hhp]; exact vx_Zq.moved hW0.alike (hN.kept hS.2.1)
  have h : ∀ w ∈ Bundle.ownAtoms0 own ic cls names, w.before args s' = true := vx_own hat' (vx_isRefq hU'.1) (vx_isRefq hN'.1) hU'.2.word hN'.2.word
  have hown' : s'.vm.findClass own = some m.cls := by rw [hvm]; exact hown
  have hins : (Cond.instantiable cls 6).before args s' = true := h _ (by simp [Bundle.ownAtoms0])
  obtain ⟨vm₁, cX, kX, hfX, hkX, -, -, X₁, st1⟩ := Y.newCold hexec (own := own) (C := cls) (index := ik) (n := 6) hown' hk' hins hini'
    (g := F0 m pc ls rest) rfl (by rw [hb]; exact d0) (Nat.le_refl _) (Nat.le_refl _)
  generalize hT1 : (T.setVm vm₁).pushCell { cls := cX, slots := kX.instanceTypes.map defaultValue, vm := .none } = T1 at X₁ st1
  have hcat : (Value.ref T.heap.size).category = 1 := rfl
  have hcellA : T1.heap[T.heap.size]? = some (freshCell cX kX) := by rw [← hT1]; exact State.heap_pushCell_size _ _
  have d3' : decode c.code (pc + 3) = .ok (.dup, 1) := by rw [hb]; exact d3
  obtain ⟨U, hsteps, hrun, hend, hW, hsame, ce, hce, hO⟩ := X₁.ctorThrow0 hexec htr (own := own) (cls := cls) (names := names) (ic := ic) hown' hcls hnames h (fun x hx => nomatch hx) hfX hkX hcellA (by rw [hhp, hT]; exact Nat.le_refl _)
    (g := { method := m, pc := pc + 4, locals := ls, stack := .ref T.heap.size :: .ref T.heap.size :: rest, locked := none }) rfl hsize rfl rfl (rest := rest) rfl
    (by rw [hb]; exact d4) (by rw [hb]; exact d7) hout hRframes (by simp only [List.map_cons, List.sum_cons, hcat]; omega) hlocks
  obtain ⟨f1, f2⟩ := vx_frame hsame
  rw [hhp] at f1 f2
  have hWs : s.WarmedH U.vm := State.WarmedH.trans hW0 hW
  have hcl : s.vm.findClass cls = some ce.cls := by
    have h9 := hO.cls
    rw [hvm] at h9
    exact h9
  have hall : s.sameButNew ({ U with vm := s.vm } : State) locs mc ms := by
    subst hA
    obtain ⟨e1, e2⟩ := hsame
    rw [State.setFrames_setFrames] at e1
    have h2 : (T.setVm s.vm).sameButNew ({ U with vm := s.vm } : State) [] (0 + 1) (0 + 6) := ⟨e1, e2⟩
    have h3 := X.same.trans h2
    rw [List.append_nil] at h3
    exact h3.mono hc hs
  refine ⟨U, ?_, .threw T.heap.size, hrun, hend, Or.inr ⟨T.heap.size, rfl, cls, ce, locs, hx U hWs.alike f1 (fun q hq => f2 q hq (fun z hz => nomatch hz)), hce, hO.vm, hcl, hWs, hall, hf⟩⟩
  refine st1 _ ?_
  show Steps p.tables e below (T1.setTop { method := m, pc := pc + 3, locals := ls, stack := .ref T.heap.size :: rest, locked := none }) _
  jvm_step X₁.here [X₁.here.top, hexec, d3', Value.category]
  exact hsteps
/-- 'throw new E("text")': new; dup; ldc; invokespecial; athrow -/
theorem vx_throwS {cc : ByteArray} {pc : Nat} (hexec : p.tables.exec = Jvm.exec) (hb : c.code = cc) (hl : l.stackTraces = false) {own cls text : String} {names : List String} {ik is ic mc ms sa : Nat} {A : Nat → Prop}
    (hown : s.vm.findClass own = some m.cls) (hcls : Bundle.fit cls = true) (hnames : ∀ n ∈ names, Bundle.fit n = true)
    (hk : (Cond.classLink own ik cls).before args s = true) (hini : (Cond.initialized cls).before args s = true) (hstr : vk_R own is text sa s) (hat : ∀ w ∈ vx_atS own ic cls names, w.before args s = true)
    (hgood : ∀ w ∈ Cond.classLink own ik cls :: Cond.initialized cls :: vx_atS own ic cls names, vx_ot w = true)
    (hU : vx_Zq Bundle.tN "UNASSIGNED_STACK" Bundle.steD A s s.heap) (hN : vx_Zq Bundle.tN "SUPPRESSED_SENTINEL" Bundle.listD A s s.heap) (hS : va_S A s.heap H locs) (hsize : ls.size = c.maxLocals)
    (d0 : decode cc pc = .ok (.new ik, 3)) (d3 : decode cc (pc + 3) = .ok (.dup, 1)) (d4 : decode cc (pc + 4) = .ok (.ldc is, 2)) (d6 : decode cc (pc + 6) = .ok (.invokespecial ic, 3)) (d9 : decode cc (pc + 9) = .ok (.athrow, 1))
    (hout : ∀ x ∈ c.exceptionTable.toList, covers x (pc + 9) = false)
    (hRframes : names.length + 3 < R.frames) (hRlocals : (rest.map fun v => v.category).sum + (13 * (names.length + 1) + 43) ≤ R.locals) (hRcells : cells + 1 ≤ R.cells) (hRslots : slots + 6 ≤ R.slots) (hlocks : meth.locks = false)
    (hx : ∀ t : State, s.vm.Alike t.vm → H.size ≤ t.heap.size → (∀ q : Nat, q < H.size → t.heap[q]? = H[q]?) → XC cls s t)
    (hf : ∀ z ∈ locs, free z.base) (hc : cells + 1 ≤ mc) (hs : slots + 6 ≤ ms) :
    W p l e R s m args below meth c H locs cells slots (vx_MQ below Qc XC args s mc ms free) (F0 m pc ls rest) := by
  intro T hT X
  have htr : e.platform.stackTraces = false := (show e.platform.stackTraces = l.stackTraces by rw [X.admits.platform]).trans hl
  have Y := vx_rebase X (R' := { frames := R.frames, locals := R.locals, cells := 1, slots := 6 }) (Nat.le_refl _) (Nat.le_refl _) hRcells hRslots
  obtain ⟨s', hA⟩ : ∃ z, z = (T.setVm s.vm).setFrames (.invoking m args :: below) := ⟨_, rfl⟩
  rw [← hA] at Y
  have hvm : s'.vm = s.vm := by rw [hA]; rfl
  have hhp : s'.heap = H := by rw [hA]; exact hT
  have hW0 : s.WarmedH s'.vm := by rw [hvm]; exact State.WarmedH.refl s
  have hat' : ∀ w ∈ vx_atS own ic cls names, w.before args s' = true := fun w hw => vx_ot_at hW0 hvm.symm (hgood w (List.mem_cons_of_mem _ (List.mem_cons_of_mem _ hw))) (hat w hw)
  have hk' : (Cond.classLink own ik cls).before args s' = true := vx_ot_at hW0 hvm.symm (hgood _ List.mem_cons_self) hk
  have hini' : (Cond.initialized cls).before args s' = true := vx_ot_at hW0 hvm.symm (hgood _ (List.mem_cons_of_mem _ List.mem_cons_self)) hini
  have hU' : vx_Zq Bundle.tN "UNASSIGNED_STACK" Bundle.steD A s' s'.heap := by rw [hhp]; exact vx_Zq.moved hW0.alike (hU.kept hS.2.1)
  have hN' : vx_Zq Bundle.tN "SUPPRESSED_SENTINEL" Bundle.listD A s' s'.heap := by rw [hhp]; exact vx_Zq.moved hW0.alike (hN.kept hS.2.1)
  have h : ∀ w ∈ Bundle.ownAtoms own ic cls names, w.before args s' = true := vx_own hat' (vx_isRefq hU'.1) (vx_isRefq hN'.1) hU'.2.word hN'.2.word
  have hown' : s'.vm.findClass own = some m.cls := by rw [hvm]; exact hown
  have hins : (Cond.instantiable cls 6).before args s' = true := h _ (by simp [Bundle.ownAtoms])
  obtain ⟨vm₁, cX, kX, hfX, hkX, -, -, X₁, st1⟩ := Y.newCold hexec (own := own) (C := cls) (index := ik) (n := 6) hown' hk' hins hini'
    (g := F0 m pc ls rest) rfl (by rw [hb]; exact d0) (Nat.le_refl _) (Nat.le_refl _)
  generalize hT1 : (T.setVm vm₁).pushCell { cls := cX, slots := kX.instanceTypes.map defaultValue, vm := .none } = T1 at X₁ st1
  have hcat : (Value.ref T.heap.size).category = 1 := rfl
  have hcellA : T1.heap[T.heap.size]? = some (freshCell cX kX) := by rw [← hT1]; exact State.heap_pushCell_size _ _
  have d3' : decode c.code (pc + 3) = .ok (.dup, 1) := by rw [hb]; exact d3
  have d4' : decode c.code (pc + 4) = .ok (.ldc is, 2) := by rw [hb]; exact d4
  have hstr' : vk_R own is text sa s' := vk_R.warm hW0 hstr
  obtain ⟨U, hsteps, hrun, hend, hW, hsame, ce, hce, hO⟩ := X₁.ctorThrowS hexec htr (own := own) (cls := cls) (names := names) (ic := ic) hown' hcls hnames h (fun x hx => nomatch hx) hfX hkX hcellA (by rw [hhp, hT]; exact Nat.le_refl _) (msg := .ref sa) rfl
    (g := { method := m, pc := pc + 6, locals := ls, stack := .ref sa :: .ref T.heap.size :: .ref T.heap.size :: rest, locked := none }) rfl hsize rfl rfl (rest := rest) rfl
    (by rw [hb]; exact d6) (by rw [hb]; exact d9) hout hRframes (by simp only [List.map_cons, List.sum_cons, hcat]; omega) hlocks
  obtain ⟨f1, f2⟩ := vx_frame hsame
  rw [hhp] at f1 f2
  have hWs : s.WarmedH U.vm := State.WarmedH.trans hW0 hW
  have hcl : s.vm.findClass cls = some ce.cls := by
    have h9 := hO.cls
    rw [hvm] at h9
    exact h9
  have hall : s.sameButNew ({ U with vm := s.vm } : State) locs mc ms := by
    subst hA
    obtain ⟨e1, e2⟩ := hsame
    rw [State.setFrames_setFrames] at e1
    have h2 : (T.setVm s.vm).sameButNew ({ U with vm := s.vm } : State) [] (0 + 1) (0 + 6) := ⟨e1, e2⟩
    have h3 := X.same.trans h2
    rw [List.append_nil] at h3
    exact h3.mono hc hs
  refine ⟨U, ?_, .threw T.heap.size, hrun, hend, Or.inr ⟨T.heap.size, rfl, cls, ce, locs, hx U hWs.alike f1 (fun q hq => f2 q hq (fun z hz => nomatch hz)), hce, hO.vm, hcl, hWs, hall, hf⟩⟩
  refine st1 _ ?_
  show Steps p.tables e below (T1.setTop { method := m, pc := pc + 3, locals := ls, stack := .ref T.heap.size :: rest, locked := none }) _
  jvm_step X₁.here [X₁.here.top, hexec, d3', Value.category]
  exact X₁.ldcString hexec (own := own) (text := text) (index := is) (a := sa) hown' hstr'.1 hstr'.2
    (g := { method := m, pc := pc + 4, locals := ls, stack := .ref T.heap.size :: .ref T.heap.size :: rest, locked := none }) rfl d4' _ hsteps
/-- 'throw new E("text")', the text by a wide index -/
theorem vx_throwSW {cc : ByteArray} {pc : Nat} (hexec : p.tables.exec = Jvm.exec) (hb : c.code = cc) (hl : l.stackTraces = false) {own cls text : String} {names : List String} {ik is ic mc ms sa : Nat} {A : Nat → Prop}
    (hown : s.vm.findClass own = some m.cls) (hcls : Bundle.fit cls = true) (hnames : ∀ n ∈ names, Bundle.fit n = true)
    (hk : (Cond.classLink own ik cls).before args s = true) (hini : (Cond.initialized cls).before args s = true) (hstr : vk_R own is text sa s) (hat : ∀ w ∈ vx_atS own ic cls names, w.before args s = true)
    (hgood : ∀ w ∈ Cond.classLink own ik cls :: Cond.initialized cls :: vx_atS own ic cls names, vx_ot w = true)
    (hU : vx_Zq Bundle.tN "UNASSIGNED_STACK" Bundle.steD A s s.heap) (hN : vx_Zq Bundle.tN "SUPPRESSED_SENTINEL" Bundle.listD A s s.heap) (hS : va_S A s.heap H locs) (hsize : ls.size = c.maxLocals)
    (d0 : decode cc pc = .ok (.new ik, 3)) (d3 : decode cc (pc + 3) = .ok (.dup, 1)) (d4 : decode cc (pc + 4) = .ok (.ldc_w is, 3)) (d7 : decode cc (pc + 7) = .ok (.invokespecial ic, 3)) (d10 : decode cc (pc + 10) = .ok (.athrow, 1))
    (hout : ∀ x ∈ c.exceptionTable.toList, covers x (pc + 10) = false)
    (hRframes : names.length + 3 < R.frames) (hRlocals : (rest.map fun v => v.category).sum + (13 * (names.length + 1) + 43) ≤ R.locals) (hRcells : cells + 1 ≤ R.cells) (hRslots : slots + 6 ≤ R.slots) (hlocks : meth.locks = false)
    (hx : ∀ t : State, s.vm.Alike t.vm → H.size ≤ t.heap.size → (∀ q : Nat, q < H.size → t.heap[q]? = H[q]?) → XC cls s t)
    (hf : ∀ z ∈ locs, free z.base) (hc : cells + 1 ≤ mc) (hs : slots + 6 ≤ ms) :
    W p l e R s m args below meth c H locs cells slots (vx_MQ below Qc XC args s mc ms free) (F0 m pc ls rest) := by
  intro T hT X
  have htr : e.platform.stackTraces = false := (show e.platform.stackTraces = l.stackTraces by rw [X.admits.platform]).trans hl
  have Y := vx_rebase X (R' := { frames := R.frames, locals := R.locals, cells := 1, slots := 6 }) (Nat.le_refl _) (Nat.le_refl _) hRcells hRslots
  obtain ⟨s', hA⟩ : ∃ z, z = (T.setVm s.vm).setFrames (.invoking m args :: below) := ⟨_, rfl⟩
  rw [← hA] at Y
  have hvm : s'.vm = s.vm := by rw [hA]; rfl
  have hhp : s'.heap = H := by rw [hA]; exact hT
  have hW0 : s.WarmedH s'.vm := by rw [hvm]; exact State.WarmedH.refl s
  have hat' : ∀ w ∈ vx_atS own ic cls names, w.before args s' = true := fun w hw => vx_ot_at hW0 hvm.symm (hgood w (List.mem_cons_of_mem _ (List.mem_cons_of_mem _ hw))) (hat w hw)
  have hk' : (Cond.classLink own ik cls).before args s' = true := vx_ot_at hW0 hvm.symm (hgood _ List.mem_cons_self) hk
  have hini' : (Cond.initialized cls).before args s' = true := vx_ot_at hW0 hvm.symm (hgood _ (List.mem_cons_of_mem _ List.mem_cons_self)) hini
  have hU' : vx_Zq Bundle.tN "UNASSIGNED_STACK" Bundle.steD A s' s'.heap := by rw [hhp]; exact vx_Zq.moved hW0.alike (hU.kept hS.2.1)
  have hN' : vx_Zq Bundle.tN "SUPPRESSED_SENTINEL" Bundle.listD A s' s'.heap := by rw [hhp]; exact vx_Zq.moved hW0.alike (hN.kept hS.2.1)
  have h : ∀ w ∈ Bundle.ownAtoms own ic cls names, w.before args s' = true := vx_own hat' (vx_isRefq hU'.1) (vx_isRefq hN'.1) hU'.2.word hN'.2.word
  have hown' : s'.vm.findClass own = some m.cls := by rw [hvm]; exact hown
  have hins : (Cond.instantiable cls 6).before args s' = true := h _ (by simp [Bundle.ownAtoms])
  obtain ⟨vm₁, cX, kX, hfX, hkX, -, -, X₁, st1⟩ := Y.newCold hexec (own := own) (C := cls) (index := ik) (n := 6) hown' hk' hins hini'
    (g := F0 m pc ls rest) rfl (by rw [hb]; exact d0) (Nat.le_refl _) (Nat.le_refl _)
  generalize hT1 : (T.setVm vm₁).pushCell { cls := cX, slots := kX.instanceTypes.map defaultValue, vm := .none } = T1 at X₁ st1
  have hcat : (Value.ref T.heap.size).category = 1 := rfl
  have hcellA : T1.heap[T.heap.size]? = some (freshCell cX kX) := by rw [← hT1]; exact State.heap_pushCell_size _ _
  have d3' : decode c.code (pc + 3) = .ok (.dup, 1) := by rw [hb]; exact d3
  have d4' : decode c.code (pc + 4) = .ok (.ldc_w is, 3) := by rw [hb]; exact d4
  have hstr' : vk_R own is text sa s' := vk_R.warm hW0 hstr
  obtain ⟨U, hsteps, hrun, hend, hW, hsame, ce, hce, hO⟩ := X₁.ctorThrowS hexec htr (own := own) (cls := cls) (names := names) (ic := ic) hown' hcls hnames h (fun x hx => nomatch hx) hfX hkX hcellA (by rw [hhp, hT]; exact Nat.le_refl _) (msg := .ref sa) rfl
    (g := { method := m, pc := pc + 7, locals := ls, stack := .ref sa :: .ref T.heap.size :: .ref T.heap.size :: rest, locked := none }) rfl hsize rfl rfl (rest := rest) rfl
    (by rw [hb]; exact d7) (by rw [hb]; exact d10) hout hRframes (by simp only [List.map_cons, List.sum_cons, hcat]; omega) hlocks
  obtain ⟨f1, f2⟩ := vx_frame hsame
  rw [hhp] at f1 f2
  have hWs : s.WarmedH U.vm := State.WarmedH.trans hW0 hW
  have hcl : s.vm.findClass cls = some ce.cls := by
    have h9 := hO.cls
    rw [hvm] at h9
    exact h9
  have hall : s.sameButNew ({ U with vm := s.vm } : State) locs mc ms := by
    subst hA
    obtain ⟨e1, e2⟩ := hsame
    rw [State.setFrames_setFrames] at e1
    have h2 : (T.setVm s.vm).sameButNew ({ U with vm := s.vm } : State) [] (0 + 1) (0 + 6) := ⟨e1, e2⟩
    have h3 := X.same.trans h2
    rw [List.append_nil] at h3
    exact h3.mono hc hs
  refine ⟨U, ?_, .threw T.heap.size, hrun, hend, Or.inr ⟨T.heap.size, rfl, cls, ce, locs, hx U hWs.alike f1 (fun q hq => f2 q hq (fun z hz => nomatch hz)), hce, hO.vm, hcl, hWs, hall, hf⟩⟩
  refine st1 _ ?_
  show Steps p.tables e below (T1.setTop { method := m, pc := pc + 3, locals := ls, stack := .ref T.heap.size :: rest, locked := none }) _
  jvm_step X₁.here [X₁.here.top, hexec, d3', Value.category]
  exact X₁.ldcStringW hexec (own := own) (text := text) (index := is) (a := sa) hown' hstr'.1 hstr'.2
    (g := { method := m, pc := pc + 4, locals := ls, stack := .ref T.heap.size :: .ref T.heap.size :: rest, locked := none }) rfl d4' _ hsteps
end Ends
section Bodies
variable {l : Launch}
theorem vx_ofW {y : MethodName} {ws ws' : List Cond} {rm : Room} {Pc : Array Value → State → Prop} {Qc : Array Value → State → Outcome → State → Prop} {XC : String → State → State → Prop} {mc ms : Nat} {free : Addr → Prop} {cc : ByteArray} {maxL : Nat} {ret : Option FieldType}
    (hy : plainName y.cls = true) (hw : ws = Cond.code y cc maxL ret :: ws')
    (body : ∀ p e s m args below meth c s₁, BodyLoose p l y (headSpec ws rm) cc maxL ret e s m args below meth c s₁ → c.maxLocals = maxL → (∀ x ∈ c.exceptionTable.toList, False) → Pc args s →
      W p l e (headSpec ws rm).room s m args below meth c s.heap [] 0 0 (vx_MQ below Qc XC args s mc ms free) (entryFrame m args maxL)) : vx_Met l y ws rm Pc Qc XC mc ms free := by
  refine MetFree.of_bodyS (code := cc) (maxLocals := maxL) (ret := ret) hy ?_ ?_
  · intro args s m h hn
    obtain ⟨meth, c, h1, h2, h3, h4, h5, h6, -, -⟩ := Cond.code_spec hn (atoms_spec (ws := ws) h _ (by rw [hw]; exact List.mem_cons_self))
    exact ⟨meth, c, h1, h2, h3, h4, h5, h6⟩
  · intro p e s m args below meth c s₁ B hml hP _
    have hh0 : s₁.heap = s.heap := by rw [B.state]; rfl
    have ht : ∀ x ∈ c.exceptionTable.toList, False := by
      obtain ⟨meth9, c9, h1, h2, -, -, -, -, h7, -⟩ := Cond.code_spec B.named (atoms_spec (ws := ws) B.pre _ (by rw [hw]; exact List.mem_cons_self))
      cases Option.some.inj (h1.symm.trans B.method)
      cases Option.some.inj (h2.symm.trans (Stand.of_body B).code)
      intro x hx
      rw [Array.isEmpty_iff.mp h7] at hx
      cases hx
    obtain ⟨t, a1, o, b1, b2, b3⟩ := body p e s m args below meth c s₁ B hml ht hP s₁ hh0 (Stand.of_body B)
    exact ⟨t, o, a1, b1, b2, b3⟩
/-- the table of a body with handlers -/
theorem vx_table {p : Program} {x y : MethodName} {S : Spec} {cc bytes : ByteArray} {maxL maxL' : Nat} {ret ret' : Option FieldType} {e : Env} {s s₁ : State} {m : MethodId} {args : Array Value} {below : List Frame} {meth : Method} {c : Code} {hh : List (Nat × Nat × Nat × Nat)}
    (B : BodyLoose p l y S cc maxL ret e s m args below meth c s₁) (h : (Cond.codeWith y bytes maxL' ret' hh).before args s = true) : c.exceptionTable.toList = tableOf hh := by
  obtain ⟨m9, meth9, c9, hn9, h1, h2, -, -, h6, -⟩ := Cond.codeWith_spec h
  cases Option.some.inj (hn9.symm.trans B.named)
  cases Option.some.inj (h1.symm.trans B.method)
  cases Option.some.inj (h2.symm.trans (Stand.of_body B).code)
  rw [← h6, table_eq]
end Bodies
end VXA
/-! ===== END ===== -/
/-! ===== BEGIN a static call of a method with an exception table ===== -/
section VXS
variable {p : Program} {l : Launch} {e : Env} {R : Room} {s : State} {m : MethodId} {args : Array Value} {below : List Frame} {meth : Method} {c : Code} {T : State} {H : Heap} {locs : List Loc} {cells slots : Nat}
abbrev vx_CSW (R : Room) (s : State) (args : Array Value) (own : String) (index : Nat) (y : MethodName) (bytes : ByteArray) (maxL : Nat) (ret : Option FieldType) (hh : List (Nat × Nat × Nat × Nat)) (ws : List Cond) (rm : Room) (mc ms n : Nat) : Prop :=
  (rm.cells = mc ∧ rm.slots = ms ∧ rm.frames + 1 ≤ R.frames ∧ 8 + (maxL + 11) + rm.locals ≤ R.locals ∧ (∀ w ∈ ws, ∀ (a' : Array Value) (U : State), s.WarmedH U.vm → w.before a' U = true) ∧ Cond.codeWith y bytes maxL ret hh ∈ ws) ∧
  (Cond.codeWith y bytes maxL ret hh).before args s = true ∧ (Cond.initialized y.cls).before args s = true ∧ (y.cls ≠ "java/lang/invoke/MethodHandle" ∧ y.cls ≠ "java/lang/invoke/VarHandle") ∧
  (∀ sig, parseMethodDescriptor y.desc = some sig → n = sig.parameters.length) ∧ (Cond.methodLink own index y).before args s = true ∧ (Cond.static y).before args s = true
theorem vx_cwSW {own : String} {index maxL mc ms : Nat} {y : MethodName} {bytes : ByteArray} {ret : Option FieldType} {hh : List (Nat × Nat × Nat × Nat)} {Ts ws ws' : List Cond} {rm : Room} (n : Nat) (ht : ∀ w ∈ Ts, w.before args s = true) (hT : GoodIn Ts (va_wsS own index y ws)) (hw : ws = Cond.codeWith y bytes maxL ret hh :: ws') (hrc : rm.cells = mc) (hrs : rm.slots = ms)
    (hd : y.cls ≠ "java/lang/invoke/MethodHandle" ∧ y.cls ≠ "java/lang/invoke/VarHandle" ∧ (parseMethodDescriptor y.desc).map (fun d => d.parameters.length) = some n) (hR : rm.frames + 1 ≤ R.frames ∧ 8 + (maxL + 11) + rm.locals ≤ R.locals) :
    vx_CSW R s args own index y bytes maxL ret hh ws rm mc ms n := by
  have ok : ∀ w ∈ va_wsS own index y ws, w.before args s = true := fun w h => ht w (hT w h).1
  have hG : GoodIn Ts ws := fun w h => hT w (by unfold va_wsS; exact List.mem_append_right _ h)
  have hc : Cond.codeWith y bytes maxL ret hh ∈ ws := by rw [hw]; exact List.mem_cons_self
  refine ⟨⟨hrc, hrs, hR.1, hR.2, pay_in ht hG, hc⟩, ht _ (hG _ hc).1, ok _ (by simp [va_wsS]), ⟨hd.1, hd.2.1⟩, fun sig h => ?_, ok _ (by simp [va_wsS]), ok _ (by simp [va_wsS])⟩
  have h2 := hd.2.2
  rw [h] at h2
  exact (Option.some.inj h2).symm
theorem vx_callSW (X : Stand p l e R s m args below meth c T locs cells slots) (hexec : p.tables.exec = Jvm.exec) {own : String} {index : Nat} {y : MethodName} {bytes : ByteArray} {maxL : Nat} {ret : Option FieldType} {hh : List (Nat × Nat × Nat × Nat)}
    (hown : s.vm.findClass own = some m.cls) (hlink : (Cond.methodLink own index y).before args s = true) (hstat : (Cond.static y).before args s = true) (hinit : (Cond.initialized y.cls).before args s = true)
    (hcode : (Cond.codeWith y bytes maxL ret hh).before args s = true) (hy : y.cls ≠ "java/lang/invoke/MethodHandle" ∧ y.cls ≠ "java/lang/invoke/VarHandle")
    {W9 : Nat} {Pre : Pt → Array Value → Prop} {Post : Pt → Array Value → Option Value → Pt → Prop} (hK : Back l R p e below s args y 3 W9 Pre Post)
    {g : JFrame} (hg : g.method = m) (hsize : g.locals.size = c.maxLocals) {argsL rest : List Value} (hlen : ∀ sig, parseMethodDescriptor y.desc = some sig → argsL.length = sig.parameters.length)
    (hstack : g.stack = argsL.reverse ++ rest) (hW : 2 * g.monitorRoom + (rest.map fun v => v.category).sum ≤ W9) (hdg : decode c.code g.pc = .ok (.invokestatic index, 3))
    (hpre : ∀ vm₁, s.WarmedH vm₁ → Pre ⟨T.setVm vm₁, locs, cells, slots⟩ argsL.toArray) :
    ∃ (v : Option Value) (vm₁ : Vm) (B : Pt), s.WarmedH vm₁ ∧ Stand p l e R s m args below meth c B.U B.locs B.cells B.slots ∧ Post ⟨T.setVm vm₁, locs, cells, slots⟩ argsL.toArray v B ∧
      ∀ target, Steps p.tables e below (B.U.setTop { g with pc := g.pc + 3, stack := v.toList ++ rest }) target → Steps p.tables e below (T.setTop g) target := by
  obtain ⟨mk, methM, cM, hnamed, hmethM, -, -, -, -, -, -, hsigM⟩ := Cond.codeWith_spec hcode
  have hstatic : methM.isStatic = true := Cond.static_spec hnamed hmethM hstat
  obtain ⟨kP, hkP, -⟩ := className_of_methodNamed hnamed
  have hinitP : kP.init = .initialized := Cond.initialized_spec (findClass_of_methodNamed hnamed) hkP hinit
  obtain ⟨vm₁, X₁, hstep₁⟩ := X.invokestatic hexec hown hlink hnamed hmethM hstatic hkP hinitP hy (g := g) hg (argsL := argsL) (rest := rest) (hlen _ hsigM) hstack hdg
  obtain ⟨v, B, X', hpost, hsteps⟩ := hK m meth c ⟨T.setVm vm₁, locs, cells, slots⟩ { g with stack := rest } (.invokestatic index) mk argsL.toArray X₁ hg hsize hdg hW (X₁.named hnamed) (hpre vm₁ X₁.warmed)
  exact ⟨v, vm₁, B, X₁.warmed, X', hpost, fun target h => hstep₁ _ fun acts => by rw [doInvoke_state]; exact hsteps.trans h⟩
theorem vx_runSW {y : MethodName} {bytes cc : ByteArray} {maxL nL mc ms n index : Nat} {ret : Option FieldType} {hh : List (Nat × Nat × Nat × Nat)} {ws : List Cond} {rm : Room} {Pc : Array Value → State → Prop} {Qc : Array Value → State → Outcome → State → Prop} {free : Addr → Prop} {Ts : List Cond} {own : String} {As rest : List Value} {g : JFrame}
    (S : CallFix p m c cc nL s args Ts own) (hM : Met l y ws rm Pc Qc mc ms free) (cw : vx_CSW R s args own index y bytes maxL ret hh ws rm mc ms n) (hp : PreS s H Pc As)
    (hg : g.method = m) (hn : As.length = n) (hsize : g.locals.size = nL) (hstack : g.stack = As.reverse ++ rest) (hW : 2 * g.monitorRoom + (rest.map fun v => v.category).sum ≤ 8) (hdg : decode cc g.pc = .ok (.invokestatic index, 3)) (hf : cells + mc ≤ R.cells ∧ slots + ms ≤ R.slots) :
    va_Run p l e R s m args below meth c H locs cells slots mc ms g rest (Qc As.toArray) (free) := by
  obtain ⟨⟨hrc, hrs, hfr, hlo, hws, hcw⟩, hcode, hini, hy, hlen, hl, hstt⟩ := cw
  have hK : Back l R p e below s args y 3 8 (PreOf R mc ms Pc) (PostOf Qc mc ms free) := va_backW (hh := hh) (bytes := bytes) (maxL := maxL) (ret := ret) hM hp.1 hrc hrs hfr hlo hws hcw (fun a' U hW => word_at hW (Or.inl (by first | rfl | simp [Cond.onTables, Cond.keeps, Cond.steady])) hini)
  obtain ⟨hx, hb, hml, ho, -⟩ := S
  intro T hT X
  obtain ⟨v, vm₁, ⟨U', l2, c2, s2⟩, hW₁, X', ⟨g', mk, t, L, e1, e2, hq, h1, hL, h2, h3⟩, st⟩ := vx_callSW X hx (hh := hh) (bytes := bytes) (maxL := maxL) (ret := ret) ho hl hstt hini hcode hy hK hg (hsize.trans hml.symm) (argsL := As) (rest := rest) (fun sig h => hn.trans (hlen sig h)) hstack hW (by rw [hb]; exact hdg)
    (fun vm₁ hW₁ => ⟨hf.1, hf.2, hp.2 (T.setVm vm₁) hT hW₁⟩)
  dsimp only [Pt.U, Pt.locs, Pt.cells, Pt.slots] at X' e1 e2 h1 h2 h3 st
  subst h1; subst h2; subst h3
  exact ⟨v, (T.setVm vm₁).calling g' mk As.toArray, t, U', L, hT, X', hL, e1, e2, hq, st⟩
/-- not caught here, past rows that name other classes: it goes on to the caller -/
theorem vx_outP {p : Program} {l : Launch} {e : Env} {R : Room} {s : State} {m : MethodId} {args : Array Value} {below : List Frame} {meth : Method} {c : Code} {H : Heap} {locs : List Loc} {cells slots : Nat} {free : Addr → Prop} {ls : Array Slot} {rest : List Value} {Qc : Array Value → State → Outcome → State → Prop} {XC : String → State → State → Prop}
    {pc : Nat} {own E : String} {ce : Cell} {q : Addr} {mc ms : Nat} (hown : s.vm.findClass own = some m.cls) (hlocks : meth.locks = false)
    (hpass : ∀ z ∈ c.exceptionTable.toList, covers z pc = false ∨ (z.catchType ≠ 0 ∧ ∃ nm : String, (Cond.classLink own z.catchType nm).before args s = true ∧ va_Nc E nm s)) (hcell : H[q]? = some ce) (hv : ce.vm = .none) (hcl : s.vm.findClass E = some ce.cls)
    (hx : ∀ t : State, t.heap = H → s.vm.Alike t.vm → XC E s t) (hf : ∀ z ∈ locs, free z.base) (hc : cells ≤ mc) (hs : slots ≤ ms) :
    vx_W p l e R s m args below meth c H locs cells slots (vx_MQ below Qc XC args s mc ms free) (F0 m pc ls rest) q := by
  intro T hT X
  have hpl : e.platform.magicAccessors = ({} : Platform).magicAccessors := by rw [X.admits.platform]
  obtain ⟨vm', hW', X', st⟩ := X.outThrough hlocks q (g := F0 m pc ls rest) rfl rfl rfl (cell := ce) (by rw [hT]; exact hcell) (by rw [hv]; rfl)
    (by obtain ⟨k9, h9, -⟩ := Vm.findClass_spec hcl; exact ⟨k9, h9⟩) (fun z hz => by
      rcases hpass z hz with h | ⟨hz0, nm, hl1, hn1⟩
      · exact Or.inl h
      · obtain ⟨c6, hc6, hcl6⟩ := Cond.classLink_spec hown hl1 e.platform hpl
        obtain ⟨a8, b8, h1, h2, h3⟩ := hn1
        cases Option.some.inj (h1.symm.trans hcl)
        cases Option.some.inj (h2.symm.trans hc6)
        exact Or.inr ⟨hz0, _, hcl6, h3⟩)
  obtain ⟨g₀, hfr⟩ := X'.frames_eq
  have hcell9 : ((T.setVm vm').setFrames (.throwing q :: below)).heap[q]? = some ce := by
    show T.heap[q]? = some ce
    rw [hT]; exact hcell
  have hend : Ended ((T.setVm vm').setFrames (.throwing q :: below)) below (.threw q) := State.frames_setFrames _ (State.cur_lt_of_frames hfr)
  refine ⟨(T.setVm vm').setFrames (.throwing q :: below), ?_, .threw q, X'.here.running, hend, Or.inr ⟨q, rfl, E, ce, locs, hx _ hT (X'.ends _).1.alike, hcell9, hv, hcl, (X'.ends _).1, (X'.ends _).2.mono hc hs, hf⟩⟩
  rw [X.pushThrowing_eq]
  exact st
/-- a thing of a world lies in the heap -/
theorem vx_lt {D : va_G} {cl : List vw_C} {ws : va_W} {H1 : Heap} (h : va_P D cl ws H1) {k : Nat} {q : Nat × va_E} (hk : ws[k]? = some q) : q.1 < H1.size := (h k q hk).lt
end VXS
/-! ===== END ===== -/
/-! ===== BEGIN methods with a table of their own: called by a name, returning or throwing ===== -/
section VXH
/-! vx_backW, vx_callVX, vx_callSX, vx_callVW, vx_runVW, vx_runVX, vx_runSX, vx_ofWH follow the same proofs as their sisters above (Free/Laws.lean, Shelf42/LK1.lean); vx_outP calls Shelf42/NT130.lean (outThrough). -/
section
variable {l : Launch} {R : Room} {p : Program} {e : Env} {below : List Frame} {s : State} {sargs : Array Value} {y : MethodName} {len W9 : Nat}
theorem vx_backW {ws : List Cond} {rm : Room} {Pc : Array Value → State → Prop} {Qc : Array Value → State → Outcome → State → Prop} {XC : String → State → State → Prop} {mc ms : Nat} {free : Addr → Prop} {bytes : ByteArray} {maxL : Nat} {ret : Option FieldType} {hh : List (Nat × Nat × Nat × Nat)}
    (hM : vx_Met l y ws rm Pc Qc XC mc ms free) (hblind : FrameBlind Pc) (hrc : rm.cells = mc) (hrs : rm.slots = ms)
    (hframes : rm.frames + 1 ≤ R.frames) (hlocals : W9 + (maxL + 11) + rm.locals ≤ R.locals)
    (hws : ∀ w ∈ ws, ∀ a' U, s.WarmedH U.vm → w.before a' U = true) (hcode : Cond.codeWith y bytes maxL ret hh ∈ ws) (hinit : ∀ a' U, s.WarmedH U.vm → (Cond.initialized y.cls).before a' U = true) :
    vx_Back l R p e below s sargs y len W9 (PreOf R mc ms Pc) (PostOf Qc mc ms free) (vx_Post XC mc ms free) := by
  intro m meth c A g ig mk a X hg hsize hdg hW hn hp
  have h1 : (headSpec ws rm).pre.before a A.U = true := atoms_intro fun w hw => hws w hw _ _ X.warmed
  have h2 : (Cond.codeWith y bytes maxL ret hh).before a A.U = true := hws _ hcode _ _ X.warmed
  have h3 : (Cond.initialized y.cls).before a A.U = true := hinit _ _ X.warmed
  have h4 : A.cells + (headSpec ws rm).room.cells ≤ R.cells := by rw [show (headSpec ws rm).room.cells = mc from hrc]; exact hp.1
  have h5 : A.slots + (headSpec ws rm).room.slots ≤ R.slots := by rw [show (headSpec ws rm).room.slots = ms from hrs]; exact hp.2.1
  have hPc : Pc a (A.U.calling g mk a) := hblind _ _ _ _ hp.2.2
  obtain ⟨U, Ls, c0, s0⟩ := A
  dsimp only [Pt.U, Pt.locs, Pt.cells, Pt.slots] at h1 h2 h3 h4 h5 X hn hPc ⊢
  obtain ⟨m9, methY, cY, hn9, hmY, hcY, -, hlY, -⟩ := Cond.codeWith_spec h2
  cases Option.some.inj (hn9.symm.trans hn)
  obtain ⟨kY, hkY, -⟩ := className_of_methodNamed hn
  have hinitY : kY.init = .initialized := Cond.initialized_spec (findClass_of_methodNamed hn) hkY h3
  have h : At U g.method c below := by rw [hg]; exact X.here
  have hlocals9 : W9 + (maxL + 11) + (headSpec ws rm).room.locals ≤ R.locals := hlocals
  have happ : (headSpec ws rm).appliesLoose y e.platform (U.calling g mk a) = true :=
    Spec.appliesLoose_calling (g := g) h hdg hn hkY hinitY
      (X.room_calling (g := g) (R' := (headSpec ws rm).room) hsize hmY hcY hframes (by rw [hlY]; omega) h4 h5) h1
  obtain ⟨mid, hmid⟩ := h.above
  have hfr : (U.setTop g).frames = (.java g :: mid) ++ below := by rw [State.frames_setTop' g h.top, hmid]; rfl
  obtain ⟨o, s₂, hsteps, -, hend, hq⟩ := Steps.callFree hM p X.admits X.cas X.clock (acts := []) hfr happ hPc trivial
  have hq' : vx_Q Qc XC mc ms free a (U.calling g mk a) o s₂ := hq
  rw [State.frames_setTop' g h.top] at hend
  obtain ⟨g₀, hg0⟩ := Option.isSome_iff_exists.mp h.top
  obtain ⟨r, hr⟩ := State.topJava?_eq_some.mp hg0
  have hr' : (({ U with heap := s₂.heap, slotsUsed := s₂.slotsUsed } : State).setVm s₂.vm).frames = .java g₀ :: r := hr
  rcases hq' with ⟨hqc, L, hfe, hL⟩ | ⟨q, rfl, E, ce, L, hx, hce, hcv, hcl, hW₂, hsm, hL⟩
  · obtain ⟨⟨v, rfl⟩, hW₂, e2, q2, q3, q4, q5, q6⟩ := id hfe
    have e3 : s₂ = ({ (U.calling g mk a).setFrames s₂.frames with heap := s₂.heap, slotsUsed := s₂.slotsUsed } : State).setVm s₂.vm := by
      have : s₂ = ({ s₂ with vm := (U.calling g mk a).vm } : State).setVm s₂.vm := rfl
      rw [e2] at this
      exact this
    obtain ⟨c₂, i₂, len₂, hc₂, hd₂, hf₂⟩ := hend
    have hW' : U.WarmedH s₂.vm := hW₂
    have hcc : c₂ = c := by
      have h1 : s₂.code? g.method = U.code? g.method := by
        rw [State.code?_eq, State.code?_eq, hW'.alike.method?]
      exact Option.some.inj (hc₂.symm.trans (h1.trans h.code))
    subst hcc
    have hlen : len₂ = len := by rw [hdg] at hd₂; cases hd₂; rfl
    subst hlen
    have hs₂ : s₂ = (({ U with heap := s₂.heap, slotsUsed := s₂.slotsUsed } : State).setVm s₂.vm).setTop { g with pc := g.pc + len₂, stack := v.toList ++ g.stack } := by
      refine e3.trans ?_
      rw [hf₂, State.calling_eq h.top, State.setFrames_setFrames, State.setTop_of_frames _ hr', hr]
      rfl
    have hsame : U.sameButNew ({ U with heap := s₂.heap, slotsUsed := s₂.slotsUsed } : State) L mc ms := by
      refine ⟨?_, q2, q3, q4, q5, q6⟩
      obtain ⟨t, ht, -⟩ := State.frames_cons hr
      show ({ U with heap := s₂.heap, slotsUsed := s₂.slotsUsed } : State) = { U.setFrames U.frames with heap := s₂.heap, slotsUsed := s₂.slotsUsed }
      rw [State.setFrames_self ht]
    subst hg
    refine Or.inl ⟨v, ⟨(({ U with heap := s₂.heap, slotsUsed := s₂.slotsUsed } : State).setVm s₂.vm), Ls ++ L, c0 + mc, s0 + ms⟩,
      ⟨X.admits, X.cas, X.clock, X.frames, X.room, X.hears, X.method, X.code, (X.here.setHeapUsed s₂.heap s₂.slotsUsed).setVm hW'.alike, X.tail, State.WarmedH.trans X.warmed hW', X.limits, X.bytes, X.same.trans (hsame.setVm s.vm)⟩,
      ⟨g, mk, s₂, L, rfl, rfl, hqc, rfl, hL, rfl, rfl⟩, ?_⟩
    show Steps p.tables e below _ ((({ U with heap := s₂.heap, slotsUsed := s₂.slotsUsed } : State).setVm s₂.vm).setTop { g with pc := g.pc + len₂, stack := v.toList ++ g.stack })
    rw [← hs₂]
    exact hsteps
  · obtain ⟨e2, q2, q3, q4, q5, q6⟩ := id hsm
    have e3 : s₂ = ({ (U.calling g mk a).setFrames s₂.frames with heap := s₂.heap, slotsUsed := s₂.slotsUsed } : State).setVm s₂.vm := by
      have : s₂ = ({ s₂ with vm := (U.calling g mk a).vm } : State).setVm s₂.vm := rfl
      rw [e2] at this
      exact this
    have hf₂ : s₂.frames = .throwing q :: .java g :: U.frames.tail := hend
    have hW' : U.WarmedH s₂.vm := hW₂
    have hs₂ : s₂ = ((({ U with heap := s₂.heap, slotsUsed := s₂.slotsUsed } : State).setVm s₂.vm).setTop g).pushFrame (.throwing q) := by
      refine e3.trans ?_
      rw [hf₂, State.calling_eq h.top, State.setFrames_setFrames, State.pushFrame, State.frames_setTop _ hr', State.setTop_of_frames _ hr', State.setFrames_setFrames, hr]
      rfl
    have hsame : U.sameButNew ({ U with heap := s₂.heap, slotsUsed := s₂.slotsUsed } : State) L mc ms := by
      refine ⟨?_, q2, q3, q4, q5, q6⟩
      obtain ⟨t, ht, -⟩ := State.frames_cons hr
      show ({ U with heap := s₂.heap, slotsUsed := s₂.slotsUsed } : State) = { U.setFrames U.frames with heap := s₂.heap, slotsUsed := s₂.slotsUsed }
      rw [State.setFrames_self ht]
    subst hg
    refine Or.inr ⟨q, ⟨(({ U with heap := s₂.heap, slotsUsed := s₂.slotsUsed } : State).setVm s₂.vm), Ls ++ L, c0 + mc, s0 + ms⟩,
      ⟨X.admits, X.cas, X.clock, X.frames, X.room, X.hears, X.method, X.code, (X.here.setHeapUsed s₂.heap s₂.slotsUsed).setVm hW'.alike, X.tail, State.WarmedH.trans X.warmed hW', X.limits, X.bytes, X.same.trans (hsame.setVm s.vm)⟩,
      ⟨g, mk, s₂, L, E, ce, rfl, rfl, hx, hce, hcv, hcl, rfl, hL, rfl, rfl⟩, ?_⟩
    show Steps p.tables e below _ (((({ U with heap := s₂.heap, slotsUsed := s₂.slotsUsed } : State).setVm s₂.vm).setTop g).pushFrame (.throwing q))
    rw [← hs₂]
    exact hsteps
end
variable {p : Program} {l : Launch} {e : Env} {R : Room} {s : State} {m : MethodId} {args : Array Value} {below : List Frame} {meth : Method} {c : Code} {T : State} {H : Heap} {locs : List Loc} {cells slots : Nat}
theorem vx_callVX (X : Stand p l e R s m args below meth c T locs cells slots) (hexec : p.tables.exec = Jvm.exec) {own C : String} {index : Nat} {y : MethodName} {bytes : ByteArray} {maxL : Nat} {ret : Option FieldType} {hh : List (Nat × Nat × Nat × Nat)}
    (hown : s.vm.findClass own = some m.cls) (hlink : (Cond.methodLink own index y).before args s = true) (hinst : (Cond.instanceMethod y).before args s = true) (hsel : (Cond.selects C y y).before args s = true)
    (hcode : (Cond.codeWith y bytes maxL ret hh).before args s = true) (hy : y.cls ≠ "java/lang/invoke/MethodHandle" ∧ y.cls ≠ "java/lang/invoke/VarHandle")
    {W9 : Nat} {Pre : Pt → Array Value → Prop} {Post : Pt → Array Value → Option Value → Pt → Prop} {PostX : Pt → Array Value → Addr → Pt → Prop} (hK : vx_Back l R p e below s args y 3 W9 Pre Post PostX)
    {b : Addr} {cellB : Cell} (hcell : T.heap[b]? = some cellB) (hobj : cellB.vm.isStatics = false) (hcls : s.vm.findClass C = some cellB.cls)
    {g : JFrame} (hg : g.method = m) (hsize : g.locals.size = c.maxLocals) {argsL rest : List Value} (hlen : ∀ sig, parseMethodDescriptor y.desc = some sig → argsL.length = sig.parameters.length)
    (hstack : g.stack = argsL.reverse ++ .ref b :: rest) (hW : 2 * g.monitorRoom + (rest.map fun v => v.category).sum ≤ W9) (hdg : decode c.code g.pc = .ok (.invokevirtual index, 3))
    (hpre : ∀ vm₁, s.WarmedH vm₁ → Pre ⟨T.setVm vm₁, locs, cells, slots⟩ (Value.ref b :: argsL).toArray) :
    (∃ (v : Option Value) (vm₁ : Vm) (B : Pt), s.WarmedH vm₁ ∧ Stand p l e R s m args below meth c B.U B.locs B.cells B.slots ∧ Post ⟨T.setVm vm₁, locs, cells, slots⟩ (Value.ref b :: argsL).toArray v B ∧
      ∀ target, Steps p.tables e below (B.U.setTop { g with pc := g.pc + 3, stack := v.toList ++ rest }) target → Steps p.tables e below (T.setTop g) target) ∨
    (∃ (q : Addr) (vm₁ : Vm) (B : Pt), s.WarmedH vm₁ ∧ Stand p l e R s m args below meth c B.U B.locs B.cells B.slots ∧ PostX ⟨T.setVm vm₁, locs, cells, slots⟩ (Value.ref b :: argsL).toArray q B ∧
      Steps p.tables e below (T.setTop g) ((B.U.setTop { g with stack := rest }).pushFrame (.throwing q))) := by
  obtain ⟨mk, methM, hnamed, hmethM, hstM, habM⟩ := Cond.instanceMethod_spec hinst
  obtain ⟨m8, methM', cM, hn8, hmethM', -, -, -, -, -, -, hsigM⟩ := Cond.codeWith_spec hcode
  cases Option.some.inj (hn8.symm.trans hnamed)
  cases hmethM.symm.trans hmethM'
  obtain ⟨c2, r2, m2, q1, q2, q3, q4, kP, hkP, hkPi⟩ := Cond.selects_spec hsel
  cases hcls.symm.trans q1
  cases (State.methodFound?_of_named hnamed hy).symm.trans q2
  cases hnamed.symm.trans q3
  have hselP : selectMethod e.platform s.vm cellB.cls mk = .method mk := by rw [Launch.admits_selectMethod X.admits]; exact q4
  obtain ⟨vm₁, X₁, hstep₁⟩ := X.invokevirtual hexec hown hlink hnamed hmethM hstM hkP hkPi hy (a := b) (cell := cellB) hcell
    (fun z h => by rw [h] at hobj; cases hobj) hselP hmethM habM hkP hkPi (g := g) hg (argsL := argsL) (rest := rest) (hlen _ hsigM) hstack hdg
  rcases hK m meth c ⟨T.setVm vm₁, locs, cells, slots⟩ { g with stack := rest } (.invokevirtual index) mk (Value.ref b :: argsL).toArray X₁ hg hsize hdg hW (X₁.named hnamed) (hpre vm₁ X₁.warmed) with ⟨v, B, X', hpost, hsteps⟩ | ⟨q, B, X', hpost, hsteps⟩
  · exact Or.inl ⟨v, vm₁, B, X₁.warmed, X', hpost, fun target h => hstep₁ _ fun acts => by rw [doInvoke_state]; exact hsteps.trans h⟩
  · exact Or.inr ⟨q, vm₁, B, X₁.warmed, X', hpost, hstep₁ _ fun acts => by rw [doInvoke_state]; exact hsteps⟩
theorem vx_callSX (X : Stand p l e R s m args below meth c T locs cells slots) (hexec : p.tables.exec = Jvm.exec) {own : String} {index : Nat} {y : MethodName} {bytes : ByteArray} {maxL : Nat} {ret : Option FieldType} {hh : List (Nat × Nat × Nat × Nat)}
    (hown : s.vm.findClass own = some m.cls) (hlink : (Cond.methodLink own index y).before args s = true) (hstat : (Cond.static y).before args s = true) (hinit : (Cond.initialized y.cls).before args s = true)
    (hcode : (Cond.codeWith y bytes maxL ret hh).before args s = true) (hy : y.cls ≠ "java/lang/invoke/MethodHandle" ∧ y.cls ≠ "java/lang/invoke/VarHandle")
    {W9 : Nat} {Pre : Pt → Array Value → Prop} {Post : Pt → Array Value → Option Value → Pt → Prop} {PostX : Pt → Array Value → Addr → Pt → Prop} (hK : vx_Back l R p e below s args y 3 W9 Pre Post PostX)
    {g : JFrame} (hg : g.method = m) (hsize : g.locals.size = c.maxLocals) {argsL rest : List Value} (hlen : ∀ sig, parseMethodDescriptor y.desc = some sig → argsL.length = sig.parameters.length)
    (hstack : g.stack = argsL.reverse ++ rest) (hW : 2 * g.monitorRoom + (rest.map fun v => v.category).sum ≤ W9) (hdg : decode c.code g.pc = .ok (.invokestatic index, 3))
    (hpre : ∀ vm₁, s.WarmedH vm₁ → Pre ⟨T.setVm vm₁, locs, cells, slots⟩ argsL.toArray) :
    (∃ (v : Option Value) (vm₁ : Vm) (B : Pt), s.WarmedH vm₁ ∧ Stand p l e R s m args below meth c B.U B.locs B.cells B.slots ∧ Post ⟨T.setVm vm₁, locs, cells, slots⟩ argsL.toArray v B ∧
      ∀ target, Steps p.tables e below (B.U.setTop { g with pc := g.pc + 3, stack := v.toList ++ rest }) target → Steps p.tables e below (T.setTop g) target) ∨
    (∃ (q : Addr) (vm₁ : Vm) (B : Pt), s.WarmedH vm₁ ∧ Stand p l e R s m args below meth c B.U B.locs B.cells B.slots ∧ PostX ⟨T.setVm vm₁, locs, cells, slots⟩ argsL.toArray q B ∧
      Steps p.tables e below (T.setTop g) ((B.U.setTop { g with stack := rest }).pushFrame (.throwing q))) := by
  obtain ⟨mk, methM, cM, hnamed, hmethM, -, -, -, -, -, -, hsigM⟩ := Cond.codeWith_spec hcode
  have hstatic : methM.isStatic = true := Cond.static_spec hnamed hmethM hstat
  obtain ⟨kP, hkP, -⟩ := className_of_methodNamed hnamed
  have hinitP : kP.init = .initialized := Cond.initialized_spec (findClass_of_methodNamed hnamed) hkP hinit
  obtain ⟨vm₁, X₁, hstep₁⟩ := X.invokestatic hexec hown hlink hnamed hmethM hstatic hkP hinitP hy (g := g) hg (argsL := argsL) (rest := rest) (hlen _ hsigM) hstack hdg
  rcases hK m meth c ⟨T.setVm vm₁, locs, cells, slots⟩ { g with stack := rest } (.invokestatic index) mk argsL.toArray X₁ hg hsize hdg hW (X₁.named hnamed) (hpre vm₁ X₁.warmed) with ⟨v, B, X', hpost, hsteps⟩ | ⟨q, B, X', hpost, hsteps⟩
  · exact Or.inl ⟨v, vm₁, B, X₁.warmed, X', hpost, fun target h => hstep₁ _ fun acts => by rw [doInvoke_state]; exact hsteps.trans h⟩
  · exact Or.inr ⟨q, vm₁, B, X₁.warmed, X', hpost, hstep₁ _ fun acts => by rw [doInvoke_state]; exact hsteps⟩
theorem vx_callVW (X : Stand p l e R s m args below meth c T locs cells slots) (hexec : p.tables.exec = Jvm.exec) {own C : String} {index : Nat} {y : MethodName} {bytes : ByteArray} {maxL : Nat} {ret : Option FieldType} {hh : List (Nat × Nat × Nat × Nat)}
    (hown : s.vm.findClass own = some m.cls) (hlink : (Cond.methodLink own index y).before args s = true) (hinst : (Cond.instanceMethod y).before args s = true) (hsel : (Cond.selects C y y).before args s = true)
    (hcode : (Cond.codeWith y bytes maxL ret hh).before args s = true) (hy : y.cls ≠ "java/lang/invoke/MethodHandle" ∧ y.cls ≠ "java/lang/invoke/VarHandle")
    {W9 : Nat} {Pre : Pt → Array Value → Prop} {Post : Pt → Array Value → Option Value → Pt → Prop} (hK : Back l R p e below s args y 3 W9 Pre Post)
    {b : Addr} {cellB : Cell} (hcell : T.heap[b]? = some cellB) (hobj : cellB.vm.isStatics = false) (hcls : s.vm.findClass C = some cellB.cls)
    {g : JFrame} (hg : g.method = m) (hsize : g.locals.size = c.maxLocals) {argsL rest : List Value} (hlen : ∀ sig, parseMethodDescriptor y.desc = some sig → argsL.length = sig.parameters.length)
    (hstack : g.stack = argsL.reverse ++ .ref b :: rest) (hW : 2 * g.monitorRoom + (rest.map fun v => v.category).sum ≤ W9) (hdg : decode c.code g.pc = .ok (.invokevirtual index, 3))
    (hpre : ∀ vm₁, s.WarmedH vm₁ → Pre ⟨T.setVm vm₁, locs, cells, slots⟩ (Value.ref b :: argsL).toArray) :
    ∃ (v : Option Value) (vm₁ : Vm) (B : Pt), s.WarmedH vm₁ ∧ Stand p l e R s m args below meth c B.U B.locs B.cells B.slots ∧ Post ⟨T.setVm vm₁, locs, cells, slots⟩ (Value.ref b :: argsL).toArray v B ∧
      ∀ target, Steps p.tables e below (B.U.setTop { g with pc := g.pc + 3, stack := v.toList ++ rest }) target → Steps p.tables e below (T.setTop g) target := by
  obtain ⟨mk, methM, hnamed, hmethM, hstM, habM⟩ := Cond.instanceMethod_spec hinst
  obtain ⟨m8, methM', cM, hn8, hmethM', -, -, -, -, -, -, hsigM⟩ := Cond.codeWith_spec hcode
  cases Option.some.inj (hn8.symm.trans hnamed)
  cases hmethM.symm.trans hmethM'
  obtain ⟨c2, r2, m2, q1, q2, q3, q4, kP, hkP, hkPi⟩ := Cond.selects_spec hsel
  cases hcls.symm.trans q1
  cases (State.methodFound?_of_named hnamed hy).symm.trans q2
  cases hnamed.symm.trans q3
  have hselP : selectMethod e.platform s.vm cellB.cls mk = .method mk := by rw [Launch.admits_selectMethod X.admits]; exact q4
  obtain ⟨vm₁, X₁, hstep₁⟩ := X.invokevirtual hexec hown hlink hnamed hmethM hstM hkP hkPi hy (a := b) (cell := cellB) hcell
    (fun z h => by rw [h] at hobj; cases hobj) hselP hmethM habM hkP hkPi (g := g) hg (argsL := argsL) (rest := rest) (hlen _ hsigM) hstack hdg
  obtain ⟨v, B, X', hpost, hsteps⟩ := hK m meth c ⟨T.setVm vm₁, locs, cells, slots⟩ { g with stack := rest } (.invokevirtual index) mk (Value.ref b :: argsL).toArray X₁ hg hsize hdg hW (X₁.named hnamed) (hpre vm₁ X₁.warmed)
  exact ⟨v, vm₁, B, X₁.warmed, X', hpost, fun target h => hstep₁ _ fun acts => by rw [doInvoke_state]; exact hsteps.trans h⟩
abbrev vx_CVW (R : Room) (s : State) (args : Array Value) (own C : String) (index : Nat) (y : MethodName) (bytes : ByteArray) (maxL : Nat) (ret : Option FieldType) (hh : List (Nat × Nat × Nat × Nat)) (ws : List Cond) (rm : Room) (mc ms n : Nat) : Prop :=
  (rm.cells = mc ∧ rm.slots = ms ∧ rm.frames + 1 ≤ R.frames ∧ 8 + (maxL + 11) + rm.locals ≤ R.locals ∧ (∀ w ∈ ws, ∀ (a' : Array Value) (U : State), s.WarmedH U.vm → w.before a' U = true) ∧ Cond.codeWith y bytes maxL ret hh ∈ ws) ∧
  (Cond.codeWith y bytes maxL ret hh).before args s = true ∧ (Cond.initialized y.cls).before args s = true ∧ (y.cls ≠ "java/lang/invoke/MethodHandle" ∧ y.cls ≠ "java/lang/invoke/VarHandle") ∧
  (∀ sig, parseMethodDescriptor y.desc = some sig → n = sig.parameters.length) ∧ (Cond.methodLink own index y).before args s = true ∧ (Cond.instanceMethod y).before args s = true ∧ (Cond.selects C y y).before args s = true
theorem vx_cwVW {own C : String} {index maxL mc ms : Nat} {y : MethodName} {bytes : ByteArray} {ret : Option FieldType} {hh : List (Nat × Nat × Nat × Nat)} {Ts ws ws' : List Cond} {rm : Room} (n : Nat) (ht : ∀ w ∈ Ts, w.before args s = true) (hT : GoodIn Ts (wsV own index C y ws)) (hw : ws = Cond.codeWith y bytes maxL ret hh :: ws') (hrc : rm.cells = mc) (hrs : rm.slots = ms)
    (hd : y.cls = C ∧ y.cls ≠ "java/lang/invoke/MethodHandle" ∧ y.cls ≠ "java/lang/invoke/VarHandle" ∧ (parseMethodDescriptor y.desc).map (fun d => d.parameters.length) = some n) (hR : rm.frames + 1 ≤ R.frames ∧ 8 + (maxL + 11) + rm.locals ≤ R.locals) :
    vx_CVW R s args own C index y bytes maxL ret hh ws rm mc ms n := by
  obtain ⟨hC, hd⟩ := hd
  subst hC
  have ok : ∀ w ∈ wsV own index y.cls y ws, w.before args s = true := fun w h => ht w (hT w h).1
  have hG : GoodIn Ts ws := fun w h => hT w (by unfold wsV; exact List.mem_append_right _ h)
  have hc : Cond.codeWith y bytes maxL ret hh ∈ ws := by rw [hw]; exact List.mem_cons_self
  refine ⟨⟨hrc, hrs, hR.1, hR.2, pay_in ht hG, hc⟩, ht _ (hG _ hc).1, ok _ (by simp [wsV]), ⟨hd.1, hd.2.1⟩, fun sig h => ?_, ok _ (by simp [wsV]), ok _ (by simp [wsV]), ok _ (by simp [wsV])⟩
  have h2 := hd.2.2
  rw [h] at h2
  exact (Option.some.inj h2).symm
theorem vx_runVW {y : MethodName} {bytes cc : ByteArray} {maxL nL mc ms n index : Nat} {ret : Option FieldType} {hh : List (Nat × Nat × Nat × Nat)} {ws : List Cond} {rm : Room} {Pc : Array Value → State → Prop} {Qc : Array Value → State → Outcome → State → Prop} {free : Addr → Prop} {Ts : List Cond} {own C : String} {b : Addr} {As rest : List Value} {g : JFrame}
    (S : CallFix p m c cc nL s args Ts own) (hM : Met l y ws rm Pc Qc mc ms free) (cw : vx_CVW R s args own C index y bytes maxL ret hh ws rm mc ms n) (hp : PreV s H C b Pc As)
    (hg : g.method = m) (hn : As.length = n) (hsize : g.locals.size = nL) (hstack : g.stack = As.reverse ++ .ref b :: rest) (hW : 2 * g.monitorRoom + (rest.map fun v => v.category).sum ≤ 8) (hdg : decode cc g.pc = .ok (.invokevirtual index, 3)) (hf : cells + mc ≤ R.cells ∧ slots + ms ≤ R.slots) :
    va_Run p l e R s m args below meth c H locs cells slots mc ms g rest (Qc (Value.ref b :: As).toArray) free := by
  obtain ⟨⟨hrc, hrs, hfr, hlo, hws, hcw⟩, hcode, hini, hy, hlen, hl, hin, hse⟩ := cw
  have hK : Back l R p e below s args y 3 8 (PreOf R mc ms Pc) (PostOf Qc mc ms free) := va_backW (hh := hh) (bytes := bytes) (maxL := maxL) (ret := ret) hM hp.1 hrc hrs hfr hlo hws hcw (fun a' U hW => word_at hW (Or.inl (by first | rfl | simp [Cond.onTables, Cond.keeps, Cond.steady])) hini)
  obtain ⟨hx, hb, hml, ho, -⟩ := S
  obtain ⟨-, ⟨cellB, hcB, hoB, hclB⟩, hPc⟩ := hp
  intro T hT X
  obtain ⟨v, vm₁, ⟨U', l2, c2, s2⟩, hW₁, X', ⟨g', mk, t, L, e1, e2, hq, h1, hL, h2, h3⟩, st⟩ := vx_callVW X hx (C := C) (hh := hh) (bytes := bytes) (maxL := maxL) (ret := ret) ho hl hin hse hcode hy hK (by rw [hT]; exact hcB) hoB hclB hg (hsize.trans hml.symm) (argsL := As) (rest := rest) (fun sig h => hn.trans (hlen sig h)) hstack hW (by rw [hb]; exact hdg)
    (fun vm₁ hW₁ => ⟨hf.1, hf.2, hPc (T.setVm vm₁) hT hW₁⟩)
  dsimp only [Pt.U, Pt.locs, Pt.cells, Pt.slots] at X' e1 e2 h1 h2 h3 st
  subst h1; subst h2; subst h3
  exact ⟨v, (T.setVm vm₁).calling g' mk (Value.ref b :: As).toArray, t, U', L, hT, X', hL, e1, e2, hq, st⟩
section
variable {y : MethodName} {bytes cc : ByteArray} {maxL nL mc ms n index : Nat} {ret : Option FieldType} {ws : List Cond} {rm : Room} {Pc : Array Value → State → Prop} {Qc : Array Value → State → Outcome → State → Prop} {XC : String → State → State → Prop} {free : Addr → Prop} {Ts : List Cond} {own C : String} {b : Addr} {As rest : List Value} {g : JFrame}
theorem vx_runVX {hh : List (Nat × Nat × Nat × Nat)} (S : CallFix p m c cc nL s args Ts own) (hM : vx_Met l y ws rm Pc Qc XC mc ms free) (cw : vx_CVW R s args own C index y bytes maxL ret hh ws rm mc ms n) (hp : PreV s H C b Pc As)
    (hg : g.method = m) (hn : As.length = n) (hsize : g.locals.size = nL) (hstack : g.stack = As.reverse ++ .ref b :: rest) (hW : 2 * g.monitorRoom + (rest.map fun v => v.category).sum ≤ 8) (hdg : decode cc g.pc = .ok (.invokevirtual index, 3)) (hf : cells + mc ≤ R.cells ∧ slots + ms ≤ R.slots) :
    vx_Run p l e R s m args below meth c H locs cells slots mc ms g rest (Qc (Value.ref b :: As).toArray) XC free := by
  obtain ⟨⟨hrc, hrs, hfr, hlo, hws, hcw⟩, hcode, hini, hy, hlen, hl, hin, hse⟩ := cw
  have hK : vx_Back l R p e below s args y 3 8 (PreOf R mc ms Pc) (PostOf Qc mc ms free) (vx_Post XC mc ms free) := vx_backW (hh := hh) (bytes := bytes) (maxL := maxL) (ret := ret) hM hp.1 hrc hrs hfr hlo hws hcw (fun a' U hW => word_at hW (Or.inl (by first | rfl | simp [Cond.onTables, Cond.keeps, Cond.steady])) hini)
  obtain ⟨hx, hb, hml, ho, -⟩ := S
  obtain ⟨-, ⟨cellB, hcB, hoB, hclB⟩, hPc⟩ := hp
  intro T hT X
  rcases vx_callVX X hx (C := C) (hh := hh) (bytes := bytes) (maxL := maxL) (ret := ret) ho hl hin hse hcode hy hK (by rw [hT]; exact hcB) hoB hclB hg (hsize.trans hml.symm) (argsL := As) (rest := rest) (fun sig h => hn.trans (hlen sig h)) hstack hW (by rw [hb]; exact hdg)
    (fun vm₁ hW₁ => ⟨hf.1, hf.2, hPc (T.setVm vm₁) hT hW₁⟩) with ⟨v, vm₁, ⟨U', l2, c2, s2⟩, hW₁, X', ⟨g', mk, t, L, e1, e2, hq, h1, hL, h2, h3⟩, st⟩ | ⟨q, vm₁, ⟨U', l2, c2, s2⟩, hW₁, X', ⟨g', mk, t, L, E, ce, e1, e2, hq, hce, hcv, hcl, h1, hL, h2, h3⟩, st⟩
  · dsimp only [Pt.U, Pt.locs, Pt.cells, Pt.slots] at X' e1 e2 h1 h2 h3 st
    subst h1; subst h2; subst h3
    exact Or.inl ⟨v, (T.setVm vm₁).calling g' mk (Value.ref b :: As).toArray, t, U', L, hT, X', hL, e1, e2, hq, st⟩
  · dsimp only [Pt.U, Pt.locs, Pt.cells, Pt.slots] at X' e1 e2 h1 h2 h3 st hcl
    subst h1; subst h2; subst h3
    exact Or.inr ⟨q, (T.setVm vm₁).calling g' mk (Value.ref b :: As).toArray, t, U', L, E, ce, hT, X', hL, e1, e2, hq, hce, hcv, vx_cls hW₁ hcl, st⟩
theorem vx_runSX {hh : List (Nat × Nat × Nat × Nat)} (S : CallFix p m c cc nL s args Ts own) (hM : vx_Met l y ws rm Pc Qc XC mc ms free) (cw : vx_CSW R s args own index y bytes maxL ret hh ws rm mc ms n) (hp : PreS s H Pc As)
    (hg : g.method = m) (hn : As.length = n) (hsize : g.locals.size = nL) (hstack : g.stack = As.reverse ++ rest) (hW : 2 * g.monitorRoom + (rest.map fun v => v.category).sum ≤ 8) (hdg : decode cc g.pc = .ok (.invokestatic index, 3)) (hf : cells + mc ≤ R.cells ∧ slots + ms ≤ R.slots) :
    vx_Run p l e R s m args below meth c H locs cells slots mc ms g rest (Qc As.toArray) XC free := by
  obtain ⟨⟨hrc, hrs, hfr, hlo, hws, hcw⟩, hcode, hini, hy, hlen, hl, hstt⟩ := cw
  have hK : vx_Back l R p e below s args y 3 8 (PreOf R mc ms Pc) (PostOf Qc mc ms free) (vx_Post XC mc ms free) := vx_backW (hh := hh) (bytes := bytes) (maxL := maxL) (ret := ret) hM hp.1 hrc hrs hfr hlo hws hcw (fun a' U hW => word_at hW (Or.inl (by first | rfl | simp [Cond.onTables, Cond.keeps, Cond.steady])) hini)
  obtain ⟨hx, hb, hml, ho, -⟩ := S
  intro T hT X
  rcases vx_callSX X hx (hh := hh) (bytes := bytes) (maxL := maxL) (ret := ret) ho hl hstt hini hcode hy hK hg (hsize.trans hml.symm) (argsL := As) (rest := rest) (fun sig h => hn.trans (hlen sig h)) hstack hW (by rw [hb]; exact hdg)
    (fun vm₁ hW₁ => ⟨hf.1, hf.2, hp.2 (T.setVm vm₁) hT hW₁⟩) with ⟨v, vm₁, ⟨U', l2, c2, s2⟩, hW₁, X', ⟨g', mk, t, L, e1, e2, hq, h1, hL, h2, h3⟩, st⟩ | ⟨q, vm₁, ⟨U', l2, c2, s2⟩, hW₁, X', ⟨g', mk, t, L, E, ce, e1, e2, hq, hce, hcv, hcl, h1, hL, h2, h3⟩, st⟩
  · dsimp only [Pt.U, Pt.locs, Pt.cells, Pt.slots] at X' e1 e2 h1 h2 h3 st
    subst h1; subst h2; subst h3
    exact Or.inl ⟨v, (T.setVm vm₁).calling g' mk As.toArray, t, U', L, hT, X', hL, e1, e2, hq, st⟩
  · dsimp only [Pt.U, Pt.locs, Pt.cells, Pt.slots] at X' e1 e2 h1 h2 h3 st hcl
    subst h1; subst h2; subst h3
    exact Or.inr ⟨q, (T.setVm vm₁).calling g' mk As.toArray, t, U', L, E, ce, hT, X', hL, e1, e2, hq, hce, hcv, vx_cls hW₁ hcl, st⟩
end
end VXH
theorem vx_ofWH {l : Launch} {y : MethodName} {ws ws' : List Cond} {rm : Room} {Pc : Array Value → State → Prop} {Qc : Array Value → State → Outcome → State → Prop} {XC : String → State → State → Prop} {mc ms : Nat} {free : Addr → Prop} {cc : ByteArray} {maxL : Nat} {ret : Option FieldType} {hh : List (Nat × Nat × Nat × Nat)}
    (hy : plainName y.cls = true) (hw : ws = Cond.codeWith y cc maxL ret hh :: ws')
    (body : ∀ p e s m args below meth c s₁, BodyLoose p l y (headSpec ws rm) cc maxL ret e s m args below meth c s₁ → c.maxLocals = maxL → Pc args s →
      W p l e (headSpec ws rm).room s m args below meth c s.heap [] 0 0 (vx_MQ below Qc XC args s mc ms free) (entryFrame m args maxL)) : vx_Met l y ws rm Pc Qc XC mc ms free := by
  refine MetFree.of_bodyS (code := cc) (maxLocals := maxL) (ret := ret) hy ?_ ?_
  · intro args s m h hn
    obtain ⟨m9, meth, c, hn9, h1, h2, h3, h4, -, h5, h6, -⟩ := Cond.codeWith_spec (atoms_spec (ws := ws) h _ (by rw [hw]; exact List.mem_cons_self))
    cases hn.symm.trans hn9
    exact ⟨meth, c, h1, h2, h3, h4, h5, h6⟩
  · intro p e s m args below meth c s₁ B hml hP _
    have hh0 : s₁.heap = s.heap := by rw [B.state]; rfl
    obtain ⟨t, a1, o, b1, b2, b3⟩ := body p e s m args below meth c s₁ B hml hP s₁ hh0 (Stand.of_body B)
    exact ⟨t, o, a1, b1, b2, b3⟩
/-! ===== END ===== -/
end
section
def yC0 : String := "MonitorYard"
def yT0 : u_T := fun k => match k with
  | 0 => ("MonitorYard", "threads", "[LMonitorYard$YardThread;", true)
  | 1 => ("MonitorYard", "places", "[LMonitorYard$Place;", true)
  | 2 => ("MonitorYard", "placeCount", "I", false)
  | _ => ("MonitorYard", "ticks", "I", false)
def yF0 : Nat → FieldType := fun k => match k with
  | 0 => .array (.object "MonitorYard$YardThread")
  | 1 => .array (.object "MonitorYard$Place")
  | 2 => .int
  | _ => .int
def yC1 : String := "MonitorYard$YardThread"
def yT1 : u_T := fun k => match k with
  | 0 => ("MonitorYard$YardThread", "number", "I", true)
  | 1 => ("MonitorYard$YardThread", "ended", "[I", true)
  | 2 => ("MonitorYard$YardThread", "state", "I", false)
  | 3 => ("MonitorYard$YardThread", "outcome", "I", false)
  | 4 => ("MonitorYard$YardThread", "place", "LMonitorYard$Place;", false)
  | 5 => ("MonitorYard$YardThread", "value", "I", false)
  | 6 => ("MonitorYard$YardThread", "marked", "Z", false)
  | 7 => ("MonitorYard$YardThread", "patience", "I", false)
  | 8 => ("MonitorYard$YardThread", "act", "I", false)
  | 9 => ("MonitorYard$YardThread", "arg", "I", false)
  | 10 => ("MonitorYard$YardThread", "timesHeld", "I", false)
  | _ => ("MonitorYard$YardThread", "outcomeWhenGranted", "I", false)
def yF1 : Nat → FieldType := fun k => match k with
  | 0 => .int
  | 1 => .array (.int)
  | 2 => .int
  | 3 => .int
  | 4 => .object "MonitorYard$Place"
  | 5 => .int
  | 6 => .boolean
  | 7 => .int
  | 8 => .int
  | 9 => .int
  | 10 => .int
  | _ => .int
def yC2 : String := "MonitorYard$Row"
def yT2 : u_T := fun k => match k with
  | 0 => ("MonitorYard$Row", "threads", "[LMonitorYard$YardThread;", true)
  | _ => ("MonitorYard$Row", "length", "I", false)
def yF2 : Nat → FieldType := fun k => match k with
  | 0 => .array (.object "MonitorYard$YardThread")
  | _ => .int
def yC3 : String := "MonitorYard$Lock"
def yT3 : u_T := fun k => match k with
  | 0 => ("MonitorYard$Place", "kind", "I", true)
  | 1 => ("MonitorYard$Place", "number", "I", true)
  | 2 => ("MonitorYard$Place", "row", "LMonitorYard$Row;", true)
  | 3 => ("MonitorYard$Lock", "condition0", "LMonitorYard$Row;", true)
  | 4 => ("MonitorYard$Lock", "condition1", "LMonitorYard$Row;", true)
  | 5 => ("MonitorYard$Lock", "holder", "LMonitorYard$YardThread;", false)
  | _ => ("MonitorYard$Lock", "timesHeld", "I", false)
def yF3 : Nat → FieldType := fun k => match k with
  | 0 => .int
  | 1 => .int
  | 2 => .object "MonitorYard$Row"
  | 3 => .object "MonitorYard$Row"
  | 4 => .object "MonitorYard$Row"
  | 5 => .object "MonitorYard$YardThread"
  | _ => .int
def yC4 : String := "MonitorYard$Book"
def yT4 : u_T := fun k => match k with
  | 0 => ("MonitorYard$Place", "kind", "I", true)
  | 1 => ("MonitorYard$Place", "number", "I", true)
  | 2 => ("MonitorYard$Place", "row", "LMonitorYard$Row;", true)
  | 3 => ("MonitorYard$Book", "readsOf", "[I", true)
  | 4 => ("MonitorYard$Book", "reads", "I", false)
  | 5 => ("MonitorYard$Book", "writer", "LMonitorYard$YardThread;", false)
  | _ => ("MonitorYard$Book", "writes", "I", false)
def yF4 : Nat → FieldType := fun k => match k with
  | 0 => .int
  | 1 => .int
  | 2 => .object "MonitorYard$Row"
  | 3 => .array (.int)
  | 4 => .int
  | 5 => .object "MonitorYard$YardThread"
  | _ => .int
def yC5 : String := "MonitorYard$Semaphore"
def yT5 : u_T := fun k => match k with
  | 0 => ("MonitorYard$Place", "kind", "I", true)
  | 1 => ("MonitorYard$Place", "number", "I", true)
  | 2 => ("MonitorYard$Place", "row", "LMonitorYard$Row;", true)
  | _ => ("MonitorYard$Semaphore", "permits", "I", false)
def yF5 : Nat → FieldType := fun k => match k with
  | 0 => .int
  | 1 => .int
  | 2 => .object "MonitorYard$Row"
  | _ => .int
def yC6 : String := "MonitorYard$Latch"
def yT6 : u_T := fun k => match k with
  | 0 => ("MonitorYard$Place", "kind", "I", true)
  | 1 => ("MonitorYard$Place", "number", "I", true)
  | 2 => ("MonitorYard$Place", "row", "LMonitorYard$Row;", true)
  | _ => ("MonitorYard$Latch", "height", "I", false)
def yF6 : Nat → FieldType := fun k => match k with
  | 0 => .int
  | 1 => .int
  | 2 => .object "MonitorYard$Row"
  | _ => .int
def yC7 : String := "MonitorYard$Barrier"
def yT7 : u_T := fun k => match k with
  | 0 => ("MonitorYard$Place", "kind", "I", true)
  | 1 => ("MonitorYard$Place", "number", "I", true)
  | 2 => ("MonitorYard$Place", "row", "LMonitorYard$Row;", true)
  | 3 => ("MonitorYard$Barrier", "size", "I", true)
  | _ => ("MonitorYard$Barrier", "broken", "Z", false)
def yF7 : Nat → FieldType := fun k => match k with
  | 0 => .int
  | 1 => .int
  | 2 => .object "MonitorYard$Row"
  | 3 => .int
  | _ => .boolean
def yC8 : String := "MonitorYard$Queue"
def yT8 : u_T := fun k => match k with
  | 0 => ("MonitorYard$Place", "kind", "I", true)
  | 1 => ("MonitorYard$Place", "number", "I", true)
  | 2 => ("MonitorYard$Place", "row", "LMonitorYard$Row;", true)
  | 3 => ("MonitorYard$Queue", "ints", "[I", true)
  | _ => ("MonitorYard$Queue", "length", "I", false)
def yF8 : Nat → FieldType := fun k => match k with
  | 0 => .int
  | 1 => .int
  | 2 => .object "MonitorYard$Row"
  | 3 => .array (.int)
  | _ => .int
def yC9 : String := "MonitorYardModel"
def yT9 : u_T := fun k => match k with
  | 0 => ("MonitorYardModel", "state", "[I", true)
  | 1 => ("MonitorYardModel", "outcome", "[I", true)
  | 2 => ("MonitorYardModel", "where", "[I", true)
  | 3 => ("MonitorYardModel", "value", "[I", true)
  | 4 => ("MonitorYardModel", "patience", "[I", true)
  | 5 => ("MonitorYardModel", "doing", "[I", true)
  | 6 => ("MonitorYardModel", "with", "[I", true)
  | 7 => ("MonitorYardModel", "often", "[I", true)
  | 8 => ("MonitorYardModel", "then", "[I", true)
  | 9 => ("MonitorYardModel", "marked", "[Z", true)
  | 10 => ("MonitorYardModel", "again", "[Z", true)
  | 11 => ("MonitorYardModel", "kind", "[I", true)
  | 12 => ("MonitorYardModel", "size", "[I", true)
  | 13 => ("MonitorYardModel", "amount", "[I", true)
  | 14 => ("MonitorYardModel", "holder", "[I", true)
  | 15 => ("MonitorYardModel", "rowSize", "[I", true)
  | 16 => ("MonitorYardModel", "row", "[I", true)
  | 17 => ("MonitorYardModel", "conditionSize", "[I", true)
  | 18 => ("MonitorYardModel", "condition", "[I", true)
  | 19 => ("MonitorYardModel", "reads", "[I", true)
  | 20 => ("MonitorYardModel", "queue", "[I", true)
  | 21 => ("MonitorYardModel", "ended", "[I", true)
  | 22 => ("MonitorYardModel", "broken", "[Z", true)
  | 23 => ("MonitorYardModel", "objects", "I", false)
  | 24 => ("MonitorYardModel", "ticks", "I", false)
  | 25 => ("MonitorYardModel", "last", "I", false)
  | _ => ("MonitorYardModel", "thrown", "I", false)
def yF9 : Nat → FieldType := fun k => match k with
  | 0 => .array (.int)
  | 1 => .array (.int)
  | 2 => .array (.int)
  | 3 => .array (.int)
  | 4 => .array (.int)
  | 5 => .array (.int)
  | 6 => .array (.int)
  | 7 => .array (.int)
  | 8 => .array (.int)
  | 9 => .array (.boolean)
  | 10 => .array (.boolean)
  | 11 => .array (.int)
  | 12 => .array (.int)
  | 13 => .array (.int)
  | 14 => .array (.int)
  | 15 => .array (.int)
  | 16 => .array (.int)
  | 17 => .array (.int)
  | 18 => .array (.int)
  | 19 => .array (.int)
  | 20 => .array (.int)
  | 21 => .array (.int)
  | 22 => .array (.boolean)
  | 23 => .int
  | 24 => .int
  | 25 => .int
  | _ => .int
/-- the classes whose objects the world holds -/
abbrev ycl : List vw_C := [(yC0, yT0, 4), (yC1, yT1, 12), (yC2, yT2, 2), (yC3, yT3, 7), (yC4, yT4, 7), (yC5, yT5, 4), (yC6, yT6, 4), (yC7, yT7, 5), (yC8, yT8, 5), (yC9, yT9, 27)]
/-- a field's type; whether it holds a reference -/
def yft (ci f : Nat) : FieldType := match ci with
  | 0 => yF0 f
  | 1 => yF1 f
  | 2 => yF2 f
  | 3 => yF3 f
  | 4 => yF4 f
  | 5 => yF5 f
  | 6 => yF6 f
  | 7 => yF7 f
  | 8 => yF8 f
  | _ => yF9 f
def yrt (t : FieldType) : Bool := match t with
  | .object _ => true
  | .array _ => true
  | _ => false
def yfk (ci f : Nat) : Bool := yrt (yft ci f)
def yty (tc : Nat) : FieldType := match tc with
  | 0 => .int
  | 1 => .boolean
  | 2 => .long
  | 3 => .object "MonitorYard$YardThread"
  | _ => .object "MonitorYard$Place"
def ysC : String := "MonitorYard"
def ysn : String := "KIND_OF_ACT"
def ysN : Nat := 17
def yst (j : Nat) : Int32 := match j with
  | 0 => 0
  | 1 => 0
  | 2 => 0
  | 3 => 0
  | 4 => 0
  | 5 => 1
  | 6 => 1
  | 7 => 1
  | 8 => 1
  | 9 => 2
  | 10 => 2
  | 11 => 3
  | 12 => 3
  | 13 => 4
  | 14 => 4
  | 15 => 5
  | _ => 5
end
section
/-! the small logic: abstract values; a world of numbered cells (shape, ints, references); one judgement yWW; a row an instruction -/
abbrev yV : Type := Int32 ⊕ (Option Nat ⊕ Int64)
abbrev yi (x : Int32) : yV := Sum.inl x
abbrev yo (o : Option Nat) : yV := Sum.inr (Sum.inl o)
abbrev yr (k : Nat) : yV := Sum.inr (Sum.inl (some k))
abbrev yn : yV := Sum.inr (Sum.inl none)
abbrev yl (z : Int64) : yV := Sum.inr (Sum.inr z)
def ycv (ad : Nat → Nat) (v : yV) : Value := match v with
  | .inl x => .int x
  | .inr (.inl o) => va_rf (o.map ad)
  | .inr (.inr z) => .long z
/-- a shape: an object of a class by its number, or an array (type code, length) -/
abbrev ySh : Type := Nat ⊕ (Nat × Nat)
abbrev yW : Type := (Nat → Option ySh) × (Nat → Nat → Int32) × (Nat → Nat → Option Nat)
/-- what is fixed: the launch, the heap's size at the law's start, the classes' numbers and slots, the array classes, the address of the static table -/
abbrev yG : Type := Launch × Nat × va_G × (Nat → ClassId) × Nat
abbrev yGl (G : yG) : Launch := G.1
abbrev yGb (G : yG) : Nat := G.2.1
abbrev yD (G : yG) : va_G := G.2.2.1
abbrev ycA (G : yG) : Nat → ClassId := G.2.2.2.1
abbrev ytK (G : yG) : Nat := G.2.2.2.2
def yA (G : yG) : Nat → Prop := fun q => yGb G ≤ q
def yfv (ad : Nat → Nat) (ci i : Nat) (x : Int32) (f : Option Nat) : Value := if yfk ci i = true then ycv ad (yo f) else .int x
def yev (ad : Nat → Nat) (tc : Nat) (x : Int32) (f : Option Nat) : Value := match tc with
  | 0 => .int x
  | 1 => .int x
  | 2 => .long x.toInt64
  | _ => ycv ad (yo f)
def yOK (G : yG) (ad : Nat → Nat) (sp : ySh) (a : Nat) (S : Nat → Int32) (F : Nat → Option Nat) (H : Heap) : Prop := match sp with
  | .inl ci => ∃ r : vw_C, ycl[ci]? = some r ∧ t_OB a ((yD G).1 ci) r.2.2 ((yD G).2 ci) H (fun i => yfv ad ci i (S i) (F i))
  | .inr q => H[a]? = some (arrV (ycA G q.1) q.2 (fun i => yev ad q.1 (S i) (F i)))
def yH (G : yG) (ad : Nat → Nat) (ω : yW) (H : Heap) : Prop := (∀ k k' : Nat, ω.1 k ≠ none → ω.1 k' ≠ none → ad k = ad k' → k = k') ∧ ∀ (k : Nat) (sp : ySh), ω.1 k = some sp → yA G (ad k) ∧ yOK G ad sp (ad k) (ω.2.1 k) (ω.2.2 k) H
def yu {α : Type} (S : Nat → Nat → α) (k i : Nat) (v : α) : Nat → Nat → α := fun k' i' => if k' = k ∧ i' = i then v else S k' i'
def ysi (ω : yW) (k i : Nat) (x : Int32) : yW := (ω.1, yu ω.2.1 k i x, ω.2.2)
def ysf (ω : yW) (k i : Nat) (o : Option Nat) : yW := (ω.1, ω.2.1, yu ω.2.2 k i o)
/-- a new cell under the number k -/
def yadd (ω : yW) (k : Nat) (sp : ySh) : yW := (va_up ω.1 k (some sp), va_up ω.2.1 k (fun _ => 0), va_up ω.2.2 k (fun _ => none))
theorem yu_same {α : Type} (S : Nat → Nat → α) (k i : Nat) (v : α) : yu S k i v k i = v := by simp [yu]
theorem yu_ne {α : Type} (S : Nat → Nat → α) {k i k' i' : Nat} (v : α) (h : k' ≠ k ∨ i' ≠ i) : yu S k i v k' i' = S k' i' := by
  unfold yu
  rw [if_neg]
  rintro ⟨a, b⟩
  rcases h with h | h
  · exact h a
  · exact h b
theorem yOK.kept {G : yG} {ad : Nat → Nat} {sp : ySh} {a : Nat} {S : Nat → Int32} {F : Nat → Option Nat} {H H1 : Heap} (h : yOK G ad sp a S F H) (hq : H1[a]? = H[a]?) : yOK G ad sp a S F H1 := by
  cases sp with
  | inl ci =>
    obtain ⟨r, h1, h2⟩ := h
    exact ⟨r, h1, h2.kept hq⟩
  | inr q => exact hq.trans h
theorem yOK.lt {G : yG} {ad : Nat → Nat} {sp : ySh} {a : Nat} {S : Nat → Int32} {F : Nat → Option Nat} {H : Heap} (h : yOK G ad sp a S F H) : a < H.size := by
  cases sp with
  | inl ci =>
    obtain ⟨r, h1, cell, h2, -⟩ := h
    exact (Array.getElem?_eq_some_iff.mp h2).1
  | inr q => exact (Array.getElem?_eq_some_iff.mp h).1
theorem yH_set {G : yG} {ad : Nat → Nat} {ω ω' : yW} {H H1 : Heap} {k : Nat} {sp : ySh} (h : yH G ad ω H) (hk : ω.1 k = some sp) (hs : ω'.1 = ω.1) (ho : ∀ j, j ≠ k → ω'.2.1 j = ω.2.1 j ∧ ω'.2.2 j = ω.2.2 j)
    (hc : yOK G ad sp (ad k) (ω'.2.1 k) (ω'.2.2 k) H1) (oq : ∀ q : Nat, q ≠ ad k → H1[q]? = H[q]?) : yH G ad ω' H1 := by
  refine ⟨by rw [hs]; exact h.1, fun j sj hj => ?_⟩
  rw [hs] at hj
  refine ⟨(h.2 j sj hj).1, ?_⟩
  by_cases e : j = k
  · subst e
    cases hk.symm.trans hj
    exact hc
  · rw [(ho j e).1, (ho j e).2]
    exact (h.2 j sj hj).2.kept (oq _ (fun z => e (h.1 j k (by rw [hj]; exact fun q => nomatch q) (by rw [hk]; exact fun q => nomatch q) z)))
/-- words that stand through a method: good ones, and those of nest mates -/
def yNs : Cond → Bool
  | .fieldLinkNest .. => true
  | .methodLinkNest .. => true
  | .declares _ => true
  | .castable .. => true
  | .arrayOver (.object _) => true
  | _ => false
def ynw (w : Cond) : Bool := goodWord w || yNs w
def yGx (U : State) : Prop := ∀ w ∈ lw_tbl, ynw w = true → ∀ a : Array Value, w.before a U = true
theorem yGx.warm {U U' : State} (h : yGx U) (hW : U.WarmedH U'.vm) : yGx U' := by
  intro w hw hn a
  have h1 := h w hw hn
  by_cases hg : goodWord w = true
  · exact word_at hW (good_of_word hg) (h1 #[])
  · have h2 : yNs w = true := by
      unfold ynw at hn
      rw [Bool.or_eq_true] at hn
      exact hn.resolve_left hg
    unfold yNs at h2
    split at h2
    · exact va_Nw.use rfl (va_Nw.warmF hW (h1 #[]))
    · exact va_Nw.use rfl (va_Nw.warmM hW (h1 #[]))
    · exact va_Nw.use rfl (va_Nw.warmD hW (h1 #[]))
    · exact va_Nw.use rfl (va_Nw.warmC hW (h1 #[]))
    · exact va_AO.use (va_AO.moved hW.alike (h1 #[]))
    · cases h2
def yK (G : yG) (U : State) : Prop := va_K (yD G) ycl [(ycA G 0, yty 0), (ycA G 1, yty 1), (ycA G 2, yty 2), (ycA G 3, yty 3), (ycA G 4, yty 4)] U
/-- the statics that are read: the table of kinds; what a throw reads -/
def ySt (G : yG) (U : State) (H : Heap) : Prop := vx_Zq Bundle.tN "UNASSIGNED_STACK" Bundle.steD (yA G) U H ∧ vx_Zq Bundle.tN "SUPPRESSED_SENTINEL" Bundle.listD (yA G) U H ∧ va_Z ysC ysn "[I" (.ref (ytK G)) (yA G) U H ∧ va_T .int (ytK G) ysN (fun j => .int (yst j)) (yA G) U H
theorem ySt.moved {G : yG} {u U : State} {H : Heap} (hvm : u.vm.Alike U.vm) (h : ySt G u H) : ySt G U H := ⟨h.1.moved hvm, h.2.1.moved hvm, h.2.2.1.moved hvm, h.2.2.2.moved hvm⟩
theorem ySt.kept {G : yG} {U : State} {H H1 : Heap} (h : ySt G U H) (hq : ∀ a : Nat, a < H.size → ¬ yA G a → H1[a]? = H[a]?) : ySt G U H1 := ⟨h.1.kept hq, h.2.1.kept hq, h.2.2.1.kept hq, h.2.2.2.kept hq⟩
/-- a method: name, code, locals, answer, room, handlers -/
abbrev yM : Type := MethodName × ByteArray × Nat × Option FieldType × Room × List (Nat × Nat × Nat × Nat)
abbrev yMy (i : yM) : MethodName := i.1
abbrev yMb (i : yM) : ByteArray := i.2.1
abbrev yMl (i : yM) : Nat := i.2.2.1
abbrev yMr (i : yM) : Option FieldType := i.2.2.2.1
abbrev yMm (i : yM) : Room := i.2.2.2.2.1
abbrev yMh (i : yM) : List (Nat × Nat × Nat × Nat) := i.2.2.2.2.2
/-- what a method's body may use of the machine -/
def yCx (G : yG) (i : yM) (p : Program) (s : State) (m : MethodId) (meth : Method) (c : Code) : Prop :=
  p.tables.exec = Jvm.exec ∧ c.code = yMb i ∧ meth.sig.returnType = yMr i ∧ c.maxLocals = yMl i ∧ s.vm.findClass (yMy i).cls = some m.cls ∧ meth.locks = false ∧ meth.name = (yMy i).name ∧ yGx s ∧ yK G s ∧ ySt G s s.heap ∧ yGb G ≤ s.heap.size ∧ c.exceptionTable.toList = tableOf (yMh i)
/-- the locals: what is known of them -/
def yLv (ad : Nat → Nat) (n : Nat) (lsA : Array Slot) (ls : List (Option yV)) : Prop := ∃ l : List (Nat × Value), lv_has lsA n l ∧ ls.length = n ∧ ∀ (j : Nat) (v : yV), ls[j]? = some (some v) → (j, ycv ad v) ∈ l ∧ (ycv ad v).category = 1
theorem yLv.get {ad : Nat → Nat} {n : Nat} {lsA : Array Slot} {ls : List (Option yV)} (h : yLv ad n lsA ls) {j : Nat} {v : yV} (hj : ls[j]? = some (some v)) : lsA[j]? = some (.val (ycv ad v)) := by
  obtain ⟨l, h1, -, h3⟩ := h
  exact h1.2.2 _ (h3 j v hj).1
theorem yLv.size {ad : Nat → Nat} {n : Nat} {lsA : Array Slot} {ls : List (Option yV)} (h : yLv ad n lsA ls) : lsA.size = n := by
  obtain ⟨l, h1, -⟩ := h
  exact h1.1
theorem yLv.put {ad : Nat → Nat} {n : Nat} {ls : List (Option yV)} {l : List (Nat × Value)} (h2 : ls.length = n) (h3 : ∀ (j : Nat) (v : yV), ls[j]? = some (some v) → (j, ycv ad v) ∈ l ∧ (ycv ad v).category = 1) {j : Nat} {v : yV} (hv : (ycv ad v).category = 1) {lsA' : Array Slot}
    (h' : lv_has lsA' n ((j, ycv ad v) :: l.filter (fun q => !(q.1 == j) && !(q.1 + 1 == j && q.2.category == 2)))) : yLv ad n lsA' (ls.set j (some v)) := by
  refine ⟨_, h', by rw [List.length_set]; exact h2, fun q w hq => ?_⟩
  by_cases e : q = j
  · subst e
    have hl : q < ls.length := by
      have := (List.getElem?_eq_some_iff.mp hq).1
      rwa [List.length_set] at this
    rw [List.getElem?_set_self hl] at hq
    cases hq
    exact ⟨List.mem_cons_self, hv⟩
  · rw [List.getElem?_set_ne (Ne.symm e)] at hq
    obtain ⟨a1, a2⟩ := h3 q w hq
    refine ⟨List.mem_cons_of_mem _ (List.mem_filter.mpr ⟨a1, ?_⟩), a2⟩
    simp [e, a2]
theorem yLv.ext {ad ad' : Nat → Nat} {n : Nat} {lsA : Array Slot} {ls : List (Option yV)} (h : yLv ad n lsA ls) (he : ∀ (j : Nat) (v : yV), ls[j]? = some (some v) → ycv ad' v = ycv ad v) : yLv ad' n lsA ls := by
  obtain ⟨l, h1, h2, h3⟩ := h
  exact ⟨l, h1, h2, fun j v hj => by rw [he j v hj]; exact h3 j v hj⟩
abbrev yQT : Type := List Frame → Array Value → State → (Nat → Nat) → State → Prop
def yWW (G : yG) (i : yM) (Qf : yQT) (sh0 : Nat → Option ySh) (pc : Nat) (ls : List (Option yV)) (st : List yV) (ω : yW) (cs sl : Nat) : Prop :=
  ∀ (p : Program) (e : Env) (s : State) (m : MethodId) (args : Array Value) (below : List Frame) (meth : Method) (c : Code) (ad0 ad : Nat → Nat) (H : Heap) (locs : List Loc) (lsA : Array Slot),
    yCx G i p s m meth c → (∀ k, (sh0 k ≠ none ∨ ω.1 k = none) → ad k = ad0 k) → va_S (yA G) s.heap H locs → yH G ad ω H → yLv ad (yMl i) lsA ls →
    W p (yGl G) e (yMm i) s m args below meth c H locs cs sl (Qf below args s ad0) (F0 m pc lsA (st.map (ycv ad)))
def yPc (G : yG) (ad0 : Nat → Nat) (As : List yV) (ω : yW) : Array Value → State → Prop := fun v U => v = (As.map (ycv ad0)).toArray ∧ yGx U ∧ yK G U ∧ ySt G U U.heap ∧ yGb G ≤ U.heap.size ∧ yH G ad0 ω U.heap
def yQc (G : yG) (ad0 : Nat → Nat) (sh0 : Nat → Option ySh) (P : Option yV → yW → Prop) : Array Value → State → Outcome → State → Prop := fun _ st o t =>
  ∃ (r : Option yV) (ad : Nat → Nat) (ω : yW), o = .returned (r.map (ycv ad)) ∧ P r ω ∧ (∀ k, (sh0 k ≠ none ∨ ω.1 k = none) → ad k = ad0 k) ∧ yH G ad ω t.heap ∧ va_F (yA G) st t
def yXc (G : yG) (ad0 : Nat → Nat) (sh0 : Nat → Option ySh) (X : String → yW → Prop) : String → State → State → Prop := fun E st t =>
  ∃ (ad : Nat → Nat) (ω : yW), X E ω ∧ (∀ k, (sh0 k ≠ none ∨ ω.1 k = none) → ad k = ad0 k) ∧ yH G ad ω t.heap ∧ va_F (yA G) st t
def yQf (G : yG) (i : yM) (sh0 : Nat → Option ySh) (P : Option yV → yW → Prop) (X : String → yW → Prop) : yQT := fun below args s ad0 => vx_MQ below (yQc G ad0 sh0 P) (yXc G ad0 sh0 X) args s (yMm i).cells (yMm i).slots (yA G)
/-- a method's contract at these arguments and this world -/
def yCT (G : yG) (i : yM) (As : List yV) (ω : yW) (P : Option yV → yW → Prop) (X : String → yW → Prop) : Prop := ∀ ad0 : Nat → Nat,
  vx_Met (yGl G) (yMy i) [.code (yMy i) (yMb i) (yMl i) (yMr i)] (yMm i) (yPc G ad0 As ω) (yQc G ad0 ω.1 P) (yXc G ad0 ω.1 X) (yMm i).cells (yMm i).slots (yA G)
abbrev yNX : String → yW → Prop := fun _ _ => False

section YROWS
variable {G : yG} {i : yM} {Qf : yQT} {sh0 : Nat → Option ySh} {pc : Nat} {ls : List (Option yV)} {st : List yV} {ω : yW} {cs sl : Nat}

theorem yr_iconst {n : Int} {v : Int32} (hd : decode (yMb i) pc = .ok (.iconst n, 1)) (hv : Int32.ofInt n = v) (k : yWW G i Qf sh0 (pc + 1) ls (yi v :: st) ω cs sl) : yWW G i Qf sh0 pc ls (st) ω cs sl := by
  intro p e s m args below meth c ad0 ad H locs lsA C hE hS hH hL
  exact lv_iconst C.1 C.2.1 hd hv (k p e s m args below meth c ad0 ad H locs lsA C hE hS hH hL)

theorem yr_bipush {n : Int} {v : Int32} (hd : decode (yMb i) pc = .ok (.bipush n, 2)) (hv : (Int8.ofInt n).toInt32 = v) (k : yWW G i Qf sh0 (pc + 2) ls (yi v :: st) ω cs sl) : yWW G i Qf sh0 pc ls (st) ω cs sl := by
  intro p e s m args below meth c ad0 ad H locs lsA C hE hS hH hL
  exact lv_bipush C.1 C.2.1 hd hv (k p e s m args below meth c ad0 ad H locs lsA C hE hS hH hL)

theorem yr_null (hd : decode (yMb i) pc = .ok (.aconst_null, 1)) (k : yWW G i Qf sh0 (pc + 1) ls (yn :: st) ω cs sl) : yWW G i Qf sh0 pc ls (st) ω cs sl := by
  intro p e s m args below meth c ad0 ad H locs lsA C hE hS hH hL
  exact lv_null C.1 C.2.1 hd (k p e s m args below meth c ad0 ad H locs lsA C hE hS hH hL)

theorem yr_iload_n {j : Fin 4} {x : Int32} (hd : decode (yMb i) pc = .ok (.iload_n j, 1)) (hl : ls[j.val]? = some (some (yi x))) (k : yWW G i Qf sh0 (pc + 1) ls (yi x :: st) ω cs sl) : yWW G i Qf sh0 pc ls (st) ω cs sl := by
  intro p e s m args below meth c ad0 ad H locs lsA C hE hS hH hL
  exact lv_iload_n C.1 C.2.1 hd rfl (hL.get hl) (k p e s m args below meth c ad0 ad H locs lsA C hE hS hH hL)

theorem yr_iload {j : Nat} {x : Int32} (hd : decode (yMb i) pc = .ok (.iload j, 2)) (hl : ls[j]? = some (some (yi x))) (k : yWW G i Qf sh0 (pc + 2) ls (yi x :: st) ω cs sl) : yWW G i Qf sh0 pc ls (st) ω cs sl := by
  intro p e s m args below meth c ad0 ad H locs lsA C hE hS hH hL
  exact lv_iload C.1 C.2.1 hd (hL.get hl) (k p e s m args below meth c ad0 ad H locs lsA C hE hS hH hL)

theorem yr_aload_n {j : Fin 4} {o : Option Nat} (hd : decode (yMb i) pc = .ok (.aload_n j, 1)) (hl : ls[j.val]? = some (some (yo o))) (k : yWW G i Qf sh0 (pc + 1) ls (yo o :: st) ω cs sl) : yWW G i Qf sh0 pc ls st ω cs sl := by
  intro p e s m args below meth c ad0 ad H locs lsA C hE hS hH hL
  have kk := (k p e s m args below meth c ad0 ad H locs lsA C hE hS hH hL)
  have hg := hL.get hl
  cases o with
  | none => exact lv_aload_nN C.1 C.2.1 hd rfl hg kk
  | some a => exact lv_aload_n C.1 C.2.1 hd rfl hg kk

theorem yr_aload {j : Nat} {o : Option Nat} (hd : decode (yMb i) pc = .ok (.aload j, 2)) (hl : ls[j]? = some (some (yo o))) (k : yWW G i Qf sh0 (pc + 2) ls (yo o :: st) ω cs sl) : yWW G i Qf sh0 pc ls st ω cs sl := by
  intro p e s m args below meth c ad0 ad H locs lsA C hE hS hH hL
  have kk := (k p e s m args below meth c ad0 ad H locs lsA C hE hS hH hL)
  have hg := hL.get hl
  cases o with
  | none => exact lv_aloadN C.1 C.2.1 hd hg kk
  | some a => exact lv_aload C.1 C.2.1 hd hg kk

theorem yr_istore_n {j : Fin 4} {x : Int32} {ls' : List (Option yV)} (hd : decode (yMb i) pc = .ok (.istore_n j, 1)) (hj : j.val < yMl i) (hs : ls.set j.val (some (yi x)) = ls') (k : yWW G i Qf sh0 (pc + 1) ls' st ω cs sl) : yWW G i Qf sh0 pc ls (yi x :: st) ω cs sl := by
  intro p e s m args below meth c ad0 ad H locs lsA C hE hS hH hL
  subst hs
  obtain ⟨l, h1, h2, h3⟩ := hL
  exact lv_istore_n C.1 C.2.1 hd rfl h1 hj rfl (fun lsA h => k p e s m args below meth c ad0 ad H locs lsA C hE hS hH (yLv.put h2 h3 (v := yi x) rfl h))

theorem yr_istore {j : Nat} {x : Int32} {ls' : List (Option yV)} (hd : decode (yMb i) pc = .ok (.istore j, 2)) (hj : j < yMl i) (hs : ls.set j (some (yi x)) = ls') (k : yWW G i Qf sh0 (pc + 2) ls' st ω cs sl) : yWW G i Qf sh0 pc ls (yi x :: st) ω cs sl := by
  intro p e s m args below meth c ad0 ad H locs lsA C hE hS hH hL
  subst hs
  obtain ⟨l, h1, h2, h3⟩ := hL
  exact lv_istore C.1 C.2.1 hd h1 hj rfl (fun lsA h => k p e s m args below meth c ad0 ad H locs lsA C hE hS hH (yLv.put h2 h3 (v := yi x) rfl h))

theorem yr_astore_n {j : Fin 4} {o : Option Nat} {ls' : List (Option yV)} (hd : decode (yMb i) pc = .ok (.astore_n j, 1)) (hj : j.val < yMl i) (hs : ls.set j.val (some (yo o)) = ls') (k : yWW G i Qf sh0 (pc + 1) ls' st ω cs sl) : yWW G i Qf sh0 pc ls (yo o :: st) ω cs sl := by
  intro p e s m args below meth c ad0 ad H locs lsA C hE hS hH hL
  subst hs
  obtain ⟨l, h1, h2, h3⟩ := hL
  cases o with
  | none => exact lv_astore_nN C.1 C.2.1 hd rfl h1 hj rfl (fun lsA h => k p e s m args below meth c ad0 ad H locs lsA C hE hS hH (yLv.put h2 h3 (v := yn) rfl h))
  | some a => exact lv_astore_n C.1 C.2.1 hd rfl h1 hj rfl (fun lsA h => k p e s m args below meth c ad0 ad H locs lsA C hE hS hH (yLv.put h2 h3 (v := yr a) rfl h))

theorem yr_astore {j : Nat} {o : Option Nat} {ls' : List (Option yV)} (hd : decode (yMb i) pc = .ok (.astore j, 2)) (hj : j < yMl i) (hs : ls.set j (some (yo o)) = ls') (k : yWW G i Qf sh0 (pc + 2) ls' st ω cs sl) : yWW G i Qf sh0 pc ls (yo o :: st) ω cs sl := by
  intro p e s m args below meth c ad0 ad H locs lsA C hE hS hH hL
  subst hs
  obtain ⟨l, h1, h2, h3⟩ := hL
  cases o with
  | none => exact lv_astoreN C.1 C.2.1 hd h1 hj rfl (fun lsA h => k p e s m args below meth c ad0 ad H locs lsA C hE hS hH (yLv.put h2 h3 (v := yn) rfl h))
  | some a => exact lv_astore C.1 C.2.1 hd h1 hj rfl (fun lsA h => k p e s m args below meth c ad0 ad H locs lsA C hE hS hH (yLv.put h2 h3 (v := yr a) rfl h))

theorem yr_iinc {j : Nat} {n : Int} {x v : Int32} {ls' : List (Option yV)} (hd : decode (yMb i) pc = .ok (.iinc j n, 3)) (hl : ls[j]? = some (some (yi x))) (hv : x + Int32.ofInt n = v) (hj : j < yMl i) (hs : ls.set j (some (yi v)) = ls') (k : yWW G i Qf sh0 (pc + 3) ls' st ω cs sl) : yWW G i Qf sh0 pc ls st ω cs sl := by
  intro p e s m args below meth c ad0 ad H locs lsA C hE hS hH hL
  subst hs
  obtain ⟨l, h1, h2, h3⟩ := hL
  obtain ⟨q, hq⟩ := List.getElem?_of_mem (h3 j _ hl).1
  exact lv_iinc C.1 C.2.1 hd h1 hq hv hj rfl (fun lsA h => k p e s m args below meth c ad0 ad H locs lsA C hE hS hH (yLv.put h2 h3 (v := yi v) rfl h))

theorem yr_iadd {x y : Int32} (hd : decode (yMb i) pc = .ok (.iadd, 1)) (k : yWW G i Qf sh0 (pc + 1) ls (yi (x + y) :: st) ω cs sl) : yWW G i Qf sh0 pc ls (yi y :: yi x :: st) ω cs sl := by
  intro p e s m args below meth c ad0 ad H locs lsA C hE hS hH hL
  exact lv_iadd C.1 C.2.1 hd (k p e s m args below meth c ad0 ad H locs lsA C hE hS hH hL)

theorem yr_isub {x y : Int32} (hd : decode (yMb i) pc = .ok (.isub, 1)) (k : yWW G i Qf sh0 (pc + 1) ls (yi (x - y) :: st) ω cs sl) : yWW G i Qf sh0 pc ls (yi y :: yi x :: st) ω cs sl := by
  intro p e s m args below meth c ad0 ad H locs lsA C hE hS hH hL
  exact lv_isub C.1 C.2.1 hd (k p e s m args below meth c ad0 ad H locs lsA C hE hS hH hL)

theorem yr_imul {x y : Int32} (hd : decode (yMb i) pc = .ok (.imul, 1)) (k : yWW G i Qf sh0 (pc + 1) ls (yi (x * y) :: st) ω cs sl) : yWW G i Qf sh0 pc ls (yi y :: yi x :: st) ω cs sl := by
  intro p e s m args below meth c ad0 ad H locs lsA C hE hS hH hL
  exact lv_imul C.1 C.2.1 hd (k p e s m args below meth c ad0 ad H locs lsA C hE hS hH hL)

theorem yr_iand {x y : Int32} (hd : decode (yMb i) pc = .ok (.iand, 1)) (k : yWW G i Qf sh0 (pc + 1) ls (yi (x &&& y) :: st) ω cs sl) : yWW G i Qf sh0 pc ls (yi y :: yi x :: st) ω cs sl := by
  intro p e s m args below meth c ad0 ad H locs lsA C hE hS hH hL
  exact lv_iand C.1 C.2.1 hd (k p e s m args below meth c ad0 ad H locs lsA C hE hS hH hL)

theorem yr_ior {x y : Int32} (hd : decode (yMb i) pc = .ok (.ior, 1)) (k : yWW G i Qf sh0 (pc + 1) ls (yi (x ||| y) :: st) ω cs sl) : yWW G i Qf sh0 pc ls (yi y :: yi x :: st) ω cs sl := by
  intro p e s m args below meth c ad0 ad H locs lsA C hE hS hH hL
  exact lv_ior C.1 C.2.1 hd (k p e s m args below meth c ad0 ad H locs lsA C hE hS hH hL)

theorem yr_ishl {x y : Int32} (hd : decode (yMb i) pc = .ok (.ishl, 1)) (k : yWW G i Qf sh0 (pc + 1) ls (yi (x <<< (y &&& 31)) :: st) ω cs sl) : yWW G i Qf sh0 pc ls (yi y :: yi x :: st) ω cs sl := by
  intro p e s m args below meth c ad0 ad H locs lsA C hE hS hH hL
  exact lv_ishl C.1 C.2.1 hd (k p e s m args below meth c ad0 ad H locs lsA C hE hS hH hL)

theorem yr_ineg {x : Int32} (hd : decode (yMb i) pc = .ok (.ineg, 1)) (k : yWW G i Qf sh0 (pc + 1) ls (yi (-x) :: st) ω cs sl) : yWW G i Qf sh0 pc ls (yi x :: st) ω cs sl := by
  intro p e s m args below meth c ad0 ad H locs lsA C hE hS hH hL
  exact lv_ineg C.1 C.2.1 hd (k p e s m args below meth c ad0 ad H locs lsA C hE hS hH hL)

theorem yr_i2l {x : Int32} (hd : decode (yMb i) pc = .ok (.i2l, 1)) (k : yWW G i Qf sh0 (pc + 1) ls (yl x.toInt64 :: st) ω cs sl) : yWW G i Qf sh0 pc ls (yi x :: st) ω cs sl := by
  intro p e s m args below meth c ad0 ad H locs lsA C hE hS hH hL
  exact lv_i2l C.1 C.2.1 hd rfl (k p e s m args below meth c ad0 ad H locs lsA C hE hS hH hL)

theorem yr_dup {v : yV} (hd : decode (yMb i) pc = .ok (.dup, 1)) (hv : ∀ ad, (ycv ad v).category = 1) (k : yWW G i Qf sh0 (pc + 1) ls (v :: v :: st) ω cs sl) : yWW G i Qf sh0 pc ls (v :: st) ω cs sl := by
  intro p e s m args below meth c ad0 ad H locs lsA C hE hS hH hL
  exact lv_dup C.1 C.2.1 hd (hv ad) (k p e s m args below meth c ad0 ad H locs lsA C hE hS hH hL)

theorem yr_pop {v : yV} (hd : decode (yMb i) pc = .ok (.pop, 1)) (hv : ∀ ad, (ycv ad v).category = 1) (k : yWW G i Qf sh0 (pc + 1) ls (st) ω cs sl) : yWW G i Qf sh0 pc ls (v :: st) ω cs sl := by
  intro p e s m args below meth c ad0 ad H locs lsA C hE hS hH hL
  exact lv_pop C.1 C.2.1 hd (hv ad) (k p e s m args below meth c ad0 ad H locs lsA C hE hS hH hL)

theorem yr_dup_x1 {v u : yV} (hd : decode (yMb i) pc = .ok (.dup_x1, 1)) (hv : ∀ ad, (ycv ad v).category = 1) (hu : ∀ ad, (ycv ad u).category = 1) (k : yWW G i Qf sh0 (pc + 1) ls (v :: u :: v :: st) ω cs sl) : yWW G i Qf sh0 pc ls (v :: u :: st) ω cs sl := by
  intro p e s m args below meth c ad0 ad H locs lsA C hE hS hH hL
  exact lv_dup_x1 C.1 C.2.1 hd (hv ad) (hu ad) (k p e s m args below meth c ad0 ad H locs lsA C hE hS hH hL)

theorem yr_dup2 {v u : yV} (hd : decode (yMb i) pc = .ok (.dup2, 1)) (hv : ∀ ad, (ycv ad v).category = 1) (hu : ∀ ad, (ycv ad u).category = 1) (k : yWW G i Qf sh0 (pc + 1) ls (v :: u :: v :: u :: st) ω cs sl) : yWW G i Qf sh0 pc ls (v :: u :: st) ω cs sl := by
  intro p e s m args below meth c ad0 ad H locs lsA C hE hS hH hL
  exact lv_dup2_11 C.1 C.2.1 hd (hv ad) (hu ad) (k p e s m args below meth c ad0 ad H locs lsA C hE hS hH hL)

-- branches: see the shape that the kit gives each condition

theorem yr_if_eq {x : Int32} {off : Int} {tgt : Nat} (hd : decode (yMb i) pc = .ok (.ifCond .eq off, 3)) (ht : (pc : Int) + off = (tgt : Int)) (kt : x = 0 → yWW G i Qf sh0 tgt ls st ω cs sl) (kf : ¬ x = 0 → yWW G i Qf sh0 (pc + 3) ls st ω cs sl) : yWW G i Qf sh0 pc ls (yi x :: st) ω cs sl := by
  intro p e s m args below meth c ad0 ad H locs lsA C hE hS hH hL
  exact lv_if_eq C.1 C.2.1 hd ht (fun q => kt q p e s m args below meth c ad0 ad H locs lsA C hE hS hH hL) (fun q => kf q p e s m args below meth c ad0 ad H locs lsA C hE hS hH hL)
theorem yr_icmp_eq {x y : Int32} {off : Int} {tgt : Nat} (hd : decode (yMb i) pc = .ok (.if_icmp .eq off, 3)) (ht : (pc : Int) + off = (tgt : Int)) (kt : x = y → yWW G i Qf sh0 tgt ls st ω cs sl) (kf : ¬ x = y → yWW G i Qf sh0 (pc + 3) ls st ω cs sl) : yWW G i Qf sh0 pc ls (yi y :: yi x :: st) ω cs sl := by
  intro p e s m args below meth c ad0 ad H locs lsA C hE hS hH hL
  exact lv_icmp_eq C.1 C.2.1 hd ht (fun q => kt q p e s m args below meth c ad0 ad H locs lsA C hE hS hH hL) (fun q => kf q p e s m args below meth c ad0 ad H locs lsA C hE hS hH hL)

theorem yr_if_ne {x : Int32} {off : Int} {tgt : Nat} (hd : decode (yMb i) pc = .ok (.ifCond .ne off, 3)) (ht : (pc : Int) + off = (tgt : Int)) (kt : ¬ x = 0 → yWW G i Qf sh0 tgt ls st ω cs sl) (kf : x = 0 → yWW G i Qf sh0 (pc + 3) ls st ω cs sl) : yWW G i Qf sh0 pc ls (yi x :: st) ω cs sl := by
  intro p e s m args below meth c ad0 ad H locs lsA C hE hS hH hL
  exact lv_if_ne C.1 C.2.1 hd ht (fun q => kt q p e s m args below meth c ad0 ad H locs lsA C hE hS hH hL) (fun q => kf q p e s m args below meth c ad0 ad H locs lsA C hE hS hH hL)
theorem yr_icmp_ne {x y : Int32} {off : Int} {tgt : Nat} (hd : decode (yMb i) pc = .ok (.if_icmp .ne off, 3)) (ht : (pc : Int) + off = (tgt : Int)) (kt : ¬ x = y → yWW G i Qf sh0 tgt ls st ω cs sl) (kf : x = y → yWW G i Qf sh0 (pc + 3) ls st ω cs sl) : yWW G i Qf sh0 pc ls (yi y :: yi x :: st) ω cs sl := by
  intro p e s m args below meth c ad0 ad H locs lsA C hE hS hH hL
  exact lv_icmp_ne C.1 C.2.1 hd ht (fun q => kt q p e s m args below meth c ad0 ad H locs lsA C hE hS hH hL) (fun q => kf q p e s m args below meth c ad0 ad H locs lsA C hE hS hH hL)

theorem yr_if_lt {x : Int32} {off : Int} {tgt : Nat} (hd : decode (yMb i) pc = .ok (.ifCond .lt off, 3)) (ht : (pc : Int) + off = (tgt : Int)) (kt : x < 0 → yWW G i Qf sh0 tgt ls st ω cs sl) (kf : ¬ x < 0 → yWW G i Qf sh0 (pc + 3) ls st ω cs sl) : yWW G i Qf sh0 pc ls (yi x :: st) ω cs sl := by
  intro p e s m args below meth c ad0 ad H locs lsA C hE hS hH hL
  exact lv_if_lt C.1 C.2.1 hd ht (fun q => kt q p e s m args below meth c ad0 ad H locs lsA C hE hS hH hL) (fun q => kf q p e s m args below meth c ad0 ad H locs lsA C hE hS hH hL)
theorem yr_icmp_lt {x y : Int32} {off : Int} {tgt : Nat} (hd : decode (yMb i) pc = .ok (.if_icmp .lt off, 3)) (ht : (pc : Int) + off = (tgt : Int)) (kt : x < y → yWW G i Qf sh0 tgt ls st ω cs sl) (kf : ¬ x < y → yWW G i Qf sh0 (pc + 3) ls st ω cs sl) : yWW G i Qf sh0 pc ls (yi y :: yi x :: st) ω cs sl := by
  intro p e s m args below meth c ad0 ad H locs lsA C hE hS hH hL
  exact lv_icmp_lt C.1 C.2.1 hd ht (fun q => kt q p e s m args below meth c ad0 ad H locs lsA C hE hS hH hL) (fun q => kf q p e s m args below meth c ad0 ad H locs lsA C hE hS hH hL)

theorem yr_if_ge {x : Int32} {off : Int} {tgt : Nat} (hd : decode (yMb i) pc = .ok (.ifCond .ge off, 3)) (ht : (pc : Int) + off = (tgt : Int)) (kt : 0 ≤ x → yWW G i Qf sh0 tgt ls st ω cs sl) (kf : ¬ 0 ≤ x → yWW G i Qf sh0 (pc + 3) ls st ω cs sl) : yWW G i Qf sh0 pc ls (yi x :: st) ω cs sl := by
  intro p e s m args below meth c ad0 ad H locs lsA C hE hS hH hL
  exact lv_if_ge C.1 C.2.1 hd ht (fun q => kt q p e s m args below meth c ad0 ad H locs lsA C hE hS hH hL) (fun q => kf q p e s m args below meth c ad0 ad H locs lsA C hE hS hH hL)
theorem yr_icmp_ge {x y : Int32} {off : Int} {tgt : Nat} (hd : decode (yMb i) pc = .ok (.if_icmp .ge off, 3)) (ht : (pc : Int) + off = (tgt : Int)) (kt : y ≤ x → yWW G i Qf sh0 tgt ls st ω cs sl) (kf : ¬ y ≤ x → yWW G i Qf sh0 (pc + 3) ls st ω cs sl) : yWW G i Qf sh0 pc ls (yi y :: yi x :: st) ω cs sl := by
  intro p e s m args below meth c ad0 ad H locs lsA C hE hS hH hL
  exact lv_icmp_ge C.1 C.2.1 hd ht (fun q => kt q p e s m args below meth c ad0 ad H locs lsA C hE hS hH hL) (fun q => kf q p e s m args below meth c ad0 ad H locs lsA C hE hS hH hL)

theorem yr_if_gt {x : Int32} {off : Int} {tgt : Nat} (hd : decode (yMb i) pc = .ok (.ifCond .gt off, 3)) (ht : (pc : Int) + off = (tgt : Int)) (kt : 0 < x → yWW G i Qf sh0 tgt ls st ω cs sl) (kf : ¬ 0 < x → yWW G i Qf sh0 (pc + 3) ls st ω cs sl) : yWW G i Qf sh0 pc ls (yi x :: st) ω cs sl := by
  intro p e s m args below meth c ad0 ad H locs lsA C hE hS hH hL
  exact lv_if_gt C.1 C.2.1 hd ht (fun q => kt q p e s m args below meth c ad0 ad H locs lsA C hE hS hH hL) (fun q => kf q p e s m args below meth c ad0 ad H locs lsA C hE hS hH hL)
theorem yr_icmp_gt {x y : Int32} {off : Int} {tgt : Nat} (hd : decode (yMb i) pc = .ok (.if_icmp .gt off, 3)) (ht : (pc : Int) + off = (tgt : Int)) (kt : y < x → yWW G i Qf sh0 tgt ls st ω cs sl) (kf : ¬ y < x → yWW G i Qf sh0 (pc + 3) ls st ω cs sl) : yWW G i Qf sh0 pc ls (yi y :: yi x :: st) ω cs sl := by
  intro p e s m args below meth c ad0 ad H locs lsA C hE hS hH hL
  exact lv_icmp_gt C.1 C.2.1 hd ht (fun q => kt q p e s m args below meth c ad0 ad H locs lsA C hE hS hH hL) (fun q => kf q p e s m args below meth c ad0 ad H locs lsA C hE hS hH hL)

theorem yr_if_le {x : Int32} {off : Int} {tgt : Nat} (hd : decode (yMb i) pc = .ok (.ifCond .le off, 3)) (ht : (pc : Int) + off = (tgt : Int)) (kt : x ≤ 0 → yWW G i Qf sh0 tgt ls st ω cs sl) (kf : ¬ x ≤ 0 → yWW G i Qf sh0 (pc + 3) ls st ω cs sl) : yWW G i Qf sh0 pc ls (yi x :: st) ω cs sl := by
  intro p e s m args below meth c ad0 ad H locs lsA C hE hS hH hL
  exact lv_if_le C.1 C.2.1 hd ht (fun q => kt q p e s m args below meth c ad0 ad H locs lsA C hE hS hH hL) (fun q => kf q p e s m args below meth c ad0 ad H locs lsA C hE hS hH hL)
theorem yr_icmp_le {x y : Int32} {off : Int} {tgt : Nat} (hd : decode (yMb i) pc = .ok (.if_icmp .le off, 3)) (ht : (pc : Int) + off = (tgt : Int)) (kt : x ≤ y → yWW G i Qf sh0 tgt ls st ω cs sl) (kf : ¬ x ≤ y → yWW G i Qf sh0 (pc + 3) ls st ω cs sl) : yWW G i Qf sh0 pc ls (yi y :: yi x :: st) ω cs sl := by
  intro p e s m args below meth c ad0 ad H locs lsA C hE hS hH hL
  exact lv_icmp_le C.1 C.2.1 hd ht (fun q => kt q p e s m args below meth c ad0 ad H locs lsA C hE hS hH hL) (fun q => kf q p e s m args below meth c ad0 ad H locs lsA C hE hS hH hL)

theorem yr_goto {off : Int} {tgt : Nat} (hd : decode (yMb i) pc = .ok (.goto off, 3)) (ht : (pc : Int) + off = (tgt : Int)) (k : yWW G i Qf sh0 tgt ls st ω cs sl) : yWW G i Qf sh0 pc ls st ω cs sl := by
  intro p e s m args below meth c ad0 ad H locs lsA C hE hS hH hL
  exact lv_goto C.1 C.2.1 hd ht (k p e s m args below meth c ad0 ad H locs lsA C hE hS hH hL)
theorem yr_ifnull {o : Option Nat} {off : Int} {tgt : Nat} (hd : decode (yMb i) pc = .ok (.ifnull off, 3)) (ht : (pc : Int) + off = (tgt : Int)) (kt : o = none → yWW G i Qf sh0 tgt ls st ω cs sl) (kf : ∀ a, o = some a → yWW G i Qf sh0 (pc + 3) ls st ω cs sl) : yWW G i Qf sh0 pc ls (yo o :: st) ω cs sl := by
  intro p e s m args below meth c ad0 ad H locs lsA C hE hS hH hL
  cases o with
  | none => exact lv_ifnullN C.1 C.2.1 hd ht (kt rfl p e s m args below meth c ad0 ad H locs lsA C hE hS hH hL)
  | some a => exact lv_ifnull C.1 C.2.1 hd (kf a rfl p e s m args below meth c ad0 ad H locs lsA C hE hS hH hL)
theorem yr_ifnonnull {o : Option Nat} {off : Int} {tgt : Nat} (hd : decode (yMb i) pc = .ok (.ifnonnull off, 3)) (ht : (pc : Int) + off = (tgt : Int)) (kt : ∀ a, o = some a → yWW G i Qf sh0 tgt ls st ω cs sl) (kf : o = none → yWW G i Qf sh0 (pc + 3) ls st ω cs sl) : yWW G i Qf sh0 pc ls (yo o :: st) ω cs sl := by
  intro p e s m args below meth c ad0 ad H locs lsA C hE hS hH hL
  cases o with
  | none => exact lv_ifnonnullN C.1 C.2.1 hd (kf rfl p e s m args below meth c ad0 ad H locs lsA C hE hS hH hL)
  | some a => exact lv_ifnonnull C.1 C.2.1 hd ht (kt a rfl p e s m args below meth c ad0 ad H locs lsA C hE hS hH hL)
theorem yr_inj {ad : Nat → Nat} {H : Heap} (hH : yH G ad ω H) {o o' : Option Nat} (hl : ∀ a, o = some a ∨ o' = some a → ω.1 a ≠ none) : o.map ad = o'.map ad ↔ o = o' := by
  refine ⟨fun h => ?_, fun h => by rw [h]⟩
  cases o with
  | none => cases o' with
    | none => rfl
    | some b => cases h
  | some a => cases o' with
    | none => cases h
    | some b => rw [hH.1 a b (hl a (Or.inl rfl)) (hl b (Or.inr rfl)) (Option.some.inj h)]
theorem yr_acmp_eq {o o' : Option Nat} {off : Int} {tgt : Nat} (hd : decode (yMb i) pc = .ok (.if_acmp .eq off, 3)) (ht : (pc : Int) + off = (tgt : Int)) (hl : ∀ a, o = some a ∨ o' = some a → ω.1 a ≠ none) (kt : o = o' → yWW G i Qf sh0 tgt ls st ω cs sl) (kf : ¬ o = o' → yWW G i Qf sh0 (pc + 3) ls st ω cs sl) : yWW G i Qf sh0 pc ls (yo o' :: yo o :: st) ω cs sl := by
  intro p e s m args below meth c ad0 ad H locs lsA C hE hS hH hL
  exact lv_acmp_eq (rx := o.map ad) (ry := o'.map ad) C.1 C.2.1 hd ht (fun q => kt ((yr_inj hH hl).mp q) p e s m args below meth c ad0 ad H locs lsA C hE hS hH hL) (fun q => kf (fun z => q ((yr_inj hH hl).mpr z)) p e s m args below meth c ad0 ad H locs lsA C hE hS hH hL)
theorem yr_acmp_ne {o o' : Option Nat} {off : Int} {tgt : Nat} (hd : decode (yMb i) pc = .ok (.if_acmp .ne off, 3)) (ht : (pc : Int) + off = (tgt : Int)) (hl : ∀ a, o = some a ∨ o' = some a → ω.1 a ≠ none) (kt : ¬ o = o' → yWW G i Qf sh0 tgt ls st ω cs sl) (kf : o = o' → yWW G i Qf sh0 (pc + 3) ls st ω cs sl) : yWW G i Qf sh0 pc ls (yo o' :: yo o :: st) ω cs sl := by
  intro p e s m args below meth c ad0 ad H locs lsA C hE hS hH hL
  exact lv_acmp_ne (rx := o.map ad) (ry := o'.map ad) C.1 C.2.1 hd ht (fun q => kt (fun z => q ((yr_inj hH hl).mpr z)) p e s m args below meth c ad0 ad H locs lsA C hE hS hH hL) (fun q => kf ((yr_inj hH hl).mp q) p e s m args below meth c ad0 ad H locs lsA C hE hS hH hL)

end YROWS
end
section
def yTs : List Cond := lw_tbl.filter ynw
theorem yIn : ∀ r ∈ ycl, ∀ w ∈ u_ws r.1 r.2.1 r.2.2, w ∈ yTs := by decide +kernel
theorem yfnm : ∀ r ∈ ycl, ∀ a, a < r.2.2 → ∀ b, b < r.2.2 → a ≠ b → (r.2.1 a).2.1 ≠ (r.2.1 b).2.1 := by decide +kernel
theorem yftok (ci : Nat) (r : vw_C) (hc : ycl[ci]? = some r) : ∀ j, j < r.2.2 → parseFieldDescriptor (r.2.1 j).2.2.1 = some (yft ci j) := by
  match ci, hc with
  | 0, hc => cases hc; decide +kernel
  | 1, hc => cases hc; decide +kernel
  | 2, hc => cases hc; decide +kernel
  | 3, hc => cases hc; decide +kernel
  | 4, hc => cases hc; decide +kernel
  | 5, hc => cases hc; decide +kernel
  | 6, hc => cases hc; decide +kernel
  | 7, hc => cases hc; decide +kernel
  | 8, hc => cases hc; decide +kernel
  | 9, hc => cases hc; decide +kernel
  | k + 10, hc => simp [ycl] at hc
theorem yfdef (ci : Nat) (r : vw_C) (hc : ycl[ci]? = some r) : ∀ j, j < r.2.2 → defaultValue (yft ci j) = if yfk ci j = true then .null else .int 0 := by
  match ci, hc with
  | 0, hc => cases hc; decide +kernel
  | 1, hc => cases hc; decide +kernel
  | 2, hc => cases hc; decide +kernel
  | 3, hc => cases hc; decide +kernel
  | 4, hc => cases hc; decide +kernel
  | 5, hc => cases hc; decide +kernel
  | 6, hc => cases hc; decide +kernel
  | 7, hc => cases hc; decide +kernel
  | 8, hc => cases hc; decide +kernel
  | 9, hc => cases hc; decide +kernel
  | k + 10, hc => simp [ycl] at hc
end
section
/-! the small logic: fields, arrays, new cells, calls, ends -/
/-- a field's place in the code: pool number ix of class own names field f of class number ci (spelled through ref; by the nest's host where it is private) -/
def ySF (own : String) (ix : Nat) (ref host : String) (ci f : Nat) : Bool := match ycl[ci]? with
  | none => false
  | some r => decide (f < r.2.2) && (if host = "" then decide (Cond.fieldLink own ix ref (r.2.1 f).2.1 (r.2.1 f).2.2.1 ∈ lw_tbl) else decide (Cond.fieldLinkNest own ix ref (r.2.1 f).2.1 (r.2.1 f).2.2.1 host ∈ lw_tbl)) && (decide (ref = (r.2.1 f).1) || decide (Cond.sameField ref (r.2.1 f).1 (r.2.1 f).2.1 (r.2.1 f).2.2.1 ∈ lw_tbl))
theorem yGx.hts {s : State} (h : yGx s) (a : Array Value) : ∀ w ∈ yTs, w.before a s = true := fun w hw => h w (List.mem_filter.mp hw).1 (List.mem_filter.mp hw).2 a
/-- what a field's place gives in a method -/
theorem ySF_use {G : yG} {s : State} {own ref host : String} {ix ci f : Nat} (hs : ySF own ix ref host ci f = true) (hg : yGx s) (hk : yK G s) (args : Array Value) : ∃ (r : vw_C) (cf : ClassId) (kf : Class) (fi : Nat) (fd : Field), ycl[ci]? = some r ∧ f < r.2.2 ∧ s.fieldFound? (r.2.1 f).1 (r.2.1 f).2.1 (r.2.1 f).2.2.1 = some (cf, kf, fi, fd) ∧ s.fieldFound? ref (r.2.1 f).2.1 (r.2.1 f).2.2.1 = some (cf, kf, fi, fd) ∧ fd.isStatic = false ∧ fd.slot = (yD G).2 ci f ∧
    ((host = "" ∧ (Cond.fieldLink own ix ref (r.2.1 f).2.1 (r.2.1 f).2.2.1).before args s = true) ∨ (¬ host = "" ∧ (Cond.fieldLinkNest own ix ref (r.2.1 f).2.1 (r.2.1 f).2.2.1 host).before args s = true)) := by
  unfold ySF at hs
  split at hs
  · cases hs
  · rename_i r hc
    simp only [Bool.and_eq_true, Bool.or_eq_true, decide_eq_true_eq] at hs
    obtain ⟨⟨hf, hl⟩, hsm⟩ := hs
    obtain ⟨hSl, hfc, kC, hkC, hkind⟩ := hk.1 ci _ hc
    obtain ⟨cf, kf, fi, fd, hi, hsl⟩ := hSl f hf
    refine ⟨r, cf, kf, fi, fd, hc, hf, hi, ?_, (u_facts hfc hkC (u_lays (hg.hts args) (fun w hw => yIn r (List.mem_of_getElem? hc) w hw) hf) hi).1, hsl, ?_⟩
    · rcases hsm with e | e
      · rw [e]; exact hi
      · exact u_same (hg _ e rfl args) _ hi
    · by_cases hh : host = ""
      · rw [if_pos hh, decide_eq_true_eq] at hl
        exact Or.inl ⟨hh, hg _ hl rfl args⟩
      · rw [if_neg hh, decide_eq_true_eq] at hl
        exact Or.inr ⟨hh, hg _ hl rfl args⟩
def yval (ω : yW) (k ci f : Nat) : yV := if yfk ci f = true then yo (ω.2.2 k f) else yi (ω.2.1 k f)
theorem yval_cv (ad : Nat → Nat) (ω : yW) (k ci f : Nat) : ycv ad (yval ω k ci f) = yfv ad ci f (ω.2.1 k f) (ω.2.2 k f) := by
  unfold yval yfv
  split <;> rfl
section YH
variable {G : yG} {i : yM} {Qf : yQT} {sh0 : Nat → Option ySh} {pc : Nat} {ls : List (Option yV)} {st : List yV} {ω : yW} {cs sl : Nat}
theorem yr_get0 {k ci f ix : Nat} {ref host : String} (hd : decode (yMb i) pc = .ok (.getfield ix, 3)) (hsh : ω.1 k = some (.inl ci)) (site : ySF (yMy i).cls ix ref host ci f = true) (kk : yWW G i Qf sh0 (pc + 3) ls (yval ω k ci f :: st) ω cs sl) : yWW G i Qf sh0 pc ls (yr k :: st) ω cs sl := by
  intro p e s m args below meth c ad0 ad H locs lsA C hE hS hH hL
  obtain ⟨-, r0, hc0, cell, q1, q2, q3, q4⟩ := hH.2 k _ hsh
  obtain ⟨r, cf, kf, fi, fd, hc, hf, hi, hi2, hst, hsl, hlk⟩ := ySF_use (G := G) site C.2.2.2.2.2.2.2.1 C.2.2.2.2.2.2.2.2.1 args
  cases hc0.symm.trans hc
  have kk' := kk p e s m args below meth c ad0 ad H locs lsA C hE hS hH hL
  rw [List.map_cons, yval_cv] at kk'
  have hv : cell.slots[fd.slot]? = some (yfv ad ci f (ω.2.1 k f) (ω.2.2 k f)) := by rw [hsl]; exact q4 f hf
  have hkn : cell.vm ≠ .unknown := by rw [q3]; exact fun h => by cases h
  rcases hlk with ⟨-, hlk⟩ | ⟨hne, hlk⟩
  · exact W.getf C.1 C.2.1 C.2.2.2.2.1 hlk hi2 hst q1 hkn hv rfl rfl hd kk'
  · exact va_Wgetf C.1 C.2.1 C.2.2.2.2.1 hlk hi2 hst q1 hkn hv rfl rfl hd kk'
theorem yr_geti {k ci f ix : Nat} {ref host : String} (hd : decode (yMb i) pc = .ok (.getfield ix, 3)) (hsh : ω.1 k = some (.inl ci)) (site : ySF (yMy i).cls ix ref host ci f = true) (hk : yfk ci f = false) (kk : yWW G i Qf sh0 (pc + 3) ls (yi (ω.2.1 k f) :: st) ω cs sl) : yWW G i Qf sh0 pc ls (yr k :: st) ω cs sl := by
  refine yr_get0 hd hsh site ?_
  unfold yval
  rw [if_neg (by rw [hk]; decide)]
  exact kk
theorem yr_getr {k ci f ix : Nat} {ref host : String} (hd : decode (yMb i) pc = .ok (.getfield ix, 3)) (hsh : ω.1 k = some (.inl ci)) (site : ySF (yMy i).cls ix ref host ci f = true) (hk : yfk ci f = true) (kk : yWW G i Qf sh0 (pc + 3) ls (yo (ω.2.2 k f) :: st) ω cs sl) : yWW G i Qf sh0 pc ls (yr k :: st) ω cs sl := by
  refine yr_get0 hd hsh site ?_
  unfold yval
  rw [if_pos hk]
  exact kk
/-- the stored cell, seen in the world -/
theorem yput_ok {ad : Nat → Nat} {H H1 : Heap} {s : State} {k ci f : Nat} {r : vw_C} {cell : Cell} {v : yV} {ω' : yW} (hg : yGx s) (hK : yK G s) (args : Array Value) (own : String) (hc : ycl[ci]? = some r) (hf : f < r.2.2) (hH : yH G ad ω H) (hsh : ω.1 k = some (.inl ci)) (q1 : H[ad k]? = some cell) (q2 : cell.cls = (yD G).1 ci) (q3 : cell.vm = .none) (q4 : ∀ j, j < r.2.2 → cell.slots[(yD G).2 ci j]? = some (yfv ad ci j (ω.2.1 k j) (ω.2.2 k j)))
    (hv : v = if yfk ci f = true then yo (ω'.2.2 k f) else yi (ω'.2.1 k f)) (hs : ω'.1 = ω.1) (ho : ∀ j, j ≠ k → ω'.2.1 j = ω.2.1 j ∧ ω'.2.2 j = ω.2.2 j) (hj : ∀ j, j ≠ f → ω'.2.1 k j = ω.2.1 k j ∧ ω'.2.2 k j = ω.2.2 k j)
    (e1 : H1[ad k]? = some (cell.setSlot ((yD G).2 ci f) (ycv ad v))) (e3 : ∀ q, q ≠ ad k → H1[q]? = H[q]?) : yH G ad ω' H1 := by
  refine yH_set hH hsh hs ho ?_ e3
  have hap := va_apart (own := own) (hg.hts args) (fun w hw => yIn r (List.mem_of_getElem? hc) w hw) (yft ci) (fun j hj => yftok ci r hc j hj) (yfnm r (List.mem_of_getElem? hc)) hK hc
  refine ⟨r, hc, _, e1, q2, q3, fun j hjl => ?_⟩
  have h9 := t_set q4 hap hf (ycv ad v) j hjl
  rw [h9]
  unfold updV
  by_cases e : j = f
  · subst e
    rw [if_pos rfl, hv]
    show _ = some (yfv ad ci j (ω'.2.1 k j) (ω'.2.2 k j))
    unfold yfv
    by_cases e9 : yfk ci j = true
    · rw [if_pos e9, if_pos e9]
    · rw [if_neg e9, if_neg e9]; rfl
  · rw [if_neg e]
    show some (yfv ad ci j (ω.2.1 k j) (ω.2.2 k j)) = some (yfv ad ci j (ω'.2.1 k j) (ω'.2.2 k j))
    rw [(hj j e).1, (hj j e).2]
theorem yr_put0 {k ci f ix : Nat} {ref host : String} {v : yV} {ω' : yW} {r : vw_C} (hd : decode (yMb i) pc = .ok (.putfield ix, 3)) (hsh : ω.1 k = some (.inl ci)) (site : ySF (yMy i).cls ix ref host ci f = true) (hr : ycl[ci]? = some r) (hfin : (r.2.1 f).2.2.2 = false)
    (hn : ∀ ad, narrow (yft ci f) (ycv ad v) = ycv ad v ∧ fits (yft ci f) (ycv ad v) = true) (hv : v = if yfk ci f = true then yo (ω'.2.2 k f) else yi (ω'.2.1 k f)) (hs : ω'.1 = ω.1) (ho : ∀ j, j ≠ k → ω'.2.1 j = ω.2.1 j ∧ ω'.2.2 j = ω.2.2 j) (hj : ∀ j, j ≠ f → ω'.2.1 k j = ω.2.1 k j ∧ ω'.2.2 k j = ω.2.2 k j)
    (kk : yWW G i Qf sh0 (pc + 3) ls st ω' cs sl) : yWW G i Qf sh0 pc ls (v :: yr k :: st) ω cs sl := by
  intro p e s m args below meth c ad0 ad H locs lsA C hE hS hH hL
  obtain ⟨hAk, r0, hc0, cell, q1, q2, q3, q4⟩ := hH.2 k _ hsh
  have hg := C.2.2.2.2.2.2.2.1
  have hK := C.2.2.2.2.2.2.2.2.1
  obtain ⟨r1, cf, kf, fi, fd, hc, hf, hi, hi2, hst, hsl, hlk⟩ := ySF_use (G := G) site hg hK args
  cases hc0.symm.trans hc
  cases hr.symm.trans hc
  obtain ⟨-, hfc, kC, hkC, hkind⟩ := hK.1 ci _ hc
  have hlay := hg.hts args _ (yIn r (List.mem_of_getElem? hc) _ (u_in_lay hf))
  unfold u_lay at hlay
  rw [if_neg (by rw [hfin]; decide)] at hlay
  have h6 := u_store hfc hkC hkind hlay hi (yftok ci r hc f hf) (hn ad).1 (hn ad).2
  have hlt : fd.slot < cell.slots.size := by rw [hsl]; exact k2_hasslot (q4 f hf)
  have key : ∀ H' : Heap, H'[ad k]? = some (cell.setSlot fd.slot (ycv ad v)) → H'.size = H.size → (∀ q, q ≠ ad k → H'[q]? = H[q]?) → W p (yGl G) e (yMm i) s m args below meth c H' (locs ++ [⟨ad k, fd.slot⟩]) cs sl (Qf below args s ad0) (F0 m (pc + 3) lsA (st.map (ycv ad))) := by
    intro H' e1 e2 e3
    rw [hsl] at e1
    exact kk p e s m args below meth c ad0 ad H' _ lsA C (fun j hj' => hE j (by rw [hs] at hj'; exact hj')) (hS.put e2 e3 hAk) (yput_ok hg hK args (yMy i).cls hc hf hH hsh q1 q2 q3 q4 hv hs ho hj e1 e3) hL
  rcases hlk with ⟨-, hlk⟩ | ⟨hne, hlk⟩
  · exact W.putK C.1 C.2.1 (f := fd) ⟨C.2.2.2.2.1, hlk, ⟨_, _, _, hi2⟩, hst⟩ (by rw [q2]; exact h6) q1 q3 hlt rfl rfl hd key
  · exact va_WputK C.1 C.2.1 (f := fd) C.2.2.2.2.1 hlk hi2 hst (by rw [q2]; exact h6) q1 q3 hlt rfl rfl hd key
/-- a final field, in the constructor of its class -/
theorem yr_putF0 {k ci f ix : Nat} {ref : String} {v : yV} {ω' : yW} {r : vw_C} (hd : decode (yMb i) pc = .ok (.putfield ix, 3)) (hsh : ω.1 k = some (.inl ci)) (site : ySF (yMy i).cls ix ref "" ci f = true) (hr : ycl[ci]? = some r) (hfin : (r.2.1 f).2.2.2 = true) (hin : (yMy i).name = "<init>") (hdecl : (r.2.1 f).1 = (yMy i).cls)
    (hn : ∀ ad, narrow (yft ci f) (ycv ad v) = ycv ad v ∧ fits (yft ci f) (ycv ad v) = true) (hv : v = if yfk ci f = true then yo (ω'.2.2 k f) else yi (ω'.2.1 k f)) (hs : ω'.1 = ω.1) (ho : ∀ j, j ≠ k → ω'.2.1 j = ω.2.1 j ∧ ω'.2.2 j = ω.2.2 j) (hj : ∀ j, j ≠ f → ω'.2.1 k j = ω.2.1 k j ∧ ω'.2.2 k j = ω.2.2 k j)
    (kk : yWW G i Qf sh0 (pc + 3) ls st ω' cs sl) : yWW G i Qf sh0 pc ls (v :: yr k :: st) ω cs sl := by
  intro p e s m args below meth c ad0 ad H locs lsA C hE hS hH hL
  obtain ⟨hAk, r0, hc0, cell, q1, q2, q3, q4⟩ := hH.2 k _ hsh
  have hg := C.2.2.2.2.2.2.2.1
  have hK := C.2.2.2.2.2.2.2.2.1
  have hown := C.2.2.2.2.1
  obtain ⟨r1, cf, kf, fi, fd, hc, hf, hi, hi2, hst, hsl, hlk⟩ := ySF_use (G := G) site hg hK args
  cases hc0.symm.trans hc
  cases hr.symm.trans hc
  obtain ⟨-, hfc, kC, hkC, hkind⟩ := hK.1 ci _ hc
  have hlay := hg.hts args _ (yIn r (List.mem_of_getElem? hc) _ (u_in_lay hf))
  unfold u_lay at hlay
  rw [if_pos hfin] at hlay
  have hcf : m.cls = cf := by
    obtain ⟨_, _, c', _, _, _, -, -, hf', -, -, -, hown2, -⟩ := Cond.laysFinal_spec hlay
    have e1 : c' = cf := by have := hi.symm.trans hf'; simp at this; exact this.1.symm
    rw [hdecl] at hown2
    rw [← e1]; exact Option.some.inj (hown.symm.trans hown2)
  have h6 := u_fits hfc hkC hkind (Or.inr hlay) hi (yftok ci r hc f hf) (hn ad).1 (hn ad).2
  have hlt : fd.slot < cell.slots.size := by rw [hsl]; exact k2_hasslot (q4 f hf)
  rcases hlk with ⟨-, hlk⟩ | ⟨hne, hlk⟩
  · refine W.putFinK C.1 C.2.1 hown hlk hi2 hst hcf (C.2.2.2.2.2.2.1.trans hin) (by rw [q2]; exact h6) q1 q3 hlt rfl rfl hd fun H' e1 e2 e3 => ?_
    rw [hsl] at e1
    exact kk p e s m args below meth c ad0 ad H' _ lsA C (fun j hj' => hE j (by rw [hs] at hj'; exact hj')) (hS.put e2 e3 hAk) (yput_ok hg hK args (yMy i).cls hc hf hH hsh q1 q2 q3 q4 hv hs ho hj e1 e3) hL
  · exact absurd rfl hne
end YH
end
section
section YA
variable {G : yG} {i : yM} {Qf : yQT} {sh0 : Nat → Option ySh} {pc : Nat} {ls : List (Option yV)} {st : List yV} {ω : yW} {cs sl : Nat}
theorem yin_of {x : Int32} {j n : Nat} (h0 : ¬ x < 0) (hj : x.toNatClampNeg = j) (hn : j < n) (cA : ClassId) (V : Nat → Value) : ¬ (x < 0 ∨ (arrV cA n V).slots.size ≤ x.toNatClampNeg) := by
  rintro (h | h)
  · exact h0 h
  · rw [arrV_size, hj] at h
    omega
theorem yr_iald {k n j : Nat} {x : Int32} (hd : decode (yMb i) pc = .ok (.iaload, 1)) (hsh : ω.1 k = some (.inr (0, n))) (h0 : ¬ x < 0) (hj : x.toNatClampNeg = j) (hn : j < n) (kk : yWW G i Qf sh0 (pc + 1) ls (yi (ω.2.1 k j) :: st) ω cs sl) : yWW G i Qf sh0 pc ls (yi x :: yr k :: st) ω cs sl := by
  intro p e s m args below meth c ad0 ad H locs lsA C hE hS hH hL
  have hcell := (hH.2 k _ hsh).2
  exact W.iald (v := .int (ω.2.1 k j)) C.1 C.2.1 hcell ((C.2.2.2.2.2.2.2.2.1.2 0 _ rfl).1 n _) (fun h => by cases h) (yin_of h0 hj hn _ _) (by rw [hj, arrV_read _ _ hn]; rfl) rfl rfl hd (kk p e s m args below meth c ad0 ad H locs lsA C hE hS hH hL)
theorem yr_zald {k n j : Nat} {x : Int32} (hd : decode (yMb i) pc = .ok (.baload, 1)) (hsh : ω.1 k = some (.inr (1, n))) (h0 : ¬ x < 0) (hj : x.toNatClampNeg = j) (hn : j < n) (kk : yWW G i Qf sh0 (pc + 1) ls (yi (ω.2.1 k j) :: st) ω cs sl) : yWW G i Qf sh0 pc ls (yi x :: yr k :: st) ω cs sl := by
  intro p e s m args below meth c ad0 ad H locs lsA C hE hS hH hL
  have hcell := (hH.2 k _ hsh).2
  exact W.zald (v := .int (ω.2.1 k j)) C.1 C.2.1 hcell ((C.2.2.2.2.2.2.2.2.1.2 1 _ rfl).1 n _) (fun h => by cases h) (yin_of h0 hj hn _ _) (by rw [hj, arrV_read _ _ hn]; rfl) rfl rfl hd (kk p e s m args below meth c ad0 ad H locs lsA C hE hS hH hL)
theorem yr_lald {k n j : Nat} {x : Int32} (hd : decode (yMb i) pc = .ok (.laload, 1)) (hsh : ω.1 k = some (.inr (2, n))) (h0 : ¬ x < 0) (hj : x.toNatClampNeg = j) (hn : j < n) (kk : yWW G i Qf sh0 (pc + 1) ls (yl (ω.2.1 k j).toInt64 :: st) ω cs sl) : yWW G i Qf sh0 pc ls (yi x :: yr k :: st) ω cs sl := by
  intro p e s m args below meth c ad0 ad H locs lsA C hE hS hH hL
  have hcell := (hH.2 k _ hsh).2
  exact W.lald (v := .long (ω.2.1 k j).toInt64) C.1 C.2.1 hcell ((C.2.2.2.2.2.2.2.2.1.2 2 _ rfl).1 n _) (fun h => by cases h) (yin_of h0 hj hn _ _) (by rw [hj, arrV_read _ _ hn]; rfl) rfl rfl hd (kk p e s m args below meth c ad0 ad H locs lsA C hE hS hH hL)
theorem yr_aald3 {k n j : Nat} {x : Int32} (hd : decode (yMb i) pc = .ok (.aaload, 1)) (hsh : ω.1 k = some (.inr (3, n))) (h0 : ¬ x < 0) (hj : x.toNatClampNeg = j) (hn : j < n) (kk : yWW G i Qf sh0 (pc + 1) ls (yo (ω.2.2 k j) :: st) ω cs sl) : yWW G i Qf sh0 pc ls (yi x :: yr k :: st) ω cs sl := by
  intro p e s m args below meth c ad0 ad H locs lsA C hE hS hH hL
  have hcell := (hH.2 k _ hsh).2
  exact W.aald (v := ycv ad (yo (ω.2.2 k j))) (ty := yty 3) C.1 C.2.1 hcell ((C.2.2.2.2.2.2.2.2.1.2 3 _ rfl).1 n _) rfl (fun h => by cases h) (yin_of h0 hj hn _ _) (by rw [hj, arrV_read _ _ hn]; rfl) rfl rfl hd (kk p e s m args below meth c ad0 ad H locs lsA C hE hS hH hL)
theorem yr_aald4 {k n j : Nat} {x : Int32} (hd : decode (yMb i) pc = .ok (.aaload, 1)) (hsh : ω.1 k = some (.inr (4, n))) (h0 : ¬ x < 0) (hj : x.toNatClampNeg = j) (hn : j < n) (kk : yWW G i Qf sh0 (pc + 1) ls (yo (ω.2.2 k j) :: st) ω cs sl) : yWW G i Qf sh0 pc ls (yi x :: yr k :: st) ω cs sl := by
  intro p e s m args below meth c ad0 ad H locs lsA C hE hS hH hL
  have hcell := (hH.2 k _ hsh).2
  exact W.aald (v := ycv ad (yo (ω.2.2 k j))) (ty := yty 4) C.1 C.2.1 hcell ((C.2.2.2.2.2.2.2.2.1.2 4 _ rfl).1 n _) rfl (fun h => by cases h) (yin_of h0 hj hn _ _) (by rw [hj, arrV_read _ _ hn]; rfl) rfl rfl hd (kk p e s m args below meth c ad0 ad H locs lsA C hE hS hH hL)
/-- an array's length, of any of the five types -/
theorem yr_alen {k n tc : Nat} (hd : decode (yMb i) pc = .ok (.arraylength, 1)) (htc : tc < 5) (hsh : ω.1 k = some (.inr (tc, n))) (kk : yWW G i Qf sh0 (pc + 1) ls (yi (nI n) :: st) ω cs sl) : yWW G i Qf sh0 pc ls (yr k :: st) ω cs sl := by
  intro p e s m args below meth c ad0 ad H locs lsA C hE hS hH hL
  have hcell := (hH.2 k _ hsh).2
  have hA : ArrOfT s (ycA G tc) (yty tc) := by
    have hK := C.2.2.2.2.2.2.2.2.1.2
    rcases (show tc = 0 ∨ tc = 1 ∨ tc = 2 ∨ tc = 3 ∨ tc = 4 by omega) with rfl | rfl | rfl | rfl | rfl
    · exact (hK 0 _ rfl).1
    · exact (hK 1 _ rfl).1
    · exact (hK 2 _ rfl).1
    · exact (hK 3 _ rfl).1
    · exact (hK 4 _ rfl).1
  exact W.alen (n := nI n) (ty := yty tc) C.1 C.2.1 hcell (hA n _) (by rw [arrV_size]; rfl) rfl rfl hd (kk p e s m args below meth c ad0 ad H locs lsA C hE hS hH hL)
theorem yast_ok {ad : Nat → Nat} {H H1 : Heap} {k n j tc : Nat} {w : Value} {ω' : yW} (hH : yH G ad ω H) (hsh : ω.1 k = some (.inr (tc, n))) (hw : w = yev ad tc (ω'.2.1 k j) (ω'.2.2 k j)) (hs : ω'.1 = ω.1) (ho : ∀ q, q ≠ k → ω'.2.1 q = ω.2.1 q ∧ ω'.2.2 q = ω.2.2 q) (hj : ∀ q, q ≠ j → ω'.2.1 k q = ω.2.1 k q ∧ ω'.2.2 k q = ω.2.2 k q)
    (e1 : H1[ad k]? = some ((arrV (ycA G tc) n (fun q => yev ad tc (ω.2.1 k q) (ω.2.2 k q))).setSlot j w)) (e3 : ∀ q, q ≠ ad k → H1[q]? = H[q]?) : yH G ad ω' H1 := by
  refine yH_set hH hsh hs ho ?_ e3
  show H1[ad k]? = some (arrV _ _ _)
  rw [e1, arrV_store]
  congr 2
  funext q
  unfold updV
  by_cases e : q = j
  · rw [if_pos e, e, hw]
  · rw [if_neg e, (hj q e).1, (hj q e).2]
theorem ysi_ho (ω : yW) (k j : Nat) (x : Int32) : ∀ q, q ≠ k → (ysi ω k j x).2.1 q = ω.2.1 q ∧ (ysi ω k j x).2.2 q = ω.2.2 q := fun q hq => ⟨funext fun z => yu_ne _ _ (Or.inl hq), rfl⟩
theorem ysi_hj (ω : yW) (k j : Nat) (x : Int32) : ∀ q, q ≠ j → (ysi ω k j x).2.1 k q = ω.2.1 k q ∧ (ysi ω k j x).2.2 k q = ω.2.2 k q := fun q hq => ⟨yu_ne _ _ (Or.inr hq), rfl⟩
theorem ysf_ho (ω : yW) (k j : Nat) (x : Option Nat) : ∀ q, q ≠ k → (ysf ω k j x).2.1 q = ω.2.1 q ∧ (ysf ω k j x).2.2 q = ω.2.2 q := fun q hq => ⟨rfl, funext fun z => yu_ne _ _ (Or.inl hq)⟩
theorem ysf_hj (ω : yW) (k j : Nat) (x : Option Nat) : ∀ q, q ≠ j → (ysf ω k j x).2.1 k q = ω.2.1 k q ∧ (ysf ω k j x).2.2 k q = ω.2.2 k q := fun q hq => ⟨rfl, yu_ne _ _ (Or.inr hq)⟩
theorem yr_puti {k ci f ix : Nat} {ref host : String} {x : Int32} {r : vw_C} (hd : decode (yMb i) pc = .ok (.putfield ix, 3)) (hsh : ω.1 k = some (.inl ci)) (site : ySF (yMy i).cls ix ref host ci f = true) (hr : ycl[ci]? = some r) (hfin : (r.2.1 f).2.2.2 = false) (hk : yfk ci f = false)
    (hn : narrow (yft ci f) (.int x) = .int x ∧ fits (yft ci f) (.int x) = true) (kk : yWW G i Qf sh0 (pc + 3) ls st (ysi ω k f x) cs sl) : yWW G i Qf sh0 pc ls (yi x :: yr k :: st) ω cs sl :=
  yr_put0 (ω' := ysi ω k f x) hd hsh site hr hfin (fun _ => hn) (by rw [if_neg (by rw [hk]; decide)]; exact congrArg yi (yu_same _ _ _ _).symm) rfl (ysi_ho ω k f x) (ysi_hj ω k f x) kk
theorem yr_putr {k ci f ix : Nat} {ref host : String} {o : Option Nat} {r : vw_C} (hd : decode (yMb i) pc = .ok (.putfield ix, 3)) (hsh : ω.1 k = some (.inl ci)) (site : ySF (yMy i).cls ix ref host ci f = true) (hr : ycl[ci]? = some r) (hfin : (r.2.1 f).2.2.2 = false) (hk : yfk ci f = true)
    (hn : ∀ ad, narrow (yft ci f) (ycv ad (yo o)) = ycv ad (yo o) ∧ fits (yft ci f) (ycv ad (yo o)) = true) (kk : yWW G i Qf sh0 (pc + 3) ls st (ysf ω k f o) cs sl) : yWW G i Qf sh0 pc ls (yo o :: yr k :: st) ω cs sl :=
  yr_put0 (ω' := ysf ω k f o) hd hsh site hr hfin hn (by rw [if_pos hk]; exact congrArg yo (yu_same _ _ _ _).symm) rfl (ysf_ho ω k f o) (ysf_hj ω k f o) kk
theorem yr_putiF {k ci f ix : Nat} {ref : String} {x : Int32} {r : vw_C} (hd : decode (yMb i) pc = .ok (.putfield ix, 3)) (hsh : ω.1 k = some (.inl ci)) (site : ySF (yMy i).cls ix ref "" ci f = true) (hr : ycl[ci]? = some r) (hfin : (r.2.1 f).2.2.2 = true) (hin : (yMy i).name = "<init>") (hdecl : (r.2.1 f).1 = (yMy i).cls) (hk : yfk ci f = false)
    (hn : narrow (yft ci f) (.int x) = .int x ∧ fits (yft ci f) (.int x) = true) (kk : yWW G i Qf sh0 (pc + 3) ls st (ysi ω k f x) cs sl) : yWW G i Qf sh0 pc ls (yi x :: yr k :: st) ω cs sl :=
  yr_putF0 (ω' := ysi ω k f x) hd hsh site hr hfin hin hdecl (fun _ => hn) (by rw [if_neg (by rw [hk]; decide)]; exact congrArg yi (yu_same _ _ _ _).symm) rfl (ysi_ho ω k f x) (ysi_hj ω k f x) kk
theorem yr_putrF {k ci f ix : Nat} {ref : String} {o : Option Nat} {r : vw_C} (hd : decode (yMb i) pc = .ok (.putfield ix, 3)) (hsh : ω.1 k = some (.inl ci)) (site : ySF (yMy i).cls ix ref "" ci f = true) (hr : ycl[ci]? = some r) (hfin : (r.2.1 f).2.2.2 = true) (hin : (yMy i).name = "<init>") (hdecl : (r.2.1 f).1 = (yMy i).cls) (hk : yfk ci f = true)
    (hn : ∀ ad, narrow (yft ci f) (ycv ad (yo o)) = ycv ad (yo o) ∧ fits (yft ci f) (ycv ad (yo o)) = true) (kk : yWW G i Qf sh0 (pc + 3) ls st (ysf ω k f o) cs sl) : yWW G i Qf sh0 pc ls (yo o :: yr k :: st) ω cs sl :=
  yr_putF0 (ω' := ysf ω k f o) hd hsh site hr hfin hin hdecl hn (by rw [if_pos hk]; exact congrArg yo (yu_same _ _ _ _).symm) rfl (ysf_ho ω k f o) (ysf_hj ω k f o) kk
theorem yr_iast {k n j : Nat} {x z : Int32} (hd : decode (yMb i) pc = .ok (.iastore, 1)) (hsh : ω.1 k = some (.inr (0, n))) (h0 : ¬ x < 0) (hj : x.toNatClampNeg = j) (hn : j < n) (kk : yWW G i Qf sh0 (pc + 1) ls st (ysi ω k j z) cs sl) : yWW G i Qf sh0 pc ls (yi z :: yi x :: yr k :: st) ω cs sl := by
  intro p e s m args below meth c ad0 ad H locs lsA C hE hS hH hL
  subst hj
  refine W.iast C.1 C.2.1 (hH.2 k _ hsh).2 ((C.2.2.2.2.2.2.2.2.1.2 0 _ rfl).1 n _) (fun h => by cases h) (yin_of h0 rfl hn _ _) rfl rfl hd fun H' e1 e2 e3 => ?_
  exact kk p e s m args below meth c ad0 ad H' _ lsA C hE (hS.put e2 e3 (hH.2 k _ hsh).1) (yast_ok hH hsh (by rw [show (ysi ω k x.toNatClampNeg z).2.1 k x.toNatClampNeg = z from yu_same _ _ _ _]; rfl) rfl (ysi_ho ω k _ z) (ysi_hj ω k _ z) e1 e3) hL
theorem yr_zast {k n j : Nat} {x z : Int32} (hd : decode (yMb i) pc = .ok (.bastore, 1)) (hsh : ω.1 k = some (.inr (1, n))) (h0 : ¬ x < 0) (hj : x.toNatClampNeg = j) (hn : j < n) (hz : narrow .boolean (.int z) = .int z) (kk : yWW G i Qf sh0 (pc + 1) ls st (ysi ω k j z) cs sl) : yWW G i Qf sh0 pc ls (yi z :: yi x :: yr k :: st) ω cs sl := by
  intro p e s m args below meth c ad0 ad H locs lsA C hE hS hH hL
  subst hj
  refine W.zast C.1 C.2.1 (hH.2 k _ hsh).2 ((C.2.2.2.2.2.2.2.2.1.2 1 _ rfl).1 n _) (fun h => by cases h) (yin_of h0 rfl hn _ _) rfl rfl hd fun H' e1 e2 e3 => ?_
  rw [hz] at e1
  exact kk p e s m args below meth c ad0 ad H' _ lsA C hE (hS.put e2 e3 (hH.2 k _ hsh).1) (yast_ok hH hsh (by rw [show (ysi ω k x.toNatClampNeg z).2.1 k x.toNatClampNeg = z from yu_same _ _ _ _]; rfl) rfl (ysi_ho ω k _ z) (ysi_hj ω k _ z) e1 e3) hL
theorem yr_last {k n j : Nat} {x z : Int32} (hd : decode (yMb i) pc = .ok (.lastore, 1)) (hsh : ω.1 k = some (.inr (2, n))) (h0 : ¬ x < 0) (hj : x.toNatClampNeg = j) (hn : j < n) (kk : yWW G i Qf sh0 (pc + 1) ls st (ysi ω k j z) cs sl) : yWW G i Qf sh0 pc ls (yl z.toInt64 :: yi x :: yr k :: st) ω cs sl := by
  intro p e s m args below meth c ad0 ad H locs lsA C hE hS hH hL
  subst hj
  refine W.last C.1 C.2.1 (hH.2 k _ hsh).2 ((C.2.2.2.2.2.2.2.2.1.2 2 _ rfl).1 n _) (fun h => by cases h) (yin_of h0 rfl hn _ _) rfl rfl hd fun H' e1 e2 e3 => ?_
  exact kk p e s m args below meth c ad0 ad H' _ lsA C hE (hS.put e2 e3 (hH.2 k _ hsh).1) (yast_ok hH hsh (by rw [show (ysi ω k x.toNatClampNeg z).2.1 k x.toNatClampNeg = z from yu_same _ _ _ _]; rfl) rfl (ysi_ho ω k _ z) (ysi_hj ω k _ z) e1 e3) hL
end YA
end
section
section YN
variable {G : yG} {i : yM} {Qf : yQT} {sh0 : Nat → Option ySh} {pc : Nat} {ls : List (Option yV)} {st : List yV} {ω : yW} {cs sl : Nat}
/-- a reference into an array of references: by the tables the class may stand there -/
theorem yr_aast {k n j kv ci tc : Nat} {x : Int32} {r : vw_C} {C : String} (hd : decode (yMb i) pc = .ok (.aastore, 1)) (htc : tc = 3 ∨ tc = 4) (hty : yty tc = .object C) (hsh : ω.1 k = some (.inr (tc, n))) (hv : ω.1 kv = some (.inl ci)) (hr : ycl[ci]? = some r) (hcast : r.1 = C ∨ Cond.castable r.1 C ∈ lw_tbl) (h0 : ¬ x < 0) (hj : x.toNatClampNeg = j) (hn : j < n)
    (kk : yWW G i Qf sh0 (pc + 1) ls st (ysf ω k j (some kv)) cs sl) : yWW G i Qf sh0 pc ls (yr kv :: yi x :: yr k :: st) ω cs sl := by
  intro p e s m args below meth c ad0 ad H locs lsA C0 hE hS hH hL
  subst hj
  have hg := C0.2.2.2.2.2.2.2.1
  have hK := C0.2.2.2.2.2.2.2.2.1
  have hRA : va_RA s (ycA G tc) (.object C) := by
    rcases htc with rfl | rfl
    · have h9 := (hK.2 3 _ rfl).2; rw [hty] at h9; exact h9
    · have h9 := (hK.2 4 _ rfl).2; rw [hty] at h9; exact h9
  obtain ⟨kA, comp, k1, k2, k3, -⟩ := hRA
  obtain ⟨-, r0, hc0, cellV, g1, g2, g3, -⟩ := hH.2 kv _ hv
  cases hc0.symm.trans hr
  have hcls := (hK.1 ci r hr).2
  obtain ⟨kC, hkC, -⟩ := hcls.2
  obtain ⟨kcomp, hkcomp, -⟩ := Vm.findClass_spec k3
  have hasg : s.vm.assignable cellV.cls comp = true := by
    rw [g2]
    rcases hcast with hcast | hcast
    · rw [hcast] at hcls
      cases Option.some.inj (k3.symm.trans hcls.1)
      exact va_assign hcls
    · obtain ⟨c3, c4, f1, f2, f3⟩ := Cond.castable_spec (hg _ hcast rfl args)
      cases Option.some.inj (f1.symm.trans hcls.1)
      cases Option.some.inj (f2.symm.trans k3)
      exact f3
  have hev : ∀ (y : Int32) (o : Option Nat), yev ad tc y o = ycv ad (yo o) := by
    rcases htc with rfl | rfl <;> exact fun _ _ => rfl
  refine W.aast C0.1 C0.2.1 (hH.2 k _ hsh).2 (fun q h => by cases h) (fun h => by cases h) k1 k2 rfl hkcomp ⟨h0, by rw [arrV_size]; exact hn⟩ g1 (fun q h => by rw [g3] at h; cases h) (by rw [g2]; exact hkC) hasg rfl rfl hd fun H' e1 e2 e3 => ?_
  exact kk p e s m args below meth c ad0 ad H' _ lsA C0 hE (hS.put e2 e3 (hH.2 k _ hsh).1) (yast_ok hH hsh (by rw [hev, show (ysf ω k x.toNatClampNeg (some kv)).2.2 k x.toNatClampNeg = some kv from yu_same _ _ _ _]; rfl) rfl (ysf_ho ω k _ _) (ysf_hj ω k _ _) e1 e3) hL
theorem ycv_up {ad : Nat → Nat} {kn q : Nat} {v : yV} (h : v ≠ yr kn) : ycv (va_up ad kn q) v = ycv ad v := by
  rcases v with x | (o | z)
  · rfl
  · cases o with
    | none => rfl
    | some a =>
      show Value.ref (va_up ad kn q a) = Value.ref (ad a)
      rw [va_up_ne _ _ (fun e => h (by rw [e]))]
  · rfl
theorem yst_up {ad : Nat → Nat} {kn q : Nat} (l : List yV) (h : ∀ v ∈ l, v ≠ yr kn) : l.map (ycv (va_up ad kn q)) = l.map (ycv ad) := List.map_congr_left fun v hv => ycv_up (h v hv)
/-- a new cell in the heap, under a number that nobody has -/
theorem yH_new {ad : Nat → Nat} {H H' : Heap} {kn : Nat} {sp : ySh} (hH : yH G ad ω H) (hb : yGb G ≤ H.size) (f1 : ω.1 kn = none) (f2 : ∀ (k : Nat) (s9 : ySh) (f : Nat), ω.1 k = some s9 → ω.2.2 k f ≠ some kn) (h1 : ∀ q, q < H.size → H'[q]? = H[q]?) (hn : yOK G (va_up ad kn H.size) sp H.size (fun _ => 0) (fun _ => none) H') : yH G (va_up ad kn H.size) (yadd ω kn sp) H' := by
  have hlt : ∀ k, ω.1 k ≠ none → ad k < H.size := by
    intro k hk
    cases h9 : ω.1 k with
    | none => exact absurd h9 hk
    | some s9 => exact (hH.2 k s9 h9).2.lt
  have hsh : ∀ k, k ≠ kn → (yadd ω kn sp).1 k = ω.1 k := fun k hk => va_up_ne _ _ hk
  refine ⟨fun k k' hk hk' he => ?_, fun k s9 hk => ?_⟩
  · by_cases e1 : k = kn
    · by_cases e2 : k' = kn
      · rw [e1, e2]
      · rw [hsh k' e2] at hk'
        rw [e1, va_up_self, va_up_ne _ _ e2] at he
        have := hlt k' hk'
        omega
    · rw [hsh k e1] at hk
      by_cases e2 : k' = kn
      · rw [e2, va_up_self, va_up_ne _ _ e1] at he
        have := hlt k hk
        omega
      · rw [hsh k' e2] at hk'
        rw [va_up_ne _ _ e1, va_up_ne _ _ e2] at he
        exact hH.1 k k' hk hk' he
  · by_cases e1 : k = kn
    · subst e1
      have hk2 : some sp = some s9 := by
        have : (yadd ω k sp).1 k = some sp := va_up_self _ _ _
        rw [← this]; exact hk
      cases hk2
      rw [va_up_self]
      refine ⟨hb, ?_⟩
      have a1 : (yadd ω k sp).2.1 k = fun _ => 0 := va_up_self _ _ _
      have a2 : (yadd ω k sp).2.2 k = fun _ => none := va_up_self _ _ _
      rw [a1, a2]
      exact hn
    · rw [hsh k e1] at hk
      rw [va_up_ne _ _ e1]
      obtain ⟨b1, b2⟩ := hH.2 k s9 hk
      refine ⟨b1, ?_⟩
      have a1 : (yadd ω kn sp).2.1 k = ω.2.1 k := va_up_ne _ _ e1
      have a2 : (yadd ω kn sp).2.2 k = ω.2.2 k := va_up_ne _ _ e1
      rw [a1, a2]
      have b3 := b2.kept (h1 _ b2.lt)
      cases s9 with
      | inl ci =>
        obtain ⟨r, hr, ho⟩ := b3
        refine ⟨r, hr, ho.to fun j hj => ?_⟩
        show yfv ad ci j _ _ = yfv _ ci j _ _
        unfold yfv
        split
        · exact (ycv_up (v := yo (ω.2.2 k j)) (fun z => f2 k _ j hk (Sum.inl.inj (Sum.inr.inj z)))).symm
        · rfl
      | inr q9 =>
        refine Eq.trans b3 ?_
        congr 2
        funext j
        unfold yev
        split
        · rfl
        · rfl
        · rfl
        · exact (ycv_up (v := yo (ω.2.2 k j)) (fun z => f2 k _ j hk (Sum.inl.inj (Sum.inr.inj z)))).symm
theorem yr_new {ci ix n kn : Nat} {r : vw_C} (hd : decode (yMb i) pc = .ok (.new ix, 3)) (hr : ycl[ci]? = some r) (hl : Cond.classLink (yMy i).cls ix r.1 ∈ lw_tbl) (hi : Cond.instantiable r.1 n ∈ lw_tbl) (hini : Cond.initialized r.1 ∈ lw_tbl) (f0 : sh0 kn = none) (f1 : ω.1 kn = none) (f2 : ∀ (k : Nat) (s9 : ySh) (f : Nat), ω.1 k = some s9 → ω.2.2 k f ≠ some kn) (f3 : ∀ v ∈ st, v ≠ yr kn) (f4 : ∀ v, some v ∈ ls → v ≠ yr kn)
    (hcs : cs + 1 ≤ (yMm i).cells) (hsl : sl + n ≤ (yMm i).slots) (kk : yWW G i Qf sh0 (pc + 3) ls (yr kn :: st) (yadd ω kn (.inl ci)) (cs + 1) (sl + n)) : yWW G i Qf sh0 pc ls st ω cs sl := by
  intro p e s m args below meth c ad0 ad H locs lsA C hE hS hH hL
  have hg := C.2.2.2.2.2.2.2.1
  have hK := C.2.2.2.2.2.2.2.2.1
  have hb : yGb G ≤ H.size := Nat.le_trans C.2.2.2.2.2.2.2.2.2.2.1 hS.1
  have hKn := hK.1 ci r hr
  refine W.newcK C.1 C.2.1 C.2.2.2.2.1 (hg _ hl rfl args) (hg _ hi rfl args) (hg _ hini rfl args) rfl hd hcs hsl hKn.2.1 rfl fun H' kC h1 h2 h3 h4 => ?_
  have hnew : yOK G (va_up ad kn H.size) (.inl ci) H.size (fun _ => 0) (fun _ => none) H' := by
    refine ⟨r, hr, (u_born (yft ci) (hg.hts args) (fun w hw => yIn r (List.mem_of_getElem? hr) w hw) hKn h1 h2 (fun j hj => yftok ci r hr j hj)).to fun j hj => ?_⟩
    show defaultValue (yft ci j) = yfv _ ci j 0 none
    rw [yfdef ci r hr j hj]
    rfl
  have k1 := kk p e s m args below meth c ad0 (va_up ad kn H.size) H' locs lsA C (fun k hk => by
      by_cases e1 : k = kn
      · subst e1
        rcases hk with hk | hk
        · exact absurd f0 hk
        · have : (yadd ω k (.inl ci)).1 k = some (.inl ci) := va_up_self _ _ _
          rw [this] at hk; cases hk
      · rw [va_up_ne _ _ e1]
        have : (yadd ω kn (.inl ci)).1 k = ω.1 k := va_up_ne _ _ e1
        rw [this] at hk
        exact hE k hk) ⟨Nat.le_trans hS.1 (by omega), fun q a1 a2 => (h4 q (Nat.lt_of_lt_of_le a1 hS.1)).trans (hS.2.1 q a1 a2), hS.2.2⟩ (yH_new hH hb f1 f2 h4 hnew) (hL.ext fun j v hj => ycv_up (f4 v (List.mem_of_getElem? hj)))
  rw [List.map_cons, yst_up st f3] at k1
  have k2 : ycv (va_up ad kn H.size) (yr kn) = .ref H.size := by
    show Value.ref (va_up ad kn H.size kn) = _
    rw [va_up_self]
  rw [k2] at k1
  exact k1
theorem yr_newa {tc kn N : Nat} {x : Int32} {ty : ArrayType} (hd : decode (yMb i) pc = .ok (.newarray ty, 2)) (hty : newarray.typeOf ty = yty tc) (htc : tc < 3) (hw : Cond.arrayClass (yty tc) ∈ lw_tbl) (h0 : ¬ x < 0) (hN : x.toNatClampNeg = N) (hb8 : N * 8 ≤ 536870912) (f0 : sh0 kn = none) (f1 : ω.1 kn = none) (f2 : ∀ (k : Nat) (s9 : ySh) (f : Nat), ω.1 k = some s9 → ω.2.2 k f ≠ some kn) (f3 : ∀ v ∈ st, v ≠ yr kn) (f4 : ∀ v, some v ∈ ls → v ≠ yr kn)
    (hcs : cs + 1 ≤ (yMm i).cells) (hsl : sl + N ≤ (yMm i).slots) (kk : yWW G i Qf sh0 (pc + 2) ls (yr kn :: st) (yadd ω kn (.inr (tc, N))) (cs + 1) (sl + N)) : yWW G i Qf sh0 pc ls (yi x :: st) ω cs sl := by
  intro p e s m args below meth c ad0 ad H locs lsA C hE hS hH hL
  subst hN
  have hg := C.2.2.2.2.2.2.2.1
  have hK := C.2.2.2.2.2.2.2.2.1
  have hb : yGb G ≤ H.size := Nat.le_trans C.2.2.2.2.2.2.2.2.2.2.1 hS.1
  have hcb : componentBytes (newarray.typeOf ty) ≤ 8 := by
    rw [hty]
    rcases (show tc = 0 ∨ tc = 1 ∨ tc = 2 by omega) with rfl | rfl | rfl <;> decide
  refine W.newa C.1 C.2.1 (by rw [hty]; exact hg _ hw (by rcases (show tc = 0 ∨ tc = 1 ∨ tc = 2 by omega) with rfl | rfl | rfl <;> rfl) args) rfl hd rfl h0 (Nat.le_trans (Nat.mul_le_mul_left _ hcb) hb8) hcs hsl fun cA kA comp h1 h2 h3 => ?_
  have hcA : cA = ycA G tc := by
    rw [hty] at h1
    rcases (show tc = 0 ∨ tc = 1 ∨ tc = 2 by omega) with rfl | rfl | rfl
    · exact Option.some.inj (h1.symm.trans (hK.2 0 _ rfl).2)
    · exact Option.some.inj (h1.symm.trans (hK.2 1 _ rfl).2)
    · exact Option.some.inj (h1.symm.trans (hK.2 2 _ rfl).2)
  subst hcA
  generalize hH' : H.push ({ cls := ycA G tc, slots := Array.replicate x.toNatClampNeg (defaultValue (newarray.typeOf ty)), vm := .none } : Cell) = H'
  have h4 : ∀ q : Nat, q < H.size → H'[q]? = H[q]? := fun q hq => by rw [← hH', Array.getElem?_push, if_neg (Nat.ne_of_lt hq)]
  have h5 : H'.size = H.size + 1 := by rw [← hH', Array.size_push]
  have hnew : yOK G (va_up ad kn H.size) (.inr (tc, x.toNatClampNeg)) H.size (fun _ => 0) (fun _ => none) H' := by
    show H'[H.size]? = some (arrV _ _ _)
    rw [← hH', Array.getElem?_push_size, arrV_new]
    congr 2
    funext j
    rw [hty]
    rcases (show tc = 0 ∨ tc = 1 ∨ tc = 2 by omega) with rfl | rfl | rfl <;> rfl
  have k1 := kk p e s m args below meth c ad0 (va_up ad kn H.size) H' locs lsA C (fun k hk => by
      by_cases e1 : k = kn
      · subst e1
        rcases hk with hk | hk
        · exact absurd f0 hk
        · have : (yadd ω k (.inr (tc, x.toNatClampNeg))).1 k = some (.inr (tc, x.toNatClampNeg)) := va_up_self _ _ _
          rw [this] at hk; cases hk
      · rw [va_up_ne _ _ e1]
        have : (yadd ω kn (.inr (tc, x.toNatClampNeg))).1 k = ω.1 k := va_up_ne _ _ e1
        rw [this] at hk
        exact hE k hk) ⟨Nat.le_trans hS.1 (by omega), fun q a1 a2 => (h4 q (Nat.lt_of_lt_of_le a1 hS.1)).trans (hS.2.1 q a1 a2), hS.2.2⟩ (yH_new hH hb f1 f2 h4 hnew) (hL.ext fun j v hj => ycv_up (f4 v (List.mem_of_getElem? hj)))
  rw [List.map_cons, yst_up st f3] at k1
  have k2 : ycv (va_up ad kn H.size) (yr kn) = .ref H.size := by
    show Value.ref (va_up ad kn H.size kn) = _
    rw [va_up_self]
  rw [k2] at k1
  exact k1
theorem yr_newq {tc kn N ix : Nat} {x : Int32} {C0 : String} (hd : decode (yMb i) pc = .ok (.anewarray ix, 3)) (htc : tc = 3 ∨ tc = 4) (hty : yty tc = .object C0) (hl : Cond.classLink (yMy i).cls ix C0 ∈ lw_tbl) (hw : Cond.arrayOver (.object C0) ∈ lw_tbl) (h0 : ¬ x < 0) (hN : x.toNatClampNeg = N) (hb8 : N * 8 ≤ 536870912) (f0 : sh0 kn = none) (f1 : ω.1 kn = none) (f2 : ∀ (k : Nat) (s9 : ySh) (f : Nat), ω.1 k = some s9 → ω.2.2 k f ≠ some kn) (f3 : ∀ v ∈ st, v ≠ yr kn) (f4 : ∀ v, some v ∈ ls → v ≠ yr kn)
    (hcs : cs + 1 ≤ (yMm i).cells) (hsl : sl + N ≤ (yMm i).slots) (kk : yWW G i Qf sh0 (pc + 3) ls (yr kn :: st) (yadd ω kn (.inr (tc, N))) (cs + 1) (sl + N)) : yWW G i Qf sh0 pc ls (yi x :: st) ω cs sl := by
  intro p e s m args below meth c ad0 ad H locs lsA C hE hS hH hL
  subst hN
  have hg := C.2.2.2.2.2.2.2.1
  have hK := C.2.2.2.2.2.2.2.2.1
  have hb : yGb G ≤ H.size := Nat.le_trans C.2.2.2.2.2.2.2.2.2.2.1 hS.1
  refine W.anew C.1 C.2.1 C.2.2.2.2.1 (hg _ hl rfl args) (hg _ hw rfl args) rfl hd rfl h0 (by omega) hcs hsl fun cA kA comp h1 h2 h3 h3b => ?_
  have hcA : cA = ycA G tc := by
    rcases htc with rfl | rfl
    · have h9 := (hK.2 3 _ rfl).2
      rw [hty] at h9
      obtain ⟨_, _, -, -, -, h10⟩ := h9
      exact Option.some.inj (h1.symm.trans h10)
    · have h9 := (hK.2 4 _ rfl).2
      rw [hty] at h9
      obtain ⟨_, _, -, -, -, h10⟩ := h9
      exact Option.some.inj (h1.symm.trans h10)
  subst hcA
  generalize hH' : H.push ({ cls := ycA G tc, slots := Array.replicate x.toNatClampNeg .null, vm := .none } : Cell) = H'
  have h4 : ∀ q : Nat, q < H.size → H'[q]? = H[q]? := fun q hq => by rw [← hH', Array.getElem?_push, if_neg (Nat.ne_of_lt hq)]
  have h5 : H'.size = H.size + 1 := by rw [← hH', Array.size_push]
  have hnew : yOK G (va_up ad kn H.size) (.inr (tc, x.toNatClampNeg)) H.size (fun _ => 0) (fun _ => none) H' := by
    show H'[H.size]? = some (arrV _ _ _)
    rw [← hH', Array.getElem?_push_size, arrV_new]
    congr 2
    funext j
    rcases htc with rfl | rfl <;> rfl
  have k1 := kk p e s m args below meth c ad0 (va_up ad kn H.size) H' locs lsA C (fun k hk => by
      by_cases e1 : k = kn
      · subst e1
        rcases hk with hk | hk
        · exact absurd f0 hk
        · have : (yadd ω k (.inr (tc, x.toNatClampNeg))).1 k = some (.inr (tc, x.toNatClampNeg)) := va_up_self _ _ _
          rw [this] at hk; cases hk
      · rw [va_up_ne _ _ e1]
        have : (yadd ω kn (.inr (tc, x.toNatClampNeg))).1 k = ω.1 k := va_up_ne _ _ e1
        rw [this] at hk
        exact hE k hk) ⟨Nat.le_trans hS.1 (by omega), fun q a1 a2 => (h4 q (Nat.lt_of_lt_of_le a1 hS.1)).trans (hS.2.1 q a1 a2), hS.2.2⟩ (yH_new hH hb f1 f2 h4 hnew) (hL.ext fun j v hj => ycv_up (f4 v (List.mem_of_getElem? hj)))
  rw [List.map_cons, yst_up st f3] at k1
  have k2 : ycv (va_up ad kn H.size) (yr kn) = .ref H.size := by
    show Value.ref (va_up ad kn H.size kn) = _
    rw [va_up_self]
  rw [k2] at k1
  exact k1
end YN
end
section
/-! the small logic: calls and ends -/
theorem yPc_blind {G : yG} {ad : Nat → Nat} {As : List yV} {ω : yW} : FrameBlind (yPc G ad As ω) := by
  intro a U g mk ⟨h1, h2, h3, h4, h5, h6⟩
  exact ⟨h1, h2.warm (U' := U.calling g mk a) (State.WarmedH.refl U), va_K.moved (u := U) (U := U.calling g mk a) (Vm.Alike.refl U.vm) h3, ySt.moved (u := U) (U := U.calling g mk a) (Vm.Alike.refl U.vm) h4, h5, h6⟩
def yck (R : Room) (i' : yM) (n : Nat) : Bool := decide ((yMm i').frames + 1 ≤ R.frames) && decide (8 + (yMl i' + 11) + (yMm i').locals ≤ R.locals) && decide ((yMy i').cls ≠ "java/lang/invoke/MethodHandle") && decide ((yMy i').cls ≠ "java/lang/invoke/VarHandle") && decide ((parseMethodDescriptor (yMy i').desc).map (fun d => d.parameters.length) = some n)
abbrev ycode (i' : yM) : Cond := .code (yMy i') (yMb i') (yMl i') (yMr i')
/-- a callee that throws nothing -/
theorem yMet {l : Launch} {y : MethodName} {ws : List Cond} {rm : Room} {Pc : Array Value → State → Prop} {Qc : Array Value → State → Outcome → State → Prop} {XC : String → State → State → Prop} {mc ms : Nat} {free : Addr → Prop} (h : vx_Met l y ws rm Pc Qc XC mc ms free) (hX : ∀ E s t, ¬ XC E s t) : Met l y ws rm Pc Qc mc ms free := by
  intro p e a1 a2 a3 s m args below b1 b2 b3 b4
  obtain ⟨n, o, c1, c2, c3, c4⟩ := h p e a1 a2 a3 s m args below b1 b2 b3 b4
  refine ⟨n, o, c1, c2, c3, ?_⟩
  rcases c4 with c4 | ⟨q, -, E, ce, L, hx, -⟩
  · exact c4
  · exact absurd hx (hX _ _ _)
theorem yMetN {G : yG} {i : yM} {As : List yV} {ω : yW} {P : Option yV → yW → Prop} (h : yCT G i As ω P yNX) (ad : Nat → Nat) : Met (yGl G) (yMy i) [.code (yMy i) (yMb i) (yMl i) (yMr i)] (yMm i) (yPc G ad As ω) (yQc G ad ω.1 P) (yMm i).cells (yMm i).slots (yA G) :=
  yMet (h ad) (fun _ _ _ ⟨_, _, hx, _⟩ => hx)
theorem yRunN {p : Program} {l : Launch} {e : Env} {R : Room} {s : State} {m : MethodId} {args : Array Value} {below : List Frame} {meth : Method} {c : Code} {H : Heap} {locs : List Loc} {cells slots mc ms : Nat} {g : JFrame} {rest : List Value} {Qa : State → Outcome → State → Prop} {XC : String → State → State → Prop} {free : Addr → Prop} (h : va_Run p l e R s m args below meth c H locs cells slots mc ms g rest Qa free) : vx_Run p l e R s m args below meth c H locs cells slots mc ms g rest Qa XC free :=
  fun T hT X => Or.inl (h T hT X)
section YC
variable {G : yG} {i : yM} {Qf : yQT} {sh0 : Nat → Option ySh} {pc : Nat} {ls : List (Option yV)} {st : List yV} {ω : yW} {cs sl : Nat}
variable {p : Program} {e : Env} {s : State} {m : MethodId} {args : Array Value} {below : List Frame} {meth : Method} {c : Code} {ad : Nat → Nat} {H : Heap} {locs : List Loc} {lsA : Array Slot}
theorem yPc_at {As : List yV} {U : State} (C : yCx G i p s m meth c) (hS : va_S (yA G) s.heap H locs) (hH : yH G ad ω H) (hU : U.heap = H) (hW : s.WarmedH U.vm) : yPc G ad As ω (As.map (ycv ad)).toArray U := by
  obtain ⟨-, -, -, -, -, -, -, hg, hK, hst, hsz, -⟩ := C
  refine ⟨rfl, hg.warm hW, va_K.moved hW.alike hK, ?_, ?_, ?_⟩
  · rw [hU]; exact ySt.moved hW.alike (hst.kept hS.2.1)
  · rw [hU]; exact Nat.le_trans hsz hS.1
  · rw [hU]; exact hH
theorem yws {i' : yM} (hg : yGx s) (hcode : ycode i' ∈ lw_tbl) : ∀ w ∈ [ycode i'], ∀ (a' : Array Value) (U : State), s.WarmedH U.vm → w.before a' U = true := by
  intro w hw a' U hW
  rw [List.mem_singleton] at hw
  subst hw
  exact hg.warm hW _ hcode rfl a'
theorem yCB {i' : yM} {own : String} {ix n : Nat} (hg : yGx s) (hck : yck (yMm i) i' n = true) (hcode : ycode i' ∈ lw_tbl) (hini : Cond.initialized (yMy i').cls ∈ lw_tbl) (hl : Cond.methodLink own ix (yMy i') ∈ lw_tbl) :
    CallB (yMm i) s args own ix (yMy i') (yMb i') (yMl i') (yMr i') [ycode i'] (yMm i') (yMm i').cells (yMm i').slots n := by
  unfold yck at hck
  simp only [Bool.and_eq_true, decide_eq_true_eq] at hck
  obtain ⟨⟨⟨⟨h1, h2⟩, h3⟩, h4⟩, h5⟩ := hck
  refine ⟨rfl, rfl, h1, h2, yws hg hcode, List.mem_singleton_self _, hg _ hcode rfl args, hg _ hini rfl args, ⟨h3, h4⟩, fun sig h => ?_, hg _ hl rfl args⟩
  rw [h] at h5
  exact (Option.some.inj h5).symm
theorem yrecv {k ci : Nat} {r : vw_C} (C : yCx G i p s m meth c) (hH : yH G ad ω H) (hsh : ω.1 k = some (.inl ci)) (hr : ycl[ci]? = some r) : ∃ cellB : Cell, H[ad k]? = some cellB ∧ cellB.vm.isStatics = false ∧ s.vm.findClass r.1 = some cellB.cls := by
  obtain ⟨-, r0, hc0, cell, q1, q2, q3, -⟩ := hH.2 k _ hsh
  cases hc0.symm.trans hr
  exact ⟨cell, q1, by rw [q3]; rfl, by rw [q2]; exact (C.2.2.2.2.2.2.2.2.1.1 ci r hr).2.1⟩
end YC
section YD
variable {G : yG} {i : yM} {Qf : yQT} {sh0 : Nat → Option ySh} {pc : Nat} {ls : List (Option yV)} {st : List yV} {ω : yW} {cs sl : Nat}
/-- how a call runs: what each kind of call gives -/
def yRun (G : yG) (i i' : yM) (pc : Nat) (ls : List (Option yV)) (stk rest As : List yV) (ω : yW) (cs sl : Nat) (P : Option yV → yW → Prop) (X : String → yW → Prop) : Prop :=
  ∀ (p : Program) (e : Env) (s : State) (m : MethodId) (args : Array Value) (below : List Frame) (meth : Method) (c : Code) (ad : Nat → Nat) (H : Heap) (locs : List Loc) (lsA : Array Slot),
    yCx G i p s m meth c → va_S (yA G) s.heap H locs → yH G ad ω H → yLv ad (yMl i) lsA ls →
    vx_Run p (yGl G) e (yMm i) s m args below meth c H locs cs sl (yMm i').cells (yMm i').slots (F0 m pc lsA (stk.map (ycv ad))) (rest.map (ycv ad)) (yQc G ad ω.1 P (As.map (ycv ad)).toArray) (yXc G ad ω.1 X) (yA G)
/-- the callee makes nothing and throws nothing -/
theorem yr_call {i' : yM} {stk rest As : List yV} {P : Option yV → yW → Prop} (hr : yRun G i i' pc ls stk rest As ω cs sl P yNX) (hP : ∀ r ω', P r ω' → ω'.1 = ω.1) (kk : ∀ r ω', P r ω' → yWW G i Qf sh0 (pc + 3) ls (r.toList ++ rest) ω' (cs + (yMm i').cells) (sl + (yMm i').slots)) : yWW G i Qf sh0 pc ls stk ω cs sl := by
  intro p e s m args below meth c ad0 ad H locs lsA C hE hS hH hL
  intro T hT X
  rcases hr p e s m args below meth c ad H locs lsA C hS hH hL T hT X with ⟨v, st₀, t, T', L, h0, X', hL2, e1, e2, ⟨r, ad', ω', hv, hp, hx, hH', hF⟩, stp⟩ | ⟨q, st₀, t, T', L, E, ce, h0, X', hL2, e1, e2, ⟨ad', ω', hx, -⟩, -⟩
  · cases hv
    have hs := hP r ω' hp
    have hadd : ad' = ad := by
      funext k
      refine hx k ?_
      by_cases h9 : ω.1 k = none
      · exact Or.inr (by rw [hs]; exact h9)
      · exact Or.inl h9
    subst hadd
    obtain ⟨k1, k2, k3⟩ := vx_keep h0 e1 hS (fun q _ h => h) (fun q h => h) hL2 hF
    have k4 := kk r ω' hp p e s m args below meth c ad0 ad' T'.heap (locs ++ L) lsA C (fun k hk => hE k (by rw [hs] at hk; exact hk)) k3 (by rw [e1]; exact hH') hL
    rw [List.map_append] at k4
    obtain ⟨t2, a1, b1⟩ := k4 T' rfl X'
    refine ⟨t2, stp t2 ?_, b1⟩
    cases r with
    | none => exact a1
    | some w => exact a1
  · exact absurd hx id
/-- .. or it makes cells: their numbers are new -/
theorem yr_callN {i' : yM} {stk rest As : List yV} {P : Option yV → yW → Prop} (hr : yRun G i i' pc ls stk rest As ω cs sl P yNX) (hm : ∀ k, sh0 k ≠ none → ω.1 k ≠ none) (hP : ∀ r ω', P r ω' → (∀ k, ω'.1 k = none → ω.1 k = none) ∧ (∀ k, (yr k ∈ rest ∨ some (yr k) ∈ ls) → ω.1 k ≠ none ∨ ω'.1 k = none)) (kk : ∀ r ω', P r ω' → yWW G i Qf sh0 (pc + 3) ls (r.toList ++ rest) ω' (cs + (yMm i').cells) (sl + (yMm i').slots)) : yWW G i Qf sh0 pc ls stk ω cs sl := by
  intro p e s m args below meth c ad0 ad H locs lsA C hE hS hH hL
  intro T hT X
  rcases hr p e s m args below meth c ad H locs lsA C hS hH hL T hT X with ⟨v, st₀, t, T', L, h0, X', hL2, e1, e2, ⟨r, ad', ω', hv, hp, hx, hH', hF⟩, stp⟩ | ⟨q, st₀, t, T', L, E, ce, h0, X', hL2, e1, e2, ⟨ad', ω', hx, -⟩, -⟩
  · cases hv
    obtain ⟨hq1, hq2⟩ := hP r ω' hp
    have hcv : ∀ v : yV, (∀ k, v = yr k → ad' k = ad k) → ycv ad' v = ycv ad v := by
      intro v hv
      rcases v with x | (o | z)
      · rfl
      · cases o with
        | none => rfl
        | some a => exact congrArg Value.ref (hv a rfl)
      · rfl
    obtain ⟨k1, k2, k3⟩ := vx_keep h0 e1 hS (fun q _ h => h) (fun q h => h) hL2 hF
    have k4 := kk r ω' hp p e s m args below meth c ad0 ad' T'.heap (locs ++ L) lsA C (fun k hk => by
        rcases hk with hk | hk
        · rw [hx k (Or.inl (hm k hk))]; exact hE k (Or.inl hk)
        · rw [hx k (Or.inr hk)]; exact hE k (Or.inr (hq1 k hk))) k3 (by rw [e1]; exact hH') (hL.ext fun j v hj => hcv v fun k hk => hx k (hq2 k (Or.inr (by rw [← hk]; exact List.mem_of_getElem? hj))))
    rw [List.map_append, show rest.map (ycv ad') = rest.map (ycv ad) from List.map_congr_left fun v hv => hcv v fun k hk => hx k (hq2 k (Or.inl (by rw [← hk]; exact hv)))] at k4
    obtain ⟨t2, a1, b1⟩ := k4 T' rfl X'
    refine ⟨t2, stp t2 ?_, b1⟩
    cases r with
    | none => exact a1
    | some w => exact a1
  · exact absurd hx id
variable {P : Option yV → yW → Prop} {X : String → yW → Prop}
theorem ycat_le {ad : Nat → Nat} : ∀ (l : List yV) {n : Nat}, l.length ≤ n → (∀ v ∈ l, ∀ ad, (ycv ad v).category = 1) → ((l.map (ycv ad)).map fun v => v.category).sum ≤ n
  | [], _, _, _ => by simp
  | v :: l, n, h, h2 => by
    have h3 := ycat_le (ad := ad) l (n := n - 1) (by simp at h; omega) (fun w hw => h2 w (List.mem_cons_of_mem _ hw))
    simp only [List.map_cons, List.sum_cons, h2 v List.mem_cons_self ad]
    simp at h
    omega
/-- a static method -/
theorem yrunS {i' : yM} {As rest : List yV} {ix : Nat} (hd : decode (yMb i) pc = .ok (.invokestatic ix, 3)) (hct : yCT G i' As ω P X) (hck : yck (yMm i) i' As.length = true) (hcode : ycode i' ∈ lw_tbl) (hini : Cond.initialized (yMy i').cls ∈ lw_tbl) (hl : Cond.methodLink (yMy i).cls ix (yMy i') ∈ lw_tbl) (hstat : Cond.static (yMy i') ∈ lw_tbl) (hrest : rest.length ≤ 8) (hcat : ∀ v ∈ rest, ∀ ad, (ycv ad v).category = 1) (hc : cs + (yMm i').cells ≤ (yMm i).cells) (hs : sl + (yMm i').slots ≤ (yMm i).slots) : yRun G i i' pc ls (As.reverse ++ rest) rest As ω cs sl P X := by
  intro p e s m args below meth c ad H locs lsA C hS hH hL
  have hg := C.2.2.2.2.2.2.2.1
  exact vx_runS (Ts := yTs) (As := As.map (ycv ad)) ⟨C.1, C.2.1, C.2.2.2.1, C.2.2.2.2.1, hg.hts args⟩ (hct ad) ⟨yCB hg hck hcode hini hl, hg _ hstat rfl args⟩ ⟨yPc_blind, fun U hU hW => yPc_at C hS hH hU hW⟩ rfl (by rw [List.length_map]) hL.size (by rw [List.map_append, List.map_reverse]) (by show 2 * 0 + _ ≤ 8; have := ycat_le (ad := ad) rest hrest hcat; omega) hd ⟨hc, hs⟩
/-- an instance method, the receiver's class its own -/
theorem yrunV {i' : yM} {k ci : Nat} {As rest : List yV} {ix : Nat} {r : vw_C} (hd : decode (yMb i) pc = .ok (.invokevirtual ix, 3)) (hct : yCT G i' (yr k :: As) ω P X) (hsh : ω.1 k = some (.inl ci)) (hr : ycl[ci]? = some r) (hck : yck (yMm i) i' As.length = true) (hcode : ycode i' ∈ lw_tbl) (hini : Cond.initialized (yMy i').cls ∈ lw_tbl) (hl : Cond.methodLink (yMy i).cls ix (yMy i') ∈ lw_tbl) (hin : Cond.instanceMethod (yMy i') ∈ lw_tbl) (hsel : Cond.selects r.1 (yMy i') (yMy i') ∈ lw_tbl) (hrest : rest.length ≤ 8) (hcat : ∀ v ∈ rest, ∀ ad, (ycv ad v).category = 1) (hc : cs + (yMm i').cells ≤ (yMm i).cells) (hs : sl + (yMm i').slots ≤ (yMm i).slots) : yRun G i i' pc ls (As.reverse ++ yr k :: rest) rest (yr k :: As) ω cs sl P X := by
  intro p e s m args below meth c ad H locs lsA C hS hH hL
  have hg := C.2.2.2.2.2.2.2.1
  exact vx_runV (Ts := yTs) (C := r.1) (As := As.map (ycv ad)) ⟨C.1, C.2.1, C.2.2.2.1, C.2.2.2.2.1, hg.hts args⟩ (hct ad) ⟨yCB hg hck hcode hini hl, hg _ hin rfl args, hg _ hsel rfl args⟩ ⟨yPc_blind, yrecv C hH hsh hr, fun U hU hW => yPc_at (As := yr k :: As) C hS hH hU hW⟩ rfl (by rw [List.length_map]) hL.size (by rw [List.map_append, List.map_reverse, List.map_cons]; rfl) (by show 2 * 0 + _ ≤ 8; have := ycat_le (ad := ad) rest hrest hcat; omega) hd ⟨hc, hs⟩
/-- a constructor -/
theorem yrunI {i' : yM} {k : Nat} {As rest : List yV} {ix : Nat} (hd : decode (yMb i) pc = .ok (.invokespecial ix, 3)) (hnm : (yMy i').name = "<init>") (hret : yMr i' = none) (hct : yCT G i' (yr k :: As) ω P yNX) (hck : yck (yMm i) i' As.length = true) (hcode : ycode i' ∈ lw_tbl) (hini : Cond.initialized (yMy i').cls ∈ lw_tbl) (hl : Cond.methodLink (yMy i).cls ix (yMy i') ∈ lw_tbl) (hin : Cond.instanceMethod (yMy i') ∈ lw_tbl) (hrest : rest.length ≤ 8) (hcat : ∀ v ∈ rest, ∀ ad, (ycv ad v).category = 1) (hc : cs + (yMm i').cells ≤ (yMm i).cells) (hs : sl + (yMm i').slots ≤ (yMm i).slots) : yRun G i i' pc ls (As.reverse ++ yr k :: rest) rest (yr k :: As) ω cs sl P yNX := by
  intro p e s m args below meth c ad H locs lsA C hS hH hL
  have hg := C.2.2.2.2.2.2.2.1
  have hcb := yCB (i := i) (args := args) hg hck hcode hini hl
  rw [hret] at hcb
  refine yRunN (va_runI (Ts := yTs) (As := As.map (ycv ad)) ⟨C.1, C.2.1, C.2.2.2.1, C.2.2.2.2.1, hg.hts args⟩ (yMetN hct ad) ⟨hcb, hnm, hg _ hin rfl args⟩ ⟨yPc_blind, fun U hU hW => yPc_at (As := yr k :: As) C hS hH hU hW⟩ rfl (by rw [List.length_map]) hL.size (by rw [List.map_append, List.map_reverse, List.map_cons]; rfl) (by show 2 * 0 + _ ≤ 8; have := ycat_le (ad := ad) rest hrest hcat; omega) hd ⟨hc, hs⟩)
/-- an inherited or overriding method: the site names x, found in owner; the receiver's class selects the callee -/
theorem yrunU {i' : yM} {k ci : Nat} {As rest : List yV} {ix : Nat} {r : vw_C} {x : MethodName} {owner : String} (hd : decode (yMb i) pc = .ok (.invokevirtual ix, 3)) (hct : yCT G i' (yr k :: As) ω P yNX) (hsh : ω.1 k = some (.inl ci)) (hr : ycl[ci]? = some r) (hck : yck (yMm i) i' As.length = true) (hno : owner ≠ "java/lang/invoke/MethodHandle" ∧ owner ≠ "java/lang/invoke/VarHandle") (hpx : (parseMethodDescriptor x.desc).map (fun d => d.parameters.length) = some As.length) (hcode : ycode i' ∈ lw_tbl) (hini : Cond.initialized (yMy i').cls ∈ lw_tbl) (hl : Cond.methodLink (yMy i).cls ix x ∈ lw_tbl) (hsame : Cond.sameMethod x.cls owner x.name x.desc ∈ lw_tbl) (hdecl : ∀ s : State, yGx s → va_Decl s ⟨owner, x.name, x.desc⟩) (hin : Cond.instanceMethod (yMy i') ∈ lw_tbl) (hsel : Cond.selects r.1 x (yMy i') ∈ lw_tbl) (hrest : rest.length ≤ 8) (hcat : ∀ v ∈ rest, ∀ ad, (ycv ad v).category = 1) (hc : cs + (yMm i').cells ≤ (yMm i).cells) (hs : sl + (yMm i').slots ≤ (yMm i).slots) : yRun G i i' pc ls (As.reverse ++ yr k :: rest) rest (yr k :: As) ω cs sl P yNX := by
  intro p e s m args below meth c ad H locs lsA C hS hH hL
  have hg := C.2.2.2.2.2.2.2.1
  unfold yck at hck
  simp only [Bool.and_eq_true, decide_eq_true_eq] at hck
  obtain ⟨⟨⟨⟨h1, h2⟩, -⟩, -⟩, -⟩ := hck
  refine yRunN (va_runU (Ts := yTs) (C := r.1) (As := As.map (ycv ad)) ⟨C.1, C.2.1, C.2.2.2.1, C.2.2.2.2.1, hg.hts args⟩ (yMetN hct ad) ⟨⟨rfl, rfl, h1, h2, yws hg hcode, List.mem_singleton_self _⟩, hg _ hcode rfl args, hg _ hini rfl args, hno, fun sig h => by rw [h] at hpx; exact (Option.some.inj hpx).symm, hg _ hl rfl args, hg _ hsame rfl args, hdecl s hg, hg _ hsel rfl args, hg _ hin rfl args⟩ ⟨yPc_blind, yrecv C hH hsh hr, fun U hU hW => yPc_at (As := yr k :: As) C hS hH hU hW⟩ rfl (by rw [List.length_map]) hL.size (by rw [List.map_append, List.map_reverse, List.map_cons]; rfl) (by show 2 * 0 + _ ≤ 8; have := ycat_le (ad := ad) rest hrest hcat; omega) hd ⟨hc, hs⟩)
/-- a private method of a nest mate -/
theorem yrunVN {i' : yM} {k ci : Nat} {As rest : List yV} {ix : Nat} {r : vw_C} {host : String} (hd : decode (yMb i) pc = .ok (.invokevirtual ix, 3)) (hct : yCT G i' (yr k :: As) ω P yNX) (hsh : ω.1 k = some (.inl ci)) (hr : ycl[ci]? = some r) (hck : yck (yMm i) i' As.length = true) (hcode : ycode i' ∈ lw_tbl) (hini : Cond.initialized (yMy i').cls ∈ lw_tbl) (hl : Cond.methodLinkNest (yMy i).cls ix (yMy i') host ∈ lw_tbl) (hin : Cond.instanceMethod (yMy i') ∈ lw_tbl) (hsel : Cond.selects r.1 (yMy i') (yMy i') ∈ lw_tbl) (hrest : rest.length ≤ 8) (hcat : ∀ v ∈ rest, ∀ ad, (ycv ad v).category = 1) (hc : cs + (yMm i').cells ≤ (yMm i).cells) (hs : sl + (yMm i').slots ≤ (yMm i).slots) : yRun G i i' pc ls (As.reverse ++ yr k :: rest) rest (yr k :: As) ω cs sl P yNX := by
  intro p e s m args below meth c ad H locs lsA C hS hH hL
  have hg := C.2.2.2.2.2.2.2.1
  unfold yck at hck
  simp only [Bool.and_eq_true, decide_eq_true_eq] at hck
  obtain ⟨⟨⟨⟨h1, h2⟩, h3⟩, h4⟩, h5⟩ := hck
  refine yRunN (va_runVN (Ts := yTs) (C := r.1) (As := As.map (ycv ad)) ⟨C.1, C.2.1, C.2.2.2.1, C.2.2.2.2.1, hg.hts args⟩ (yMetN hct ad) ⟨⟨⟨rfl, rfl, h1, h2, yws hg hcode, List.mem_singleton_self _⟩, hg _ hcode rfl args, hg _ hini rfl args, ⟨h3, h4⟩, fun sig h => by rw [h] at h5; exact (Option.some.inj h5).symm, hg _ hl rfl args⟩, hg _ hin rfl args, hg _ hsel rfl args⟩ ⟨yPc_blind, yrecv C hH hsh hr, fun U hU hW => yPc_at (As := yr k :: As) C hS hH hU hW⟩ rfl (by rw [List.length_map]) hL.size (by rw [List.map_append, List.map_reverse, List.map_cons]; rfl) (by show 2 * 0 + _ ≤ 8; have := ycat_le (ad := ad) rest hrest hcat; omega) hd ⟨hc, hs⟩)
/-- a private static method of a nest mate -/
theorem yrunSN {i' : yM} {As rest : List yV} {ix : Nat} {host : String} (hd : decode (yMb i) pc = .ok (.invokestatic ix, 3)) (hct : yCT G i' As ω P yNX) (hck : yck (yMm i) i' As.length = true) (hcode : ycode i' ∈ lw_tbl) (hini : Cond.initialized (yMy i').cls ∈ lw_tbl) (hl : Cond.methodLinkNest (yMy i).cls ix (yMy i') host ∈ lw_tbl) (hstat : Cond.static (yMy i') ∈ lw_tbl) (hrest : rest.length ≤ 8) (hcat : ∀ v ∈ rest, ∀ ad, (ycv ad v).category = 1) (hc : cs + (yMm i').cells ≤ (yMm i).cells) (hs : sl + (yMm i').slots ≤ (yMm i).slots) : yRun G i i' pc ls (As.reverse ++ rest) rest As ω cs sl P yNX := by
  intro p e s m args below meth c ad H locs lsA C hS hH hL
  have hg := C.2.2.2.2.2.2.2.1
  unfold yck at hck
  simp only [Bool.and_eq_true, decide_eq_true_eq] at hck
  obtain ⟨⟨⟨⟨h1, h2⟩, h3⟩, h4⟩, h5⟩ := hck
  refine yRunN (va_runSN (Ts := yTs) (As := As.map (ycv ad)) ⟨C.1, C.2.1, C.2.2.2.1, C.2.2.2.2.1, hg.hts args⟩ (yMetN hct ad) ⟨⟨⟨rfl, rfl, h1, h2, yws hg hcode, List.mem_singleton_self _⟩, hg _ hcode rfl args, hg _ hini rfl args, ⟨h3, h4⟩, fun sig h => by rw [h] at h5; exact (Option.some.inj h5).symm, hg _ hl rfl args⟩, hg _ hstat rfl args, trivial⟩ ⟨yPc_blind, fun U hU hW => yPc_at C hS hH hU hW⟩ rfl (by rw [List.length_map]) hL.size (by rw [List.map_append, List.map_reverse]) (by show 2 * 0 + _ ≤ 8; have := ycat_le (ad := ad) rest hrest hcat; omega) hd ⟨hc, hs⟩)
/-- Object's own constructor -/
theorem yr_objInit {k ix : Nat} (hd : decode (yMb i) pc = .ok (.invokespecial ix, 3)) (hl : Cond.methodLink (yMy i).cls ix Lib.objectInit ∈ lw_tbl) (hin : Cond.instanceMethod Lib.objectInit ∈ lw_tbl) (hcode : Cond.code Lib.objectInit ⟨#[0xb1]⟩ 1 none ∈ lw_tbl) (hf : 1 ≤ (yMm i).frames) (hlo : st.length + 12 ≤ (yMm i).locals) (hcat : ∀ v ∈ st, ∀ ad, (ycv ad v).category = 1) (kk : yWW G i Qf sh0 (pc + 3) ls st ω cs sl) : yWW G i Qf sh0 pc ls (yr k :: st) ω cs sl := by
  intro p e s m args below meth c ad0 ad H locs lsA C hE hS hH hL
  have hg := C.2.2.2.2.2.2.2.1
  exact W.objInit C.1 C.2.1 C.2.2.2.2.1 (hg _ hl rfl args) (hg _ hin rfl args) (hg _ hcode rfl args) rfl (by rw [C.2.2.2.1]; exact hL.size) rfl hd hf (by show 2 * 0 + _ + 12 ≤ _; have := ycat_le (ad := ad) st (Nat.le_refl _) hcat; omega) (kk p e s m args below meth c ad0 ad H locs lsA C hE hS hH hL)
/-- the ends -/
theorem yr_reti {x : Int32} (hd : decode (yMb i) pc = .ok (.ireturn, 1)) (hr : yMr i = some .int) (hc : cs ≤ (yMm i).cells) (hs : sl ≤ (yMm i).slots) (hP : P (some (yi x)) ω) : yWW G i (yQf G i sh0 P X) sh0 pc ls [yi x] ω cs sl := by
  intro p e s m args below meth c ad0 ad H locs lsA C hE hS hH hL
  refine vx_ret (W.widen hc hs ?_)
  exact W.iret C.1 C.2.1 (C.2.2.1.trans hr) (fun t ht hW => ⟨some (yi x), ad, ω, rfl, hP, hE, by rw [ht]; exact hH, hS.F ht⟩) hS.2.2 hd C.2.2.2.2.2.1
theorem yr_retz {x : Int32} (hd : decode (yMb i) pc = .ok (.ireturn, 1)) (hr : yMr i = some .boolean) (hx : narrow .boolean (.int x) = .int x) (hc : cs ≤ (yMm i).cells) (hs : sl ≤ (yMm i).slots) (hP : P (some (yi x)) ω) : yWW G i (yQf G i sh0 P X) sh0 pc ls [yi x] ω cs sl := by
  intro p e s m args below meth c ad0 ad H locs lsA C hE hS hH hL
  refine vx_ret (W.widen hc hs ?_)
  exact W.zret C.1 C.2.1 (C.2.2.1.trans hr) hx (fun t ht hW => ⟨some (yi x), ad, ω, rfl, hP, hE, by rw [ht]; exact hH, hS.F ht⟩) hS.2.2 hd C.2.2.2.2.2.1
theorem yr_reta {o : Option Nat} {rt : FieldType} (hd : decode (yMb i) pc = .ok (.areturn, 1)) (hr : yMr i = some rt) (hrt : (∃ n, rt = .object n) ∨ ∃ t, rt = .array t) (hc : cs ≤ (yMm i).cells) (hs : sl ≤ (yMm i).slots) (hP : P (some (yo o)) ω) : yWW G i (yQf G i sh0 P X) sh0 pc ls [yo o] ω cs sl := by
  intro p e s m args below meth c ad0 ad H locs lsA C hE hS hH hL
  refine vx_ret (W.widen hc hs ?_)
  refine W.aret C.1 C.2.1 (C.2.2.1.trans hr) hrt ?_ (fun t ht hW => ⟨some (yo o), ad, ω, rfl, hP, hE, by rw [ht]; exact hH, hS.F ht⟩) hS.2.2 hd C.2.2.2.2.2.1
  cases o with
  | none => exact Or.inl rfl
  | some a => exact Or.inr ⟨ad a, rfl⟩
theorem yr_retv (hd : decode (yMb i) pc = .ok (.return_, 1)) (hr : yMr i = none) (hc : cs ≤ (yMm i).cells) (hs : sl ≤ (yMm i).slots) (hP : P none ω) : yWW G i (yQf G i sh0 P X) sh0 pc ls [] ω cs sl := by
  intro p e s m args below meth c ad0 ad H locs lsA C hE hS hH hL
  refine vx_ret (W.widen hc hs ?_)
  exact W.vret C.1 C.2.1 (C.2.2.1.trans hr) (fun t ht hW => ⟨none, ad, ω, rfl, hP, hE, by rw [ht]; exact hH, hS.F ht⟩) hS.2.2 hd C.2.2.2.2.2.1
/-- a method's contract out of a walk of its body -/
theorem ylv_args {ad : Nat → Nat} : ∀ (As : List yV) (i0 : Nat), (∀ v ∈ As, ∀ ad, (ycv ad v).category = 1) → ∀ (j : Nat) (v : yV), As[j]? = some v → (i0 + j, ycv ad v) ∈ lv_args i0 (As.map (ycv ad))
  | [], _, _, j, v, h => by simp at h
  | w :: As, i0, hc, j, v, h => by
    have hw : ¬ (ycv ad w).category = 2 := by rw [hc w List.mem_cons_self ad]; decide
    simp only [List.map_cons, lv_args, hw, if_false]
    cases j with
    | zero =>
      simp at h
      subst h
      simp
    | succ j =>
      simp at h
      have := ylv_args (ad := ad) As (i0 + 1) (fun z hz => hc z (List.mem_cons_of_mem _ hz)) j v h
      rw [show i0 + 1 + j = i0 + (j + 1) by omega] at this
      exact List.mem_cons_of_mem _ this
theorem ylg_sl {ad : Nat → Nat} : ∀ (As : List yV), (∀ v ∈ As, ∀ ad, (ycv ad v).category = 1) → (lg_sl (As.map (ycv ad))).length = As.length
  | [], _ => rfl
  | w :: As, hc => by
    have hw : ¬ (ycv ad w).category = 2 := by rw [hc w List.mem_cons_self ad]; decide
    have h2 := ylg_sl (ad := ad) As (fun z hz => hc z (List.mem_cons_of_mem _ hz))
    unfold lg_sl at h2 ⊢
    simp only [List.map_cons, List.flatMap_cons, List.length_append, h2, List.length_cons]
    simp [hw]
    omega
theorem yCT_of {As : List yV} (hpl : plainName (yMy i).cls = true) (hh : yMh i = []) (hcat : ∀ v ∈ As, ∀ ad, (ycv ad v).category = 1) (hlen : As.length ≤ yMl i) (k : yWW G i (yQf G i ω.1 P X) ω.1 0 (As.map some ++ List.replicate (yMl i - As.length) none) [] ω 0 0) : yCT G i As ω P X := by
  intro ad0
  refine vx_ofW (cc := yMb i) (maxL := yMl i) (ret := yMr i) hpl rfl ?_
  intro p e s m args below meth c s₁ B hml ht hv
  obtain ⟨rfl, hg, hK, hst, hsz, hH⟩ := hv
  have hl := lv_entry (As.map (ycv ad0)) (n := yMl i) (by rw [ylg_sl As hcat]; exact hlen)
  rw [lg_entry_eq]
  refine k p e s m _ below meth c ad0 ad0 s.heap [] _ ⟨B.exec, B.bytes, B.returns, hml, findClass_of_methodNamed B.named, B.notSynchronized, (name_of_methodNamed B.named B.method).1, hg, hK, hst, hsz, ?_⟩ (fun _ _ => rfl) va_S.rf hH ⟨_, hl, ?_, fun j v hj => ?_⟩
  · rw [hh]
    cases h9 : c.exceptionTable.toList with
    | nil => rfl
    | cons x r => exact absurd (ht x (by rw [h9]; exact List.mem_cons_self)) id
  · simp
    omega
  · have hj2 : As[j]? = some v := by
      by_cases h9 : j < As.length
      · rw [List.getElem?_append_left (by simpa using h9), List.getElem?_map] at hj
        cases h8 : As[j]? with
        | none => rw [h8] at hj; cases hj
        | some w => rw [h8] at hj; exact Option.some.inj hj
      · rw [List.getElem?_append_right (by simpa using Nat.not_lt.mp h9), List.getElem?_replicate] at hj
        split at hj
        · cases hj
        · cases hj
    have := ylv_args (ad := ad0) As 0 hcat j v hj2
    rw [Nat.zero_add] at this
    exact ⟨this, hcat v (List.mem_of_getElem? hj2) ad0⟩
end YD
end
