section
-- ===== PART A: goes FIRST, ahead of the names: the tables' words, and 'selects' of the private methods out of them =====
/-- a private method of a class that the tables say can be made, by its rows of tables_1 -/
def lw_okq (q : MethodName × Nat) : Prop := (q.1.cls ≠ "java/lang/invoke/MethodHandle" ∧ q.1.cls ≠ "java/lang/invoke/VarHandle") ∧ Cond.instantiable q.1.cls q.2 ∈ tables_1 ∧ Cond.privateMethod q.1 ∈ tables_1 ∧ Cond.instanceMethod q.1 ∈ tables_1
theorem lw_p0 : lw_okq (⟨"MonitorYard", "actsEnded", "(I)I"⟩, 4) := ⟨⟨by decide +kernel, by decide +kernel⟩, List.mem_of_getElem? (i := 20) (by decide +kernel), List.mem_of_getElem? (i := 137) (by decide +kernel), List.mem_of_getElem? (i := 138) (by decide +kernel)⟩
theorem lw_p1 : lw_okq (⟨"MonitorYard", "runningThreads", "()I"⟩, 4) := ⟨⟨by decide +kernel, by decide +kernel⟩, List.mem_of_getElem? (i := 20) (by decide +kernel), List.mem_of_getElem? (i := 141) (by decide +kernel), List.mem_of_getElem? (i := 142) (by decide +kernel)⟩
theorem lw_p2 : lw_okq (⟨"java/lang/Throwable", "fillInStackTrace", "(I)Ljava/lang/Throwable;"⟩, 6) := ⟨⟨by decide +kernel, by decide +kernel⟩, List.mem_of_getElem? (i := 193) (by decide +kernel), List.mem_of_getElem? (i := 191) (by decide +kernel), List.mem_of_getElem? (i := 192) (by decide +kernel)⟩
theorem lw_p3 : lw_okq (⟨"MonitorYard", "threadAt", "(I)LMonitorYard$YardThread;"⟩, 4) := ⟨⟨by decide +kernel, by decide +kernel⟩, List.mem_of_getElem? (i := 20) (by decide +kernel), List.mem_of_getElem? (i := 382) (by decide +kernel), List.mem_of_getElem? (i := 383) (by decide +kernel)⟩
theorem lw_p4 : lw_okq (⟨"MonitorYard", "placeAt", "(I)LMonitorYard$Place;"⟩, 4) := ⟨⟨by decide +kernel, by decide +kernel⟩, List.mem_of_getElem? (i := 20) (by decide +kernel), List.mem_of_getElem? (i := 386) (by decide +kernel), List.mem_of_getElem? (i := 387) (by decide +kernel)⟩
theorem lw_p5 : lw_okq (⟨"MonitorYard$Book", "countReads", "(LMonitorYard$YardThread;I)V"⟩, 7) := ⟨⟨by decide +kernel, by decide +kernel⟩, List.mem_of_getElem? (i := 294) (by decide +kernel), List.mem_of_getElem? (i := 549) (by decide +kernel), List.mem_of_getElem? (i := 550) (by decide +kernel)⟩
theorem lw_p6 : lw_okq (⟨"MonitorYard$Book", "closeWritingOnce", "()V"⟩, 7) := ⟨⟨by decide +kernel, by decide +kernel⟩, List.mem_of_getElem? (i := 294) (by decide +kernel), List.mem_of_getElem? (i := 553) (by decide +kernel), List.mem_of_getElem? (i := 554) (by decide +kernel)⟩
theorem lw_p7 : lw_okq (⟨"MonitorYard$Lock", "leaveOnce", "()V"⟩, 7) := ⟨⟨by decide +kernel, by decide +kernel⟩, List.mem_of_getElem? (i := 236) (by decide +kernel), List.mem_of_getElem? (i := 563) (by decide +kernel), List.mem_of_getElem? (i := 564) (by decide +kernel)⟩
theorem lw_p8 : lw_okq (⟨"MonitorYard$Lock", "call", "(II)V"⟩, 7) := ⟨⟨by decide +kernel, by decide +kernel⟩, List.mem_of_getElem? (i := 236) (by decide +kernel), List.mem_of_getElem? (i := 567) (by decide +kernel), List.mem_of_getElem? (i := 568) (by decide +kernel)⟩
theorem lw_p9 : lw_okq (⟨"MonitorYard$Lock", "condition", "(I)LMonitorYard$Row;"⟩, 7) := ⟨⟨by decide +kernel, by decide +kernel⟩, List.mem_of_getElem? (i := 236) (by decide +kernel), List.mem_of_getElem? (i := 571) (by decide +kernel), List.mem_of_getElem? (i := 572) (by decide +kernel)⟩
theorem lw_p10 : lw_okq (⟨"MonitorYard$Lock", "takeAgain", "(LMonitorYard$YardThread;I)V"⟩, 7) := ⟨⟨by decide +kernel, by decide +kernel⟩, List.mem_of_getElem? (i := 236) (by decide +kernel), List.mem_of_getElem? (i := 576) (by decide +kernel), List.mem_of_getElem? (i := 577) (by decide +kernel)⟩
theorem lw_p11 : lw_okq (⟨"MonitorYard$Queue", "putLast", "(I)V"⟩, 5) := ⟨⟨by decide +kernel, by decide +kernel⟩, List.mem_of_getElem? (i := 358) (by decide +kernel), List.mem_of_getElem? (i := 595) (by decide +kernel), List.mem_of_getElem? (i := 596) (by decide +kernel)⟩
theorem lw_p12 : lw_okq (⟨"MonitorYard$Queue", "takeFirst", "()I"⟩, 5) := ⟨⟨by decide +kernel, by decide +kernel⟩, List.mem_of_getElem? (i := 358) (by decide +kernel), List.mem_of_getElem? (i := 599) (by decide +kernel), List.mem_of_getElem? (i := 600) (by decide +kernel)⟩
theorem lw_p13 : lw_okq (⟨"MonitorYard$Lock", "joinCondition", "(LMonitorYard$YardThread;I)V"⟩, 7) := ⟨⟨by decide +kernel, by decide +kernel⟩, List.mem_of_getElem? (i := 236) (by decide +kernel), List.mem_of_getElem? (i := 627) (by decide +kernel), List.mem_of_getElem? (i := 628) (by decide +kernel)⟩
theorem lw_p14 : lw_okq (⟨"MonitorYard", "passOneTick", "()I"⟩, 4) := ⟨⟨by decide +kernel, by decide +kernel⟩, List.mem_of_getElem? (i := 20) (by decide +kernel), List.mem_of_getElem? (i := 665) (by decide +kernel), List.mem_of_getElem? (i := 666) (by decide +kernel)⟩
theorem lw_p15 : lw_okq (⟨"MonitorYardModel", "bad", "(Z)Z"⟩, 27) := ⟨⟨by decide +kernel, by decide +kernel⟩, List.mem_of_getElem? (i := 815) (by decide +kernel), List.mem_of_getElem? (i := 915) (by decide +kernel), List.mem_of_getElem? (i := 916) (by decide +kernel)⟩
def lw_privs_1 : List (MethodName × Nat) := [(⟨"MonitorYard", "actsEnded", "(I)I"⟩, 4), (⟨"MonitorYard", "runningThreads", "()I"⟩, 4), (⟨"java/lang/Throwable", "fillInStackTrace", "(I)Ljava/lang/Throwable;"⟩, 6), (⟨"MonitorYard", "threadAt", "(I)LMonitorYard$YardThread;"⟩, 4), (⟨"MonitorYard", "placeAt", "(I)LMonitorYard$Place;"⟩, 4), (⟨"MonitorYard$Book", "countReads", "(LMonitorYard$YardThread;I)V"⟩, 7), (⟨"MonitorYard$Book", "closeWritingOnce", "()V"⟩, 7), (⟨"MonitorYard$Lock", "leaveOnce", "()V"⟩, 7), (⟨"MonitorYard$Lock", "call", "(II)V"⟩, 7), (⟨"MonitorYard$Lock", "condition", "(I)LMonitorYard$Row;"⟩, 7), (⟨"MonitorYard$Lock", "takeAgain", "(LMonitorYard$YardThread;I)V"⟩, 7), (⟨"MonitorYard$Queue", "putLast", "(I)V"⟩, 5), (⟨"MonitorYard$Queue", "takeFirst", "()I"⟩, 5), (⟨"MonitorYard$Lock", "joinCondition", "(LMonitorYard$YardThread;I)V"⟩, 7), (⟨"MonitorYard", "passOneTick", "()I"⟩, 4), (⟨"MonitorYardModel", "bad", "(Z)Z"⟩, 27)]
theorem lw_r1 : ∀ q ∈ lw_privs_1, lw_okq q := List.forall_mem_cons.mpr ⟨lw_p0, List.forall_mem_cons.mpr ⟨lw_p1, List.forall_mem_cons.mpr ⟨lw_p2, List.forall_mem_cons.mpr ⟨lw_p3, List.forall_mem_cons.mpr ⟨lw_p4, List.forall_mem_cons.mpr ⟨lw_p5, List.forall_mem_cons.mpr ⟨lw_p6, List.forall_mem_cons.mpr ⟨lw_p7, List.forall_mem_cons.mpr ⟨lw_p8, List.forall_mem_cons.mpr ⟨lw_p9, List.forall_mem_cons.mpr ⟨lw_p10, List.forall_mem_cons.mpr ⟨lw_p11, List.forall_mem_cons.mpr ⟨lw_p12, List.forall_mem_cons.mpr ⟨lw_p13, List.forall_mem_cons.mpr ⟨lw_p14, List.forall_mem_cons.mpr ⟨lw_p15, fun _ h => absurd h List.not_mem_nil⟩⟩⟩⟩⟩⟩⟩⟩⟩⟩⟩⟩⟩⟩⟩⟩
theorem lw_p16 : lw_okq (⟨"MonitorYardModel", "ofKind", "(II)Z"⟩, 27) := ⟨⟨by decide +kernel, by decide +kernel⟩, List.mem_of_getElem? (i := 815) (by decide +kernel), List.mem_of_getElem? (i := 923) (by decide +kernel), List.mem_of_getElem? (i := 924) (by decide +kernel)⟩
theorem lw_p17 : lw_okq (⟨"MonitorYardModel", "notNow", "(IIII)Z"⟩, 27) := ⟨⟨by decide +kernel, by decide +kernel⟩, List.mem_of_getElem? (i := 815) (by decide +kernel), List.mem_of_getElem? (i := 927) (by decide +kernel), List.mem_of_getElem? (i := 928) (by decide +kernel)⟩
theorem lw_p18 : lw_okq (⟨"MonitorYardModel", "simple", "(IIII)I"⟩, 27) := ⟨⟨by decide +kernel, by decide +kernel⟩, List.mem_of_getElem? (i := 815) (by decide +kernel), List.mem_of_getElem? (i := 931) (by decide +kernel), List.mem_of_getElem? (i := 932) (by decide +kernel)⟩
theorem lw_p19 : lw_okq (⟨"MonitorYardModel", "less", "(I)V"⟩, 27) := ⟨⟨by decide +kernel, by decide +kernel⟩, List.mem_of_getElem? (i := 815) (by decide +kernel), List.mem_of_getElem? (i := 935) (by decide +kernel), List.mem_of_getElem? (i := 936) (by decide +kernel)⟩
theorem lw_p20 : lw_okq (⟨"MonitorYardModel", "call", "(III)V"⟩, 27) := ⟨⟨by decide +kernel, by decide +kernel⟩, List.mem_of_getElem? (i := 815) (by decide +kernel), List.mem_of_getElem? (i := 939) (by decide +kernel), List.mem_of_getElem? (i := 940) (by decide +kernel)⟩
theorem lw_p21 : lw_okq (⟨"MonitorYardModel", "remove", "([II[III)V"⟩, 27) := ⟨⟨by decide +kernel, by decide +kernel⟩, List.mem_of_getElem? (i := 815) (by decide +kernel), List.mem_of_getElem? (i := 943) (by decide +kernel), List.mem_of_getElem? (i := 944) (by decide +kernel)⟩
theorem lw_p22 : lw_okq (⟨"MonitorYardModel", "called", "(III)V"⟩, 27) := ⟨⟨by decide +kernel, by decide +kernel⟩, List.mem_of_getElem? (i := 815) (by decide +kernel), List.mem_of_getElem? (i := 947) (by decide +kernel), List.mem_of_getElem? (i := 948) (by decide +kernel)⟩
theorem lw_p23 : lw_okq (⟨"MonitorYardModel", "enter", "(II)V"⟩, 27) := ⟨⟨by decide +kernel, by decide +kernel⟩, List.mem_of_getElem? (i := 815) (by decide +kernel), List.mem_of_getElem? (i := 951) (by decide +kernel), List.mem_of_getElem? (i := 952) (by decide +kernel)⟩
theorem lw_p24 : lw_okq (⟨"MonitorYardModel", "breakAll", "(I)V"⟩, 27) := ⟨⟨by decide +kernel, by decide +kernel⟩, List.mem_of_getElem? (i := 815) (by decide +kernel), List.mem_of_getElem? (i := 955) (by decide +kernel), List.mem_of_getElem? (i := 956) (by decide +kernel)⟩
theorem lw_p25 : lw_okq (⟨"MonitorYardModel", "end", "(II)I"⟩, 27) := ⟨⟨by decide +kernel, by decide +kernel⟩, List.mem_of_getElem? (i := 815) (by decide +kernel), List.mem_of_getElem? (i := 959) (by decide +kernel), List.mem_of_getElem? (i := 960) (by decide +kernel)⟩
theorem lw_p26 : lw_okq (⟨"MonitorYardModel", "pass", "(I)V"⟩, 27) := ⟨⟨by decide +kernel, by decide +kernel⟩, List.mem_of_getElem? (i := 815) (by decide +kernel), List.mem_of_getElem? (i := 963) (by decide +kernel), List.mem_of_getElem? (i := 964) (by decide +kernel)⟩
theorem lw_p27 : lw_okq (⟨"MonitorYardModel", "can", "(III)Z"⟩, 27) := ⟨⟨by decide +kernel, by decide +kernel⟩, List.mem_of_getElem? (i := 815) (by decide +kernel), List.mem_of_getElem? (i := 967) (by decide +kernel), List.mem_of_getElem? (i := 968) (by decide +kernel)⟩
theorem lw_p28 : lw_okq (⟨"MonitorYardModel", "readers", "(II)I"⟩, 27) := ⟨⟨by decide +kernel, by decide +kernel⟩, List.mem_of_getElem? (i := 815) (by decide +kernel), List.mem_of_getElem? (i := 971) (by decide +kernel), List.mem_of_getElem? (i := 972) (by decide +kernel)⟩
theorem lw_p29 : lw_okq (⟨"MonitorYardModel", "grant", "(III)V"⟩, 27) := ⟨⟨by decide +kernel, by decide +kernel⟩, List.mem_of_getElem? (i := 815) (by decide +kernel), List.mem_of_getElem? (i := 975) (by decide +kernel), List.mem_of_getElem? (i := 976) (by decide +kernel)⟩
theorem lw_p30 : lw_okq (⟨"MonitorYardModel", "sameSort", "(II)Z"⟩, 27) := ⟨⟨by decide +kernel, by decide +kernel⟩, List.mem_of_getElem? (i := 815) (by decide +kernel), List.mem_of_getElem? (i := 979) (by decide +kernel), List.mem_of_getElem? (i := 980) (by decide +kernel)⟩
theorem lw_p31 : lw_okq (⟨"MonitorYardModel", "arrive", "(II)I"⟩, 27) := ⟨⟨by decide +kernel, by decide +kernel⟩, List.mem_of_getElem? (i := 815) (by decide +kernel), List.mem_of_getElem? (i := 983) (by decide +kernel), List.mem_of_getElem? (i := 984) (by decide +kernel)⟩
def lw_privs_2 : List (MethodName × Nat) := [(⟨"MonitorYardModel", "ofKind", "(II)Z"⟩, 27), (⟨"MonitorYardModel", "notNow", "(IIII)Z"⟩, 27), (⟨"MonitorYardModel", "simple", "(IIII)I"⟩, 27), (⟨"MonitorYardModel", "less", "(I)V"⟩, 27), (⟨"MonitorYardModel", "call", "(III)V"⟩, 27), (⟨"MonitorYardModel", "remove", "([II[III)V"⟩, 27), (⟨"MonitorYardModel", "called", "(III)V"⟩, 27), (⟨"MonitorYardModel", "enter", "(II)V"⟩, 27), (⟨"MonitorYardModel", "breakAll", "(I)V"⟩, 27), (⟨"MonitorYardModel", "end", "(II)I"⟩, 27), (⟨"MonitorYardModel", "pass", "(I)V"⟩, 27), (⟨"MonitorYardModel", "can", "(III)Z"⟩, 27), (⟨"MonitorYardModel", "readers", "(II)I"⟩, 27), (⟨"MonitorYardModel", "grant", "(III)V"⟩, 27), (⟨"MonitorYardModel", "sameSort", "(II)Z"⟩, 27), (⟨"MonitorYardModel", "arrive", "(II)I"⟩, 27)]
theorem lw_r2 : ∀ q ∈ lw_privs_2, lw_okq q := List.forall_mem_cons.mpr ⟨lw_p16, List.forall_mem_cons.mpr ⟨lw_p17, List.forall_mem_cons.mpr ⟨lw_p18, List.forall_mem_cons.mpr ⟨lw_p19, List.forall_mem_cons.mpr ⟨lw_p20, List.forall_mem_cons.mpr ⟨lw_p21, List.forall_mem_cons.mpr ⟨lw_p22, List.forall_mem_cons.mpr ⟨lw_p23, List.forall_mem_cons.mpr ⟨lw_p24, List.forall_mem_cons.mpr ⟨lw_p25, List.forall_mem_cons.mpr ⟨lw_p26, List.forall_mem_cons.mpr ⟨lw_p27, List.forall_mem_cons.mpr ⟨lw_p28, List.forall_mem_cons.mpr ⟨lw_p29, List.forall_mem_cons.mpr ⟨lw_p30, List.forall_mem_cons.mpr ⟨lw_p31, fun _ h => absurd h List.not_mem_nil⟩⟩⟩⟩⟩⟩⟩⟩⟩⟩⟩⟩⟩⟩⟩⟩
theorem lw_p32 : lw_okq (⟨"MonitorYardModel", "refused", "(III)I"⟩, 27) := ⟨⟨by decide +kernel, by decide +kernel⟩, List.mem_of_getElem? (i := 815) (by decide +kernel), List.mem_of_getElem? (i := 987) (by decide +kernel), List.mem_of_getElem? (i := 988) (by decide +kernel)⟩
theorem lw_p33 : lw_okq (⟨"MonitorYardModel", "waitAt", "(III)I"⟩, 27) := ⟨⟨by decide +kernel, by decide +kernel⟩, List.mem_of_getElem? (i := 815) (by decide +kernel), List.mem_of_getElem? (i := 991) (by decide +kernel), List.mem_of_getElem? (i := 992) (by decide +kernel)⟩
theorem lw_p34 : lw_okq (⟨"MonitorYardModel", "leave", "(II)V"⟩, 27) := ⟨⟨by decide +kernel, by decide +kernel⟩, List.mem_of_getElem? (i := 815) (by decide +kernel), List.mem_of_getElem? (i := 999) (by decide +kernel), List.mem_of_getElem? (i := 1000) (by decide +kernel)⟩
theorem lw_p35 : lw_okq (⟨"MonitorYardModel", "leans", "(I)I"⟩, 27) := ⟨⟨by decide +kernel, by decide +kernel⟩, List.mem_of_getElem? (i := 815) (by decide +kernel), List.mem_of_getElem? (i := 1023) (by decide +kernel), List.mem_of_getElem? (i := 1024) (by decide +kernel)⟩
def lw_privs_3 : List (MethodName × Nat) := [(⟨"MonitorYardModel", "refused", "(III)I"⟩, 27), (⟨"MonitorYardModel", "waitAt", "(III)I"⟩, 27), (⟨"MonitorYardModel", "leave", "(II)V"⟩, 27), (⟨"MonitorYardModel", "leans", "(I)I"⟩, 27)]
theorem lw_r3 : ∀ q ∈ lw_privs_3, lw_okq q := List.forall_mem_cons.mpr ⟨lw_p32, List.forall_mem_cons.mpr ⟨lw_p33, List.forall_mem_cons.mpr ⟨lw_p34, List.forall_mem_cons.mpr ⟨lw_p35, fun _ h => absurd h List.not_mem_nil⟩⟩⟩⟩
def lw_privs : List (MethodName × Nat) := lw_privs_1 ++ (lw_privs_2 ++ (lw_privs_3))
def lw_tbl : List Cond := k2_sels lw_privs ++ tables_1
theorem lw_privs_ok : ∀ q ∈ lw_privs, lw_okq q := by
  show ∀ q ∈ lw_privs_1 ++ (lw_privs_2 ++ (lw_privs_3)), lw_okq q
  exact List.forall_mem_append.mpr ⟨lw_r1, List.forall_mem_append.mpr ⟨lw_r2, lw_r3⟩⟩
-- ===== end of PART A; then your names; then what follows =====
end
section
/-! ===== BEGIN words of one list among another's, by their places ===== -/
theorem goodIn_r {big : List Cond} (ws : List Cond) (ps : List Nat) (hp : ws = ps.filterMap (fun i => big[i]?)) (h : ws.all goodWord = true) : GoodIn big ws := by
  intro w hw
  have h1 := List.all_eq_true.mp h w hw
  rw [hp] at hw
  obtain ⟨i, -, hi⟩ := List.mem_filterMap.mp hw
  have hm : w ∈ big := by first | exact List.mem_of_getElem? hi | exact List.getElem?_mem hi
  exact ⟨hm, good_of_word h1⟩
theorem goodIn_app {big a b : List Cond} (ha : GoodIn big a) (hb : GoodIn big b) : GoodIn big (a ++ b) := fun w h => (List.mem_append.mp h).elim (ha w) (hb w)
theorem goodIn_ca {big a b : List Cond} {c : Cond} (ha : GoodIn big (c :: a)) (hb : GoodIn big b) : GoodIn big (c :: (a ++ b)) := fun w h => (List.mem_cons.mp h).elim (fun e => ha w (List.mem_cons.mpr (Or.inl e))) (fun h => (List.mem_append.mp h).elim (fun h => ha w (List.mem_cons.mpr (Or.inr h))) (hb w))
theorem goodIn_sub {big ws : List Cond} (hm : ∀ w ∈ ws, w ∈ big) (h : ws.all goodWord = true) : GoodIn big ws := fun w hw => ⟨hm w hw, good_of_word (List.all_eq_true.mp h w hw)⟩
/-! ===== END ===== -/

/-! ===== BEGIN exceptions that leave a method, and their catching by the caller (launches without stack traces) ===== -/
section VXA
/-! The laws vx_back, vx_callV, vx_callS, vx_callSW, vx_throw0, vx_throwS follow proofs of the library, with one case more: JvmDerived/Free/Laws.lean (Back.of_free), Shelf42/LK1.lean (callV, callS), Shelf/KitTraced.lean (throwNew0V, throwNewS). -/
/-- where a method has thrown q: the class by its name, the cell, what was written, the world -/
def vx_T (XC : String → State → State → Prop) (st : State) (q : Addr) (t : State) (mc ms : Nat) (free : Addr → Prop) : Prop :=
  ∃ (E : String) (ce : Cell) (L : List Loc), XC E st t ∧ t.heap[q]? = some ce ∧ ce.vm = .none ∧ st.vm.findClass E = some ce.cls ∧ st.WarmedH t.vm ∧ st.sameButNew ({ t with vm := st.vm } : State) L mc ms ∧ ∀ z ∈ L, free z.base
def vx_Q (Qc : Array Value → State → Outcome → State → Prop) (XC : String → State → State → Prop) (mc ms : Nat) (free : Addr → Prop) : Array Value → State → Outcome → State → Prop := fun a st o t =>
  (Qc a st o t ∧ ∃ L, FrameEnd st o t L mc ms ∧ ∀ q ∈ L, free q.base) ∨ ∃ q, o = .threw q ∧ vx_T XC st q t mc ms free
/-- a callee that returns or throws -/
def vx_Met (l : Launch) (y : MethodName) (ws : List Cond) (rm : Room) (Pc : Array Value → State → Prop) (Qc : Array Value → State → Outcome → State → Prop) (XC : String → State → State → Prop) (mc ms : Nat) (free : Addr → Prop) : Prop :=
  MetFree l y (headSpec ws rm) Pc (fun _ _ _ _ _ => True) (vx_Q Qc XC mc ms free)
def vx_Post (XC : String → State → State → Prop) (mc ms : Nat) (free : Addr → Prop) : Pt → Array Value → Addr → Pt → Prop := fun A a q B =>
  ∃ (g : JFrame) (mk : MethodId) (t : State) (L : List Loc) (E : String) (ce : Cell), B.U.heap = t.heap ∧ B.U.vm = t.vm ∧ XC E (A.U.calling g mk a) t ∧ t.heap[q]? = some ce ∧ ce.vm = .none ∧ A.U.vm.findClass E = some ce.cls ∧ B.locs = A.locs ++ L ∧ (∀ z ∈ L, free z.base) ∧ B.cells = A.cells + mc ∧ B.slots = A.slots + ms
def vx_Back (l : Launch) (R : Room) (p : Program) (e : Env) (below : List Frame) (s : State) (sargs : Array Value) (y : MethodName) (len W9 : Nat)
    (Pre : Pt → Array Value → Prop) (Post : Pt → Array Value → Option Value → Pt → Prop) (PostX : Pt → Array Value → Addr → Pt → Prop) : Prop :=
  ∀ (m : MethodId) (meth : Method) (c : Code) (A : Pt) (g : JFrame) (ig : Instr) (mk : MethodId) (a : Array Value),
    Stand p l e R s m sargs below meth c A.U A.locs A.cells A.slots → g.method = m → g.locals.size = c.maxLocals → decode c.code g.pc = .ok (ig, len) →
    2 * g.monitorRoom + (g.stack.map fun v => v.category).sum ≤ W9 → A.U.methodNamed? y = some mk → Pre A a →
    (∃ (v : Option Value) (B : Pt), Stand p l e R s m sargs below meth c B.U B.locs B.cells B.slots ∧ Post A a v B ∧
      Steps p.tables e below (doInvoke e (A.U.setTop g) [] mk a).1 (B.U.setTop { g with pc := g.pc + len, stack := v.toList ++ g.stack })) ∨
    (∃ (q : Addr) (B : Pt), Stand p l e R s m sargs below meth c B.U B.locs B.cells B.slots ∧ PostX A a q B ∧
      Steps p.tables e below (doInvoke e (A.U.setTop g) [] mk a).1 ((B.U.setTop g).pushFrame (.throwing q)))
section Payer
variable {l : Launch} {R : Room} {p : Program} {e : Env} {below : List Frame} {s : State} {sargs : Array Value} {y : MethodName} {len W9 : Nat}
theorem vx_back {ws : List Cond} {rm : Room} {Pc : Array Value → State → Prop} {Qc : Array Value → State → Outcome → State → Prop} {XC : String → State → State → Prop} {mc ms : Nat} {free : Addr → Prop} {bytes : ByteArray} {maxL : Nat} {ret : Option FieldType}
    (hM : vx_Met l y ws rm Pc Qc XC mc ms free) (hblind : FrameBlind Pc) (hrc : rm.cells = mc) (hrs : rm.slots = ms)
    (hframes : rm.frames + 1 ≤ R.frames) (hlocals : W9 + (maxL + 11) + rm.locals ≤ R.locals)
    (hws : ∀ w ∈ ws, ∀ a' U, s.WarmedH U.vm → w.before a' U = true) (hcode : Cond.code y bytes maxL ret ∈ ws) (hinit : ∀ a' U, s.WarmedH U.vm → (Cond.initialized y.cls).before a' U = true) :
    vx_Back l R p e below s sargs y len W9 (PreOf R mc ms Pc) (PostOf Qc mc ms free) (vx_Post XC mc ms free) := by
  intro m meth c A g ig mk a X hg hsize hdg hW hn hp
  have h1 : (headSpec ws rm).pre.before a A.U = true := atoms_intro fun w hw => hws w hw _ _ X.warmed
  have h2 : (Cond.code y bytes maxL ret).before a A.U = true := hws _ hcode _ _ X.warmed
  have h3 : (Cond.initialized y.cls).before a A.U = true := hinit _ _ X.warmed
  have h4 : A.cells + (headSpec ws rm).room.cells ≤ R.cells := by rw [show (headSpec ws rm).room.cells = mc from hrc]; exact hp.1
  have h5 : A.slots + (headSpec ws rm).room.slots ≤ R.slots := by rw [show (headSpec ws rm).room.slots = ms from hrs]; exact hp.2.1
  have hPc : Pc a (A.U.calling g mk a) := hblind _ _ _ _ hp.2.2
  obtain ⟨U, Ls, c0, s0⟩ := A
  dsimp only [Pt.U, Pt.locs, Pt.cells, Pt.slots] at h1 h2 h3 h4 h5 X hn hPc ⊢
  obtain ⟨methY, cY, hmY, hcY, -, hlY, -, -, -, -⟩ := Cond.code_spec hn h2
  obtain ⟨kY, hkY, -⟩ := className_of_methodNamed hn
  have hinitY : kY.init = .initialized := Cond.initialized_spec (findClass_of_methodNamed hn) hkY h3
  have h : At U g.method c below := by rw [hg]; exact X.here
  have hlocals9 : W9 + (maxL + 11) + (headSpec ws rm).room.locals ≤ R.locals := hlocals
  have happ : (headSpec ws rm).appliesLoose y e.platform (U.calling g mk a) = true :=
    Spec.appliesLoose_calling (g := g) h hdg hn hkY hinitY
      (X.room_calling (g := g) (R' := (headSpec ws rm).room) hsize hmY hcY hframes (by rw [hlY]; omega) h4 h5) h1
  obtain ⟨mid, hmid⟩ := h.above
  have hfr : (U.setTop g).frames = (.java g :: mid) ++ below := by rw [State.frames_setTop' g h.top, hmid]; rfl
  obtain ⟨o, s₂, hsteps, -, hend, hq⟩ := Steps.callFree hM p X.admits X.cas X.clock (acts := []) hfr happ hPc trivial
  have hq' : vx_Q Qc XC mc ms free a (U.calling g mk a) o s₂ := hq
  rw [State.frames_setTop' g h.top] at hend
  obtain ⟨g₀, hg0⟩ := Option.isSome_iff_exists.mp h.top
  obtain ⟨r, hr⟩ := State.topJava?_eq_some.mp hg0
  have hr' : (({ U with heap := s₂.heap, slotsUsed := s₂.slotsUsed } : State).setVm s₂.vm).frames = .java g₀ :: r := hr
  rcases hq' with ⟨hqc, L, hfe, hL⟩ | ⟨q, rfl, E, ce, L, hx, hce, hcv, hcl, hW₂, hsm, hL⟩
  · obtain ⟨⟨v, rfl⟩, hW₂, e2, q2, q3, q4, q5, q6⟩ := id hfe
    have e3 : s₂ = ({ (U.calling g mk a).setFrames s₂.frames with heap := s₂.heap, slotsUsed := s₂.slotsUsed } : State).setVm s₂.vm := by
      have : s₂ = ({ s₂ with vm := (U.calling g mk a).vm } : State).setVm s₂.vm := rfl
      rw [e2] at this
      exact this
    obtain ⟨c₂, i₂, len₂, hc₂, hd₂, hf₂⟩ := hend
    have hW' : U.WarmedH s₂.vm := hW₂
    have hcc : c₂ = c := by
      have h1 : s₂.code? g.method = U.code? g.method := by
        rw [State.code?_eq, State.code?_eq, hW'.alike.method?]
      exact Option.some.inj (hc₂.symm.trans (h1.trans h.code))
    subst hcc
    have hlen : len₂ = len := by rw [hdg] at hd₂; cases hd₂; rfl
    subst hlen
    have hs₂ : s₂ = (({ U with heap := s₂.heap, slotsUsed := s₂.slotsUsed } : State).setVm s₂.vm).setTop { g with pc := g.pc + len₂, stack := v.toList ++ g.stack } := by
      refine e3.trans ?_
      rw [hf₂, State.calling_eq h.top, State.setFrames_setFrames, State.setTop_of_frames _ hr', hr]
      rfl
    have hsame : U.sameButNew ({ U with heap := s₂.heap, slotsUsed := s₂.slotsUsed } : State) L mc ms := by
      refine ⟨?_, q2, q3, q4, q5, q6⟩
      obtain ⟨t, ht, -⟩ := State.frames_cons hr
      show ({ U with heap := s₂.heap, slotsUsed := s₂.slotsUsed } : State) = { U.setFrames U.frames with heap := s₂.heap, slotsUsed := s₂.slotsUsed }
      rw [State.setFrames_self ht]
    subst hg
    refine Or.inl ⟨v, ⟨(({ U with heap := s₂.heap, slotsUsed := s₂.slotsUsed } : State).setVm s₂.vm), Ls ++ L, c0 + mc, s0 + ms⟩,
      ⟨X.admits, X.cas, X.clock, X.frames, X.room, X.hears, X.method, X.code, (X.here.setHeapUsed s₂.heap s₂.slotsUsed).setVm hW'.alike, X.tail, State.WarmedH.trans X.warmed hW', X.limits, X.bytes, X.same.trans (hsame.setVm s.vm)⟩,
      ⟨g, mk, s₂, L, rfl, rfl, hqc, rfl, hL, rfl, rfl⟩, ?_⟩
    show Steps p.tables e below _ ((({ U with heap := s₂.heap, slotsUsed := s₂.slotsUsed } : State).setVm s₂.vm).setTop { g with pc := g.pc + len₂, stack := v.toList ++ g.stack })
    rw [← hs₂]
    exact hsteps
  · obtain ⟨e2, q2, q3, q4, q5, q6⟩ := id hsm
    have e3 : s₂ = ({ (U.calling g mk a).setFrames s₂.frames with heap := s₂.heap, slotsUsed := s₂.slotsUsed } : State).setVm s₂.vm := by
      have : s₂ = ({ s₂ with vm := (U.calling g mk a).vm } : State).setVm s₂.vm := rfl
      rw [e2] at this
      exact this
    have hf₂ : s₂.frames = .throwing q :: .java g :: U.frames.tail := hend
    have hW' : U.WarmedH s₂.vm := hW₂
    have hs₂ : s₂ = ((({ U with heap := s₂.heap, slotsUsed := s₂.slotsUsed } : State).setVm s₂.vm).setTop g).pushFrame (.throwing q) := by
      refine e3.trans ?_
      rw [hf₂, State.calling_eq h.top, State.setFrames_setFrames, State.pushFrame, State.frames_setTop _ hr', State.setTop_of_frames _ hr', State.setFrames_setFrames, hr]
      rfl
    have hsame : U.sameButNew ({ U with heap := s₂.heap, slotsUsed := s₂.slotsUsed } : State) L mc ms := by
      refine ⟨?_, q2, q3, q4, q5, q6⟩
      obtain ⟨t, ht, -⟩ := State.frames_cons hr
      show ({ U with heap := s₂.heap, slotsUsed := s₂.slotsUsed } : State) = { U.setFrames U.frames with heap := s₂.heap, slotsUsed := s₂.slotsUsed }
      rw [State.setFrames_self ht]
    subst hg
    refine Or.inr ⟨q, ⟨(({ U with heap := s₂.heap, slotsUsed := s₂.slotsUsed } : State).setVm s₂.vm), Ls ++ L, c0 + mc, s0 + ms⟩,
      ⟨X.admits, X.cas, X.clock, X.frames, X.room, X.hears, X.method, X.code, (X.here.setHeapUsed s₂.heap s₂.slotsUsed).setVm hW'.alike, X.tail, State.WarmedH.trans X.warmed hW', X.limits, X.bytes, X.same.trans (hsame.setVm s.vm)⟩,
      ⟨g, mk, s₂, L, E, ce, rfl, rfl, hx, hce, hcv, hcl, rfl, hL, rfl, rfl⟩, ?_⟩
    show Steps p.tables e below _ (((({ U with heap := s₂.heap, slotsUsed := s₂.slotsUsed } : State).setVm s₂.vm).setTop g).pushFrame (.throwing q))
    rw [← hs₂]
    exact hsteps
end Payer
section Calls
variable {p : Program} {l : Launch} {e : Env} {R : Room} {s : State} {m : MethodId} {args : Array Value} {below : List Frame} {meth : Method} {c : Code} {T : State} {locs : List Loc} {cells slots : Nat}
theorem vx_callV (X : Stand p l e R s m args below meth c T locs cells slots) (hexec : p.tables.exec = Jvm.exec) {own C : String} {index : Nat} {y : MethodName} {bytes : ByteArray} {maxL : Nat} {ret : Option FieldType}
    (hown : s.vm.findClass own = some m.cls) (hlink : (Cond.methodLink own index y).before args s = true) (hinst : (Cond.instanceMethod y).before args s = true) (hsel : (Cond.selects C y y).before args s = true)
    (hcode : (Cond.code y bytes maxL ret).before args s = true) (hy : y.cls ≠ "java/lang/invoke/MethodHandle" ∧ y.cls ≠ "java/lang/invoke/VarHandle")
    {W9 : Nat} {Pre : Pt → Array Value → Prop} {Post : Pt → Array Value → Option Value → Pt → Prop} {PostX : Pt → Array Value → Addr → Pt → Prop} (hK : vx_Back l R p e below s args y 3 W9 Pre Post PostX)
    {b : Addr} {cellB : Cell} (hcell : T.heap[b]? = some cellB) (hobj : cellB.vm.isStatics = false) (hcls : s.vm.findClass C = some cellB.cls)
    {g : JFrame} (hg : g.method = m) (hsize : g.locals.size = c.maxLocals) {argsL rest : List Value} (hlen : ∀ sig, parseMethodDescriptor y.desc = some sig → argsL.length = sig.parameters.length)
    (hstack : g.stack = argsL.reverse ++ .ref b :: rest) (hW : 2 * g.monitorRoom + (rest.map fun v => v.category).sum ≤ W9) (hdg : decode c.code g.pc = .ok (.invokevirtual index, 3))
    (hpre : ∀ vm₁, s.WarmedH vm₁ → Pre ⟨T.setVm vm₁, locs, cells, slots⟩ (Value.ref b :: argsL).toArray) :
    (∃ (v : Option Value) (vm₁ : Vm) (B : Pt), s.WarmedH vm₁ ∧ Stand p l e R s m args below meth c B.U B.locs B.cells B.slots ∧ Post ⟨T.setVm vm₁, locs, cells, slots⟩ (Value.ref b :: argsL).toArray v B ∧
      ∀ target, Steps p.tables e below (B.U.setTop { g with pc := g.pc + 3, stack := v.toList ++ rest }) target → Steps p.tables e below (T.setTop g) target) ∨
    (∃ (q : Addr) (vm₁ : Vm) (B : Pt), s.WarmedH vm₁ ∧ Stand p l e R s m args below meth c B.U B.locs B.cells B.slots ∧ PostX ⟨T.setVm vm₁, locs, cells, slots⟩ (Value.ref b :: argsL).toArray q B ∧
      Steps p.tables e below (T.setTop g) ((B.U.setTop { g with stack := rest }).pushFrame (.throwing q))) := by
  obtain ⟨mk, methM, hnamed, hmethM, hstM, habM⟩ := Cond.instanceMethod_spec hinst
  obtain ⟨methM', cM, hmethM', -, -, -, -, -, -, hsigM⟩ := Cond.code_spec hnamed hcode
  cases hmethM.symm.trans hmethM'
  obtain ⟨c2, r2, m2, q1, q2, q3, q4, kP, hkP, hkPi⟩ := Cond.selects_spec hsel
  cases hcls.symm.trans q1
  cases (State.methodFound?_of_named hnamed hy).symm.trans q2
  cases hnamed.symm.trans q3
  have hselP : selectMethod e.platform s.vm cellB.cls mk = .method mk := by rw [Launch.admits_selectMethod X.admits]; exact q4
  obtain ⟨vm₁, X₁, hstep₁⟩ := X.invokevirtual hexec hown hlink hnamed hmethM hstM hkP hkPi hy (a := b) (cell := cellB) hcell
    (fun z h => by rw [h] at hobj; cases hobj) hselP hmethM habM hkP hkPi (g := g) hg (argsL := argsL) (rest := rest) (hlen _ hsigM) hstack hdg
  rcases hK m meth c ⟨T.setVm vm₁, locs, cells, slots⟩ { g with stack := rest } (.invokevirtual index) mk (Value.ref b :: argsL).toArray X₁ hg hsize hdg hW (X₁.named hnamed) (hpre vm₁ X₁.warmed) with ⟨v, B, X', hpost, hsteps⟩ | ⟨q, B, X', hpost, hsteps⟩
  · exact Or.inl ⟨v, vm₁, B, X₁.warmed, X', hpost, fun target h => hstep₁ _ fun acts => by rw [doInvoke_state]; exact hsteps.trans h⟩
  · exact Or.inr ⟨q, vm₁, B, X₁.warmed, X', hpost, hstep₁ _ fun acts => by rw [doInvoke_state]; exact hsteps⟩
theorem vx_callS (X : Stand p l e R s m args below meth c T locs cells slots) (hexec : p.tables.exec = Jvm.exec) {own : String} {index : Nat} {y : MethodName} {bytes : ByteArray} {maxL : Nat} {ret : Option FieldType}
    (hown : s.vm.findClass own = some m.cls) (hlink : (Cond.methodLink own index y).before args s = true) (hstat : (Cond.static y).before args s = true) (hinit : (Cond.initialized y.cls).before args s = true)
    (hcode : (Cond.code y bytes maxL ret).before args s = true) (hy : y.cls ≠ "java/lang/invoke/MethodHandle" ∧ y.cls ≠ "java/lang/invoke/VarHandle")
    {W9 : Nat} {Pre : Pt → Array Value → Prop} {Post : Pt → Array Value → Option Value → Pt → Prop} {PostX : Pt → Array Value → Addr → Pt → Prop} (hK : vx_Back l R p e below s args y 3 W9 Pre Post PostX)
    {g : JFrame} (hg : g.method = m) (hsize : g.locals.size = c.maxLocals) {argsL rest : List Value} (hlen : ∀ sig, parseMethodDescriptor y.desc = some sig → argsL.length = sig.parameters.length)
    (hstack : g.stack = argsL.reverse ++ rest) (hW : 2 * g.monitorRoom + (rest.map fun v => v.category).sum ≤ W9) (hdg : decode c.code g.pc = .ok (.invokestatic index, 3))
    (hpre : ∀ vm₁, s.WarmedH vm₁ → Pre ⟨T.setVm vm₁, locs, cells, slots⟩ argsL.toArray) :
    (∃ (v : Option Value) (vm₁ : Vm) (B : Pt), s.WarmedH vm₁ ∧ Stand p l e R s m args below meth c B.U B.locs B.cells B.slots ∧ Post ⟨T.setVm vm₁, locs, cells, slots⟩ argsL.toArray v B ∧
      ∀ target, Steps p.tables e below (B.U.setTop { g with pc := g.pc + 3, stack := v.toList ++ rest }) target → Steps p.tables e below (T.setTop g) target) ∨
    (∃ (q : Addr) (vm₁ : Vm) (B : Pt), s.WarmedH vm₁ ∧ Stand p l e R s m args below meth c B.U B.locs B.cells B.slots ∧ PostX ⟨T.setVm vm₁, locs, cells, slots⟩ argsL.toArray q B ∧
      Steps p.tables e below (T.setTop g) ((B.U.setTop { g with stack := rest }).pushFrame (.throwing q))) := by
  obtain ⟨mk, hnamed⟩ := Cond.code_named hcode
  obtain ⟨methM, cM, hmethM, -, -, -, -, -, -, hsigM⟩ := Cond.code_spec hnamed hcode
  have hstatic : methM.isStatic = true := Cond.static_spec hnamed hmethM hstat
  obtain ⟨kP, hkP, -⟩ := className_of_methodNamed hnamed
  have hinitP : kP.init = .initialized := Cond.initialized_spec (findClass_of_methodNamed hnamed) hkP hinit
  obtain ⟨vm₁, X₁, hstep₁⟩ := X.invokestatic hexec hown hlink hnamed hmethM hstatic hkP hinitP hy (g := g) hg (argsL := argsL) (rest := rest) (hlen _ hsigM) hstack hdg
  rcases hK m meth c ⟨T.setVm vm₁, locs, cells, slots⟩ { g with stack := rest } (.invokestatic index) mk argsL.toArray X₁ hg hsize hdg hW (X₁.named hnamed) (hpre vm₁ X₁.warmed) with ⟨v, B, X', hpost, hsteps⟩ | ⟨q, B, X', hpost, hsteps⟩
  · exact Or.inl ⟨v, vm₁, B, X₁.warmed, X', hpost, fun target h => hstep₁ _ fun acts => by rw [doInvoke_state]; exact hsteps.trans h⟩
  · exact Or.inr ⟨q, vm₁, B, X₁.warmed, X', hpost, hstep₁ _ fun acts => by rw [doInvoke_state]; exact hsteps⟩
end Calls
theorem vx_cls {s : State} {T : State} {vm₁ : Vm} {E : String} {k : ClassId} (hW : s.WarmedH vm₁) (h : (T.setVm vm₁).vm.findClass E = some k) : s.vm.findClass E = some k := by
  have h1 : vm₁.findClass E = some k := h
  rw [hW.alike.findClass] at h1
  exact h1
/-- the method's frame g, with q thrown over it -/
def vx_W (p : Program) (l : Launch) (e : Env) (R : Room) (s : State) (m : MethodId) (args : Array Value) (below : List Frame) (meth : Method) (c : Code) (H : Heap) (locs : List Loc) (cells slots : Nat) (Q : State → Prop) (g : JFrame) (q : Addr) : Prop :=
  ∀ T : State, T.heap = H → Stand p l e R s m args below meth c T locs cells slots → ∃ t, Steps p.tables e below ((T.setTop g).pushFrame (.throwing q)) t ∧ Q t
def vx_Run (p : Program) (l : Launch) (e : Env) (R : Room) (s : State) (m : MethodId) (args : Array Value) (below : List Frame) (meth : Method) (c : Code) (H : Heap) (locs : List Loc) (cells slots mc ms : Nat) (g : JFrame) (rest : List Value) (Qa : State → Outcome → State → Prop) (XC : String → State → State → Prop) (free : Addr → Prop) : Prop :=
  ∀ T : State, T.heap = H → Stand p l e R s m args below meth c T locs cells slots →
    (∃ (v : Option Value) (st₀ t T' : State) (L : List Loc), st₀.heap = H ∧ Stand p l e R s m args below meth c T' (locs ++ L) (cells + mc) (slots + ms) ∧ (∀ q ∈ L, free q.base) ∧ T'.heap = t.heap ∧ T'.vm = t.vm ∧ Qa st₀ (.returned v) t ∧
      Goes p e below T g T' { g with pc := g.pc + 3, stack := v.toList ++ rest }) ∨
    (∃ (q : Addr) (st₀ t T' : State) (L : List Loc) (E : String) (ce : Cell), st₀.heap = H ∧ Stand p l e R s m args below meth c T' (locs ++ L) (cells + mc) (slots + ms) ∧ (∀ z ∈ L, free z.base) ∧ T'.heap = t.heap ∧ T'.vm = t.vm ∧ XC E st₀ t ∧ t.heap[q]? = some ce ∧ ce.vm = .none ∧ s.vm.findClass E = some ce.cls ∧
      Steps p.tables e below (T.setTop g) ((T'.setTop { g with stack := rest }).pushFrame (.throwing q)))
def vx_X {S : Type} (px : S → Prop) (B : String → S → State → Prop) (A : Nat → Prop) : String → State → State → Prop := fun E st t => ∃ u : S, px u ∧ B E u t ∧ va_F A st t
section Runs
variable {p : Program} {l : Launch} {e : Env} {R : Room} {s : State} {m : MethodId} {args : Array Value} {below : List Frame} {meth : Method} {c : Code} {H : Heap} {locs : List Loc} {cells slots : Nat}
variable {y : MethodName} {bytes cc : ByteArray} {maxL nL mc ms n index : Nat} {ret : Option FieldType} {ws : List Cond} {rm : Room} {Pc : Array Value → State → Prop} {Qc : Array Value → State → Outcome → State → Prop} {XC : String → State → State → Prop} {free : Addr → Prop} {Ts : List Cond} {own C : String} {b : Addr} {As rest : List Value} {g : JFrame}
theorem vx_callBack (cb : CallB R s args own index y bytes maxL ret ws rm mc ms n) (hM : vx_Met l y ws rm Pc Qc XC mc ms free) (hbl : FrameBlind Pc) : vx_Back l R p e below s args y 3 8 (PreOf R mc ms Pc) (PostOf Qc mc ms free) (vx_Post XC mc ms free) := by
  obtain ⟨hrc, hrs, hfr, hlo, hws, hcw, -, hini, -⟩ := cb
  exact vx_back (bytes := bytes) (maxL := maxL) (ret := ret) hM hbl hrc hrs hfr hlo hws hcw (fun a' U hW => word_at hW (Or.inl (by first | rfl | simp [Cond.onTables, Cond.keeps, Cond.steady])) hini)
theorem vx_runV (S : CallFix p m c cc nL s args Ts own) (hM : vx_Met l y ws rm Pc Qc XC mc ms free) (cw : CallW R s args own C index y bytes maxL ret ws rm mc ms n) (hp : PreV s H C b Pc As)
    (hg : g.method = m) (hn : As.length = n) (hsize : g.locals.size = nL) (hstack : g.stack = As.reverse ++ .ref b :: rest) (hW : 2 * g.monitorRoom + (rest.map fun v => v.category).sum ≤ 8) (hdg : decode cc g.pc = .ok (.invokevirtual index, 3)) (hf : cells + mc ≤ R.cells ∧ slots + ms ≤ R.slots) :
    vx_Run p l e R s m args below meth c H locs cells slots mc ms g rest (Qc (Value.ref b :: As).toArray) XC free := by
  have hK : vx_Back l R p e below s args y 3 8 (PreOf R mc ms Pc) (PostOf Qc mc ms free) (vx_Post XC mc ms free) := vx_callBack cw.1 hM hp.1
  obtain ⟨⟨-, -, -, -, -, -, hcode, -, hy, hlen, hl⟩, hin, hse⟩ := cw
  obtain ⟨hx, hb, hml, ho, -⟩ := S
  obtain ⟨-, ⟨cellB, hcB, hoB, hclB⟩, hPc⟩ := hp
  intro T hT X
  rcases vx_callV X hx (C := C) (bytes := bytes) (maxL := maxL) (ret := ret) ho hl hin hse hcode hy hK (by rw [hT]; exact hcB) hoB hclB hg (hsize.trans hml.symm) (argsL := As) (rest := rest) (fun sig h => hn.trans (hlen sig h)) hstack hW (by rw [hb]; exact hdg)
    (fun vm₁ hW₁ => ⟨hf.1, hf.2, hPc (T.setVm vm₁) hT hW₁⟩) with ⟨v, vm₁, ⟨U', l2, c2, s2⟩, hW₁, X', ⟨g', mk, t, L, e1, e2, hq, h1, hL, h2, h3⟩, st⟩ | ⟨q, vm₁, ⟨U', l2, c2, s2⟩, hW₁, X', ⟨g', mk, t, L, E, ce, e1, e2, hq, hce, hcv, hcl, h1, hL, h2, h3⟩, st⟩
  · dsimp only [Pt.U, Pt.locs, Pt.cells, Pt.slots] at X' e1 e2 h1 h2 h3 st
    subst h1; subst h2; subst h3
    exact Or.inl ⟨v, (T.setVm vm₁).calling g' mk (Value.ref b :: As).toArray, t, U', L, hT, X', hL, e1, e2, hq, st⟩
  · dsimp only [Pt.U, Pt.locs, Pt.cells, Pt.slots] at X' e1 e2 h1 h2 h3 st hcl
    subst h1; subst h2; subst h3
    exact Or.inr ⟨q, (T.setVm vm₁).calling g' mk (Value.ref b :: As).toArray, t, U', L, E, ce, hT, X', hL, e1, e2, hq, hce, hcv, vx_cls hW₁ hcl, st⟩
theorem vx_runS (S : CallFix p m c cc nL s args Ts own) (hM : vx_Met l y ws rm Pc Qc XC mc ms free) (cw : CallB R s args own index y bytes maxL ret ws rm mc ms n ∧ (Cond.static y).before args s = true) (hp : PreS s H Pc As)
    (hg : g.method = m) (hn : As.length = n) (hsize : g.locals.size = nL) (hstack : g.stack = As.reverse ++ rest) (hW : 2 * g.monitorRoom + (rest.map fun v => v.category).sum ≤ 8) (hdg : decode cc g.pc = .ok (.invokestatic index, 3)) (hf : cells + mc ≤ R.cells ∧ slots + ms ≤ R.slots) :
    vx_Run p l e R s m args below meth c H locs cells slots mc ms g rest (Qc As.toArray) XC free := by
  have hK : vx_Back l R p e below s args y 3 8 (PreOf R mc ms Pc) (PostOf Qc mc ms free) (vx_Post XC mc ms free) := vx_callBack cw.1 hM hp.1
  obtain ⟨⟨-, -, -, -, -, -, hcode, hini, hy, hlen, hl⟩, hstt⟩ := cw
  obtain ⟨hx, hb, hml, ho, -⟩ := S
  intro T hT X
  rcases vx_callS X hx (bytes := bytes) (maxL := maxL) (ret := ret) ho hl hstt hini hcode hy hK hg (hsize.trans hml.symm) (argsL := As) (rest := rest) (fun sig h => hn.trans (hlen sig h)) hstack hW (by rw [hb]; exact hdg)
    (fun vm₁ hW₁ => ⟨hf.1, hf.2, hp.2 (T.setVm vm₁) hT hW₁⟩) with ⟨v, vm₁, ⟨U', l2, c2, s2⟩, hW₁, X', ⟨g', mk, t, L, e1, e2, hq, h1, hL, h2, h3⟩, st⟩ | ⟨q, vm₁, ⟨U', l2, c2, s2⟩, hW₁, X', ⟨g', mk, t, L, E, ce, e1, e2, hq, hce, hcv, hcl, h1, hL, h2, h3⟩, st⟩
  · dsimp only [Pt.U, Pt.locs, Pt.cells, Pt.slots] at X' e1 e2 h1 h2 h3 st
    subst h1; subst h2; subst h3
    exact Or.inl ⟨v, (T.setVm vm₁).calling g' mk As.toArray, t, U', L, hT, X', hL, e1, e2, hq, st⟩
  · dsimp only [Pt.U, Pt.locs, Pt.cells, Pt.slots] at X' e1 e2 h1 h2 h3 st hcl
    subst h1; subst h2; subst h3
    exact Or.inr ⟨q, (T.setVm vm₁).calling g' mk As.toArray, t, U', L, E, ce, hT, X', hL, e1, e2, hq, hce, hcv, vx_cls hW₁ hcl, st⟩
end Runs
section Rows
variable {p : Program} {l : Launch} {e : Env} {R : Room} {s : State} {m : MethodId} {args : Array Value} {below : List Frame} {meth : Method} {c : Code} {H : Heap} {locs : List Loc} {cells slots : Nat} {Q : State → Prop}
variable {mc ms : Nat} {free : Addr → Prop} {A0 A1 : Nat → Prop} {H0 : Heap} {a : Array Value} {pc : Nat} {ls : Array Slot} {st0 rest : List Value}
theorem vx_keep {st₀ t T' : State} {L : List Loc} (h0 : st₀.heap = H) (e1 : T'.heap = t.heap) (hS : va_S A0 H0 H locs) (hA : ∀ q, q < H.size → A1 q → A0 q) (hf : ∀ q, free q → A0 q) (hL : ∀ q ∈ L, free q.base) (hF : va_F A1 st₀ t) :
    H.size ≤ T'.heap.size ∧ (∀ q : Nat, q < H.size → ¬ A1 q → T'.heap[q]? = H[q]?) ∧ va_S A0 H0 T'.heap (locs ++ L) := by
  obtain ⟨hz, hk⟩ := hF
  rw [h0] at hz hk
  exact ⟨by rw [e1]; exact hz, fun q h1 h2 => by rw [e1]; exact hk q h1 h2,
    ⟨Nat.le_trans hS.1 (by rw [e1]; exact hz), fun q h1 h2 => by rw [e1, hk q (Nat.lt_of_lt_of_le h1 hS.1) (fun z => h2 (hA q (Nat.lt_of_lt_of_le h1 hS.1) z))]; exact hS.2.1 q h1 h2, fun q hq => by
      rcases List.mem_append.mp hq with h | h
      · exact hS.2.2 q h
      · exact hf _ (hL q h)⟩⟩
theorem vx_calli {S SX : Type} {post : Int32 → S → Prop} {px : SX → Prop} {B : S → State → Prop} {BX : String → SX → State → Prop} {AX : Nat → Prop} (hr : vx_Run p l e R s m args below meth c H locs cells slots mc ms (F0 m pc ls st0) rest (va_Qi post B A1 a) (vx_X px BX AX) free) (hS : va_S A0 H0 H locs) (hA : ∀ q, q < H.size → A1 q → A0 q) (hf : ∀ q, free q → A0 q) (hAX : ∀ q, q < H.size → AX q → A0 q)
    (kx : ∀ (E : String) (ce : Cell) (q9 : Addr) (u : SX) (t : State) (H1 : Heap) (locs1 : List Loc), t.heap = H1 → s.vm.Alike t.vm → px u → BX E u t → H.size ≤ H1.size → (∀ q : Nat, q < H.size → ¬ AX q → H1[q]? = H[q]?) → va_S A0 H0 H1 locs1 → H1[q9]? = some ce → ce.vm = .none → s.vm.findClass E = some ce.cls → vx_W p l e R s m args below meth c H1 locs1 (cells + mc) (slots + ms) Q (F0 m pc ls rest) q9)
    (kk : ∀ (r : Int32) (u : S) (t : State) (H1 : Heap) (locs1 : List Loc), t.heap = H1 → s.vm.Alike t.vm → post r u → B u t → H.size ≤ H1.size → (∀ q : Nat, q < H.size → ¬ A1 q → H1[q]? = H[q]?) → va_S A0 H0 H1 locs1 → W p l e R s m args below meth c H1 locs1 (cells + mc) (slots + ms) Q (F0 m (pc + 3) ls (.int r :: rest))) : W p l e R s m args below meth c H locs cells slots Q (F0 m pc ls st0) := by
  intro T hT X
  rcases hr T hT X with ⟨v, st₀, t, T', L, h0, X', hL, e1, e2, ⟨⟨r, u, hv, hp, hb⟩, hF⟩, st⟩ | ⟨q, st₀, t, T', L, E, ce, h0, X', hL, e1, e2, ⟨u, hp, hb, hF⟩, hce, hcv, hcl, st⟩
  · cases hv
    obtain ⟨k1, k2, k3⟩ := vx_keep h0 e1 hS hA hf hL hF
    obtain ⟨t2, a1, b1⟩ := kk r u t T'.heap (locs ++ L) e1.symm (by rw [← e2]; exact X'.warmed.alike) hp hb k1 k2 k3 T' rfl X'
    exact ⟨t2, st t2 a1, b1⟩
  · obtain ⟨k1, k2, k3⟩ := vx_keep h0 e1 hS hAX hf hL hF
    obtain ⟨t2, a1, b1⟩ := kx E ce q u t T'.heap (locs ++ L) e1.symm (by rw [← e2]; exact X'.warmed.alike) hp hb k1 k2 k3 (by rw [e1]; exact hce) hcv hcl T' rfl X'
    exact ⟨t2, st.trans a1, b1⟩
theorem vx_calll {S SX : Type} {post : Int64 → S → Prop} {px : SX → Prop} {B : S → State → Prop} {BX : String → SX → State → Prop} {AX : Nat → Prop} (hr : vx_Run p l e R s m args below meth c H locs cells slots mc ms (F0 m pc ls st0) rest (va_Ql post B A1 a) (vx_X px BX AX) free) (hS : va_S A0 H0 H locs) (hA : ∀ q, q < H.size → A1 q → A0 q) (hf : ∀ q, free q → A0 q) (hAX : ∀ q, q < H.size → AX q → A0 q)
    (kx : ∀ (E : String) (ce : Cell) (q9 : Addr) (u : SX) (t : State) (H1 : Heap) (locs1 : List Loc), t.heap = H1 → s.vm.Alike t.vm → px u → BX E u t → H.size ≤ H1.size → (∀ q : Nat, q < H.size → ¬ AX q → H1[q]? = H[q]?) → va_S A0 H0 H1 locs1 → H1[q9]? = some ce → ce.vm = .none → s.vm.findClass E = some ce.cls → vx_W p l e R s m args below meth c H1 locs1 (cells + mc) (slots + ms) Q (F0 m pc ls rest) q9)
    (kk : ∀ (r : Int64) (u : S) (t : State) (H1 : Heap) (locs1 : List Loc), t.heap = H1 → s.vm.Alike t.vm → post r u → B u t → H.size ≤ H1.size → (∀ q : Nat, q < H.size → ¬ A1 q → H1[q]? = H[q]?) → va_S A0 H0 H1 locs1 → W p l e R s m args below meth c H1 locs1 (cells + mc) (slots + ms) Q (F0 m (pc + 3) ls (.long r :: rest))) : W p l e R s m args below meth c H locs cells slots Q (F0 m pc ls st0) := by
  intro T hT X
  rcases hr T hT X with ⟨v, st₀, t, T', L, h0, X', hL, e1, e2, ⟨⟨r, u, hv, hp, hb⟩, hF⟩, st⟩ | ⟨q, st₀, t, T', L, E, ce, h0, X', hL, e1, e2, ⟨u, hp, hb, hF⟩, hce, hcv, hcl, st⟩
  · cases hv
    obtain ⟨k1, k2, k3⟩ := vx_keep h0 e1 hS hA hf hL hF
    obtain ⟨t2, a1, b1⟩ := kk r u t T'.heap (locs ++ L) e1.symm (by rw [← e2]; exact X'.warmed.alike) hp hb k1 k2 k3 T' rfl X'
    exact ⟨t2, st t2 a1, b1⟩
  · obtain ⟨k1, k2, k3⟩ := vx_keep h0 e1 hS hAX hf hL hF
    obtain ⟨t2, a1, b1⟩ := kx E ce q u t T'.heap (locs ++ L) e1.symm (by rw [← e2]; exact X'.warmed.alike) hp hb k1 k2 k3 (by rw [e1]; exact hce) hcv hcl T' rfl X'
    exact ⟨t2, st.trans a1, b1⟩
theorem vx_callf {S SX : Type} {post : UInt32 → S → Prop} {px : SX → Prop} {B : S → State → Prop} {BX : String → SX → State → Prop} {AX : Nat → Prop} (hr : vx_Run p l e R s m args below meth c H locs cells slots mc ms (F0 m pc ls st0) rest (va_Qf post B A1 a) (vx_X px BX AX) free) (hS : va_S A0 H0 H locs) (hA : ∀ q, q < H.size → A1 q → A0 q) (hf : ∀ q, free q → A0 q) (hAX : ∀ q, q < H.size → AX q → A0 q)
    (kx : ∀ (E : String) (ce : Cell) (q9 : Addr) (u : SX) (t : State) (H1 : Heap) (locs1 : List Loc), t.heap = H1 → s.vm.Alike t.vm → px u → BX E u t → H.size ≤ H1.size → (∀ q : Nat, q < H.size → ¬ AX q → H1[q]? = H[q]?) → va_S A0 H0 H1 locs1 → H1[q9]? = some ce → ce.vm = .none → s.vm.findClass E = some ce.cls → vx_W p l e R s m args below meth c H1 locs1 (cells + mc) (slots + ms) Q (F0 m pc ls rest) q9)
    (kk : ∀ (r : UInt32) (u : S) (t : State) (H1 : Heap) (locs1 : List Loc), t.heap = H1 → s.vm.Alike t.vm → post r u → B u t → H.size ≤ H1.size → (∀ q : Nat, q < H.size → ¬ A1 q → H1[q]? = H[q]?) → va_S A0 H0 H1 locs1 → W p l e R s m args below meth c H1 locs1 (cells + mc) (slots + ms) Q (F0 m (pc + 3) ls (.float r :: rest))) : W p l e R s m args below meth c H locs cells slots Q (F0 m pc ls st0) := by
  intro T hT X
  rcases hr T hT X with ⟨v, st₀, t, T', L, h0, X', hL, e1, e2, ⟨⟨r, u, hv, hp, hb⟩, hF⟩, st⟩ | ⟨q, st₀, t, T', L, E, ce, h0, X', hL, e1, e2, ⟨u, hp, hb, hF⟩, hce, hcv, hcl, st⟩
  · cases hv
    obtain ⟨k1, k2, k3⟩ := vx_keep h0 e1 hS hA hf hL hF
    obtain ⟨t2, a1, b1⟩ := kk r u t T'.heap (locs ++ L) e1.symm (by rw [← e2]; exact X'.warmed.alike) hp hb k1 k2 k3 T' rfl X'
    exact ⟨t2, st t2 a1, b1⟩
  · obtain ⟨k1, k2, k3⟩ := vx_keep h0 e1 hS hAX hf hL hF
    obtain ⟨t2, a1, b1⟩ := kx E ce q u t T'.heap (locs ++ L) e1.symm (by rw [← e2]; exact X'.warmed.alike) hp hb k1 k2 k3 (by rw [e1]; exact hce) hcv hcl T' rfl X'
    exact ⟨t2, st.trans a1, b1⟩
theorem vx_calld {S SX : Type} {post : UInt64 → S → Prop} {px : SX → Prop} {B : S → State → Prop} {BX : String → SX → State → Prop} {AX : Nat → Prop} (hr : vx_Run p l e R s m args below meth c H locs cells slots mc ms (F0 m pc ls st0) rest (va_Qd post B A1 a) (vx_X px BX AX) free) (hS : va_S A0 H0 H locs) (hA : ∀ q, q < H.size → A1 q → A0 q) (hf : ∀ q, free q → A0 q) (hAX : ∀ q, q < H.size → AX q → A0 q)
    (kx : ∀ (E : String) (ce : Cell) (q9 : Addr) (u : SX) (t : State) (H1 : Heap) (locs1 : List Loc), t.heap = H1 → s.vm.Alike t.vm → px u → BX E u t → H.size ≤ H1.size → (∀ q : Nat, q < H.size → ¬ AX q → H1[q]? = H[q]?) → va_S A0 H0 H1 locs1 → H1[q9]? = some ce → ce.vm = .none → s.vm.findClass E = some ce.cls → vx_W p l e R s m args below meth c H1 locs1 (cells + mc) (slots + ms) Q (F0 m pc ls rest) q9)
    (kk : ∀ (r : UInt64) (u : S) (t : State) (H1 : Heap) (locs1 : List Loc), t.heap = H1 → s.vm.Alike t.vm → post r u → B u t → H.size ≤ H1.size → (∀ q : Nat, q < H.size → ¬ A1 q → H1[q]? = H[q]?) → va_S A0 H0 H1 locs1 → W p l e R s m args below meth c H1 locs1 (cells + mc) (slots + ms) Q (F0 m (pc + 3) ls (.double r :: rest))) : W p l e R s m args below meth c H locs cells slots Q (F0 m pc ls st0) := by
  intro T hT X
  rcases hr T hT X with ⟨v, st₀, t, T', L, h0, X', hL, e1, e2, ⟨⟨r, u, hv, hp, hb⟩, hF⟩, st⟩ | ⟨q, st₀, t, T', L, E, ce, h0, X', hL, e1, e2, ⟨u, hp, hb, hF⟩, hce, hcv, hcl, st⟩
  · cases hv
    obtain ⟨k1, k2, k3⟩ := vx_keep h0 e1 hS hA hf hL hF
    obtain ⟨t2, a1, b1⟩ := kk r u t T'.heap (locs ++ L) e1.symm (by rw [← e2]; exact X'.warmed.alike) hp hb k1 k2 k3 T' rfl X'
    exact ⟨t2, st t2 a1, b1⟩
  · obtain ⟨k1, k2, k3⟩ := vx_keep h0 e1 hS hAX hf hL hF
    obtain ⟨t2, a1, b1⟩ := kx E ce q u t T'.heap (locs ++ L) e1.symm (by rw [← e2]; exact X'.warmed.alike) hp hb k1 k2 k3 (by rw [e1]; exact hce) hcv hcl T' rfl X'
    exact ⟨t2, st.trans a1, b1⟩
theorem vx_callv {S SX : Type} {post : S → Prop} {px : SX → Prop} {B : S → State → Prop} {BX : String → SX → State → Prop} {AX : Nat → Prop} (hr : vx_Run p l e R s m args below meth c H locs cells slots mc ms (F0 m pc ls st0) rest (va_Qv post B A1 a) (vx_X px BX AX) free) (hS : va_S A0 H0 H locs) (hA : ∀ q, q < H.size → A1 q → A0 q) (hf : ∀ q, free q → A0 q) (hAX : ∀ q, q < H.size → AX q → A0 q)
    (kx : ∀ (E : String) (ce : Cell) (q9 : Addr) (u : SX) (t : State) (H1 : Heap) (locs1 : List Loc), t.heap = H1 → s.vm.Alike t.vm → px u → BX E u t → H.size ≤ H1.size → (∀ q : Nat, q < H.size → ¬ AX q → H1[q]? = H[q]?) → va_S A0 H0 H1 locs1 → H1[q9]? = some ce → ce.vm = .none → s.vm.findClass E = some ce.cls → vx_W p l e R s m args below meth c H1 locs1 (cells + mc) (slots + ms) Q (F0 m pc ls rest) q9)
    (kk : ∀ (u : S) (t : State) (H1 : Heap) (locs1 : List Loc), t.heap = H1 → s.vm.Alike t.vm → post u → B u t → H.size ≤ H1.size → (∀ q : Nat, q < H.size → ¬ A1 q → H1[q]? = H[q]?) → va_S A0 H0 H1 locs1 → W p l e R s m args below meth c H1 locs1 (cells + mc) (slots + ms) Q (F0 m (pc + 3) ls (rest))) : W p l e R s m args below meth c H locs cells slots Q (F0 m pc ls st0) := by
  intro T hT X
  rcases hr T hT X with ⟨v, st₀, t, T', L, h0, X', hL, e1, e2, ⟨⟨u, hv, hp, hb⟩, hF⟩, st⟩ | ⟨q, st₀, t, T', L, E, ce, h0, X', hL, e1, e2, ⟨u, hp, hb, hF⟩, hce, hcv, hcl, st⟩
  · cases hv
    obtain ⟨k1, k2, k3⟩ := vx_keep h0 e1 hS hA hf hL hF
    obtain ⟨t2, a1, b1⟩ := kk u t T'.heap (locs ++ L) e1.symm (by rw [← e2]; exact X'.warmed.alike) hp hb k1 k2 k3 T' rfl X'
    exact ⟨t2, st t2 a1, b1⟩
  · obtain ⟨k1, k2, k3⟩ := vx_keep h0 e1 hS hAX hf hL hF
    obtain ⟨t2, a1, b1⟩ := kx E ce q u t T'.heap (locs ++ L) e1.symm (by rw [← e2]; exact X'.warmed.alike) hp hb k1 k2 k3 (by rw [e1]; exact hce) hcv hcl T' rfl X'
    exact ⟨t2, st.trans a1, b1⟩
/-- caught by the row x of this method's table; the rows ahead don't take it -/
theorem vx_catch {own name : String} {E : String} {ce : Cell} {q : Addr} (hown : s.vm.findClass own = some m.cls) (pre : List ExceptionTableEntry) (x : ExceptionTableEntry) (suf : List ExceptionTableEntry) (hsplit : c.exceptionTable.toList = pre ++ x :: suf)
    (hpass : ∀ z ∈ pre, covers z pc = false ∨ (z.catchType ≠ 0 ∧ ∃ nm : String, (Cond.classLink own z.catchType nm).before args s = true ∧ va_Nc E nm s)) (hx : covers x pc = true) (h0 : x.catchType ≠ 0)
    (hlink : (Cond.classLink own x.catchType name).before args s = true) (hcast : (Cond.castable E name).before args s = true) (hcell : H[q]? = some ce) (hv : ce.vm = .none) (hcl : s.vm.findClass E = some ce.cls)
    (kk : W p l e R s m args below meth c H locs cells slots Q (F0 m x.handlerPc ls [.ref q])) : vx_W p l e R s m args below meth c H locs cells slots Q (F0 m pc ls rest) q := by
  intro T hT X
  have hpl : e.platform.magicAccessors = ({} : Platform).magicAccessors := by rw [X.admits.platform]
  obtain ⟨c3, c4, hc3, hc4, hasg⟩ := Cond.castable_spec hcast
  cases Option.some.inj (hc3.symm.trans hcl)
  obtain ⟨c5, hc5, hcl5⟩ := Cond.classLink_spec hown hlink e.platform hpl
  cases Option.some.inj (hc4.symm.trans hc5)
  obtain ⟨vm', X', st⟩ := X.thenCaughtThrough q (g := F0 m pc ls rest) rfl (Steps.refl _) (by rw [hT]; exact hcell) (by rw [hv]; rfl) (by obtain ⟨k9, h9, -⟩ := Vm.findClass_spec hcl; exact ⟨k9, h9⟩) pre x suf hsplit
    (fun z hz => by
      rcases hpass z hz with h | ⟨hz0, nm, hl1, hn1⟩
      · exact Or.inl h
      · obtain ⟨c6, hc6, hcl6⟩ := Cond.classLink_spec hown hl1 e.platform hpl
        obtain ⟨a8, b8, h1, h2, h3⟩ := hn1
        cases Option.some.inj (h1.symm.trans hcl)
        cases Option.some.inj (h2.symm.trans hc6)
        exact Or.inr ⟨hz0, _, hcl6, h3⟩) hx (Or.inr ⟨h0, c4, hcl5, hasg⟩)
  obtain ⟨t, a1, b1⟩ := kk (T.setVm vm') hT X'
  exact ⟨t, st.trans a1, b1⟩
end Rows
section Ends
variable {p : Program} {l : Launch} {e : Env} {R : Room} {s : State} {m : MethodId} {args : Array Value} {below : List Frame} {meth : Method} {c : Code} {H : Heap} {locs : List Loc} {cells slots : Nat} {Q : State → Prop}
variable {mc ms : Nat} {free : Addr → Prop} {A0 A1 : Nat → Prop} {H0 : Heap} {a : Array Value} {ls : Array Slot} {st0 rest : List Value}
variable {Qc : Array Value → State → Outcome → State → Prop} {XC : String → State → State → Prop}
/-- what a body that may throw owes at its end -/
def vx_MQ (below : List Frame) (Qc : Array Value → State → Outcome → State → Prop) (XC : String → State → State → Prop) (a : Array Value) (s : State) (mc ms : Nat) (free : Addr → Prop) : State → Prop := fun t =>
  ∃ o, t.status = .running ∧ Ended t below o ∧ vx_Q Qc XC mc ms free a s o t
theorem vx_ret {g : JFrame} {mc ms : Nat} (k : W p l e R s m args below meth c H locs cells slots (MQ below Qc args s mc ms free) g) : W p l e R s m args below meth c H locs cells slots (vx_MQ below Qc XC args s mc ms free) g := by
  intro T hT X
  obtain ⟨t, a1, o, b1, b2, b3, b4⟩ := k T hT X
  exact ⟨t, a1, o, b1, b2, Or.inl ⟨b3, b4⟩⟩
/-- not caught here: it goes on to the caller -/
theorem vx_widen {g : JFrame} {q : Addr} {k n : Nat} (h1 : cells ≤ k) (h2 : slots ≤ n) (kk : vx_W p l e R s m args below meth c H locs k n Q g q) : vx_W p l e R s m args below meth c H locs cells slots Q g q := fun T hT X => kk T hT (stand_widen X h1 h2)
theorem vx_out {pc : Nat} {E : String} {ce : Cell} {q : Addr} {mc ms : Nat} (hout : ∀ x ∈ c.exceptionTable.toList, covers x pc = false) (hlocks : meth.locks = false) (hcell : H[q]? = some ce) (hv : ce.vm = .none) (hcl : s.vm.findClass E = some ce.cls)
    (hx : ∀ t : State, t.heap = H → s.vm.Alike t.vm → XC E s t) (hf : ∀ z ∈ locs, free z.base) (hc : cells ≤ mc) (hs : slots ≤ ms) :
    vx_W p l e R s m args below meth c H locs cells slots (vx_MQ below Qc XC args s mc ms free) (F0 m pc ls rest) q := by
  intro T hT X
  obtain ⟨st1, hrun, hend, hW, hsm⟩ := X.leaveThrown q (g := F0 m pc ls rest) rfl rfl rfl hout hlocks
  have hcell9 : (T.setFrames (.throwing q :: below)).heap[q]? = some ce := by
    show T.heap[q]? = some ce
    rw [hT]; exact hcell
  exact ⟨_, st1, .threw q, hrun, hend, Or.inr ⟨q, rfl, E, ce, locs, hx _ hT hW.alike, hcell9, hv, hcl, hW, hsm.mono hc hs, hf⟩⟩
theorem vx_frame {U : State} {k n : Nat} (h : s.sameButNew ({ U with vm := s.vm } : State) locs k n) : s.heap.size ≤ U.heap.size ∧ ∀ q : Nat, q < s.heap.size → (∀ z ∈ locs, z.base ≠ q) → U.heap[q]? = s.heap[q]? := by
  obtain ⟨-, h2, -, -, -, h6⟩ := h
  refine ⟨h2, fun q hq hz => ?_⟩
  obtain ⟨c9, e1, e2, e3, e4⟩ := h6 q _ (Array.getElem?_eq_getElem hq)
  have hs : c9.slots = (s.heap[q]).slots := Array.ext_getElem? fun i => e4 i fun hm => hz _ hm rfl
  have h9 : c9 = s.heap[q] := by
    rw [hs] at e2
    exact e2
  have e5 : U.heap[q]? = some c9 := e1
  rw [e5, h9, Array.getElem?_eq_getElem hq]
/-- the words of a throw but the four that speak of the heap -/
def vx_no (w : Cond) : Bool := decide (w ≠ .isRef (.static Bundle.tN "UNASSIGNED_STACK" Bundle.steD)) && decide (w ≠ .isRef (.static Bundle.tN "SUPPRESSED_SENTINEL" Bundle.listD)) && decide (w ≠ .laysStatic Bundle.tN "UNASSIGNED_STACK" Bundle.steD) && decide (w ≠ .laysStatic Bundle.tN "SUPPRESSED_SENTINEL" Bundle.listD)
def vx_at0 (own : String) (ic : Nat) (X : String) (names : List String) : List Cond := (Bundle.ownAtoms0 own ic X names).filter vx_no
def vx_atS (own : String) (ic : Nat) (X : String) (names : List String) : List Cond := (Bundle.ownAtoms own ic X names).filter vx_no
/-- a word that the tables alone decide, or a good one -/
def vx_ot (w : Cond) : Bool := w.onTables || goodWord w
theorem vx_ot_at {args a' : Array Value} {s U : State} {w : Cond} (hW : s.WarmedH U.vm) (hvm : s.vm = U.vm) (hg : vx_ot w = true) (h : w.before args s = true) : w.before a' U = true := by
  simp only [vx_ot, Bool.or_eq_true] at hg
  rcases hg with hg | hg
  · exact va_tabs hg hvm h
  · exact word_at hW (good_of_word hg) h
/-- a list's words: the good ones out of the method's own list, the others by premises of their own -/
theorem vx_hat {args : Array Value} {s : State} {L B : List Cond} (h1 : ∀ w ∈ L.filter goodWord, w.before args s = true) (h2 : ∀ w ∈ L.filter (fun w => !goodWord w), w ∈ B) (h3 : ∀ w ∈ B, w.before args s = true) : ∀ w ∈ L, w.before args s = true := by
  intro w hw
  by_cases g : goodWord w = true
  · exact h1 w (List.mem_filter.mpr ⟨hw, g⟩)
  · refine h3 w (h2 w (List.mem_filter.mpr ⟨hw, ?_⟩))
    show (!goodWord w) = true
    cases hgw : goodWord w
    · rfl
    · exact absurd hgw g
theorem vx_c {args : Array Value} {s : State} {w : Cond} {B : List Cond} (h : w.before args s = true) (t : ∀ w ∈ B, w.before args s = true) : ∀ w' ∈ w :: B, w'.before args s = true := fun w' h' => (List.mem_cons.mp h').elim (fun e => by rw [e]; exact h) (t w')
theorem vx_n {args : Array Value} {s : State} : ∀ w ∈ ([] : List Cond), w.before args s = true := fun _ h => nomatch h
theorem vx_own {args : Array Value} {s : State} {L : List Cond} (h1 : ∀ w ∈ L.filter vx_no, w.before args s = true)
    (hU : (Cond.isRef (.static Bundle.tN "UNASSIGNED_STACK" Bundle.steD)).before args s = true) (hN : (Cond.isRef (.static Bundle.tN "SUPPRESSED_SENTINEL" Bundle.listD)).before args s = true)
    (lU : (Cond.laysStatic Bundle.tN "UNASSIGNED_STACK" Bundle.steD).before args s = true) (lN : (Cond.laysStatic Bundle.tN "SUPPRESSED_SENTINEL" Bundle.listD).before args s = true) : ∀ w ∈ L, w.before args s = true := by
  intro w hw
  by_cases e1 : w = .isRef (.static Bundle.tN "UNASSIGNED_STACK" Bundle.steD)
  · rw [e1]; exact hU
  · by_cases e2 : w = .isRef (.static Bundle.tN "SUPPRESSED_SENTINEL" Bundle.listD)
    · rw [e2]; exact hN
    · by_cases e3 : w = .laysStatic Bundle.tN "UNASSIGNED_STACK" Bundle.steD
      · rw [e3]; exact lU
      · by_cases e4 : w = .laysStatic Bundle.tN "SUPPRESSED_SENTINEL" Bundle.listD
        · rw [e4]; exact lN
        · exact h1 w (List.mem_filter.mpr ⟨hw, by unfold vx_no; rw [decide_eq_true e1, decide_eq_true e2, decide_eq_true e3, decide_eq_true e4]; rfl⟩)
/-- where a static field lies, its class's statics cell in H -/
def vx_L (C n d : String) (A : Nat → Prop) (U : State) (H : Heap) : Prop := ∃ (c : ClassId) (k : Class) (i : Nat) (f : Field) (a : Nat) (cell : Cell), U.vm.findClass C = some c ∧ U.fieldFound? C n d = some (c, k, i, f) ∧ f.isStatic = true ∧ k.statics = some a ∧ H[a]? = some cell ∧ cell.vm.isStatics = true ∧ cell.cls = c ∧ f.slot < cell.slots.size ∧ k.staticTypes[f.slot]? = some f.type ∧ ¬ A a
theorem vx_L.moved {C n d : String} {A : Nat → Prop} {u U : State} {H : Heap} (hvm : u.vm.Alike U.vm) (h : vx_L C n d A u H) : vx_L C n d A U H := by
  obtain ⟨c, k, i, f, a, cell, h1, h2, h3, h4, h5, h6, h7, h8, h9, h10⟩ := h
  obtain ⟨k', hi', he⟩ := State.fieldFound?_setVm hvm h2
  exact ⟨c, k', i, f, a, cell, by rw [hvm.findClass]; exact h1, hi', h3, by rw [he]; exact h4, h5, h6, h7, h8, by rw [he]; exact h9, h10⟩
theorem vx_L.kept {C n d : String} {A : Nat → Prop} {U : State} {H H1 : Heap} (h : vx_L C n d A U H) (hq : ∀ a : Nat, a < H.size → ¬ A a → H1[a]? = H[a]?) : vx_L C n d A U H1 := by
  obtain ⟨c, k, i, f, a, cell, h1, h2, h3, h4, h5, h6, h7, h8, h9, h10⟩ := h
  exact ⟨c, k, i, f, a, cell, h1, h2, h3, h4, by rw [hq a (Array.getElem?_eq_some_iff.mp h5).1 h10]; exact h5, h6, h7, h8, h9, h10⟩
theorem vx_L.narrow {C n d : String} {A B : Nat → Prop} {U : State} {H : Heap} (h : vx_L C n d A U H) (hAB : ∀ q, B q → A q) : vx_L C n d B U H := by
  obtain ⟨c, k, i, f, a, cell, h1, h2, h3, h4, h5, h6, h7, h8, h9, h10⟩ := h
  exact ⟨c, k, i, f, a, cell, h1, h2, h3, h4, h5, h6, h7, h8, h9, fun z => h10 (hAB _ z)⟩
theorem vx_L.word {C n d : String} {A : Nat → Prop} {s : State} {args : Array Value} (h : vx_L C n d A s s.heap) : (Cond.laysStatic C n d).before args s = true := by
  obtain ⟨c, k, i, f, a, cell, h1, h2, h3, h4, h5, h6, h7, h8, h9, -⟩ := h
  show (Cond.laysStatic C n d).holds args s none s [] = true
  exact Cond.laysStatic_of h1 h2 h3 h4 h5 h6 h7 h8 h9
/-- .. and what it holds: null or some reference -/
def vx_Zq (C n d : String) (A : Nat → Prop) (U : State) (H : Heap) : Prop := va_Zq C n d A U H ∧ vx_L C n d A U H
theorem vx_Zq.moved {C n d : String} {A : Nat → Prop} {u U : State} {H : Heap} (hvm : u.vm.Alike U.vm) (h : vx_Zq C n d A u H) : vx_Zq C n d A U H := ⟨va_Zq.moved hvm h.1, vx_L.moved hvm h.2⟩
theorem vx_Zq.kept {C n d : String} {A : Nat → Prop} {U : State} {H H1 : Heap} (h : vx_Zq C n d A U H) (hq : ∀ a : Nat, a < H.size → ¬ A a → H1[a]? = H[a]?) : vx_Zq C n d A U H1 := ⟨va_Zq.kept h.1 hq, vx_L.kept h.2 hq⟩
theorem vx_Zq.narrow {C n d : String} {A B : Nat → Prop} {U : State} {H : Heap} (h : vx_Zq C n d A U H) (hAB : ∀ q, B q → A q) : vx_Zq C n d B U H := ⟨va_Zq.narrow h.1 hAB, vx_L.narrow h.2 hAB⟩
theorem vx_Zqof {args : Array Value} {s : State} {C n d : String} {A : Nat → Prop} (hl : (Cond.laysStatic C n d).before args s = true) (hini : (Cond.initialized C).before args s = true) (h : (Cond.isRef (.static C n d)).before args s = true) (hA : ∀ a : Nat, a < s.heap.size → ¬ A a) : vx_Zq C n d A s s.heap := by
  refine ⟨va_Zqof hl hini h hA, ?_⟩
  obtain ⟨c, k, i, f, a, cell, h1, h2, h3, h4, h5, h6, h7, h8, h9⟩ := Cond.laysStatic_spec hl
  exact ⟨c, k, i, f, a, cell, h1, h2, h3, h4, h5, h6, h7, h8, h9, hA a (Array.getElem?_eq_some_iff.mp h5).1⟩
theorem vx_isRef {C n d : String} {v : Value} {A : Nat → Prop} {s : State} {args : Array Value} (h : va_Z C n d v A s s.heap) (hv : v.isRef = true) : (Cond.isRef (.static C n d)).before args s = true := by
  obtain ⟨cf, kf, fi, f, a, cell, h1, h2, h3, h4, h5, h6, h7, -⟩ := h
  have he : (Term.static C n d).eval args s none [] s = some v := by
    simp [Term.eval, State.fieldNamed?, h1, h2, h4, h5, h6, h7]
  simp only [Cond.before, Cond.holds, Cond.value, he]
  cases v <;> simp_all [Value.isRef]
theorem vx_isRefq {C n d : String} {A : Nat → Prop} {s : State} {args : Array Value} (h : va_Zq C n d A s s.heap) : (Cond.isRef (.static C n d)).before args s = true := by
  rcases h with h | ⟨t, h⟩
  · exact vx_isRef h rfl
  · exact vx_isRef h rfl
/-- the same frame, seen from here: as if the method were called anew in this heap -/
theorem vx_rebase {T : State} (X : Stand p l e R s m args below meth c T locs cells slots) {R' : Room} (hf : R'.frames ≤ R.frames) (hl : R'.locals ≤ R.locals) (hc : cells + R'.cells ≤ R.cells) (hs : slots + R'.slots ≤ R.slots) :
    Stand p l e R' ((T.setVm s.vm).setFrames (.invoking m args :: below)) m args below meth c T [] 0 0 := by
  have htop : (T.setVm s.vm).topJava?.isSome := X.here.top
  have hF : ((T.setVm s.vm).setFrames (.invoking m args :: below)).frames = .invoking m args :: below := State.frames_setFrames _ (State.cur_lt_of_top htop)
  obtain ⟨g₀, hg0⟩ := Option.isSome_iff_exists.mp htop
  obtain ⟨r, hr⟩ := State.topJava?_eq_some.mp hg0
  have hl9 : e.platform.stackLimits (T.setVm s.vm).me = e.platform.stackLimits s.me := X.limits
  have hb9 : (T.setVm s.vm).me.stackBytes = s.me.stackBytes := X.bytes
  refine ⟨X.admits, X.cas, X.clock, hF, ?_, X.hears, X.method, X.code, X.here, X.tail, X.warmed, ?_, ?_, ?_⟩
  · have h := X.room
    have hU : ((T.setVm s.vm).setFrames (.invoking m args :: below)).localsInUse = s.localsInUse := by
      rw [State.localsInUse_invoking hF (meth := meth) (c := c) X.method X.code, State.localsInUse_invoking X.frames X.method X.code]
    simp only [State.hasRoom, Bool.and_eq_true, decide_eq_true_eq] at h ⊢
    obtain ⟨⟨⟨⟨h1, h2, h3, h4, h5, h6⟩, h7⟩, h8⟩, h9⟩ := h
    rw [X.frames, List.length_cons] at h2 h3
    have q1 := X.heapSize
    have q2 := X.used
    simp only [hF, hU, List.length_cons, State.stackLimits_setFrames, State.stackBytes_setFrames, hl9, hb9]
    refine ⟨⟨⟨⟨by omega, by omega, by omega, by omega, by omega, h6⟩, ?_⟩, ?_⟩, X.book⟩
    · show T.heap.size + R'.cells ≤ e.platform.maxCells
      omega
    · show T.slotsUsed + R'.slots ≤ e.platform.maxSlots
      omega
  · rw [State.stackLimits_setFrames]; rfl
  · rw [State.stackBytes_setFrames]; rfl
  · refine ⟨?_, Nat.le_refl _, Nat.le_refl _, ?_, ?_, fun a c9 h9 => ⟨c9, h9, rfl, rfl, fun _ _ => rfl⟩⟩
    · obtain ⟨t, ht, -⟩ := State.frames_cons hr
      show T.setVm s.vm = { ((T.setVm s.vm).setFrames (.invoking m args :: below)).setFrames (T.setVm s.vm).frames with heap := T.heap, slotsUsed := T.slotsUsed }
      rw [State.setFrames_setFrames, State.setFrames_self ht]
      rfl
    · show T.slotsUsed = T.slotsUsed + ((T.heap.toList.drop T.heap.size).map (·.slots.size)).sum
      rw [List.drop_eq_nil_of_le (Nat.le_of_eq Array.length_toList)]
      rfl
    · show ((T.heap.toList.drop T.heap.size).map (·.slots.size)).sum ≤ 0
      rw [List.drop_eq_nil_of_le (Nat.le_of_eq Array.length_toList)]
      exact Nat.le_refl _
/-- 'throw new E()': new; dup; invokespecial; athrow -/
theorem vx_throw0 {cc : ByteArray} {pc : Nat} (hexec : p.tables.exec = Jvm.exec) (hb : c.code = cc) (hl : l.stackTraces = false) {own cls : String} {names : List String} {ik ic mc ms : Nat} {A : Nat → Prop}
    (hown : s.vm.findClass own = some m.cls) (hcls : Bundle.fit cls = true) (hnames : ∀ n ∈ names, Bundle.fit n = true)
    (hk : (Cond.classLink own ik cls).before args s = true) (hini : (Cond.initialized cls).before args s = true) (hat : ∀ w ∈ vx_at0 own ic cls names, w.before args s = true)
    (hgood : ∀ w ∈ Cond.classLink own ik cls :: Cond.initialized cls :: vx_at0 own ic cls names, vx_ot w = true)
    (hU : vx_Zq Bundle.tN "UNASSIGNED_STACK" Bundle.steD A s s.heap) (hN : vx_Zq Bundle.tN "SUPPRESSED_SENTINEL" Bundle.listD A s s.heap) (hS : va_S A s.heap H locs) (hsize : ls.size = c.maxLocals)
    (d0 : decode cc pc = .ok (.new ik, 3)) (d3 : decode cc (pc + 3) = .ok (.dup, 1)) (d4 : decode cc (pc + 4) = .ok (.invokespecial ic, 3)) (d7 : decode cc (pc + 7) = .ok (.athrow, 1))
    (hout : ∀ x ∈ c.exceptionTable.toList, covers x (pc + 7) = false)
    (hRframes : names.length + 3 < R.frames) (hRlocals : (rest.map fun v => v.category).sum + (13 * (names.length + 1) + 42) ≤ R.locals) (hRcells : cells + 1 ≤ R.cells) (hRslots : slots + 6 ≤ R.slots) (hlocks : meth.locks = false)
    (hx : ∀ t : State, s.vm.Alike t.vm → H.size ≤ t.heap.size → (∀ q : Nat, q < H.size → t.heap[q]? = H[q]?) → XC cls s t)
    (hf : ∀ z ∈ locs, free z.base) (hc : cells + 1 ≤ mc) (hs : slots + 6 ≤ ms) :
    W p l e R s m args below meth c H locs cells slots (vx_MQ below Qc XC args s mc ms free) (F0 m pc ls rest) := by
  intro T hT X
  have htr : e.platform.stackTraces = false := (show e.platform.stackTraces = l.stackTraces by rw [X.admits.platform]).trans hl
  have Y := vx_rebase X (R' := { frames := R.frames, locals := R.locals, cells := 1, slots := 6 }) (Nat.le_refl _) (Nat.le_refl _) hRcells hRslots
  obtain ⟨s', hA⟩ : ∃ z, z = (T.setVm s.vm).setFrames (.invoking m args :: below) := ⟨_, rfl⟩
  rw [← hA] at Y
  have hvm : s'.vm = s.vm := by rw [hA]; rfl
  have hhp : s'.heap = H := by rw [hA]; exact hT
  have hW0 : s.WarmedH s'.vm := by rw [hvm]; exact State.WarmedH.refl s
  have hat' : ∀ w ∈ vx_at0 own ic cls names, w.before args s' = true := fun w hw => vx_ot_at hW0 hvm.symm (hgood w (List.mem_cons_of_mem _ (List.mem_cons_of_mem _ hw))) (hat w hw)
  have hk' : (Cond.classLink own ik cls).before args s' = true := vx_ot_at hW0 hvm.symm (hgood _ List.mem_cons_self) hk
  have hini' : (Cond.initialized cls).before args s' = true := vx_ot_at hW0 hvm.symm (hgood _ (List.mem_cons_of_mem _ List.mem_cons_self)) hini
  have hU' : vx_Zq Bundle.tN "UNASSIGNED_STACK" Bundle.steD A s' s'.heap := by rw [hhp]; exact vx_Zq.moved hW0.alike (hU.kept hS.2.1)
  have hN' : vx_Zq Bundle.tN "SUPPRESSED_SENTINEL" Bundle.listD A s' s'.heap := by rw [hhp]; exact vx_Zq.moved hW0.alike (hN.kept hS.2.1)
  have h : ∀ w ∈ Bundle.ownAtoms0 own ic cls names, w.before args s' = true := vx_own hat' (vx_isRefq hU'.1) (vx_isRefq hN'.1) hU'.2.word hN'.2.word
  have hown' : s'.vm.findClass own = some m.cls := by rw [hvm]; exact hown
  have hins : (Cond.instantiable cls 6).before args s' = true := h _ (by simp [Bundle.ownAtoms0])
  obtain ⟨vm₁, cX, kX, hfX, hkX, -, -, X₁, st1⟩ := Y.newCold hexec (own := own) (C := cls) (index := ik) (n := 6) hown' hk' hins hini'
    (g := F0 m pc ls rest) rfl (by rw [hb]; exact d0) (Nat.le_refl _) (Nat.le_refl _)
  generalize hT1 : (T.setVm vm₁).pushCell { cls := cX, slots := kX.instanceTypes.map defaultValue, vm := .none } = T1 at X₁ st1
  have hcat : (Value.ref T.heap.size).category = 1 := rfl
  have hcellA : T1.heap[T.heap.size]? = some (freshCell cX kX) := by rw [← hT1]; exact State.heap_pushCell_size _ _
  have d3' : decode c.code (pc + 3) = .ok (.dup, 1) := by rw [hb]; exact d3
  obtain ⟨U, hsteps, hrun, hend, hW, hsame, ce, hce, hO⟩ := X₁.ctorThrow0 hexec htr (own := own) (cls := cls) (names := names) (ic := ic) hown' hcls hnames h (fun x hx => nomatch hx) hfX hkX hcellA (by rw [hhp, hT]; exact Nat.le_refl _)
    (g := { method := m, pc := pc + 4, locals := ls, stack := .ref T.heap.size :: .ref T.heap.size :: rest, locked := none }) rfl hsize rfl rfl (rest := rest) rfl
    (by rw [hb]; exact d4) (by rw [hb]; exact d7) hout hRframes (by simp only [List.map_cons, List.sum_cons, hcat]; omega) hlocks
  obtain ⟨f1, f2⟩ := vx_frame hsame
  rw [hhp] at f1 f2
  have hWs : s.WarmedH U.vm := State.WarmedH.trans hW0 hW
  have hcl : s.vm.findClass cls = some ce.cls := by
    have h9 := hO.cls
    rw [hvm] at h9
    exact h9
  have hall : s.sameButNew ({ U with vm := s.vm } : State) locs mc ms := by
    subst hA
    obtain ⟨e1, e2⟩ := hsame
    rw [State.setFrames_setFrames] at e1
    have h2 : (T.setVm s.vm).sameButNew ({ U with vm := s.vm } : State) [] (0 + 1) (0 + 6) := ⟨e1, e2⟩
    have h3 := X.same.trans h2
    rw [List.append_nil] at h3
    exact h3.mono hc hs
  refine ⟨U, ?_, .threw T.heap.size, hrun, hend, Or.inr ⟨T.heap.size, rfl, cls, ce, locs, hx U hWs.alike f1 (fun q hq => f2 q hq (fun z hz => nomatch hz)), hce, hO.vm, hcl, hWs, hall, hf⟩⟩
  refine st1 _ ?_
  show Steps p.tables e below (T1.setTop { method := m, pc := pc + 3, locals := ls, stack := .ref T.heap.size :: rest, locked := none }) _
  jvm_step X₁.here [X₁.here.top, hexec, d3', Value.category]
  exact hsteps
/-- 'throw new E("text")': new; dup; ldc; invokespecial; athrow -/
theorem vx_throwS {cc : ByteArray} {pc : Nat} (hexec : p.tables.exec = Jvm.exec) (hb : c.code = cc) (hl : l.stackTraces = false) {own cls text : String} {names : List String} {ik is ic mc ms sa : Nat} {A : Nat → Prop}
    (hown : s.vm.findClass own = some m.cls) (hcls : Bundle.fit cls = true) (hnames : ∀ n ∈ names, Bundle.fit n = true)
    (hk : (Cond.classLink own ik cls).before args s = true) (hini : (Cond.initialized cls).before args s = true) (hstr : vk_R own is text sa s) (hat : ∀ w ∈ vx_atS own ic cls names, w.before args s = true)
    (hgood : ∀ w ∈ Cond.classLink own ik cls :: Cond.initialized cls :: vx_atS own ic cls names, vx_ot w = true)
    (hU : vx_Zq Bundle.tN "UNASSIGNED_STACK" Bundle.steD A s s.heap) (hN : vx_Zq Bundle.tN "SUPPRESSED_SENTINEL" Bundle.listD A s s.heap) (hS : va_S A s.heap H locs) (hsize : ls.size = c.maxLocals)
    (d0 : decode cc pc = .ok (.new ik, 3)) (d3 : decode cc (pc + 3) = .ok (.dup, 1)) (d4 : decode cc (pc + 4) = .ok (.ldc is, 2)) (d6 : decode cc (pc + 6) = .ok (.invokespecial ic, 3)) (d9 : decode cc (pc + 9) = .ok (.athrow, 1))
    (hout : ∀ x ∈ c.exceptionTable.toList, covers x (pc + 9) = false)
    (hRframes : names.length + 3 < R.frames) (hRlocals : (rest.map fun v => v.category).sum + (13 * (names.length + 1) + 43) ≤ R.locals) (hRcells : cells + 1 ≤ R.cells) (hRslots : slots + 6 ≤ R.slots) (hlocks : meth.locks = false)
    (hx : ∀ t : State, s.vm.Alike t.vm → H.size ≤ t.heap.size → (∀ q : Nat, q < H.size → t.heap[q]? = H[q]?) → XC cls s t)
    (hf : ∀ z ∈ locs, free z.base) (hc : cells + 1 ≤ mc) (hs : slots + 6 ≤ ms) :
    W p l e R s m args below meth c H locs cells slots (vx_MQ below Qc XC args s mc ms free) (F0 m pc ls rest) := by
  intro T hT X
  have htr : e.platform.stackTraces = false := (show e.platform.stackTraces = l.stackTraces by rw [X.admits.platform]).trans hl
  have Y := vx_rebase X (R' := { frames := R.frames, locals := R.locals, cells := 1, slots := 6 }) (Nat.le_refl _) (Nat.le_refl _) hRcells hRslots
  obtain ⟨s', hA⟩ : ∃ z, z = (T.setVm s.vm).setFrames (.invoking m args :: below) := ⟨_, rfl⟩
  rw [← hA] at Y
  have hvm : s'.vm = s.vm := by rw [hA]; rfl
  have hhp : s'.heap = H := by rw [hA]; exact hT
  have hW0 : s.WarmedH s'.vm := by rw [hvm]; exact State.WarmedH.refl s
  have hat' : ∀ w ∈ vx_atS own ic cls names, w.before args s' = true := fun w hw => vx_ot_at hW0 hvm.symm (hgood w (List.mem_cons_of_mem _ (List.mem_cons_of_mem _ hw))) (hat w hw)
  have hk' : (Cond.classLink own ik cls).before args s' = true := vx_ot_at hW0 hvm.symm (hgood _ List.mem_cons_self) hk
  have hini' : (Cond.initialized cls).before args s' = true := vx_ot_at hW0 hvm.symm (hgood _ (List.mem_cons_of_mem _ List.mem_cons_self)) hini
  have hU' : vx_Zq Bundle.tN "UNASSIGNED_STACK" Bundle.steD A s' s'.heap := by rw [hhp]; exact vx_Zq.moved hW0.alike (hU.kept hS.2.1)
  have hN' : vx_Zq Bundle.tN "SUPPRESSED_SENTINEL" Bundle.listD A s' s'.heap := by rw [hhp]; exact vx_Zq.moved hW0.alike (hN.kept hS.2.1)
  have h : ∀ w ∈ Bundle.ownAtoms own ic cls names, w.before args s' = true := vx_own hat' (vx_isRefq hU'.1) (vx_isRefq hN'.1) hU'.2.word hN'.2.word
  have hown' : s'.vm.findClass own = some m.cls := by rw [hvm]; exact hown
  have hins : (Cond.instantiable cls 6).before args s' = true := h _ (by simp [Bundle.ownAtoms])
  obtain ⟨vm₁, cX, kX, hfX, hkX, -, -, X₁, st1⟩ := Y.newCold hexec (own := own) (C := cls) (index := ik) (n := 6) hown' hk' hins hini'
    (g := F0 m pc ls rest) rfl (by rw [hb]; exact d0) (Nat.le_refl _) (Nat.le_refl _)
  generalize hT1 : (T.setVm vm₁).pushCell { cls := cX, slots := kX.instanceTypes.map defaultValue, vm := .none } = T1 at X₁ st1
  have hcat : (Value.ref T.heap.size).category = 1 := rfl
  have hcellA : T1.heap[T.heap.size]? = some (freshCell cX kX) := by rw [← hT1]; exact State.heap_pushCell_size _ _
  have d3' : decode c.code (pc + 3) = .ok (.dup, 1) := by rw [hb]; exact d3
  have d4' : decode c.code (pc + 4) = .ok (.ldc is, 2) := by rw [hb]; exact d4
  have hstr' : vk_R own is text sa s' := vk_R.warm hW0 hstr
  obtain ⟨U, hsteps, hrun, hend, hW, hsame, ce, hce, hO⟩ := X₁.ctorThrowS hexec htr (own := own) (cls := cls) (names := names) (ic := ic) hown' hcls hnames h (fun x hx => nomatch hx) hfX hkX hcellA (by rw [hhp, hT]; exact Nat.le_refl _) (msg := .ref sa) rfl
    (g := { method := m, pc := pc + 6, locals := ls, stack := .ref sa :: .ref T.heap.size :: .ref T.heap.size :: rest, locked := none }) rfl hsize rfl rfl (rest := rest) rfl
    (by rw [hb]; exact d6) (by rw [hb]; exact d9) hout hRframes (by simp only [List.map_cons, List.sum_cons, hcat]; omega) hlocks
  obtain ⟨f1, f2⟩ := vx_frame hsame
  rw [hhp] at f1 f2
  have hWs : s.WarmedH U.vm := State.WarmedH.trans hW0 hW
  have hcl : s.vm.findClass cls = some ce.cls := by
    have h9 := hO.cls
    rw [hvm] at h9
    exact h9
  have hall : s.sameButNew ({ U with vm := s.vm } : State) locs mc ms := by
    subst hA
    obtain ⟨e1, e2⟩ := hsame
    rw [State.setFrames_setFrames] at e1
    have h2 : (T.setVm s.vm).sameButNew ({ U with vm := s.vm } : State) [] (0 + 1) (0 + 6) := ⟨e1, e2⟩
    have h3 := X.same.trans h2
    rw [List.append_nil] at h3
    exact h3.mono hc hs
  refine ⟨U, ?_, .threw T.heap.size, hrun, hend, Or.inr ⟨T.heap.size, rfl, cls, ce, locs, hx U hWs.alike f1 (fun q hq => f2 q hq (fun z hz => nomatch hz)), hce, hO.vm, hcl, hWs, hall, hf⟩⟩
  refine st1 _ ?_
  show Steps p.tables e below (T1.setTop { method := m, pc := pc + 3, locals := ls, stack := .ref T.heap.size :: rest, locked := none }) _
  jvm_step X₁.here [X₁.here.top, hexec, d3', Value.category]
  exact X₁.ldcString hexec (own := own) (text := text) (index := is) (a := sa) hown' hstr'.1 hstr'.2
    (g := { method := m, pc := pc + 4, locals := ls, stack := .ref T.heap.size :: .ref T.heap.size :: rest, locked := none }) rfl d4' _ hsteps
/-- 'throw new E("text")', the text by a wide index -/
theorem vx_throwSW {cc : ByteArray} {pc : Nat} (hexec : p.tables.exec = Jvm.exec) (hb : c.code = cc) (hl : l.stackTraces = false) {own cls text : String} {names : List String} {ik is ic mc ms sa : Nat} {A : Nat → Prop}
    (hown : s.vm.findClass own = some m.cls) (hcls : Bundle.fit cls = true) (hnames : ∀ n ∈ names, Bundle.fit n = true)
    (hk : (Cond.classLink own ik cls).before args s = true) (hini : (Cond.initialized cls).before args s = true) (hstr : vk_R own is text sa s) (hat : ∀ w ∈ vx_atS own ic cls names, w.before args s = true)
    (hgood : ∀ w ∈ Cond.classLink own ik cls :: Cond.initialized cls :: vx_atS own ic cls names, vx_ot w = true)
    (hU : vx_Zq Bundle.tN "UNASSIGNED_STACK" Bundle.steD A s s.heap) (hN : vx_Zq Bundle.tN "SUPPRESSED_SENTINEL" Bundle.listD A s s.heap) (hS : va_S A s.heap H locs) (hsize : ls.size = c.maxLocals)
    (d0 : decode cc pc = .ok (.new ik, 3)) (d3 : decode cc (pc + 3) = .ok (.dup, 1)) (d4 : decode cc (pc + 4) = .ok (.ldc_w is, 3)) (d7 : decode cc (pc + 7) = .ok (.invokespecial ic, 3)) (d10 : decode cc (pc + 10) = .ok (.athrow, 1))
    (hout : ∀ x ∈ c.exceptionTable.toList, covers x (pc + 10) = false)
    (hRframes : names.length + 3 < R.frames) (hRlocals : (rest.map fun v => v.category).sum + (13 * (names.length + 1) + 43) ≤ R.locals) (hRcells : cells + 1 ≤ R.cells) (hRslots : slots + 6 ≤ R.slots) (hlocks : meth.locks = false)
    (hx : ∀ t : State, s.vm.Alike t.vm → H.size ≤ t.heap.size → (∀ q : Nat, q < H.size → t.heap[q]? = H[q]?) → XC cls s t)
    (hf : ∀ z ∈ locs, free z.base) (hc : cells + 1 ≤ mc) (hs : slots + 6 ≤ ms) :
    W p l e R s m args below meth c H locs cells slots (vx_MQ below Qc XC args s mc ms free) (F0 m pc ls rest) := by
  intro T hT X
  have htr : e.platform.stackTraces = false := (show e.platform.stackTraces = l.stackTraces by rw [X.admits.platform]).trans hl
  have Y := vx_rebase X (R' := { frames := R.frames, locals := R.locals, cells := 1, slots := 6 }) (Nat.le_refl _) (Nat.le_refl _) hRcells hRslots
  obtain ⟨s', hA⟩ : ∃ z, z = (T.setVm s.vm).setFrames (.invoking m args :: below) := ⟨_, rfl⟩
  rw [← hA] at Y
  have hvm : s'.vm = s.vm := by rw [hA]; rfl
  have hhp : s'.heap = H := by rw [hA]; exact hT
  have hW0 : s.WarmedH s'.vm := by rw [hvm]; exact State.WarmedH.refl s
  have hat' : ∀ w ∈ vx_atS own ic cls names, w.before args s' = true := fun w hw => vx_ot_at hW0 hvm.symm (hgood w (List.mem_cons_of_mem _ (List.mem_cons_of_mem _ hw))) (hat w hw)
  have hk' : (Cond.classLink own ik cls).before args s' = true := vx_ot_at hW0 hvm.symm (hgood _ List.mem_cons_self) hk
  have hini' : (Cond.initialized cls).before args s' = true := vx_ot_at hW0 hvm.symm (hgood _ (List.mem_cons_of_mem _ List.mem_cons_self)) hini
  have hU' : vx_Zq Bundle.tN "UNASSIGNED_STACK" Bundle.steD A s' s'.heap := by rw [hhp]; exact vx_Zq.moved hW0.alike (hU.kept hS.2.1)
  have hN' : vx_Zq Bundle.tN "SUPPRESSED_SENTINEL" Bundle.listD A s' s'.heap := by rw [hhp]; exact vx_Zq.moved hW0.alike (hN.kept hS.2.1)
  have h : ∀ w ∈ Bundle.ownAtoms own ic cls names, w.before args s' = true := vx_own hat' (vx_isRefq hU'.1) (vx_isRefq hN'.1) hU'.2.word hN'.2.word
  have hown' : s'.vm.findClass own = some m.cls := by rw [hvm]; exact hown
  have hins : (Cond.instantiable cls 6).before args s' = true := h _ (by simp [Bundle.ownAtoms])
  obtain ⟨vm₁, cX, kX, hfX, hkX, -, -, X₁, st1⟩ := Y.newCold hexec (own := own) (C := cls) (index := ik) (n := 6) hown' hk' hins hini'
    (g := F0 m pc ls rest) rfl (by rw [hb]; exact d0) (Nat.le_refl _) (Nat.le_refl _)
  generalize hT1 : (T.setVm vm₁).pushCell { cls := cX, slots := kX.instanceTypes.map defaultValue, vm := .none } = T1 at X₁ st1
  have hcat : (Value.ref T.heap.size).category = 1 := rfl
  have hcellA : T1.heap[T.heap.size]? = some (freshCell cX kX) := by rw [← hT1]; exact State.heap_pushCell_size _ _
  have d3' : decode c.code (pc + 3) = .ok (.dup, 1) := by rw [hb]; exact d3
  have d4' : decode c.code (pc + 4) = .ok (.ldc_w is, 3) := by rw [hb]; exact d4
  have hstr' : vk_R own is text sa s' := vk_R.warm hW0 hstr
  obtain ⟨U, hsteps, hrun, hend, hW, hsame, ce, hce, hO⟩ := X₁.ctorThrowS hexec htr (own := own) (cls := cls) (names := names) (ic := ic) hown' hcls hnames h (fun x hx => nomatch hx) hfX hkX hcellA (by rw [hhp, hT]; exact Nat.le_refl _) (msg := .ref sa) rfl
    (g := { method := m, pc := pc + 7, locals := ls, stack := .ref sa :: .ref T.heap.size :: .ref T.heap.size :: rest, locked := none }) rfl hsize rfl rfl (rest := rest) rfl
    (by rw [hb]; exact d7) (by rw [hb]; exact d10) hout hRframes (by simp only [List.map_cons, List.sum_cons, hcat]; omega) hlocks
  obtain ⟨f1, f2⟩ := vx_frame hsame
  rw [hhp] at f1 f2
  have hWs : s.WarmedH U.vm := State.WarmedH.trans hW0 hW
  have hcl : s.vm.findClass cls = some ce.cls := by
    have h9 := hO.cls
    rw [hvm] at h9
    exact h9
  have hall : s.sameButNew ({ U with vm := s.vm } : State) locs mc ms := by
    subst hA
    obtain ⟨e1, e2⟩ := hsame
    rw [State.setFrames_setFrames] at e1
    have h2 : (T.setVm s.vm).sameButNew ({ U with vm := s.vm } : State) [] (0 + 1) (0 + 6) := ⟨e1, e2⟩
    have h3 := X.same.trans h2
    rw [List.append_nil] at h3
    exact h3.mono hc hs
  refine ⟨U, ?_, .threw T.heap.size, hrun, hend, Or.inr ⟨T.heap.size, rfl, cls, ce, locs, hx U hWs.alike f1 (fun q hq => f2 q hq (fun z hz => nomatch hz)), hce, hO.vm, hcl, hWs, hall, hf⟩⟩
  refine st1 _ ?_
  show Steps p.tables e below (T1.setTop { method := m, pc := pc + 3, locals := ls, stack := .ref T.heap.size :: rest, locked := none }) _
  jvm_step X₁.here [X₁.here.top, hexec, d3', Value.category]
  exact X₁.ldcStringW hexec (own := own) (text := text) (index := is) (a := sa) hown' hstr'.1 hstr'.2
    (g := { method := m, pc := pc + 4, locals := ls, stack := .ref T.heap.size :: .ref T.heap.size :: rest, locked := none }) rfl d4' _ hsteps
end Ends
section Bodies
variable {l : Launch}
theorem vx_ofW {y : MethodName} {ws ws' : List Cond} {rm : Room} {Pc : Array Value → State → Prop} {Qc : Array Value → State → Outcome → State → Prop} {XC : String → State → State → Prop} {mc ms : Nat} {free : Addr → Prop} {cc : ByteArray} {maxL : Nat} {ret : Option FieldType}
    (hy : plainName y.cls = true) (hw : ws = Cond.code y cc maxL ret :: ws')
    (body : ∀ p e s m args below meth c s₁, BodyLoose p l y (headSpec ws rm) cc maxL ret e s m args below meth c s₁ → c.maxLocals = maxL → (∀ x ∈ c.exceptionTable.toList, False) → Pc args s →
      W p l e (headSpec ws rm).room s m args below meth c s.heap [] 0 0 (vx_MQ below Qc XC args s mc ms free) (entryFrame m args maxL)) : vx_Met l y ws rm Pc Qc XC mc ms free := by
  refine MetFree.of_bodyS (code := cc) (maxLocals := maxL) (ret := ret) hy ?_ ?_
  · intro args s m h hn
    obtain ⟨meth, c, h1, h2, h3, h4, h5, h6, -, -⟩ := Cond.code_spec hn (atoms_spec (ws := ws) h _ (by rw [hw]; exact List.mem_cons_self))
    exact ⟨meth, c, h1, h2, h3, h4, h5, h6⟩
  · intro p e s m args below meth c s₁ B hml hP _
    have hh0 : s₁.heap = s.heap := by rw [B.state]; rfl
    have ht : ∀ x ∈ c.exceptionTable.toList, False := by
      obtain ⟨meth9, c9, h1, h2, -, -, -, -, h7, -⟩ := Cond.code_spec B.named (atoms_spec (ws := ws) B.pre _ (by rw [hw]; exact List.mem_cons_self))
      cases Option.some.inj (h1.symm.trans B.method)
      cases Option.some.inj (h2.symm.trans (Stand.of_body B).code)
      intro x hx
      rw [Array.isEmpty_iff.mp h7] at hx
      cases hx
    obtain ⟨t, a1, o, b1, b2, b3⟩ := body p e s m args below meth c s₁ B hml ht hP s₁ hh0 (Stand.of_body B)
    exact ⟨t, o, a1, b1, b2, b3⟩
/-- the table of a body with handlers -/
theorem vx_table {p : Program} {x y : MethodName} {S : Spec} {cc bytes : ByteArray} {maxL maxL' : Nat} {ret ret' : Option FieldType} {e : Env} {s s₁ : State} {m : MethodId} {args : Array Value} {below : List Frame} {meth : Method} {c : Code} {hh : List (Nat × Nat × Nat × Nat)}
    (B : BodyLoose p l y S cc maxL ret e s m args below meth c s₁) (h : (Cond.codeWith y bytes maxL' ret' hh).before args s = true) : c.exceptionTable.toList = tableOf hh := by
  obtain ⟨m9, meth9, c9, hn9, h1, h2, -, -, h6, -⟩ := Cond.codeWith_spec h
  cases Option.some.inj (hn9.symm.trans B.named)
  cases Option.some.inj (h1.symm.trans B.method)
  cases Option.some.inj (h2.symm.trans (Stand.of_body B).code)
  rw [← h6, table_eq]
end Bodies
end VXA
/-! ===== END ===== -/
/-! ===== BEGIN a static call of a method with an exception table ===== -/
section VXS
variable {p : Program} {l : Launch} {e : Env} {R : Room} {s : State} {m : MethodId} {args : Array Value} {below : List Frame} {meth : Method} {c : Code} {T : State} {H : Heap} {locs : List Loc} {cells slots : Nat}
abbrev vx_CSW (R : Room) (s : State) (args : Array Value) (own : String) (index : Nat) (y : MethodName) (bytes : ByteArray) (maxL : Nat) (ret : Option FieldType) (hh : List (Nat × Nat × Nat × Nat)) (ws : List Cond) (rm : Room) (mc ms n : Nat) : Prop :=
  (rm.cells = mc ∧ rm.slots = ms ∧ rm.frames + 1 ≤ R.frames ∧ 8 + (maxL + 11) + rm.locals ≤ R.locals ∧ (∀ w ∈ ws, ∀ (a' : Array Value) (U : State), s.WarmedH U.vm → w.before a' U = true) ∧ Cond.codeWith y bytes maxL ret hh ∈ ws) ∧
  (Cond.codeWith y bytes maxL ret hh).before args s = true ∧ (Cond.initialized y.cls).before args s = true ∧ (y.cls ≠ "java/lang/invoke/MethodHandle" ∧ y.cls ≠ "java/lang/invoke/VarHandle") ∧
  (∀ sig, parseMethodDescriptor y.desc = some sig → n = sig.parameters.length) ∧ (Cond.methodLink own index y).before args s = true ∧ (Cond.static y).before args s = true
theorem vx_cwSW {own : String} {index maxL mc ms : Nat} {y : MethodName} {bytes : ByteArray} {ret : Option FieldType} {hh : List (Nat × Nat × Nat × Nat)} {Ts ws ws' : List Cond} {rm : Room} (n : Nat) (ht : ∀ w ∈ Ts, w.before args s = true) (hT : GoodIn Ts (va_wsS own index y ws)) (hw : ws = Cond.codeWith y bytes maxL ret hh :: ws') (hrc : rm.cells = mc) (hrs : rm.slots = ms)
    (hd : y.cls ≠ "java/lang/invoke/MethodHandle" ∧ y.cls ≠ "java/lang/invoke/VarHandle" ∧ (parseMethodDescriptor y.desc).map (fun d => d.parameters.length) = some n) (hR : rm.frames + 1 ≤ R.frames ∧ 8 + (maxL + 11) + rm.locals ≤ R.locals) :
    vx_CSW R s args own index y bytes maxL ret hh ws rm mc ms n := by
  have ok : ∀ w ∈ va_wsS own index y ws, w.before args s = true := fun w h => ht w (hT w h).1
  have hG : GoodIn Ts ws := fun w h => hT w (by unfold va_wsS; exact List.mem_append_right _ h)
  have hc : Cond.codeWith y bytes maxL ret hh ∈ ws := by rw [hw]; exact List.mem_cons_self
  refine ⟨⟨hrc, hrs, hR.1, hR.2, pay_in ht hG, hc⟩, ht _ (hG _ hc).1, ok _ (by simp [va_wsS]), ⟨hd.1, hd.2.1⟩, fun sig h => ?_, ok _ (by simp [va_wsS]), ok _ (by simp [va_wsS])⟩
  have h2 := hd.2.2
  rw [h] at h2
  exact (Option.some.inj h2).symm
theorem vx_callSW (X : Stand p l e R s m args below meth c T locs cells slots) (hexec : p.tables.exec = Jvm.exec) {own : String} {index : Nat} {y : MethodName} {bytes : ByteArray} {maxL : Nat} {ret : Option FieldType} {hh : List (Nat × Nat × Nat × Nat)}
    (hown : s.vm.findClass own = some m.cls) (hlink : (Cond.methodLink own index y).before args s = true) (hstat : (Cond.static y).before args s = true) (hinit : (Cond.initialized y.cls).before args s = true)
    (hcode : (Cond.codeWith y bytes maxL ret hh).before args s = true) (hy : y.cls ≠ "java/lang/invoke/MethodHandle" ∧ y.cls ≠ "java/lang/invoke/VarHandle")
    {W9 : Nat} {Pre : Pt → Array Value → Prop} {Post : Pt → Array Value → Option Value → Pt → Prop} (hK : Back l R p e below s args y 3 W9 Pre Post)
    {g : JFrame} (hg : g.method = m) (hsize : g.locals.size = c.maxLocals) {argsL rest : List Value} (hlen : ∀ sig, parseMethodDescriptor y.desc = some sig → argsL.length = sig.parameters.length)
    (hstack : g.stack = argsL.reverse ++ rest) (hW : 2 * g.monitorRoom + (rest.map fun v => v.category).sum ≤ W9) (hdg : decode c.code g.pc = .ok (.invokestatic index, 3))
    (hpre : ∀ vm₁, s.WarmedH vm₁ → Pre ⟨T.setVm vm₁, locs, cells, slots⟩ argsL.toArray) :
    ∃ (v : Option Value) (vm₁ : Vm) (B : Pt), s.WarmedH vm₁ ∧ Stand p l e R s m args below meth c B.U B.locs B.cells B.slots ∧ Post ⟨T.setVm vm₁, locs, cells, slots⟩ argsL.toArray v B ∧
      ∀ target, Steps p.tables e below (B.U.setTop { g with pc := g.pc + 3, stack := v.toList ++ rest }) target → Steps p.tables e below (T.setTop g) target := by
  obtain ⟨mk, methM, cM, hnamed, hmethM, -, -, -, -, -, -, hsigM⟩ := Cond.codeWith_spec hcode
  have hstatic : methM.isStatic = true := Cond.static_spec hnamed hmethM hstat
  obtain ⟨kP, hkP, -⟩ := className_of_methodNamed hnamed
  have hinitP : kP.init = .initialized := Cond.initialized_spec (findClass_of_methodNamed hnamed) hkP hinit
  obtain ⟨vm₁, X₁, hstep₁⟩ := X.invokestatic hexec hown hlink hnamed hmethM hstatic hkP hinitP hy (g := g) hg (argsL := argsL) (rest := rest) (hlen _ hsigM) hstack hdg
  obtain ⟨v, B, X', hpost, hsteps⟩ := hK m meth c ⟨T.setVm vm₁, locs, cells, slots⟩ { g with stack := rest } (.invokestatic index) mk argsL.toArray X₁ hg hsize hdg hW (X₁.named hnamed) (hpre vm₁ X₁.warmed)
  exact ⟨v, vm₁, B, X₁.warmed, X', hpost, fun target h => hstep₁ _ fun acts => by rw [doInvoke_state]; exact hsteps.trans h⟩
theorem vx_runSW {y : MethodName} {bytes cc : ByteArray} {maxL nL mc ms n index : Nat} {ret : Option FieldType} {hh : List (Nat × Nat × Nat × Nat)} {ws : List Cond} {rm : Room} {Pc : Array Value → State → Prop} {Qc : Array Value → State → Outcome → State → Prop} {free : Addr → Prop} {Ts : List Cond} {own : String} {As rest : List Value} {g : JFrame}
    (S : CallFix p m c cc nL s args Ts own) (hM : Met l y ws rm Pc Qc mc ms free) (cw : vx_CSW R s args own index y bytes maxL ret hh ws rm mc ms n) (hp : PreS s H Pc As)
    (hg : g.method = m) (hn : As.length = n) (hsize : g.locals.size = nL) (hstack : g.stack = As.reverse ++ rest) (hW : 2 * g.monitorRoom + (rest.map fun v => v.category).sum ≤ 8) (hdg : decode cc g.pc = .ok (.invokestatic index, 3)) (hf : cells + mc ≤ R.cells ∧ slots + ms ≤ R.slots) :
    va_Run p l e R s m args below meth c H locs cells slots mc ms g rest (Qc As.toArray) (free) := by
  obtain ⟨⟨hrc, hrs, hfr, hlo, hws, hcw⟩, hcode, hini, hy, hlen, hl, hstt⟩ := cw
  have hK : Back l R p e below s args y 3 8 (PreOf R mc ms Pc) (PostOf Qc mc ms free) := va_backW (hh := hh) (bytes := bytes) (maxL := maxL) (ret := ret) hM hp.1 hrc hrs hfr hlo hws hcw (fun a' U hW => word_at hW (Or.inl (by first | rfl | simp [Cond.onTables, Cond.keeps, Cond.steady])) hini)
  obtain ⟨hx, hb, hml, ho, -⟩ := S
  intro T hT X
  obtain ⟨v, vm₁, ⟨U', l2, c2, s2⟩, hW₁, X', ⟨g', mk, t, L, e1, e2, hq, h1, hL, h2, h3⟩, st⟩ := vx_callSW X hx (hh := hh) (bytes := bytes) (maxL := maxL) (ret := ret) ho hl hstt hini hcode hy hK hg (hsize.trans hml.symm) (argsL := As) (rest := rest) (fun sig h => hn.trans (hlen sig h)) hstack hW (by rw [hb]; exact hdg)
    (fun vm₁ hW₁ => ⟨hf.1, hf.2, hp.2 (T.setVm vm₁) hT hW₁⟩)
  dsimp only [Pt.U, Pt.locs, Pt.cells, Pt.slots] at X' e1 e2 h1 h2 h3 st
  subst h1; subst h2; subst h3
  exact ⟨v, (T.setVm vm₁).calling g' mk As.toArray, t, U', L, hT, X', hL, e1, e2, hq, st⟩
/-- not caught here, past rows that name other classes: it goes on to the caller -/
theorem vx_outP {p : Program} {l : Launch} {e : Env} {R : Room} {s : State} {m : MethodId} {args : Array Value} {below : List Frame} {meth : Method} {c : Code} {H : Heap} {locs : List Loc} {cells slots : Nat} {free : Addr → Prop} {ls : Array Slot} {rest : List Value} {Qc : Array Value → State → Outcome → State → Prop} {XC : String → State → State → Prop}
    {pc : Nat} {own E : String} {ce : Cell} {q : Addr} {mc ms : Nat} (hown : s.vm.findClass own = some m.cls) (hlocks : meth.locks = false)
    (hpass : ∀ z ∈ c.exceptionTable.toList, covers z pc = false ∨ (z.catchType ≠ 0 ∧ ∃ nm : String, (Cond.classLink own z.catchType nm).before args s = true ∧ va_Nc E nm s)) (hcell : H[q]? = some ce) (hv : ce.vm = .none) (hcl : s.vm.findClass E = some ce.cls)
    (hx : ∀ t : State, t.heap = H → s.vm.Alike t.vm → XC E s t) (hf : ∀ z ∈ locs, free z.base) (hc : cells ≤ mc) (hs : slots ≤ ms) :
    vx_W p l e R s m args below meth c H locs cells slots (vx_MQ below Qc XC args s mc ms free) (F0 m pc ls rest) q := by
  intro T hT X
  have hpl : e.platform.magicAccessors = ({} : Platform).magicAccessors := by rw [X.admits.platform]
  obtain ⟨vm', hW', X', st⟩ := X.outThrough hlocks q (g := F0 m pc ls rest) rfl rfl rfl (cell := ce) (by rw [hT]; exact hcell) (by rw [hv]; rfl)
    (by obtain ⟨k9, h9, -⟩ := Vm.findClass_spec hcl; exact ⟨k9, h9⟩) (fun z hz => by
      rcases hpass z hz with h | ⟨hz0, nm, hl1, hn1⟩
      · exact Or.inl h
      · obtain ⟨c6, hc6, hcl6⟩ := Cond.classLink_spec hown hl1 e.platform hpl
        obtain ⟨a8, b8, h1, h2, h3⟩ := hn1
        cases Option.some.inj (h1.symm.trans hcl)
        cases Option.some.inj (h2.symm.trans hc6)
        exact Or.inr ⟨hz0, _, hcl6, h3⟩)
  obtain ⟨g₀, hfr⟩ := X'.frames_eq
  have hcell9 : ((T.setVm vm').setFrames (.throwing q :: below)).heap[q]? = some ce := by
    show T.heap[q]? = some ce
    rw [hT]; exact hcell
  have hend : Ended ((T.setVm vm').setFrames (.throwing q :: below)) below (.threw q) := State.frames_setFrames _ (State.cur_lt_of_frames hfr)
  refine ⟨(T.setVm vm').setFrames (.throwing q :: below), ?_, .threw q, X'.here.running, hend, Or.inr ⟨q, rfl, E, ce, locs, hx _ hT (X'.ends _).1.alike, hcell9, hv, hcl, (X'.ends _).1, (X'.ends _).2.mono hc hs, hf⟩⟩
  rw [X.pushThrowing_eq]
  exact st
/-- a thing of a world lies in the heap -/
theorem vx_lt {D : va_G} {cl : List vw_C} {ws : va_W} {H1 : Heap} (h : va_P D cl ws H1) {k : Nat} {q : Nat × va_E} (hk : ws[k]? = some q) : q.1 < H1.size := (h k q hk).lt
end VXS
/-! ===== END ===== -/
/-! ===== BEGIN methods with a table of their own: called by a name, returning or throwing ===== -/
section VXH
/-! vx_backW, vx_callVX, vx_callSX, vx_callVW, vx_runVW, vx_runVX, vx_runSX, vx_ofWH follow the same proofs as their sisters above (Free/Laws.lean, Shelf42/LK1.lean); vx_outP calls Shelf42/NT130.lean (outThrough). -/
section
variable {l : Launch} {R : Room} {p : Program} {e : Env} {below : List Frame} {s : State} {sargs : Array Value} {y : MethodName} {len W9 : Nat}
theorem vx_backW {ws : List Cond} {rm : Room} {Pc : Array Value → State → Prop} {Qc : Array Value → State → Outcome → State → Prop} {XC : String → State → State → Prop} {mc ms : Nat} {free : Addr → Prop} {bytes : ByteArray} {maxL : Nat} {ret : Option FieldType} {hh : List (Nat × Nat × Nat × Nat)}
    (hM : vx_Met l y ws rm Pc Qc XC mc ms free) (hblind : FrameBlind Pc) (hrc : rm.cells = mc) (hrs : rm.slots = ms)
    (hframes : rm.frames + 1 ≤ R.frames) (hlocals : W9 + (maxL + 11) + rm.locals ≤ R.locals)
    (hws : ∀ w ∈ ws, ∀ a' U, s.WarmedH U.vm → w.before a' U = true) (hcode : Cond.codeWith y bytes maxL ret hh ∈ ws) (hinit : ∀ a' U, s.WarmedH U.vm → (Cond.initialized y.cls).before a' U = true) :
    vx_Back l R p e below s sargs y len W9 (PreOf R mc ms Pc) (PostOf Qc mc ms free) (vx_Post XC mc ms free) := by
  intro m meth c A g ig mk a X hg hsize hdg hW hn hp
  have h1 : (headSpec ws rm).pre.before a A.U = true := atoms_intro fun w hw => hws w hw _ _ X.warmed
  have h2 : (Cond.codeWith y bytes maxL ret hh).before a A.U = true := hws _ hcode _ _ X.warmed
  have h3 : (Cond.initialized y.cls).before a A.U = true := hinit _ _ X.warmed
  have h4 : A.cells + (headSpec ws rm).room.cells ≤ R.cells := by rw [show (headSpec ws rm).room.cells = mc from hrc]; exact hp.1
  have h5 : A.slots + (headSpec ws rm).room.slots ≤ R.slots := by rw [show (headSpec ws rm).room.slots = ms from hrs]; exact hp.2.1
  have hPc : Pc a (A.U.calling g mk a) := hblind _ _ _ _ hp.2.2
  obtain ⟨U, Ls, c0, s0⟩ := A
  dsimp only [Pt.U, Pt.locs, Pt.cells, Pt.slots] at h1 h2 h3 h4 h5 X hn hPc ⊢
  obtain ⟨m9, methY, cY, hn9, hmY, hcY, -, hlY, -⟩ := Cond.codeWith_spec h2
  cases Option.some.inj (hn9.symm.trans hn)
  obtain ⟨kY, hkY, -⟩ := className_of_methodNamed hn
  have hinitY : kY.init = .initialized := Cond.initialized_spec (findClass_of_methodNamed hn) hkY h3
  have h : At U g.method c below := by rw [hg]; exact X.here
  have hlocals9 : W9 + (maxL + 11) + (headSpec ws rm).room.locals ≤ R.locals := hlocals
  have happ : (headSpec ws rm).appliesLoose y e.platform (U.calling g mk a) = true :=
    Spec.appliesLoose_calling (g := g) h hdg hn hkY hinitY
      (X.room_calling (g := g) (R' := (headSpec ws rm).room) hsize hmY hcY hframes (by rw [hlY]; omega) h4 h5) h1
  obtain ⟨mid, hmid⟩ := h.above
  have hfr : (U.setTop g).frames = (.java g :: mid) ++ below := by rw [State.frames_setTop' g h.top, hmid]; rfl
  obtain ⟨o, s₂, hsteps, -, hend, hq⟩ := Steps.callFree hM p X.admits X.cas X.clock (acts := []) hfr happ hPc trivial
  have hq' : vx_Q Qc XC mc ms free a (U.calling g mk a) o s₂ := hq
  rw [State.frames_setTop' g h.top] at hend
  obtain ⟨g₀, hg0⟩ := Option.isSome_iff_exists.mp h.top
  obtain ⟨r, hr⟩ := State.topJava?_eq_some.mp hg0
  have hr' : (({ U with heap := s₂.heap, slotsUsed := s₂.slotsUsed } : State).setVm s₂.vm).frames = .java g₀ :: r := hr
  rcases hq' with ⟨hqc, L, hfe, hL⟩ | ⟨q, rfl, E, ce, L, hx, hce, hcv, hcl, hW₂, hsm, hL⟩
  · obtain ⟨⟨v, rfl⟩, hW₂, e2, q2, q3, q4, q5, q6⟩ := id hfe
    have e3 : s₂ = ({ (U.calling g mk a).setFrames s₂.frames with heap := s₂.heap, slotsUsed := s₂.slotsUsed } : State).setVm s₂.vm := by
      have : s₂ = ({ s₂ with vm := (U.calling g mk a).vm } : State).setVm s₂.vm := rfl
      rw [e2] at this
      exact this
    obtain ⟨c₂, i₂, len₂, hc₂, hd₂, hf₂⟩ := hend
    have hW' : U.WarmedH s₂.vm := hW₂
    have hcc : c₂ = c := by
      have h1 : s₂.code? g.method = U.code? g.method := by
        rw [State.code?_eq, State.code?_eq, hW'.alike.method?]
      exact Option.some.inj (hc₂.symm.trans (h1.trans h.code))
    subst hcc
    have hlen : len₂ = len := by rw [hdg] at hd₂; cases hd₂; rfl
    subst hlen
    have hs₂ : s₂ = (({ U with heap := s₂.heap, slotsUsed := s₂.slotsUsed } : State).setVm s₂.vm).setTop { g with pc := g.pc + len₂, stack := v.toList ++ g.stack } := by
      refine e3.trans ?_
      rw [hf₂, State.calling_eq h.top, State.setFrames_setFrames, State.setTop_of_frames _ hr', hr]
      rfl
    have hsame : U.sameButNew ({ U with heap := s₂.heap, slotsUsed := s₂.slotsUsed } : State) L mc ms := by
      refine ⟨?_, q2, q3, q4, q5, q6⟩
      obtain ⟨t, ht, -⟩ := State.frames_cons hr
      show ({ U with heap := s₂.heap, slotsUsed := s₂.slotsUsed } : State) = { U.setFrames U.frames with heap := s₂.heap, slotsUsed := s₂.slotsUsed }
      rw [State.setFrames_self ht]
    subst hg
    refine Or.inl ⟨v, ⟨(({ U with heap := s₂.heap, slotsUsed := s₂.slotsUsed } : State).setVm s₂.vm), Ls ++ L, c0 + mc, s0 + ms⟩,
      ⟨X.admits, X.cas, X.clock, X.frames, X.room, X.hears, X.method, X.code, (X.here.setHeapUsed s₂.heap s₂.slotsUsed).setVm hW'.alike, X.tail, State.WarmedH.trans X.warmed hW', X.limits, X.bytes, X.same.trans (hsame.setVm s.vm)⟩,
      ⟨g, mk, s₂, L, rfl, rfl, hqc, rfl, hL, rfl, rfl⟩, ?_⟩
    show Steps p.tables e below _ ((({ U with heap := s₂.heap, slotsUsed := s₂.slotsUsed } : State).setVm s₂.vm).setTop { g with pc := g.pc + len₂, stack := v.toList ++ g.stack })
    rw [← hs₂]
    exact hsteps
  · obtain ⟨e2, q2, q3, q4, q5, q6⟩ := id hsm
    have e3 : s₂ = ({ (U.calling g mk a).setFrames s₂.frames with heap := s₂.heap, slotsUsed := s₂.slotsUsed } : State).setVm s₂.vm := by
      have : s₂ = ({ s₂ with vm := (U.calling g mk a).vm } : State).setVm s₂.vm := rfl
      rw [e2] at this
      exact this
    have hf₂ : s₂.frames = .throwing q :: .java g :: U.frames.tail := hend
    have hW' : U.WarmedH s₂.vm := hW₂
    have hs₂ : s₂ = ((({ U with heap := s₂.heap, slotsUsed := s₂.slotsUsed } : State).setVm s₂.vm).setTop g).pushFrame (.throwing q) := by
      refine e3.trans ?_
      rw [hf₂, State.calling_eq h.top, State.setFrames_setFrames, State.pushFrame, State.frames_setTop _ hr', State.setTop_of_frames _ hr', State.setFrames_setFrames, hr]
      rfl
    have hsame : U.sameButNew ({ U with heap := s₂.heap, slotsUsed := s₂.slotsUsed } : State) L mc ms := by
      refine ⟨?_, q2, q3, q4, q5, q6⟩
      obtain ⟨t, ht, -⟩ := State.frames_cons hr
      show ({ U with heap := s₂.heap, slotsUsed := s₂.slotsUsed } : State) = { U.setFrames U.frames with heap := s₂.heap, slotsUsed := s₂.slotsUsed }
      rw [State.setFrames_self ht]
    subst hg
    refine Or.inr ⟨q, ⟨(({ U with heap := s₂.heap, slotsUsed := s₂.slotsUsed } : State).setVm s₂.vm), Ls ++ L, c0 + mc, s0 + ms⟩,
      ⟨X.admits, X.cas, X.clock, X.frames, X.room, X.hears, X.method, X.code, (X.here.setHeapUsed s₂.heap s₂.slotsUsed).setVm hW'.alike, X.tail, State.WarmedH.trans X.warmed hW', X.limits, X.bytes, X.same.trans (hsame.setVm s.vm)⟩,
      ⟨g, mk, s₂, L, E, ce, rfl, rfl, hx, hce, hcv, hcl, rfl, hL, rfl, rfl⟩, ?_⟩
    show Steps p.tables e below _ (((({ U with heap := s₂.heap, slotsUsed := s₂.slotsUsed } : State).setVm s₂.vm).setTop g).pushFrame (.throwing q))
    rw [← hs₂]
    exact hsteps
end
variable {p : Program} {l : Launch} {e : Env} {R : Room} {s : State} {m : MethodId} {args : Array Value} {below : List Frame} {meth : Method} {c : Code} {T : State} {H : Heap} {locs : List Loc} {cells slots : Nat}
theorem vx_callVX (X : Stand p l e R s m args below meth c T locs cells slots) (hexec : p.tables.exec = Jvm.exec) {own C : String} {index : Nat} {y : MethodName} {bytes : ByteArray} {maxL : Nat} {ret : Option FieldType} {hh : List (Nat × Nat × Nat × Nat)}
    (hown : s.vm.findClass own = some m.cls) (hlink : (Cond.methodLink own index y).before args s = true) (hinst : (Cond.instanceMethod y).before args s = true) (hsel : (Cond.selects C y y).before args s = true)
    (hcode : (Cond.codeWith y bytes maxL ret hh).before args s = true) (hy : y.cls ≠ "java/lang/invoke/MethodHandle" ∧ y.cls ≠ "java/lang/invoke/VarHandle")
    {W9 : Nat} {Pre : Pt → Array Value → Prop} {Post : Pt → Array Value → Option Value → Pt → Prop} {PostX : Pt → Array Value → Addr → Pt → Prop} (hK : vx_Back l R p e below s args y 3 W9 Pre Post PostX)
    {b : Addr} {cellB : Cell} (hcell : T.heap[b]? = some cellB) (hobj : cellB.vm.isStatics = false) (hcls : s.vm.findClass C = some cellB.cls)
    {g : JFrame} (hg : g.method = m) (hsize : g.locals.size = c.maxLocals) {argsL rest : List Value} (hlen : ∀ sig, parseMethodDescriptor y.desc = some sig → argsL.length = sig.parameters.length)
    (hstack : g.stack = argsL.reverse ++ .ref b :: rest) (hW : 2 * g.monitorRoom + (rest.map fun v => v.category).sum ≤ W9) (hdg : decode c.code g.pc = .ok (.invokevirtual index, 3))
    (hpre : ∀ vm₁, s.WarmedH vm₁ → Pre ⟨T.setVm vm₁, locs, cells, slots⟩ (Value.ref b :: argsL).toArray) :
    (∃ (v : Option Value) (vm₁ : Vm) (B : Pt), s.WarmedH vm₁ ∧ Stand p l e R s m args below meth c B.U B.locs B.cells B.slots ∧ Post ⟨T.setVm vm₁, locs, cells, slots⟩ (Value.ref b :: argsL).toArray v B ∧
      ∀ target, Steps p.tables e below (B.U.setTop { g with pc := g.pc + 3, stack := v.toList ++ rest }) target → Steps p.tables e below (T.setTop g) target) ∨
    (∃ (q : Addr) (vm₁ : Vm) (B : Pt), s.WarmedH vm₁ ∧ Stand p l e R s m args below meth c B.U B.locs B.cells B.slots ∧ PostX ⟨T.setVm vm₁, locs, cells, slots⟩ (Value.ref b :: argsL).toArray q B ∧
      Steps p.tables e below (T.setTop g) ((B.U.setTop { g with stack := rest }).pushFrame (.throwing q))) := by
  obtain ⟨mk, methM, hnamed, hmethM, hstM, habM⟩ := Cond.instanceMethod_spec hinst
  obtain ⟨m8, methM', cM, hn8, hmethM', -, -, -, -, -, -, hsigM⟩ := Cond.codeWith_spec hcode
  cases Option.some.inj (hn8.symm.trans hnamed)
  cases hmethM.symm.trans hmethM'
  obtain ⟨c2, r2, m2, q1, q2, q3, q4, kP, hkP, hkPi⟩ := Cond.selects_spec hsel
  cases hcls.symm.trans q1
  cases (State.methodFound?_of_named hnamed hy).symm.trans q2
  cases hnamed.symm.trans q3
  have hselP : selectMethod e.platform s.vm cellB.cls mk = .method mk := by rw [Launch.admits_selectMethod X.admits]; exact q4
  obtain ⟨vm₁, X₁, hstep₁⟩ := X.invokevirtual hexec hown hlink hnamed hmethM hstM hkP hkPi hy (a := b) (cell := cellB) hcell
    (fun z h => by rw [h] at hobj; cases hobj) hselP hmethM habM hkP hkPi (g := g) hg (argsL := argsL) (rest := rest) (hlen _ hsigM) hstack hdg
  rcases hK m meth c ⟨T.setVm vm₁, locs, cells, slots⟩ { g with stack := rest } (.invokevirtual index) mk (Value.ref b :: argsL).toArray X₁ hg hsize hdg hW (X₁.named hnamed) (hpre vm₁ X₁.warmed) with ⟨v, B, X', hpost, hsteps⟩ | ⟨q, B, X', hpost, hsteps⟩
  · exact Or.inl ⟨v, vm₁, B, X₁.warmed, X', hpost, fun target h => hstep₁ _ fun acts => by rw [doInvoke_state]; exact hsteps.trans h⟩
  · exact Or.inr ⟨q, vm₁, B, X₁.warmed, X', hpost, hstep₁ _ fun acts => by rw [doInvoke_state]; exact hsteps⟩
theorem vx_callSX (X : Stand p l e R s m args below meth c T locs cells slots) (hexec : p.tables.exec = Jvm.exec) {own : String} {index : Nat} {y : MethodName} {bytes : ByteArray} {maxL : Nat} {ret : Option FieldType} {hh : List (Nat × Nat × Nat × Nat)}
    (hown : s.vm.findClass own = some m.cls) (hlink : (Cond.methodLink own index y).before args s = true) (hstat : (Cond.static y).before args s = true) (hinit : (Cond.initialized y.cls).before args s = true)
    (hcode : (Cond.codeWith y bytes maxL ret hh).before args s = true) (hy : y.cls ≠ "java/lang/invoke/MethodHandle" ∧ y.cls ≠ "java/lang/invoke/VarHandle")
    {W9 : Nat} {Pre : Pt → Array Value → Prop} {Post : Pt → Array Value → Option Value → Pt → Prop} {PostX : Pt → Array Value → Addr → Pt → Prop} (hK : vx_Back l R p e below s args y 3 W9 Pre Post PostX)
    {g : JFrame} (hg : g.method = m) (hsize : g.locals.size = c.maxLocals) {argsL rest : List Value} (hlen : ∀ sig, parseMethodDescriptor y.desc = some sig → argsL.length = sig.parameters.length)
    (hstack : g.stack = argsL.reverse ++ rest) (hW : 2 * g.monitorRoom + (rest.map fun v => v.category).sum ≤ W9) (hdg : decode c.code g.pc = .ok (.invokestatic index, 3))
    (hpre : ∀ vm₁, s.WarmedH vm₁ → Pre ⟨T.setVm vm₁, locs, cells, slots⟩ argsL.toArray) :
    (∃ (v : Option Value) (vm₁ : Vm) (B : Pt), s.WarmedH vm₁ ∧ Stand p l e R s m args below meth c B.U B.locs B.cells B.slots ∧ Post ⟨T.setVm vm₁, locs, cells, slots⟩ argsL.toArray v B ∧
      ∀ target, Steps p.tables e below (B.U.setTop { g with pc := g.pc + 3, stack := v.toList ++ rest }) target → Steps p.tables e below (T.setTop g) target) ∨
    (∃ (q : Addr) (vm₁ : Vm) (B : Pt), s.WarmedH vm₁ ∧ Stand p l e R s m args below meth c B.U B.locs B.cells B.slots ∧ PostX ⟨T.setVm vm₁, locs, cells, slots⟩ argsL.toArray q B ∧
      Steps p.tables e below (T.setTop g) ((B.U.setTop { g with stack := rest }).pushFrame (.throwing q))) := by
  obtain ⟨mk, methM, cM, hnamed, hmethM, -, -, -, -, -, -, hsigM⟩ := Cond.codeWith_spec hcode
  have hstatic : methM.isStatic = true := Cond.static_spec hnamed hmethM hstat
  obtain ⟨kP, hkP, -⟩ := className_of_methodNamed hnamed
  have hinitP : kP.init = .initialized := Cond.initialized_spec (findClass_of_methodNamed hnamed) hkP hinit
  obtain ⟨vm₁, X₁, hstep₁⟩ := X.invokestatic hexec hown hlink hnamed hmethM hstatic hkP hinitP hy (g := g) hg (argsL := argsL) (rest := rest) (hlen _ hsigM) hstack hdg
  rcases hK m meth c ⟨T.setVm vm₁, locs, cells, slots⟩ { g with stack := rest } (.invokestatic index) mk argsL.toArray X₁ hg hsize hdg hW (X₁.named hnamed) (hpre vm₁ X₁.warmed) with ⟨v, B, X', hpost, hsteps⟩ | ⟨q, B, X', hpost, hsteps⟩
  · exact Or.inl ⟨v, vm₁, B, X₁.warmed, X', hpost, fun target h => hstep₁ _ fun acts => by rw [doInvoke_state]; exact hsteps.trans h⟩
  · exact Or.inr ⟨q, vm₁, B, X₁.warmed, X', hpost, hstep₁ _ fun acts => by rw [doInvoke_state]; exact hsteps⟩
theorem vx_callVW (X : Stand p l e R s m args below meth c T locs cells slots) (hexec : p.tables.exec = Jvm.exec) {own C : String} {index : Nat} {y : MethodName} {bytes : ByteArray} {maxL : Nat} {ret : Option FieldType} {hh : List (Nat × Nat × Nat × Nat)}
    (hown : s.vm.findClass own = some m.cls) (hlink : (Cond.methodLink own index y).before args s = true) (hinst : (Cond.instanceMethod y).before args s = true) (hsel : (Cond.selects C y y).before args s = true)
    (hcode : (Cond.codeWith y bytes maxL ret hh).before args s = true) (hy : y.cls ≠ "java/lang/invoke/MethodHandle" ∧ y.cls ≠ "java/lang/invoke/VarHandle")
    {W9 : Nat} {Pre : Pt → Array Value → Prop} {Post : Pt → Array Value → Option Value → Pt → Prop} (hK : Back l R p e below s args y 3 W9 Pre Post)
    {b : Addr} {cellB : Cell} (hcell : T.heap[b]? = some cellB) (hobj : cellB.vm.isStatics = false) (hcls : s.vm.findClass C = some cellB.cls)
    {g : JFrame} (hg : g.method = m) (hsize : g.locals.size = c.maxLocals) {argsL rest : List Value} (hlen : ∀ sig, parseMethodDescriptor y.desc = some sig → argsL.length = sig.parameters.length)
    (hstack : g.stack = argsL.reverse ++ .ref b :: rest) (hW : 2 * g.monitorRoom + (rest.map fun v => v.category).sum ≤ W9) (hdg : decode c.code g.pc = .ok (.invokevirtual index, 3))
    (hpre : ∀ vm₁, s.WarmedH vm₁ → Pre ⟨T.setVm vm₁, locs, cells, slots⟩ (Value.ref b :: argsL).toArray) :
    ∃ (v : Option Value) (vm₁ : Vm) (B : Pt), s.WarmedH vm₁ ∧ Stand p l e R s m args below meth c B.U B.locs B.cells B.slots ∧ Post ⟨T.setVm vm₁, locs, cells, slots⟩ (Value.ref b :: argsL).toArray v B ∧
      ∀ target, Steps p.tables e below (B.U.setTop { g with pc := g.pc + 3, stack := v.toList ++ rest }) target → Steps p.tables e below (T.setTop g) target := by
  obtain ⟨mk, methM, hnamed, hmethM, hstM, habM⟩ := Cond.instanceMethod_spec hinst
  obtain ⟨m8, methM', cM, hn8, hmethM', -, -, -, -, -, -, hsigM⟩ := Cond.codeWith_spec hcode
  cases Option.some.inj (hn8.symm.trans hnamed)
  cases hmethM.symm.trans hmethM'
  obtain ⟨c2, r2, m2, q1, q2, q3, q4, kP, hkP, hkPi⟩ := Cond.selects_spec hsel
  cases hcls.symm.trans q1
  cases (State.methodFound?_of_named hnamed hy).symm.trans q2
  cases hnamed.symm.trans q3
  have hselP : selectMethod e.platform s.vm cellB.cls mk = .method mk := by rw [Launch.admits_selectMethod X.admits]; exact q4
  obtain ⟨vm₁, X₁, hstep₁⟩ := X.invokevirtual hexec hown hlink hnamed hmethM hstM hkP hkPi hy (a := b) (cell := cellB) hcell
    (fun z h => by rw [h] at hobj; cases hobj) hselP hmethM habM hkP hkPi (g := g) hg (argsL := argsL) (rest := rest) (hlen _ hsigM) hstack hdg
  obtain ⟨v, B, X', hpost, hsteps⟩ := hK m meth c ⟨T.setVm vm₁, locs, cells, slots⟩ { g with stack := rest } (.invokevirtual index) mk (Value.ref b :: argsL).toArray X₁ hg hsize hdg hW (X₁.named hnamed) (hpre vm₁ X₁.warmed)
  exact ⟨v, vm₁, B, X₁.warmed, X', hpost, fun target h => hstep₁ _ fun acts => by rw [doInvoke_state]; exact hsteps.trans h⟩
abbrev vx_CVW (R : Room) (s : State) (args : Array Value) (own C : String) (index : Nat) (y : MethodName) (bytes : ByteArray) (maxL : Nat) (ret : Option FieldType) (hh : List (Nat × Nat × Nat × Nat)) (ws : List Cond) (rm : Room) (mc ms n : Nat) : Prop :=
  (rm.cells = mc ∧ rm.slots = ms ∧ rm.frames + 1 ≤ R.frames ∧ 8 + (maxL + 11) + rm.locals ≤ R.locals ∧ (∀ w ∈ ws, ∀ (a' : Array Value) (U : State), s.WarmedH U.vm → w.before a' U = true) ∧ Cond.codeWith y bytes maxL ret hh ∈ ws) ∧
  (Cond.codeWith y bytes maxL ret hh).before args s = true ∧ (Cond.initialized y.cls).before args s = true ∧ (y.cls ≠ "java/lang/invoke/MethodHandle" ∧ y.cls ≠ "java/lang/invoke/VarHandle") ∧
  (∀ sig, parseMethodDescriptor y.desc = some sig → n = sig.parameters.length) ∧ (Cond.methodLink own index y).before args s = true ∧ (Cond.instanceMethod y).before args s = true ∧ (Cond.selects C y y).before args s = true
theorem vx_cwVW {own C : String} {index maxL mc ms : Nat} {y : MethodName} {bytes : ByteArray} {ret : Option FieldType} {hh : List (Nat × Nat × Nat × Nat)} {Ts ws ws' : List Cond} {rm : Room} (n : Nat) (ht : ∀ w ∈ Ts, w.before args s = true) (hT : GoodIn Ts (wsV own index C y ws)) (hw : ws = Cond.codeWith y bytes maxL ret hh :: ws') (hrc : rm.cells = mc) (hrs : rm.slots = ms)
    (hd : y.cls = C ∧ y.cls ≠ "java/lang/invoke/MethodHandle" ∧ y.cls ≠ "java/lang/invoke/VarHandle" ∧ (parseMethodDescriptor y.desc).map (fun d => d.parameters.length) = some n) (hR : rm.frames + 1 ≤ R.frames ∧ 8 + (maxL + 11) + rm.locals ≤ R.locals) :
    vx_CVW R s args own C index y bytes maxL ret hh ws rm mc ms n := by
  obtain ⟨hC, hd⟩ := hd
  subst hC
  have ok : ∀ w ∈ wsV own index y.cls y ws, w.before args s = true := fun w h => ht w (hT w h).1
  have hG : GoodIn Ts ws := fun w h => hT w (by unfold wsV; exact List.mem_append_right _ h)
  have hc : Cond.codeWith y bytes maxL ret hh ∈ ws := by rw [hw]; exact List.mem_cons_self
  refine ⟨⟨hrc, hrs, hR.1, hR.2, pay_in ht hG, hc⟩, ht _ (hG _ hc).1, ok _ (by simp [wsV]), ⟨hd.1, hd.2.1⟩, fun sig h => ?_, ok _ (by simp [wsV]), ok _ (by simp [wsV]), ok _ (by simp [wsV])⟩
  have h2 := hd.2.2
  rw [h] at h2
  exact (Option.some.inj h2).symm
theorem vx_runVW {y : MethodName} {bytes cc : ByteArray} {maxL nL mc ms n index : Nat} {ret : Option FieldType} {hh : List (Nat × Nat × Nat × Nat)} {ws : List Cond} {rm : Room} {Pc : Array Value → State → Prop} {Qc : Array Value → State → Outcome → State → Prop} {free : Addr → Prop} {Ts : List Cond} {own C : String} {b : Addr} {As rest : List Value} {g : JFrame}
    (S : CallFix p m c cc nL s args Ts own) (hM : Met l y ws rm Pc Qc mc ms free) (cw : vx_CVW R s args own C index y bytes maxL ret hh ws rm mc ms n) (hp : PreV s H C b Pc As)
    (hg : g.method = m) (hn : As.length = n) (hsize : g.locals.size = nL) (hstack : g.stack = As.reverse ++ .ref b :: rest) (hW : 2 * g.monitorRoom + (rest.map fun v => v.category).sum ≤ 8) (hdg : decode cc g.pc = .ok (.invokevirtual index, 3)) (hf : cells + mc ≤ R.cells ∧ slots + ms ≤ R.slots) :
    va_Run p l e R s m args below meth c H locs cells slots mc ms g rest (Qc (Value.ref b :: As).toArray) free := by
  obtain ⟨⟨hrc, hrs, hfr, hlo, hws, hcw⟩, hcode, hini, hy, hlen, hl, hin, hse⟩ := cw
  have hK : Back l R p e below s args y 3 8 (PreOf R mc ms Pc) (PostOf Qc mc ms free) := va_backW (hh := hh) (bytes := bytes) (maxL := maxL) (ret := ret) hM hp.1 hrc hrs hfr hlo hws hcw (fun a' U hW => word_at hW (Or.inl (by first | rfl | simp [Cond.onTables, Cond.keeps, Cond.steady])) hini)
  obtain ⟨hx, hb, hml, ho, -⟩ := S
  obtain ⟨-, ⟨cellB, hcB, hoB, hclB⟩, hPc⟩ := hp
  intro T hT X
  obtain ⟨v, vm₁, ⟨U', l2, c2, s2⟩, hW₁, X', ⟨g', mk, t, L, e1, e2, hq, h1, hL, h2, h3⟩, st⟩ := vx_callVW X hx (C := C) (hh := hh) (bytes := bytes) (maxL := maxL) (ret := ret) ho hl hin hse hcode hy hK (by rw [hT]; exact hcB) hoB hclB hg (hsize.trans hml.symm) (argsL := As) (rest := rest) (fun sig h => hn.trans (hlen sig h)) hstack hW (by rw [hb]; exact hdg)
    (fun vm₁ hW₁ => ⟨hf.1, hf.2, hPc (T.setVm vm₁) hT hW₁⟩)
  dsimp only [Pt.U, Pt.locs, Pt.cells, Pt.slots] at X' e1 e2 h1 h2 h3 st
  subst h1; subst h2; subst h3
  exact ⟨v, (T.setVm vm₁).calling g' mk (Value.ref b :: As).toArray, t, U', L, hT, X', hL, e1, e2, hq, st⟩
section
variable {y : MethodName} {bytes cc : ByteArray} {maxL nL mc ms n index : Nat} {ret : Option FieldType} {ws : List Cond} {rm : Room} {Pc : Array Value → State → Prop} {Qc : Array Value → State → Outcome → State → Prop} {XC : String → State → State → Prop} {free : Addr → Prop} {Ts : List Cond} {own C : String} {b : Addr} {As rest : List Value} {g : JFrame}
theorem vx_runVX {hh : List (Nat × Nat × Nat × Nat)} (S : CallFix p m c cc nL s args Ts own) (hM : vx_Met l y ws rm Pc Qc XC mc ms free) (cw : vx_CVW R s args own C index y bytes maxL ret hh ws rm mc ms n) (hp : PreV s H C b Pc As)
    (hg : g.method = m) (hn : As.length = n) (hsize : g.locals.size = nL) (hstack : g.stack = As.reverse ++ .ref b :: rest) (hW : 2 * g.monitorRoom + (rest.map fun v => v.category).sum ≤ 8) (hdg : decode cc g.pc = .ok (.invokevirtual index, 3)) (hf : cells + mc ≤ R.cells ∧ slots + ms ≤ R.slots) :
    vx_Run p l e R s m args below meth c H locs cells slots mc ms g rest (Qc (Value.ref b :: As).toArray) XC free := by
  obtain ⟨⟨hrc, hrs, hfr, hlo, hws, hcw⟩, hcode, hini, hy, hlen, hl, hin, hse⟩ := cw
  have hK : vx_Back l R p e below s args y 3 8 (PreOf R mc ms Pc) (PostOf Qc mc ms free) (vx_Post XC mc ms free) := vx_backW (hh := hh) (bytes := bytes) (maxL := maxL) (ret := ret) hM hp.1 hrc hrs hfr hlo hws hcw (fun a' U hW => word_at hW (Or.inl (by first | rfl | simp [Cond.onTables, Cond.keeps, Cond.steady])) hini)
  obtain ⟨hx, hb, hml, ho, -⟩ := S
  obtain ⟨-, ⟨cellB, hcB, hoB, hclB⟩, hPc⟩ := hp
  intro T hT X
  rcases vx_callVX X hx (C := C) (hh := hh) (bytes := bytes) (maxL := maxL) (ret := ret) ho hl hin hse hcode hy hK (by rw [hT]; exact hcB) hoB hclB hg (hsize.trans hml.symm) (argsL := As) (rest := rest) (fun sig h => hn.trans (hlen sig h)) hstack hW (by rw [hb]; exact hdg)
    (fun vm₁ hW₁ => ⟨hf.1, hf.2, hPc (T.setVm vm₁) hT hW₁⟩) with ⟨v, vm₁, ⟨U', l2, c2, s2⟩, hW₁, X', ⟨g', mk, t, L, e1, e2, hq, h1, hL, h2, h3⟩, st⟩ | ⟨q, vm₁, ⟨U', l2, c2, s2⟩, hW₁, X', ⟨g', mk, t, L, E, ce, e1, e2, hq, hce, hcv, hcl, h1, hL, h2, h3⟩, st⟩
  · dsimp only [Pt.U, Pt.locs, Pt.cells, Pt.slots] at X' e1 e2 h1 h2 h3 st
    subst h1; subst h2; subst h3
    exact Or.inl ⟨v, (T.setVm vm₁).calling g' mk (Value.ref b :: As).toArray, t, U', L, hT, X', hL, e1, e2, hq, st⟩
  · dsimp only [Pt.U, Pt.locs, Pt.cells, Pt.slots] at X' e1 e2 h1 h2 h3 st hcl
    subst h1; subst h2; subst h3
    exact Or.inr ⟨q, (T.setVm vm₁).calling g' mk (Value.ref b :: As).toArray, t, U', L, E, ce, hT, X', hL, e1, e2, hq, hce, hcv, vx_cls hW₁ hcl, st⟩
theorem vx_runSX {hh : List (Nat × Nat × Nat × Nat)} (S : CallFix p m c cc nL s args Ts own) (hM : vx_Met l y ws rm Pc Qc XC mc ms free) (cw : vx_CSW R s args own index y bytes maxL ret hh ws rm mc ms n) (hp : PreS s H Pc As)
    (hg : g.method = m) (hn : As.length = n) (hsize : g.locals.size = nL) (hstack : g.stack = As.reverse ++ rest) (hW : 2 * g.monitorRoom + (rest.map fun v => v.category).sum ≤ 8) (hdg : decode cc g.pc = .ok (.invokestatic index, 3)) (hf : cells + mc ≤ R.cells ∧ slots + ms ≤ R.slots) :
    vx_Run p l e R s m args below meth c H locs cells slots mc ms g rest (Qc As.toArray) XC free := by
  obtain ⟨⟨hrc, hrs, hfr, hlo, hws, hcw⟩, hcode, hini, hy, hlen, hl, hstt⟩ := cw
  have hK : vx_Back l R p e below s args y 3 8 (PreOf R mc ms Pc) (PostOf Qc mc ms free) (vx_Post XC mc ms free) := vx_backW (hh := hh) (bytes := bytes) (maxL := maxL) (ret := ret) hM hp.1 hrc hrs hfr hlo hws hcw (fun a' U hW => word_at hW (Or.inl (by first | rfl | simp [Cond.onTables, Cond.keeps, Cond.steady])) hini)
  obtain ⟨hx, hb, hml, ho, -⟩ := S
  intro T hT X
  rcases vx_callSX X hx (hh := hh) (bytes := bytes) (maxL := maxL) (ret := ret) ho hl hstt hini hcode hy hK hg (hsize.trans hml.symm) (argsL := As) (rest := rest) (fun sig h => hn.trans (hlen sig h)) hstack hW (by rw [hb]; exact hdg)
    (fun vm₁ hW₁ => ⟨hf.1, hf.2, hp.2 (T.setVm vm₁) hT hW₁⟩) with ⟨v, vm₁, ⟨U', l2, c2, s2⟩, hW₁, X', ⟨g', mk, t, L, e1, e2, hq, h1, hL, h2, h3⟩, st⟩ | ⟨q, vm₁, ⟨U', l2, c2, s2⟩, hW₁, X', ⟨g', mk, t, L, E, ce, e1, e2, hq, hce, hcv, hcl, h1, hL, h2, h3⟩, st⟩
  · dsimp only [Pt.U, Pt.locs, Pt.cells, Pt.slots] at X' e1 e2 h1 h2 h3 st
    subst h1; subst h2; subst h3
    exact Or.inl ⟨v, (T.setVm vm₁).calling g' mk As.toArray, t, U', L, hT, X', hL, e1, e2, hq, st⟩
  · dsimp only [Pt.U, Pt.locs, Pt.cells, Pt.slots] at X' e1 e2 h1 h2 h3 st hcl
    subst h1; subst h2; subst h3
    exact Or.inr ⟨q, (T.setVm vm₁).calling g' mk As.toArray, t, U', L, E, ce, hT, X', hL, e1, e2, hq, hce, hcv, vx_cls hW₁ hcl, st⟩
end
end VXH
theorem vx_ofWH {l : Launch} {y : MethodName} {ws ws' : List Cond} {rm : Room} {Pc : Array Value → State → Prop} {Qc : Array Value → State → Outcome → State → Prop} {XC : String → State → State → Prop} {mc ms : Nat} {free : Addr → Prop} {cc : ByteArray} {maxL : Nat} {ret : Option FieldType} {hh : List (Nat × Nat × Nat × Nat)}
    (hy : plainName y.cls = true) (hw : ws = Cond.codeWith y cc maxL ret hh :: ws')
    (body : ∀ p e s m args below meth c s₁, BodyLoose p l y (headSpec ws rm) cc maxL ret e s m args below meth c s₁ → c.maxLocals = maxL → Pc args s →
      W p l e (headSpec ws rm).room s m args below meth c s.heap [] 0 0 (vx_MQ below Qc XC args s mc ms free) (entryFrame m args maxL)) : vx_Met l y ws rm Pc Qc XC mc ms free := by
  refine MetFree.of_bodyS (code := cc) (maxLocals := maxL) (ret := ret) hy ?_ ?_
  · intro args s m h hn
    obtain ⟨m9, meth, c, hn9, h1, h2, h3, h4, -, h5, h6, -⟩ := Cond.codeWith_spec (atoms_spec (ws := ws) h _ (by rw [hw]; exact List.mem_cons_self))
    cases hn.symm.trans hn9
    exact ⟨meth, c, h1, h2, h3, h4, h5, h6⟩
  · intro p e s m args below meth c s₁ B hml hP _
    have hh0 : s₁.heap = s.heap := by rw [B.state]; rfl
    obtain ⟨t, a1, o, b1, b2, b3⟩ := body p e s m args below meth c s₁ B hml hP s₁ hh0 (Stand.of_body B)
    exact ⟨t, o, a1, b1, b2, b3⟩
/-! ===== END ===== -/
end
section
def yC0 : String := "MonitorYard"
def yT0 : u_T := fun k => match k with
  | 0 => ("MonitorYard", "threads", "[LMonitorYard$YardThread;", true)
  | 1 => ("MonitorYard", "places", "[LMonitorYard$Place;", true)
  | 2 => ("MonitorYard", "placeCount", "I", false)
  | _ => ("MonitorYard", "ticks", "I", false)
def yF0 : Nat → FieldType := fun k => match k with
  | 0 => .array (.object "MonitorYard$YardThread")
  | 1 => .array (.object "MonitorYard$Place")
  | 2 => .int
  | _ => .int
def yC1 : String := "MonitorYard$YardThread"
def yT1 : u_T := fun k => match k with
  | 0 => ("MonitorYard$YardThread", "number", "I", true)
  | 1 => ("MonitorYard$YardThread", "ended", "[I", true)
  | 2 => ("MonitorYard$YardThread", "state", "I", false)
  | 3 => ("MonitorYard$YardThread", "outcome", "I", false)
  | 4 => ("MonitorYard$YardThread", "place", "LMonitorYard$Place;", false)
  | 5 => ("MonitorYard$YardThread", "value", "I", false)
  | 6 => ("MonitorYard$YardThread", "marked", "Z", false)
  | 7 => ("MonitorYard$YardThread", "patience", "I", false)
  | 8 => ("MonitorYard$YardThread", "act", "I", false)
  | 9 => ("MonitorYard$YardThread", "arg", "I", false)
  | 10 => ("MonitorYard$YardThread", "timesHeld", "I", false)
  | _ => ("MonitorYard$YardThread", "outcomeWhenGranted", "I", false)
def yF1 : Nat → FieldType := fun k => match k with
  | 0 => .int
  | 1 => .array (.int)
  | 2 => .int
  | 3 => .int
  | 4 => .object "MonitorYard$Place"
  | 5 => .int
  | 6 => .boolean
  | 7 => .int
  | 8 => .int
  | 9 => .int
  | 10 => .int
  | _ => .int
def yC2 : String := "MonitorYard$Row"
def yT2 : u_T := fun k => match k with
  | 0 => ("MonitorYard$Row", "threads", "[LMonitorYard$YardThread;", true)
  | _ => ("MonitorYard$Row", "length", "I", false)
def yF2 : Nat → FieldType := fun k => match k with
  | 0 => .array (.object "MonitorYard$YardThread")
  | _ => .int
def yC3 : String := "MonitorYard$Lock"
def yT3 : u_T := fun k => match k with
  | 0 => ("MonitorYard$Place", "kind", "I", true)
  | 1 => ("MonitorYard$Place", "number", "I", true)
  | 2 => ("MonitorYard$Place", "row", "LMonitorYard$Row;", true)
  | 3 => ("MonitorYard$Lock", "condition0", "LMonitorYard$Row;", true)
  | 4 => ("MonitorYard$Lock", "condition1", "LMonitorYard$Row;", true)
  | 5 => ("MonitorYard$Lock", "holder", "LMonitorYard$YardThread;", false)
  | _ => ("MonitorYard$Lock", "timesHeld", "I", false)
def yF3 : Nat → FieldType := fun k => match k with
  | 0 => .int
  | 1 => .int
  | 2 => .object "MonitorYard$Row"
  | 3 => .object "MonitorYard$Row"
  | 4 => .object "MonitorYard$Row"
  | 5 => .object "MonitorYard$YardThread"
  | _ => .int
def yC4 : String := "MonitorYard$Book"
def yT4 : u_T := fun k => match k with
  | 0 => ("MonitorYard$Place", "kind", "I", true)
  | 1 => ("MonitorYard$Place", "number", "I", true)
  | 2 => ("MonitorYard$Place", "row", "LMonitorYard$Row;", true)
  | 3 => ("MonitorYard$Book", "readsOf", "[I", true)
  | 4 => ("MonitorYard$Book", "reads", "I", false)
  | 5 => ("MonitorYard$Book", "writer", "LMonitorYard$YardThread;", false)
  | _ => ("MonitorYard$Book", "writes", "I", false)
def yF4 : Nat → FieldType := fun k => match k with
  | 0 => .int
  | 1 => .int
  | 2 => .object "MonitorYard$Row"
  | 3 => .array (.int)
  | 4 => .int
  | 5 => .object "MonitorYard$YardThread"
  | _ => .int
def yC5 : String := "MonitorYard$Semaphore"
def yT5 : u_T := fun k => match k with
  | 0 => ("MonitorYard$Place", "kind", "I", true)
  | 1 => ("MonitorYard$Place", "number", "I", true)
  | 2 => ("MonitorYard$Place", "row", "LMonitorYard$Row;", true)
  | _ => ("MonitorYard$Semaphore", "permits", "I", false)
def yF5 : Nat → FieldType := fun k => match k with
  | 0 => .int
  | 1 => .int
  | 2 => .object "MonitorYard$Row"
  | _ => .int
def yC6 : String := "MonitorYard$Latch"
def yT6 : u_T := fun k => match k with
  | 0 => ("MonitorYard$Place", "kind", "I", true)
  | 1 => ("MonitorYard$Place", "number", "I", true)
  | 2 => ("MonitorYard$Place", "row", "LMonitorYard$Row;", true)
  | _ => ("MonitorYard$Latch", "height", "I", false)
def yF6 : Nat → FieldType := fun k => match k with
  | 0 => .int
  | 1 => .int
  | 2 => .object "MonitorYard$Row"
  | _ => .int
def yC7 : String := "MonitorYard$Barrier"
def yT7 : u_T := fun k => match k with
  | 0 => ("MonitorYard$Place", "kind", "I", true)
  | 1 => ("MonitorYard$Place", "number", "I", true)
  | 2 => ("MonitorYard$Place", "row", "LMonitorYard$Row;", true)
  | 3 => ("MonitorYard$Barrier", "size", "I", true)
  | _ => ("MonitorYard$Barrier", "broken", "Z", false)
def yF7 : Nat → FieldType := fun k => match k with
  | 0 => .int
  | 1 => .int
  | 2 => .object "MonitorYard$Row"
  | 3 => .int
  | _ => .boolean
def yC8 : String := "MonitorYard$Queue"
def yT8 : u_T := fun k => match k with
  | 0 => ("MonitorYard$Place", "kind", "I", true)
  | 1 => ("MonitorYard$Place", "number", "I", true)
  | 2 => ("MonitorYard$Place", "row", "LMonitorYard$Row;", true)
  | 3 => ("MonitorYard$Queue", "ints", "[I", true)
  | _ => ("MonitorYard$Queue", "length", "I", false)
def yF8 : Nat → FieldType := fun k => match k with
  | 0 => .int
  | 1 => .int
  | 2 => .object "MonitorYard$Row"
  | 3 => .array (.int)
  | _ => .int
def yC9 : String := "MonitorYardModel"
def yT9 : u_T := fun k => match k with
  | 0 => ("MonitorYardModel", "state", "[I", true)
  | 1 => ("MonitorYardModel", "outcome", "[I", true)
  | 2 => ("MonitorYardModel", "where", "[I", true)
  | 3 => ("MonitorYardModel", "value", "[I", true)
  | 4 => ("MonitorYardModel", "patience", "[I", true)
  | 5 => ("MonitorYardModel", "doing", "[I", true)
  | 6 => ("MonitorYardModel", "with", "[I", true)
  | 7 => ("MonitorYardModel", "often", "[I", true)
  | 8 => ("MonitorYardModel", "then", "[I", true)
  | 9 => ("MonitorYardModel", "marked", "[Z", true)
  | 10 => ("MonitorYardModel", "again", "[Z", true)
  | 11 => ("MonitorYardModel", "kind", "[I", true)
  | 12 => ("MonitorYardModel", "size", "[I", true)
  | 13 => ("MonitorYardModel", "amount", "[I", true)
  | 14 => ("MonitorYardModel", "holder", "[I", true)
  | 15 => ("MonitorYardModel", "rowSize", "[I", true)
  | 16 => ("MonitorYardModel", "row", "[I", true)
  | 17 => ("MonitorYardModel", "conditionSize", "[I", true)
  | 18 => ("MonitorYardModel", "condition", "[I", true)
  | 19 => ("MonitorYardModel", "reads", "[I", true)
  | 20 => ("MonitorYardModel", "queue", "[I", true)
  | 21 => ("MonitorYardModel", "ended", "[I", true)
  | 22 => ("MonitorYardModel", "broken", "[Z", true)
  | 23 => ("MonitorYardModel", "objects", "I", false)
  | 24 => ("MonitorYardModel", "ticks", "I", false)
  | 25 => ("MonitorYardModel", "last", "I", false)
  | _ => ("MonitorYardModel", "thrown", "I", false)
def yF9 : Nat → FieldType := fun k => match k with
  | 0 => .array (.int)
  | 1 => .array (.int)
  | 2 => .array (.int)
  | 3 => .array (.int)
  | 4 => .array (.int)
  | 5 => .array (.int)
  | 6 => .array (.int)
  | 7 => .array (.int)
  | 8 => .array (.int)
  | 9 => .array (.boolean)
  | 10 => .array (.boolean)
  | 11 => .array (.int)
  | 12 => .array (.int)
  | 13 => .array (.int)
  | 14 => .array (.int)
  | 15 => .array (.int)
  | 16 => .array (.int)
  | 17 => .array (.int)
  | 18 => .array (.int)
  | 19 => .array (.int)
  | 20 => .array (.int)
  | 21 => .array (.int)
  | 22 => .array (.boolean)
  | 23 => .int
  | 24 => .int
  | 25 => .int
  | _ => .int
/-- the classes whose objects the world holds -/
abbrev ycl : List vw_C := [(yC0, yT0, 4), (yC1, yT1, 12), (yC2, yT2, 2), (yC3, yT3, 7), (yC4, yT4, 7), (yC5, yT5, 4), (yC6, yT6, 4), (yC7, yT7, 5), (yC8, yT8, 5), (yC9, yT9, 27)]
/-- a field's type; whether it holds a reference -/
def yft (ci f : Nat) : FieldType := match ci with
  | 0 => yF0 f
  | 1 => yF1 f
  | 2 => yF2 f
  | 3 => yF3 f
  | 4 => yF4 f
  | 5 => yF5 f
  | 6 => yF6 f
  | 7 => yF7 f
  | 8 => yF8 f
  | _ => yF9 f
def yrt (t : FieldType) : Bool := match t with
  | .object _ => true
  | .array _ => true
  | _ => false
def yfk (ci f : Nat) : Bool := yrt (yft ci f)
def yty (tc : Nat) : FieldType := match tc with
  | 0 => .int
  | 1 => .boolean
  | 2 => .long
  | 3 => .object "MonitorYard$YardThread"
  | _ => .object "MonitorYard$Place"
def ysC : String := "MonitorYard"
def ysn : String := "KIND_OF_ACT"
def ysN : Nat := 17
def yst (j : Nat) : Int32 := match j with
  | 0 => 0
  | 1 => 0
  | 2 => 0
  | 3 => 0
  | 4 => 0
  | 5 => 1
  | 6 => 1
  | 7 => 1
  | 8 => 1
  | 9 => 2
  | 10 => 2
  | 11 => 3
  | 12 => 3
  | 13 => 4
  | 14 => 4
  | 15 => 5
  | _ => 5
end
section
/-! the small logic: abstract values; a world of numbered cells (shape, ints, references); one judgement yWW; a row an instruction -/
abbrev yV : Type := Int32 ⊕ (Option Nat ⊕ Int64)
abbrev yi (x : Int32) : yV := Sum.inl x
abbrev yo (o : Option Nat) : yV := Sum.inr (Sum.inl o)
abbrev yr (k : Nat) : yV := Sum.inr (Sum.inl (some k))
abbrev yn : yV := Sum.inr (Sum.inl none)
abbrev yl (z : Int64) : yV := Sum.inr (Sum.inr z)
def ycv (ad : Nat → Nat) (v : yV) : Value := match v with
  | .inl x => .int x
  | .inr (.inl o) => va_rf (o.map ad)
  | .inr (.inr z) => .long z
/-- a shape: an object of a class by its number, or an array (type code, length) -/
abbrev ySh : Type := Nat ⊕ (Nat × Nat)
abbrev yW : Type := (Nat → Option ySh) × (Nat → Nat → Int32) × (Nat → Nat → Option Nat)
/-- what is fixed: the launch, the heap's size at the law's start, the classes' numbers and slots, the array classes, the address of the static table -/
abbrev yG : Type := Launch × Nat × va_G × (Nat → ClassId) × Nat
abbrev yGl (G : yG) : Launch := G.1
abbrev yGb (G : yG) : Nat := G.2.1
abbrev yD (G : yG) : va_G := G.2.2.1
abbrev ycA (G : yG) : Nat → ClassId := G.2.2.2.1
abbrev ytK (G : yG) : Nat := G.2.2.2.2
def yA (G : yG) : Nat → Prop := fun q => yGb G ≤ q
def yfv (ad : Nat → Nat) (ci i : Nat) (x : Int32) (f : Option Nat) : Value := if yfk ci i = true then ycv ad (yo f) else .int x
def yev (ad : Nat → Nat) (tc : Nat) (x : Int32) (f : Option Nat) : Value := match tc with
  | 0 => .int x
  | 1 => .int x
  | 2 => .long x.toInt64
  | _ => ycv ad (yo f)
def yOK (G : yG) (ad : Nat → Nat) (sp : ySh) (a : Nat) (S : Nat → Int32) (F : Nat → Option Nat) (H : Heap) : Prop := match sp with
  | .inl ci => ∃ r : vw_C, ycl[ci]? = some r ∧ t_OB a ((yD G).1 ci) r.2.2 ((yD G).2 ci) H (fun i => yfv ad ci i (S i) (F i))
  | .inr q => H[a]? = some (arrV (ycA G q.1) q.2 (fun i => yev ad q.1 (S i) (F i)))
def yH (G : yG) (ad : Nat → Nat) (ω : yW) (H : Heap) : Prop := (∀ k k' : Nat, ω.1 k ≠ none → ω.1 k' ≠ none → ad k = ad k' → k = k') ∧ ∀ (k : Nat) (sp : ySh), ω.1 k = some sp → yA G (ad k) ∧ yOK G ad sp (ad k) (ω.2.1 k) (ω.2.2 k) H
def yu {α : Type} (S : Nat → Nat → α) (k i : Nat) (v : α) : Nat → Nat → α := fun k' i' => if k' = k ∧ i' = i then v else S k' i'
def ysi (ω : yW) (k i : Nat) (x : Int32) : yW := (ω.1, yu ω.2.1 k i x, ω.2.2)
def ysf (ω : yW) (k i : Nat) (o : Option Nat) : yW := (ω.1, ω.2.1, yu ω.2.2 k i o)
/-- a new cell under the number k -/
def yadd (ω : yW) (k : Nat) (sp : ySh) : yW := (va_up ω.1 k (some sp), va_up ω.2.1 k (fun _ => 0), va_up ω.2.2 k (fun _ => none))
theorem yu_same {α : Type} (S : Nat → Nat → α) (k i : Nat) (v : α) : yu S k i v k i = v := by simp [yu]
theorem yu_ne {α : Type} (S : Nat → Nat → α) {k i k' i' : Nat} (v : α) (h : k' ≠ k ∨ i' ≠ i) : yu S k i v k' i' = S k' i' := by
  unfold yu
  rw [if_neg]
  rintro ⟨a, b⟩
  rcases h with h | h
  · exact h a
  · exact h b
theorem yOK.kept {G : yG} {ad : Nat → Nat} {sp : ySh} {a : Nat} {S : Nat → Int32} {F : Nat → Option Nat} {H H1 : Heap} (h : yOK G ad sp a S F H) (hq : H1[a]? = H[a]?) : yOK G ad sp a S F H1 := by
  cases sp with
  | inl ci =>
    obtain ⟨r, h1, h2⟩ := h
    exact ⟨r, h1, h2.kept hq⟩
  | inr q => exact hq.trans h
theorem yOK.lt {G : yG} {ad : Nat → Nat} {sp : ySh} {a : Nat} {S : Nat → Int32} {F : Nat → Option Nat} {H : Heap} (h : yOK G ad sp a S F H) : a < H.size := by
  cases sp with
  | inl ci =>
    obtain ⟨r, h1, cell, h2, -⟩ := h
    exact (Array.getElem?_eq_some_iff.mp h2).1
  | inr q => exact (Array.getElem?_eq_some_iff.mp h).1
theorem yH_set {G : yG} {ad : Nat → Nat} {ω ω' : yW} {H H1 : Heap} {k : Nat} {sp : ySh} (h : yH G ad ω H) (hk : ω.1 k = some sp) (hs : ω'.1 = ω.1) (ho : ∀ j, j ≠ k → ω'.2.1 j = ω.2.1 j ∧ ω'.2.2 j = ω.2.2 j)
    (hc : yOK G ad sp (ad k) (ω'.2.1 k) (ω'.2.2 k) H1) (oq : ∀ q : Nat, q ≠ ad k → H1[q]? = H[q]?) : yH G ad ω' H1 := by
  refine ⟨by rw [hs]; exact h.1, fun j sj hj => ?_⟩
  rw [hs] at hj
  refine ⟨(h.2 j sj hj).1, ?_⟩
  by_cases e : j = k
  · subst e
    cases hk.symm.trans hj
    exact hc
  · rw [(ho j e).1, (ho j e).2]
    exact (h.2 j sj hj).2.kept (oq _ (fun z => e (h.1 j k (by rw [hj]; exact fun q => nomatch q) (by rw [hk]; exact fun q => nomatch q) z)))
/-- words that stand through a method: good ones, and those of nest mates -/
def yNs : Cond → Bool
  | .fieldLinkNest .. => true
  | .methodLinkNest .. => true
  | .declares _ => true
  | .castable .. => true
  | .privateMethod _ => true
  | .arrayOver (.object _) => true
  | _ => false
def ynw (w : Cond) : Bool := goodWord w || yNs w
def yGx (U : State) : Prop := ∀ w ∈ lw_tbl, ynw w = true → ∀ a : Array Value, w.before a U = true
theorem yGx.warm {U U' : State} (h : yGx U) (hW : U.WarmedH U'.vm) : yGx U' := by
  intro w hw hn a
  have h1 := h w hw hn
  by_cases hg : goodWord w = true
  · exact word_at hW (good_of_word hg) (h1 #[])
  · have h2 : yNs w = true := by
      unfold ynw at hn
      rw [Bool.or_eq_true] at hn
      exact hn.resolve_left hg
    unfold yNs at h2
    split at h2
    · exact va_Nw.use rfl (va_Nw.warmF hW (h1 #[]))
    · exact va_Nw.use rfl (va_Nw.warmM hW (h1 #[]))
    · exact va_Nw.use rfl (va_Nw.warmD hW (h1 #[]))
    · exact va_Nw.use rfl (va_Nw.warmC hW (h1 #[]))
    · exact va_Nw.use rfl (va_tabs (A := #[]) (A' := #[]) rfl (rfl : (U.setVm U'.vm).vm = U'.vm) (by rw [Cond.privateMethod_setVm hW.alike]; exact h1 #[]))
    · exact va_AO.use (va_AO.moved hW.alike (h1 #[]))
    · cases h2
def yK (G : yG) (U : State) : Prop := va_K (yD G) ycl [(ycA G 0, yty 0), (ycA G 1, yty 1), (ycA G 2, yty 2), (ycA G 3, yty 3), (ycA G 4, yty 4)] U
/-- the statics that are read: the table of kinds; what a throw reads -/
def ySt (G : yG) (U : State) (H : Heap) : Prop := vx_Zq Bundle.tN "UNASSIGNED_STACK" Bundle.steD (yA G) U H ∧ vx_Zq Bundle.tN "SUPPRESSED_SENTINEL" Bundle.listD (yA G) U H ∧ va_Z ysC ysn "[I" (.ref (ytK G)) (yA G) U H ∧ va_T .int (ytK G) ysN (fun j => .int (yst j)) (yA G) U H
theorem ySt.moved {G : yG} {u U : State} {H : Heap} (hvm : u.vm.Alike U.vm) (h : ySt G u H) : ySt G U H := ⟨h.1.moved hvm, h.2.1.moved hvm, h.2.2.1.moved hvm, h.2.2.2.moved hvm⟩
theorem ySt.kept {G : yG} {U : State} {H H1 : Heap} (h : ySt G U H) (hq : ∀ a : Nat, a < H.size → ¬ yA G a → H1[a]? = H[a]?) : ySt G U H1 := ⟨h.1.kept hq, h.2.1.kept hq, h.2.2.1.kept hq, h.2.2.2.kept hq⟩
/-- a method: name, code, locals, answer, room, handlers -/
abbrev yM : Type := MethodName × ByteArray × Nat × Option FieldType × Room × List (Nat × Nat × Nat × Nat)
abbrev yMy (i : yM) : MethodName := i.1
abbrev yMb (i : yM) : ByteArray := i.2.1
abbrev yMl (i : yM) : Nat := i.2.2.1
abbrev yMr (i : yM) : Option FieldType := i.2.2.2.1
abbrev yMm (i : yM) : Room := i.2.2.2.2.1
abbrev yMh (i : yM) : List (Nat × Nat × Nat × Nat) := i.2.2.2.2.2
/-- what a method's body may use of the machine -/
def yCx (G : yG) (i : yM) (p : Program) (s : State) (m : MethodId) (meth : Method) (c : Code) : Prop :=
  p.tables.exec = Jvm.exec ∧ c.code = yMb i ∧ meth.sig.returnType = yMr i ∧ c.maxLocals = yMl i ∧ s.vm.findClass (yMy i).cls = some m.cls ∧ meth.locks = false ∧ meth.name = (yMy i).name ∧ yGx s ∧ yK G s ∧ ySt G s s.heap ∧ yGb G ≤ s.heap.size ∧ c.exceptionTable.toList = tableOf (yMh i)
/-- the locals: what is known of them -/
def yLv (ad : Nat → Nat) (n : Nat) (lsA : Array Slot) (ls : List (Option yV)) : Prop := ∃ l : List (Nat × Value), lv_has lsA n l ∧ ls.length = n ∧ ∀ (j : Nat) (v : yV), ls[j]? = some (some v) → (j, ycv ad v) ∈ l ∧ (ycv ad v).category = 1
theorem yLv.get {ad : Nat → Nat} {n : Nat} {lsA : Array Slot} {ls : List (Option yV)} (h : yLv ad n lsA ls) {j : Nat} {v : yV} (hj : ls[j]? = some (some v)) : lsA[j]? = some (.val (ycv ad v)) := by
  obtain ⟨l, h1, -, h3⟩ := h
  exact h1.2.2 _ (h3 j v hj).1
theorem yLv.size {ad : Nat → Nat} {n : Nat} {lsA : Array Slot} {ls : List (Option yV)} (h : yLv ad n lsA ls) : lsA.size = n := by
  obtain ⟨l, h1, -⟩ := h
  exact h1.1
theorem yLv.put {ad : Nat → Nat} {n : Nat} {ls : List (Option yV)} {l : List (Nat × Value)} (h2 : ls.length = n) (h3 : ∀ (j : Nat) (v : yV), ls[j]? = some (some v) → (j, ycv ad v) ∈ l ∧ (ycv ad v).category = 1) {j : Nat} {v : yV} (hv : (ycv ad v).category = 1) {lsA' : Array Slot}
    (h' : lv_has lsA' n ((j, ycv ad v) :: l.filter (fun q => !(q.1 == j) && !(q.1 + 1 == j && q.2.category == 2)))) : yLv ad n lsA' (ls.set j (some v)) := by
  refine ⟨_, h', by rw [List.length_set]; exact h2, fun q w hq => ?_⟩
  by_cases e : q = j
  · subst e
    have hl : q < ls.length := by
      have := (List.getElem?_eq_some_iff.mp hq).1
      rwa [List.length_set] at this
    rw [List.getElem?_set_self hl] at hq
    cases hq
    exact ⟨List.mem_cons_self, hv⟩
  · rw [List.getElem?_set_ne (Ne.symm e)] at hq
    obtain ⟨a1, a2⟩ := h3 q w hq
    refine ⟨List.mem_cons_of_mem _ (List.mem_filter.mpr ⟨a1, ?_⟩), a2⟩
    simp [e, a2]
theorem yLv.ext {ad ad' : Nat → Nat} {n : Nat} {lsA : Array Slot} {ls : List (Option yV)} (h : yLv ad n lsA ls) (he : ∀ (j : Nat) (v : yV), ls[j]? = some (some v) → ycv ad' v = ycv ad v) : yLv ad' n lsA ls := by
  obtain ⟨l, h1, h2, h3⟩ := h
  exact ⟨l, h1, h2, fun j v hj => by rw [he j v hj]; exact h3 j v hj⟩
abbrev yQT : Type := List Frame → Array Value → State → (Nat → Nat) → State → Prop
def yWW (G : yG) (i : yM) (Qf : yQT) (sh0 : Nat → Option ySh) (pc : Nat) (ls : List (Option yV)) (st : List yV) (ω : yW) (cs sl : Nat) : Prop :=
  ∀ (p : Program) (e : Env) (s : State) (m : MethodId) (args : Array Value) (below : List Frame) (meth : Method) (c : Code) (ad0 ad : Nat → Nat) (H : Heap) (locs : List Loc) (lsA : Array Slot),
    yCx G i p s m meth c → (∀ k, (sh0 k ≠ none ∨ ω.1 k = none) → ad k = ad0 k) → va_S (yA G) s.heap H locs → yH G ad ω H → yLv ad (yMl i) lsA ls →
    W p (yGl G) e (yMm i) s m args below meth c H locs cs sl (Qf below args s ad0) (F0 m pc lsA (st.map (ycv ad)))
def yPc (G : yG) (ad0 : Nat → Nat) (As : List yV) (ω : yW) : Array Value → State → Prop := fun v U => v = (As.map (ycv ad0)).toArray ∧ yGx U ∧ yK G U ∧ ySt G U U.heap ∧ yGb G ≤ U.heap.size ∧ yH G ad0 ω U.heap
def yQc (G : yG) (ad0 : Nat → Nat) (sh0 : Nat → Option ySh) (P : Option yV → yW → Prop) : Array Value → State → Outcome → State → Prop := fun _ st o t =>
  ∃ (r : Option yV) (ad : Nat → Nat) (ω : yW), o = .returned (r.map (ycv ad)) ∧ P r ω ∧ (∀ k, (sh0 k ≠ none ∨ ω.1 k = none) → ad k = ad0 k) ∧ yH G ad ω t.heap ∧ va_F (yA G) st t
def yXc (G : yG) (ad0 : Nat → Nat) (sh0 : Nat → Option ySh) (X : String → yW → Prop) : String → State → State → Prop := fun E st t =>
  ∃ (ad : Nat → Nat) (ω : yW), X E ω ∧ (∀ k, (sh0 k ≠ none ∨ ω.1 k = none) → ad k = ad0 k) ∧ yH G ad ω t.heap ∧ va_F (yA G) st t
def yQf (G : yG) (i : yM) (sh0 : Nat → Option ySh) (P : Option yV → yW → Prop) (X : String → yW → Prop) : yQT := fun below args s ad0 => vx_MQ below (yQc G ad0 sh0 P) (yXc G ad0 sh0 X) args s (yMm i).cells (yMm i).slots (yA G)
/-- a method's contract at these arguments and this world -/
def yCT (G : yG) (i : yM) (As : List yV) (ω : yW) (P : Option yV → yW → Prop) (X : String → yW → Prop) : Prop := ∀ ad0 : Nat → Nat,
  vx_Met (yGl G) (yMy i) [.code (yMy i) (yMb i) (yMl i) (yMr i)] (yMm i) (yPc G ad0 As ω) (yQc G ad0 ω.1 P) (yXc G ad0 ω.1 X) (yMm i).cells (yMm i).slots (yA G)
abbrev yNX : String → yW → Prop := fun _ _ => False

section YROWS
variable {G : yG} {i : yM} {Qf : yQT} {sh0 : Nat → Option ySh} {pc : Nat} {ls : List (Option yV)} {st : List yV} {ω : yW} {cs sl : Nat}

theorem yr_iconst {n : Int} {v : Int32} (hd : decode (yMb i) pc = .ok (.iconst n, 1)) (hv : Int32.ofInt n = v) (k : yWW G i Qf sh0 (pc + 1) ls (yi v :: st) ω cs sl) : yWW G i Qf sh0 pc ls (st) ω cs sl := by
  intro p e s m args below meth c ad0 ad H locs lsA C hE hS hH hL
  exact lv_iconst C.1 C.2.1 hd hv (k p e s m args below meth c ad0 ad H locs lsA C hE hS hH hL)

theorem yr_bipush {n : Int} {v : Int32} (hd : decode (yMb i) pc = .ok (.bipush n, 2)) (hv : (Int8.ofInt n).toInt32 = v) (k : yWW G i Qf sh0 (pc + 2) ls (yi v :: st) ω cs sl) : yWW G i Qf sh0 pc ls (st) ω cs sl := by
  intro p e s m args below meth c ad0 ad H locs lsA C hE hS hH hL
  exact lv_bipush C.1 C.2.1 hd hv (k p e s m args below meth c ad0 ad H locs lsA C hE hS hH hL)

theorem yr_null (hd : decode (yMb i) pc = .ok (.aconst_null, 1)) (k : yWW G i Qf sh0 (pc + 1) ls (yn :: st) ω cs sl) : yWW G i Qf sh0 pc ls (st) ω cs sl := by
  intro p e s m args below meth c ad0 ad H locs lsA C hE hS hH hL
  exact lv_null C.1 C.2.1 hd (k p e s m args below meth c ad0 ad H locs lsA C hE hS hH hL)

theorem yr_iload_n {j : Fin 4} {x : Int32} (hd : decode (yMb i) pc = .ok (.iload_n j, 1)) (hl : ls[j.val]? = some (some (yi x))) (k : yWW G i Qf sh0 (pc + 1) ls (yi x :: st) ω cs sl) : yWW G i Qf sh0 pc ls (st) ω cs sl := by
  intro p e s m args below meth c ad0 ad H locs lsA C hE hS hH hL
  exact lv_iload_n C.1 C.2.1 hd rfl (hL.get hl) (k p e s m args below meth c ad0 ad H locs lsA C hE hS hH hL)

theorem yr_iload {j : Nat} {x : Int32} (hd : decode (yMb i) pc = .ok (.iload j, 2)) (hl : ls[j]? = some (some (yi x))) (k : yWW G i Qf sh0 (pc + 2) ls (yi x :: st) ω cs sl) : yWW G i Qf sh0 pc ls (st) ω cs sl := by
  intro p e s m args below meth c ad0 ad H locs lsA C hE hS hH hL
  exact lv_iload C.1 C.2.1 hd (hL.get hl) (k p e s m args below meth c ad0 ad H locs lsA C hE hS hH hL)

theorem yr_aload_n {j : Fin 4} {o : Option Nat} (hd : decode (yMb i) pc = .ok (.aload_n j, 1)) (hl : ls[j.val]? = some (some (yo o))) (k : yWW G i Qf sh0 (pc + 1) ls (yo o :: st) ω cs sl) : yWW G i Qf sh0 pc ls st ω cs sl := by
  intro p e s m args below meth c ad0 ad H locs lsA C hE hS hH hL
  have kk := (k p e s m args below meth c ad0 ad H locs lsA C hE hS hH hL)
  have hg := hL.get hl
  cases o with
  | none => exact lv_aload_nN C.1 C.2.1 hd rfl hg kk
  | some a => exact lv_aload_n C.1 C.2.1 hd rfl hg kk

theorem yr_aload {j : Nat} {o : Option Nat} (hd : decode (yMb i) pc = .ok (.aload j, 2)) (hl : ls[j]? = some (some (yo o))) (k : yWW G i Qf sh0 (pc + 2) ls (yo o :: st) ω cs sl) : yWW G i Qf sh0 pc ls st ω cs sl := by
  intro p e s m args below meth c ad0 ad H locs lsA C hE hS hH hL
  have kk := (k p e s m args below meth c ad0 ad H locs lsA C hE hS hH hL)
  have hg := hL.get hl
  cases o with
  | none => exact lv_aloadN C.1 C.2.1 hd hg kk
  | some a => exact lv_aload C.1 C.2.1 hd hg kk

theorem yr_istore_n {j : Fin 4} {x : Int32} {ls' : List (Option yV)} (hd : decode (yMb i) pc = .ok (.istore_n j, 1)) (hj : j.val < yMl i) (hs : ls.set j.val (some (yi x)) = ls') (k : yWW G i Qf sh0 (pc + 1) ls' st ω cs sl) : yWW G i Qf sh0 pc ls (yi x :: st) ω cs sl := by
  intro p e s m args below meth c ad0 ad H locs lsA C hE hS hH hL
  subst hs
  obtain ⟨l, h1, h2, h3⟩ := hL
  exact lv_istore_n C.1 C.2.1 hd rfl h1 hj rfl (fun lsA h => k p e s m args below meth c ad0 ad H locs lsA C hE hS hH (yLv.put h2 h3 (v := yi x) rfl h))

theorem yr_istore {j : Nat} {x : Int32} {ls' : List (Option yV)} (hd : decode (yMb i) pc = .ok (.istore j, 2)) (hj : j < yMl i) (hs : ls.set j (some (yi x)) = ls') (k : yWW G i Qf sh0 (pc + 2) ls' st ω cs sl) : yWW G i Qf sh0 pc ls (yi x :: st) ω cs sl := by
  intro p e s m args below meth c ad0 ad H locs lsA C hE hS hH hL
  subst hs
  obtain ⟨l, h1, h2, h3⟩ := hL
  exact lv_istore C.1 C.2.1 hd h1 hj rfl (fun lsA h => k p e s m args below meth c ad0 ad H locs lsA C hE hS hH (yLv.put h2 h3 (v := yi x) rfl h))

theorem yr_astore_n {j : Fin 4} {o : Option Nat} {ls' : List (Option yV)} (hd : decode (yMb i) pc = .ok (.astore_n j, 1)) (hj : j.val < yMl i) (hs : ls.set j.val (some (yo o)) = ls') (k : yWW G i Qf sh0 (pc + 1) ls' st ω cs sl) : yWW G i Qf sh0 pc ls (yo o :: st) ω cs sl := by
  intro p e s m args below meth c ad0 ad H locs lsA C hE hS hH hL
  subst hs
  obtain ⟨l, h1, h2, h3⟩ := hL
  cases o with
  | none => exact lv_astore_nN C.1 C.2.1 hd rfl h1 hj rfl (fun lsA h => k p e s m args below meth c ad0 ad H locs lsA C hE hS hH (yLv.put h2 h3 (v := yn) rfl h))
  | some a => exact lv_astore_n C.1 C.2.1 hd rfl h1 hj rfl (fun lsA h => k p e s m args below meth c ad0 ad H locs lsA C hE hS hH (yLv.put h2 h3 (v := yr a) rfl h))

theorem yr_astore {j : Nat} {o : Option Nat} {ls' : List (Option yV)} (hd : decode (yMb i) pc = .ok (.astore j, 2)) (hj : j < yMl i) (hs : ls.set j (some (yo o)) = ls') (k : yWW G i Qf sh0 (pc + 2) ls' st ω cs sl) : yWW G i Qf sh0 pc ls (yo o :: st) ω cs sl := by
  intro p e s m args below meth c ad0 ad H locs lsA C hE hS hH hL
  subst hs
  obtain ⟨l, h1, h2, h3⟩ := hL
  cases o with
  | none => exact lv_astoreN C.1 C.2.1 hd h1 hj rfl (fun lsA h => k p e s m args below meth c ad0 ad H locs lsA C hE hS hH (yLv.put h2 h3 (v := yn) rfl h))
  | some a => exact lv_astore C.1 C.2.1 hd h1 hj rfl (fun lsA h => k p e s m args below meth c ad0 ad H locs lsA C hE hS hH (yLv.put h2 h3 (v := yr a) rfl h))

theorem yr_iinc {j : Nat} {n : Int} {x v : Int32} {ls' : List (Option yV)} (hd : decode (yMb i) pc = .ok (.iinc j n, 3)) (hl : ls[j]? = some (some (yi x))) (hv : x + Int32.ofInt n = v) (hj : j < yMl i) (hs : ls.set j (some (yi v)) = ls') (k : yWW G i Qf sh0 (pc + 3) ls' st ω cs sl) : yWW G i Qf sh0 pc ls st ω cs sl := by
  intro p e s m args below meth c ad0 ad H locs lsA C hE hS hH hL
  subst hs
  obtain ⟨l, h1, h2, h3⟩ := hL
  obtain ⟨q, hq⟩ := List.getElem?_of_mem (h3 j _ hl).1
  exact lv_iinc C.1 C.2.1 hd h1 hq hv hj rfl (fun lsA h => k p e s m args below meth c ad0 ad H locs lsA C hE hS hH (yLv.put h2 h3 (v := yi v) rfl h))

theorem yr_iadd {x y : Int32} (hd : decode (yMb i) pc = .ok (.iadd, 1)) (k : yWW G i Qf sh0 (pc + 1) ls (yi (x + y) :: st) ω cs sl) : yWW G i Qf sh0 pc ls (yi y :: yi x :: st) ω cs sl := by
  intro p e s m args below meth c ad0 ad H locs lsA C hE hS hH hL
  exact lv_iadd C.1 C.2.1 hd (k p e s m args below meth c ad0 ad H locs lsA C hE hS hH hL)

theorem yr_isub {x y : Int32} (hd : decode (yMb i) pc = .ok (.isub, 1)) (k : yWW G i Qf sh0 (pc + 1) ls (yi (x - y) :: st) ω cs sl) : yWW G i Qf sh0 pc ls (yi y :: yi x :: st) ω cs sl := by
  intro p e s m args below meth c ad0 ad H locs lsA C hE hS hH hL
  exact lv_isub C.1 C.2.1 hd (k p e s m args below meth c ad0 ad H locs lsA C hE hS hH hL)

theorem yr_imul {x y : Int32} (hd : decode (yMb i) pc = .ok (.imul, 1)) (k : yWW G i Qf sh0 (pc + 1) ls (yi (x * y) :: st) ω cs sl) : yWW G i Qf sh0 pc ls (yi y :: yi x :: st) ω cs sl := by
  intro p e s m args below meth c ad0 ad H locs lsA C hE hS hH hL
  exact lv_imul C.1 C.2.1 hd (k p e s m args below meth c ad0 ad H locs lsA C hE hS hH hL)

theorem yr_iand {x y : Int32} (hd : decode (yMb i) pc = .ok (.iand, 1)) (k : yWW G i Qf sh0 (pc + 1) ls (yi (x &&& y) :: st) ω cs sl) : yWW G i Qf sh0 pc ls (yi y :: yi x :: st) ω cs sl := by
  intro p e s m args below meth c ad0 ad H locs lsA C hE hS hH hL
  exact lv_iand C.1 C.2.1 hd (k p e s m args below meth c ad0 ad H locs lsA C hE hS hH hL)

theorem yr_ior {x y : Int32} (hd : decode (yMb i) pc = .ok (.ior, 1)) (k : yWW G i Qf sh0 (pc + 1) ls (yi (x ||| y) :: st) ω cs sl) : yWW G i Qf sh0 pc ls (yi y :: yi x :: st) ω cs sl := by
  intro p e s m args below meth c ad0 ad H locs lsA C hE hS hH hL
  exact lv_ior C.1 C.2.1 hd (k p e s m args below meth c ad0 ad H locs lsA C hE hS hH hL)

theorem yr_ishl {x y : Int32} (hd : decode (yMb i) pc = .ok (.ishl, 1)) (k : yWW G i Qf sh0 (pc + 1) ls (yi (x <<< (y &&& 31)) :: st) ω cs sl) : yWW G i Qf sh0 pc ls (yi y :: yi x :: st) ω cs sl := by
  intro p e s m args below meth c ad0 ad H locs lsA C hE hS hH hL
  exact lv_ishl C.1 C.2.1 hd (k p e s m args below meth c ad0 ad H locs lsA C hE hS hH hL)

theorem yr_ineg {x : Int32} (hd : decode (yMb i) pc = .ok (.ineg, 1)) (k : yWW G i Qf sh0 (pc + 1) ls (yi (-x) :: st) ω cs sl) : yWW G i Qf sh0 pc ls (yi x :: st) ω cs sl := by
  intro p e s m args below meth c ad0 ad H locs lsA C hE hS hH hL
  exact lv_ineg C.1 C.2.1 hd (k p e s m args below meth c ad0 ad H locs lsA C hE hS hH hL)

theorem yr_i2l {x : Int32} (hd : decode (yMb i) pc = .ok (.i2l, 1)) (k : yWW G i Qf sh0 (pc + 1) ls (yl x.toInt64 :: st) ω cs sl) : yWW G i Qf sh0 pc ls (yi x :: st) ω cs sl := by
  intro p e s m args below meth c ad0 ad H locs lsA C hE hS hH hL
  exact lv_i2l C.1 C.2.1 hd rfl (k p e s m args below meth c ad0 ad H locs lsA C hE hS hH hL)

theorem yr_dup {v : yV} (hd : decode (yMb i) pc = .ok (.dup, 1)) (hv : ∀ ad, (ycv ad v).category = 1) (k : yWW G i Qf sh0 (pc + 1) ls (v :: v :: st) ω cs sl) : yWW G i Qf sh0 pc ls (v :: st) ω cs sl := by
  intro p e s m args below meth c ad0 ad H locs lsA C hE hS hH hL
  exact lv_dup C.1 C.2.1 hd (hv ad) (k p e s m args below meth c ad0 ad H locs lsA C hE hS hH hL)

theorem yr_pop {v : yV} (hd : decode (yMb i) pc = .ok (.pop, 1)) (hv : ∀ ad, (ycv ad v).category = 1) (k : yWW G i Qf sh0 (pc + 1) ls (st) ω cs sl) : yWW G i Qf sh0 pc ls (v :: st) ω cs sl := by
  intro p e s m args below meth c ad0 ad H locs lsA C hE hS hH hL
  exact lv_pop C.1 C.2.1 hd (hv ad) (k p e s m args below meth c ad0 ad H locs lsA C hE hS hH hL)

theorem yr_dup_x1 {v u : yV} (hd : decode (yMb i) pc = .ok (.dup_x1, 1)) (hv : ∀ ad, (ycv ad v).category = 1) (hu : ∀ ad, (ycv ad u).category = 1) (k : yWW G i Qf sh0 (pc + 1) ls (v :: u :: v :: st) ω cs sl) : yWW G i Qf sh0 pc ls (v :: u :: st) ω cs sl := by
  intro p e s m args below meth c ad0 ad H locs lsA C hE hS hH hL
  exact lv_dup_x1 C.1 C.2.1 hd (hv ad) (hu ad) (k p e s m args below meth c ad0 ad H locs lsA C hE hS hH hL)

theorem yr_dup2 {v u : yV} (hd : decode (yMb i) pc = .ok (.dup2, 1)) (hv : ∀ ad, (ycv ad v).category = 1) (hu : ∀ ad, (ycv ad u).category = 1) (k : yWW G i Qf sh0 (pc + 1) ls (v :: u :: v :: u :: st) ω cs sl) : yWW G i Qf sh0 pc ls (v :: u :: st) ω cs sl := by
  intro p e s m args below meth c ad0 ad H locs lsA C hE hS hH hL
  exact lv_dup2_11 C.1 C.2.1 hd (hv ad) (hu ad) (k p e s m args below meth c ad0 ad H locs lsA C hE hS hH hL)

-- branches: see the shape that the kit gives each condition

theorem yr_if_eq {x : Int32} {off : Int} {tgt : Nat} (hd : decode (yMb i) pc = .ok (.ifCond .eq off, 3)) (ht : (pc : Int) + off = (tgt : Int)) (kt : x = 0 → yWW G i Qf sh0 tgt ls st ω cs sl) (kf : ¬ x = 0 → yWW G i Qf sh0 (pc + 3) ls st ω cs sl) : yWW G i Qf sh0 pc ls (yi x :: st) ω cs sl := by
  intro p e s m args below meth c ad0 ad H locs lsA C hE hS hH hL
  exact lv_if_eq C.1 C.2.1 hd ht (fun q => kt q p e s m args below meth c ad0 ad H locs lsA C hE hS hH hL) (fun q => kf q p e s m args below meth c ad0 ad H locs lsA C hE hS hH hL)
theorem yr_icmp_eq {x y : Int32} {off : Int} {tgt : Nat} (hd : decode (yMb i) pc = .ok (.if_icmp .eq off, 3)) (ht : (pc : Int) + off = (tgt : Int)) (kt : x = y → yWW G i Qf sh0 tgt ls st ω cs sl) (kf : ¬ x = y → yWW G i Qf sh0 (pc + 3) ls st ω cs sl) : yWW G i Qf sh0 pc ls (yi y :: yi x :: st) ω cs sl := by
  intro p e s m args below meth c ad0 ad H locs lsA C hE hS hH hL
  exact lv_icmp_eq C.1 C.2.1 hd ht (fun q => kt q p e s m args below meth c ad0 ad H locs lsA C hE hS hH hL) (fun q => kf q p e s m args below meth c ad0 ad H locs lsA C hE hS hH hL)

theorem yr_if_ne {x : Int32} {off : Int} {tgt : Nat} (hd : decode (yMb i) pc = .ok (.ifCond .ne off, 3)) (ht : (pc : Int) + off = (tgt : Int)) (kt : ¬ x = 0 → yWW G i Qf sh0 tgt ls st ω cs sl) (kf : x = 0 → yWW G i Qf sh0 (pc + 3) ls st ω cs sl) : yWW G i Qf sh0 pc ls (yi x :: st) ω cs sl := by
  intro p e s m args below meth c ad0 ad H locs lsA C hE hS hH hL
  exact lv_if_ne C.1 C.2.1 hd ht (fun q => kt q p e s m args below meth c ad0 ad H locs lsA C hE hS hH hL) (fun q => kf q p e s m args below meth c ad0 ad H locs lsA C hE hS hH hL)
theorem yr_icmp_ne {x y : Int32} {off : Int} {tgt : Nat} (hd : decode (yMb i) pc = .ok (.if_icmp .ne off, 3)) (ht : (pc : Int) + off = (tgt : Int)) (kt : ¬ x = y → yWW G i Qf sh0 tgt ls st ω cs sl) (kf : x = y → yWW G i Qf sh0 (pc + 3) ls st ω cs sl) : yWW G i Qf sh0 pc ls (yi y :: yi x :: st) ω cs sl := by
  intro p e s m args below meth c ad0 ad H locs lsA C hE hS hH hL
  exact lv_icmp_ne C.1 C.2.1 hd ht (fun q => kt q p e s m args below meth c ad0 ad H locs lsA C hE hS hH hL) (fun q => kf q p e s m args below meth c ad0 ad H locs lsA C hE hS hH hL)

theorem yr_if_lt {x : Int32} {off : Int} {tgt : Nat} (hd : decode (yMb i) pc = .ok (.ifCond .lt off, 3)) (ht : (pc : Int) + off = (tgt : Int)) (kt : x < 0 → yWW G i Qf sh0 tgt ls st ω cs sl) (kf : ¬ x < 0 → yWW G i Qf sh0 (pc + 3) ls st ω cs sl) : yWW G i Qf sh0 pc ls (yi x :: st) ω cs sl := by
  intro p e s m args below meth c ad0 ad H locs lsA C hE hS hH hL
  exact lv_if_lt C.1 C.2.1 hd ht (fun q => kt q p e s m args below meth c ad0 ad H locs lsA C hE hS hH hL) (fun q => kf q p e s m args below meth c ad0 ad H locs lsA C hE hS hH hL)
theorem yr_icmp_lt {x y : Int32} {off : Int} {tgt : Nat} (hd : decode (yMb i) pc = .ok (.if_icmp .lt off, 3)) (ht : (pc : Int) + off = (tgt : Int)) (kt : x < y → yWW G i Qf sh0 tgt ls st ω cs sl) (kf : ¬ x < y → yWW G i Qf sh0 (pc + 3) ls st ω cs sl) : yWW G i Qf sh0 pc ls (yi y :: yi x :: st) ω cs sl := by
  intro p e s m args below meth c ad0 ad H locs lsA C hE hS hH hL
  exact lv_icmp_lt C.1 C.2.1 hd ht (fun q => kt q p e s m args below meth c ad0 ad H locs lsA C hE hS hH hL) (fun q => kf q p e s m args below meth c ad0 ad H locs lsA C hE hS hH hL)

theorem yr_if_ge {x : Int32} {off : Int} {tgt : Nat} (hd : decode (yMb i) pc = .ok (.ifCond .ge off, 3)) (ht : (pc : Int) + off = (tgt : Int)) (kt : 0 ≤ x → yWW G i Qf sh0 tgt ls st ω cs sl) (kf : ¬ 0 ≤ x → yWW G i Qf sh0 (pc + 3) ls st ω cs sl) : yWW G i Qf sh0 pc ls (yi x :: st) ω cs sl := by
  intro p e s m args below meth c ad0 ad H locs lsA C hE hS hH hL
  exact lv_if_ge C.1 C.2.1 hd ht (fun q => kt q p e s m args below meth c ad0 ad H locs lsA C hE hS hH hL) (fun q => kf q p e s m args below meth c ad0 ad H locs lsA C hE hS hH hL)
theorem yr_icmp_ge {x y : Int32} {off : Int} {tgt : Nat} (hd : decode (yMb i) pc = .ok (.if_icmp .ge off, 3)) (ht : (pc : Int) + off = (tgt : Int)) (kt : y ≤ x → yWW G i Qf sh0 tgt ls st ω cs sl) (kf : ¬ y ≤ x → yWW G i Qf sh0 (pc + 3) ls st ω cs sl) : yWW G i Qf sh0 pc ls (yi y :: yi x :: st) ω cs sl := by
  intro p e s m args below meth c ad0 ad H locs lsA C hE hS hH hL
  exact lv_icmp_ge C.1 C.2.1 hd ht (fun q => kt q p e s m args below meth c ad0 ad H locs lsA C hE hS hH hL) (fun q => kf q p e s m args below meth c ad0 ad H locs lsA C hE hS hH hL)

theorem yr_if_gt {x : Int32} {off : Int} {tgt : Nat} (hd : decode (yMb i) pc = .ok (.ifCond .gt off, 3)) (ht : (pc : Int) + off = (tgt : Int)) (kt : 0 < x → yWW G i Qf sh0 tgt ls st ω cs sl) (kf : ¬ 0 < x → yWW G i Qf sh0 (pc + 3) ls st ω cs sl) : yWW G i Qf sh0 pc ls (yi x :: st) ω cs sl := by
  intro p e s m args below meth c ad0 ad H locs lsA C hE hS hH hL
  exact lv_if_gt C.1 C.2.1 hd ht (fun q => kt q p e s m args below meth c ad0 ad H locs lsA C hE hS hH hL) (fun q => kf q p e s m args below meth c ad0 ad H locs lsA C hE hS hH hL)
theorem yr_icmp_gt {x y : Int32} {off : Int} {tgt : Nat} (hd : decode (yMb i) pc = .ok (.if_icmp .gt off, 3)) (ht : (pc : Int) + off = (tgt : Int)) (kt : y < x → yWW G i Qf sh0 tgt ls st ω cs sl) (kf : ¬ y < x → yWW G i Qf sh0 (pc + 3) ls st ω cs sl) : yWW G i Qf sh0 pc ls (yi y :: yi x :: st) ω cs sl := by
  intro p e s m args below meth c ad0 ad H locs lsA C hE hS hH hL
  exact lv_icmp_gt C.1 C.2.1 hd ht (fun q => kt q p e s m args below meth c ad0 ad H locs lsA C hE hS hH hL) (fun q => kf q p e s m args below meth c ad0 ad H locs lsA C hE hS hH hL)

theorem yr_if_le {x : Int32} {off : Int} {tgt : Nat} (hd : decode (yMb i) pc = .ok (.ifCond .le off, 3)) (ht : (pc : Int) + off = (tgt : Int)) (kt : x ≤ 0 → yWW G i Qf sh0 tgt ls st ω cs sl) (kf : ¬ x ≤ 0 → yWW G i Qf sh0 (pc + 3) ls st ω cs sl) : yWW G i Qf sh0 pc ls (yi x :: st) ω cs sl := by
  intro p e s m args below meth c ad0 ad H locs lsA C hE hS hH hL
  exact lv_if_le C.1 C.2.1 hd ht (fun q => kt q p e s m args below meth c ad0 ad H locs lsA C hE hS hH hL) (fun q => kf q p e s m args below meth c ad0 ad H locs lsA C hE hS hH hL)
theorem yr_icmp_le {x y : Int32} {off : Int} {tgt : Nat} (hd : decode (yMb i) pc = .ok (.if_icmp .le off, 3)) (ht : (pc : Int) + off = (tgt : Int)) (kt : x ≤ y → yWW G i Qf sh0 tgt ls st ω cs sl) (kf : ¬ x ≤ y → yWW G i Qf sh0 (pc + 3) ls st ω cs sl) : yWW G i Qf sh0 pc ls (yi y :: yi x :: st) ω cs sl := by
  intro p e s m args below meth c ad0 ad H locs lsA C hE hS hH hL
  exact lv_icmp_le C.1 C.2.1 hd ht (fun q => kt q p e s m args below meth c ad0 ad H locs lsA C hE hS hH hL) (fun q => kf q p e s m args below meth c ad0 ad H locs lsA C hE hS hH hL)

theorem yr_goto {off : Int} {tgt : Nat} (hd : decode (yMb i) pc = .ok (.goto off, 3)) (ht : (pc : Int) + off = (tgt : Int)) (k : yWW G i Qf sh0 tgt ls st ω cs sl) : yWW G i Qf sh0 pc ls st ω cs sl := by
  intro p e s m args below meth c ad0 ad H locs lsA C hE hS hH hL
  exact lv_goto C.1 C.2.1 hd ht (k p e s m args below meth c ad0 ad H locs lsA C hE hS hH hL)
theorem yr_ifnull {o : Option Nat} {off : Int} {tgt : Nat} (hd : decode (yMb i) pc = .ok (.ifnull off, 3)) (ht : (pc : Int) + off = (tgt : Int)) (kt : o = none → yWW G i Qf sh0 tgt ls st ω cs sl) (kf : ∀ a, o = some a → yWW G i Qf sh0 (pc + 3) ls st ω cs sl) : yWW G i Qf sh0 pc ls (yo o :: st) ω cs sl := by
  intro p e s m args below meth c ad0 ad H locs lsA C hE hS hH hL
  cases o with
  | none => exact lv_ifnullN C.1 C.2.1 hd ht (kt rfl p e s m args below meth c ad0 ad H locs lsA C hE hS hH hL)
  | some a => exact lv_ifnull C.1 C.2.1 hd (kf a rfl p e s m args below meth c ad0 ad H locs lsA C hE hS hH hL)
theorem yr_ifnonnull {o : Option Nat} {off : Int} {tgt : Nat} (hd : decode (yMb i) pc = .ok (.ifnonnull off, 3)) (ht : (pc : Int) + off = (tgt : Int)) (kt : ∀ a, o = some a → yWW G i Qf sh0 tgt ls st ω cs sl) (kf : o = none → yWW G i Qf sh0 (pc + 3) ls st ω cs sl) : yWW G i Qf sh0 pc ls (yo o :: st) ω cs sl := by
  intro p e s m args below meth c ad0 ad H locs lsA C hE hS hH hL
  cases o with
  | none => exact lv_ifnonnullN C.1 C.2.1 hd (kf rfl p e s m args below meth c ad0 ad H locs lsA C hE hS hH hL)
  | some a => exact lv_ifnonnull C.1 C.2.1 hd ht (kt a rfl p e s m args below meth c ad0 ad H locs lsA C hE hS hH hL)
theorem yr_inj {ad : Nat → Nat} {H : Heap} (hH : yH G ad ω H) {o o' : Option Nat} (hl : ∀ a, o = some a ∨ o' = some a → ω.1 a ≠ none) : o.map ad = o'.map ad ↔ o = o' := by
  refine ⟨fun h => ?_, fun h => by rw [h]⟩
  cases o with
  | none => cases o' with
    | none => rfl
    | some b => cases h
  | some a => cases o' with
    | none => cases h
    | some b => rw [hH.1 a b (hl a (Or.inl rfl)) (hl b (Or.inr rfl)) (Option.some.inj h)]
theorem yr_acmp_eq {o o' : Option Nat} {off : Int} {tgt : Nat} (hd : decode (yMb i) pc = .ok (.if_acmp .eq off, 3)) (ht : (pc : Int) + off = (tgt : Int)) (hl : ∀ a, o = some a ∨ o' = some a → ω.1 a ≠ none) (kt : o = o' → yWW G i Qf sh0 tgt ls st ω cs sl) (kf : ¬ o = o' → yWW G i Qf sh0 (pc + 3) ls st ω cs sl) : yWW G i Qf sh0 pc ls (yo o' :: yo o :: st) ω cs sl := by
  intro p e s m args below meth c ad0 ad H locs lsA C hE hS hH hL
  exact lv_acmp_eq (rx := o.map ad) (ry := o'.map ad) C.1 C.2.1 hd ht (fun q => kt ((yr_inj hH hl).mp q) p e s m args below meth c ad0 ad H locs lsA C hE hS hH hL) (fun q => kf (fun z => q ((yr_inj hH hl).mpr z)) p e s m args below meth c ad0 ad H locs lsA C hE hS hH hL)
theorem yr_acmp_ne {o o' : Option Nat} {off : Int} {tgt : Nat} (hd : decode (yMb i) pc = .ok (.if_acmp .ne off, 3)) (ht : (pc : Int) + off = (tgt : Int)) (hl : ∀ a, o = some a ∨ o' = some a → ω.1 a ≠ none) (kt : ¬ o = o' → yWW G i Qf sh0 tgt ls st ω cs sl) (kf : o = o' → yWW G i Qf sh0 (pc + 3) ls st ω cs sl) : yWW G i Qf sh0 pc ls (yo o' :: yo o :: st) ω cs sl := by
  intro p e s m args below meth c ad0 ad H locs lsA C hE hS hH hL
  exact lv_acmp_ne (rx := o.map ad) (ry := o'.map ad) C.1 C.2.1 hd ht (fun q => kt (fun z => q ((yr_inj hH hl).mpr z)) p e s m args below meth c ad0 ad H locs lsA C hE hS hH hL) (fun q => kf ((yr_inj hH hl).mp q) p e s m args below meth c ad0 ad H locs lsA C hE hS hH hL)

end YROWS
end
section
def yTs : List Cond := lw_tbl.filter ynw
theorem yIn : ∀ r ∈ ycl, ∀ w ∈ u_ws r.1 r.2.1 r.2.2, w ∈ yTs := by decide +kernel
theorem yfnm : ∀ r ∈ ycl, ∀ a, a < r.2.2 → ∀ b, b < r.2.2 → a ≠ b → (r.2.1 a).2.1 ≠ (r.2.1 b).2.1 := by decide +kernel
theorem yftok (ci : Nat) (r : vw_C) (hc : ycl[ci]? = some r) : ∀ j, j < r.2.2 → parseFieldDescriptor (r.2.1 j).2.2.1 = some (yft ci j) := by
  match ci, hc with
  | 0, hc => cases hc; decide +kernel
  | 1, hc => cases hc; decide +kernel
  | 2, hc => cases hc; decide +kernel
  | 3, hc => cases hc; decide +kernel
  | 4, hc => cases hc; decide +kernel
  | 5, hc => cases hc; decide +kernel
  | 6, hc => cases hc; decide +kernel
  | 7, hc => cases hc; decide +kernel
  | 8, hc => cases hc; decide +kernel
  | 9, hc => cases hc; decide +kernel
  | k + 10, hc => simp [ycl] at hc
theorem yfdef (ci : Nat) (r : vw_C) (hc : ycl[ci]? = some r) : ∀ j, j < r.2.2 → defaultValue (yft ci j) = if yfk ci j = true then .null else .int 0 := by
  match ci, hc with
  | 0, hc => cases hc; decide +kernel
  | 1, hc => cases hc; decide +kernel
  | 2, hc => cases hc; decide +kernel
  | 3, hc => cases hc; decide +kernel
  | 4, hc => cases hc; decide +kernel
  | 5, hc => cases hc; decide +kernel
  | 6, hc => cases hc; decide +kernel
  | 7, hc => cases hc; decide +kernel
  | 8, hc => cases hc; decide +kernel
  | 9, hc => cases hc; decide +kernel
  | k + 10, hc => simp [ycl] at hc
end
section
/-! the small logic: fields, arrays, new cells, calls, ends -/
/-- a field's place in the code: pool number ix of class own names field f of class number ci (spelled through ref; by the nest's host where it is private) -/
def ySF (own : String) (ix : Nat) (ref host : String) (ci f : Nat) : Bool := match ycl[ci]? with
  | none => false
  | some r => decide (f < r.2.2) && (if host = "" then decide (Cond.fieldLink own ix ref (r.2.1 f).2.1 (r.2.1 f).2.2.1 ∈ lw_tbl) else decide (Cond.fieldLinkNest own ix ref (r.2.1 f).2.1 (r.2.1 f).2.2.1 host ∈ lw_tbl)) && (decide (ref = (r.2.1 f).1) || decide (Cond.sameField ref (r.2.1 f).1 (r.2.1 f).2.1 (r.2.1 f).2.2.1 ∈ lw_tbl))
theorem yGx.hts {s : State} (h : yGx s) (a : Array Value) : ∀ w ∈ yTs, w.before a s = true := fun w hw => h w (List.mem_filter.mp hw).1 (List.mem_filter.mp hw).2 a
/-- what a field's place gives in a method -/
theorem ySF_use {G : yG} {s : State} {own ref host : String} {ix ci f : Nat} (hs : ySF own ix ref host ci f = true) (hg : yGx s) (hk : yK G s) (args : Array Value) : ∃ (r : vw_C) (cf : ClassId) (kf : Class) (fi : Nat) (fd : Field), ycl[ci]? = some r ∧ f < r.2.2 ∧ s.fieldFound? (r.2.1 f).1 (r.2.1 f).2.1 (r.2.1 f).2.2.1 = some (cf, kf, fi, fd) ∧ s.fieldFound? ref (r.2.1 f).2.1 (r.2.1 f).2.2.1 = some (cf, kf, fi, fd) ∧ fd.isStatic = false ∧ fd.slot = (yD G).2 ci f ∧
    ((host = "" ∧ (Cond.fieldLink own ix ref (r.2.1 f).2.1 (r.2.1 f).2.2.1).before args s = true) ∨ (¬ host = "" ∧ (Cond.fieldLinkNest own ix ref (r.2.1 f).2.1 (r.2.1 f).2.2.1 host).before args s = true)) := by
  unfold ySF at hs
  split at hs
  · cases hs
  · rename_i r hc
    simp only [Bool.and_eq_true, Bool.or_eq_true, decide_eq_true_eq] at hs
    obtain ⟨⟨hf, hl⟩, hsm⟩ := hs
    obtain ⟨hSl, hfc, kC, hkC, hkind⟩ := hk.1 ci _ hc
    obtain ⟨cf, kf, fi, fd, hi, hsl⟩ := hSl f hf
    refine ⟨r, cf, kf, fi, fd, hc, hf, hi, ?_, (u_facts hfc hkC (u_lays (hg.hts args) (fun w hw => yIn r (List.mem_of_getElem? hc) w hw) hf) hi).1, hsl, ?_⟩
    · rcases hsm with e | e
      · rw [e]; exact hi
      · exact u_same (hg _ e rfl args) _ hi
    · by_cases hh : host = ""
      · rw [if_pos hh, decide_eq_true_eq] at hl
        exact Or.inl ⟨hh, hg _ hl rfl args⟩
      · rw [if_neg hh, decide_eq_true_eq] at hl
        exact Or.inr ⟨hh, hg _ hl rfl args⟩
def yval (ω : yW) (k ci f : Nat) : yV := if yfk ci f = true then yo (ω.2.2 k f) else yi (ω.2.1 k f)
theorem yval_cv (ad : Nat → Nat) (ω : yW) (k ci f : Nat) : ycv ad (yval ω k ci f) = yfv ad ci f (ω.2.1 k f) (ω.2.2 k f) := by
  unfold yval yfv
  split <;> rfl
section YH
variable {G : yG} {i : yM} {Qf : yQT} {sh0 : Nat → Option ySh} {pc : Nat} {ls : List (Option yV)} {st : List yV} {ω : yW} {cs sl : Nat}
theorem yr_get0 {k ci f ix : Nat} {ref host : String} (hd : decode (yMb i) pc = .ok (.getfield ix, 3)) (hsh : ω.1 k = some (.inl ci)) (site : ySF (yMy i).cls ix ref host ci f = true) (kk : yWW G i Qf sh0 (pc + 3) ls (yval ω k ci f :: st) ω cs sl) : yWW G i Qf sh0 pc ls (yr k :: st) ω cs sl := by
  intro p e s m args below meth c ad0 ad H locs lsA C hE hS hH hL
  obtain ⟨-, r0, hc0, cell, q1, q2, q3, q4⟩ := hH.2 k _ hsh
  obtain ⟨r, cf, kf, fi, fd, hc, hf, hi, hi2, hst, hsl, hlk⟩ := ySF_use (G := G) site C.2.2.2.2.2.2.2.1 C.2.2.2.2.2.2.2.2.1 args
  cases hc0.symm.trans hc
  have kk' := kk p e s m args below meth c ad0 ad H locs lsA C hE hS hH hL
  rw [List.map_cons, yval_cv] at kk'
  have hv : cell.slots[fd.slot]? = some (yfv ad ci f (ω.2.1 k f) (ω.2.2 k f)) := by rw [hsl]; exact q4 f hf
  have hkn : cell.vm ≠ .unknown := by rw [q3]; exact fun h => by cases h
  rcases hlk with ⟨-, hlk⟩ | ⟨hne, hlk⟩
  · exact W.getf C.1 C.2.1 C.2.2.2.2.1 hlk hi2 hst q1 hkn hv rfl rfl hd kk'
  · exact va_Wgetf C.1 C.2.1 C.2.2.2.2.1 hlk hi2 hst q1 hkn hv rfl rfl hd kk'
theorem yr_geti {k ci f ix : Nat} {ref host : String} (hd : decode (yMb i) pc = .ok (.getfield ix, 3)) (hsh : ω.1 k = some (.inl ci)) (site : ySF (yMy i).cls ix ref host ci f = true) (hk : yfk ci f = false) (kk : yWW G i Qf sh0 (pc + 3) ls (yi (ω.2.1 k f) :: st) ω cs sl) : yWW G i Qf sh0 pc ls (yr k :: st) ω cs sl := by
  refine yr_get0 hd hsh site ?_
  unfold yval
  rw [if_neg (by rw [hk]; decide)]
  exact kk
theorem yr_getr {k ci f ix : Nat} {ref host : String} (hd : decode (yMb i) pc = .ok (.getfield ix, 3)) (hsh : ω.1 k = some (.inl ci)) (site : ySF (yMy i).cls ix ref host ci f = true) (hk : yfk ci f = true) (kk : yWW G i Qf sh0 (pc + 3) ls (yo (ω.2.2 k f) :: st) ω cs sl) : yWW G i Qf sh0 pc ls (yr k :: st) ω cs sl := by
  refine yr_get0 hd hsh site ?_
  unfold yval
  rw [if_pos hk]
  exact kk
/-- the stored cell, seen in the world -/
theorem yput_ok {ad : Nat → Nat} {H H1 : Heap} {s : State} {k ci f : Nat} {r : vw_C} {cell : Cell} {v : yV} {ω' : yW} (hg : yGx s) (hK : yK G s) (args : Array Value) (own : String) (hc : ycl[ci]? = some r) (hf : f < r.2.2) (hH : yH G ad ω H) (hsh : ω.1 k = some (.inl ci)) (q1 : H[ad k]? = some cell) (q2 : cell.cls = (yD G).1 ci) (q3 : cell.vm = .none) (q4 : ∀ j, j < r.2.2 → cell.slots[(yD G).2 ci j]? = some (yfv ad ci j (ω.2.1 k j) (ω.2.2 k j)))
    (hv : v = if yfk ci f = true then yo (ω'.2.2 k f) else yi (ω'.2.1 k f)) (hs : ω'.1 = ω.1) (ho : ∀ j, j ≠ k → ω'.2.1 j = ω.2.1 j ∧ ω'.2.2 j = ω.2.2 j) (hj : ∀ j, j ≠ f → ω'.2.1 k j = ω.2.1 k j ∧ ω'.2.2 k j = ω.2.2 k j)
    (e1 : H1[ad k]? = some (cell.setSlot ((yD G).2 ci f) (ycv ad v))) (e3 : ∀ q, q ≠ ad k → H1[q]? = H[q]?) : yH G ad ω' H1 := by
  refine yH_set hH hsh hs ho ?_ e3
  have hap := va_apart (own := own) (hg.hts args) (fun w hw => yIn r (List.mem_of_getElem? hc) w hw) (yft ci) (fun j hj => yftok ci r hc j hj) (yfnm r (List.mem_of_getElem? hc)) hK hc
  refine ⟨r, hc, _, e1, q2, q3, fun j hjl => ?_⟩
  have h9 := t_set q4 hap hf (ycv ad v) j hjl
  rw [h9]
  unfold updV
  by_cases e : j = f
  · subst e
    rw [if_pos rfl, hv]
    show _ = some (yfv ad ci j (ω'.2.1 k j) (ω'.2.2 k j))
    unfold yfv
    by_cases e9 : yfk ci j = true
    · rw [if_pos e9, if_pos e9]
    · rw [if_neg e9, if_neg e9]; rfl
  · rw [if_neg e]
    show some (yfv ad ci j (ω.2.1 k j) (ω.2.2 k j)) = some (yfv ad ci j (ω'.2.1 k j) (ω'.2.2 k j))
    rw [(hj j e).1, (hj j e).2]
theorem yr_put0 {k ci f ix : Nat} {ref host : String} {v : yV} {ω' : yW} {r : vw_C} (hd : decode (yMb i) pc = .ok (.putfield ix, 3)) (hsh : ω.1 k = some (.inl ci)) (site : ySF (yMy i).cls ix ref host ci f = true) (hr : ycl[ci]? = some r) (hfin : (r.2.1 f).2.2.2 = false)
    (hn : ∀ ad, narrow (yft ci f) (ycv ad v) = ycv ad v ∧ fits (yft ci f) (ycv ad v) = true) (hv : v = if yfk ci f = true then yo (ω'.2.2 k f) else yi (ω'.2.1 k f)) (hs : ω'.1 = ω.1) (ho : ∀ j, j ≠ k → ω'.2.1 j = ω.2.1 j ∧ ω'.2.2 j = ω.2.2 j) (hj : ∀ j, j ≠ f → ω'.2.1 k j = ω.2.1 k j ∧ ω'.2.2 k j = ω.2.2 k j)
    (kk : yWW G i Qf sh0 (pc + 3) ls st ω' cs sl) : yWW G i Qf sh0 pc ls (v :: yr k :: st) ω cs sl := by
  intro p e s m args below meth c ad0 ad H locs lsA C hE hS hH hL
  obtain ⟨hAk, r0, hc0, cell, q1, q2, q3, q4⟩ := hH.2 k _ hsh
  have hg := C.2.2.2.2.2.2.2.1
  have hK := C.2.2.2.2.2.2.2.2.1
  obtain ⟨r1, cf, kf, fi, fd, hc, hf, hi, hi2, hst, hsl, hlk⟩ := ySF_use (G := G) site hg hK args
  cases hc0.symm.trans hc
  cases hr.symm.trans hc
  obtain ⟨-, hfc, kC, hkC, hkind⟩ := hK.1 ci _ hc
  have hlay := hg.hts args _ (yIn r (List.mem_of_getElem? hc) _ (u_in_lay hf))
  unfold u_lay at hlay
  rw [if_neg (by rw [hfin]; decide)] at hlay
  have h6 := u_store hfc hkC hkind hlay hi (yftok ci r hc f hf) (hn ad).1 (hn ad).2
  have hlt : fd.slot < cell.slots.size := by rw [hsl]; exact k2_hasslot (q4 f hf)
  have key : ∀ H' : Heap, H'[ad k]? = some (cell.setSlot fd.slot (ycv ad v)) → H'.size = H.size → (∀ q, q ≠ ad k → H'[q]? = H[q]?) → W p (yGl G) e (yMm i) s m args below meth c H' (locs ++ [⟨ad k, fd.slot⟩]) cs sl (Qf below args s ad0) (F0 m (pc + 3) lsA (st.map (ycv ad))) := by
    intro H' e1 e2 e3
    rw [hsl] at e1
    exact kk p e s m args below meth c ad0 ad H' _ lsA C (fun j hj' => hE j (by rw [hs] at hj'; exact hj')) (hS.put e2 e3 hAk) (yput_ok hg hK args (yMy i).cls hc hf hH hsh q1 q2 q3 q4 hv hs ho hj e1 e3) hL
  rcases hlk with ⟨-, hlk⟩ | ⟨hne, hlk⟩
  · exact W.putK C.1 C.2.1 (f := fd) ⟨C.2.2.2.2.1, hlk, ⟨_, _, _, hi2⟩, hst⟩ (by rw [q2]; exact h6) q1 q3 hlt rfl rfl hd key
  · exact va_WputK C.1 C.2.1 (f := fd) C.2.2.2.2.1 hlk hi2 hst (by rw [q2]; exact h6) q1 q3 hlt rfl rfl hd key
/-- a final field, in the constructor of its class -/
theorem yr_putF0 {k ci f ix : Nat} {ref : String} {v : yV} {ω' : yW} {r : vw_C} (hd : decode (yMb i) pc = .ok (.putfield ix, 3)) (hsh : ω.1 k = some (.inl ci)) (site : ySF (yMy i).cls ix ref "" ci f = true) (hr : ycl[ci]? = some r) (hfin : (r.2.1 f).2.2.2 = true) (hin : (yMy i).name = "<init>") (hdecl : (r.2.1 f).1 = (yMy i).cls)
    (hn : ∀ ad, narrow (yft ci f) (ycv ad v) = ycv ad v ∧ fits (yft ci f) (ycv ad v) = true) (hv : v = if yfk ci f = true then yo (ω'.2.2 k f) else yi (ω'.2.1 k f)) (hs : ω'.1 = ω.1) (ho : ∀ j, j ≠ k → ω'.2.1 j = ω.2.1 j ∧ ω'.2.2 j = ω.2.2 j) (hj : ∀ j, j ≠ f → ω'.2.1 k j = ω.2.1 k j ∧ ω'.2.2 k j = ω.2.2 k j)
    (kk : yWW G i Qf sh0 (pc + 3) ls st ω' cs sl) : yWW G i Qf sh0 pc ls (v :: yr k :: st) ω cs sl := by
  intro p e s m args below meth c ad0 ad H locs lsA C hE hS hH hL
  obtain ⟨hAk, r0, hc0, cell, q1, q2, q3, q4⟩ := hH.2 k _ hsh
  have hg := C.2.2.2.2.2.2.2.1
  have hK := C.2.2.2.2.2.2.2.2.1
  have hown := C.2.2.2.2.1
  obtain ⟨r1, cf, kf, fi, fd, hc, hf, hi, hi2, hst, hsl, hlk⟩ := ySF_use (G := G) site hg hK args
  cases hc0.symm.trans hc
  cases hr.symm.trans hc
  obtain ⟨-, hfc, kC, hkC, hkind⟩ := hK.1 ci _ hc
  have hlay := hg.hts args _ (yIn r (List.mem_of_getElem? hc) _ (u_in_lay hf))
  unfold u_lay at hlay
  rw [if_pos hfin] at hlay
  have hcf : m.cls = cf := by
    obtain ⟨_, _, c', _, _, _, -, -, hf', -, -, -, hown2, -⟩ := Cond.laysFinal_spec hlay
    have e1 : c' = cf := by have := hi.symm.trans hf'; simp at this; exact this.1.symm
    rw [hdecl] at hown2
    rw [← e1]; exact Option.some.inj (hown.symm.trans hown2)
  have h6 := u_fits hfc hkC hkind (Or.inr hlay) hi (yftok ci r hc f hf) (hn ad).1 (hn ad).2
  have hlt : fd.slot < cell.slots.size := by rw [hsl]; exact k2_hasslot (q4 f hf)
  rcases hlk with ⟨-, hlk⟩ | ⟨hne, hlk⟩
  · refine W.putFinK C.1 C.2.1 hown hlk hi2 hst hcf (C.2.2.2.2.2.2.1.trans hin) (by rw [q2]; exact h6) q1 q3 hlt rfl rfl hd fun H' e1 e2 e3 => ?_
    rw [hsl] at e1
    exact kk p e s m args below meth c ad0 ad H' _ lsA C (fun j hj' => hE j (by rw [hs] at hj'; exact hj')) (hS.put e2 e3 hAk) (yput_ok hg hK args (yMy i).cls hc hf hH hsh q1 q2 q3 q4 hv hs ho hj e1 e3) hL
  · exact absurd rfl hne
end YH
end
section
section YA
variable {G : yG} {i : yM} {Qf : yQT} {sh0 : Nat → Option ySh} {pc : Nat} {ls : List (Option yV)} {st : List yV} {ω : yW} {cs sl : Nat}
theorem yin_of {x : Int32} {j n : Nat} (h0 : ¬ x < 0) (hj : x.toNatClampNeg = j) (hn : j < n) (cA : ClassId) (V : Nat → Value) : ¬ (x < 0 ∨ (arrV cA n V).slots.size ≤ x.toNatClampNeg) := by
  rintro (h | h)
  · exact h0 h
  · rw [arrV_size, hj] at h
    omega
theorem yr_iald {k n j : Nat} {x : Int32} (hd : decode (yMb i) pc = .ok (.iaload, 1)) (hsh : ω.1 k = some (.inr (0, n))) (h0 : ¬ x < 0) (hj : x.toNatClampNeg = j) (hn : j < n) (kk : yWW G i Qf sh0 (pc + 1) ls (yi (ω.2.1 k j) :: st) ω cs sl) : yWW G i Qf sh0 pc ls (yi x :: yr k :: st) ω cs sl := by
  intro p e s m args below meth c ad0 ad H locs lsA C hE hS hH hL
  have hcell := (hH.2 k _ hsh).2
  exact W.iald (v := .int (ω.2.1 k j)) C.1 C.2.1 hcell ((C.2.2.2.2.2.2.2.2.1.2 0 _ rfl).1 n _) (fun h => by cases h) (yin_of h0 hj hn _ _) (by rw [hj, arrV_read _ _ hn]; rfl) rfl rfl hd (kk p e s m args below meth c ad0 ad H locs lsA C hE hS hH hL)
theorem yr_zald {k n j : Nat} {x : Int32} (hd : decode (yMb i) pc = .ok (.baload, 1)) (hsh : ω.1 k = some (.inr (1, n))) (h0 : ¬ x < 0) (hj : x.toNatClampNeg = j) (hn : j < n) (kk : yWW G i Qf sh0 (pc + 1) ls (yi (ω.2.1 k j) :: st) ω cs sl) : yWW G i Qf sh0 pc ls (yi x :: yr k :: st) ω cs sl := by
  intro p e s m args below meth c ad0 ad H locs lsA C hE hS hH hL
  have hcell := (hH.2 k _ hsh).2
  exact W.zald (v := .int (ω.2.1 k j)) C.1 C.2.1 hcell ((C.2.2.2.2.2.2.2.2.1.2 1 _ rfl).1 n _) (fun h => by cases h) (yin_of h0 hj hn _ _) (by rw [hj, arrV_read _ _ hn]; rfl) rfl rfl hd (kk p e s m args below meth c ad0 ad H locs lsA C hE hS hH hL)
theorem yr_lald {k n j : Nat} {x : Int32} (hd : decode (yMb i) pc = .ok (.laload, 1)) (hsh : ω.1 k = some (.inr (2, n))) (h0 : ¬ x < 0) (hj : x.toNatClampNeg = j) (hn : j < n) (kk : yWW G i Qf sh0 (pc + 1) ls (yl (ω.2.1 k j).toInt64 :: st) ω cs sl) : yWW G i Qf sh0 pc ls (yi x :: yr k :: st) ω cs sl := by
  intro p e s m args below meth c ad0 ad H locs lsA C hE hS hH hL
  have hcell := (hH.2 k _ hsh).2
  exact W.lald (v := .long (ω.2.1 k j).toInt64) C.1 C.2.1 hcell ((C.2.2.2.2.2.2.2.2.1.2 2 _ rfl).1 n _) (fun h => by cases h) (yin_of h0 hj hn _ _) (by rw [hj, arrV_read _ _ hn]; rfl) rfl rfl hd (kk p e s m args below meth c ad0 ad H locs lsA C hE hS hH hL)
theorem yr_aald3 {k n j : Nat} {x : Int32} (hd : decode (yMb i) pc = .ok (.aaload, 1)) (hsh : ω.1 k = some (.inr (3, n))) (h0 : ¬ x < 0) (hj : x.toNatClampNeg = j) (hn : j < n) (kk : yWW G i Qf sh0 (pc + 1) ls (yo (ω.2.2 k j) :: st) ω cs sl) : yWW G i Qf sh0 pc ls (yi x :: yr k :: st) ω cs sl := by
  intro p e s m args below meth c ad0 ad H locs lsA C hE hS hH hL
  have hcell := (hH.2 k _ hsh).2
  exact W.aald (v := ycv ad (yo (ω.2.2 k j))) (ty := yty 3) C.1 C.2.1 hcell ((C.2.2.2.2.2.2.2.2.1.2 3 _ rfl).1 n _) rfl (fun h => by cases h) (yin_of h0 hj hn _ _) (by rw [hj, arrV_read _ _ hn]; rfl) rfl rfl hd (kk p e s m args below meth c ad0 ad H locs lsA C hE hS hH hL)
theorem yr_aald4 {k n j : Nat} {x : Int32} (hd : decode (yMb i) pc = .ok (.aaload, 1)) (hsh : ω.1 k = some (.inr (4, n))) (h0 : ¬ x < 0) (hj : x.toNatClampNeg = j) (hn : j < n) (kk : yWW G i Qf sh0 (pc + 1) ls (yo (ω.2.2 k j) :: st) ω cs sl) : yWW G i Qf sh0 pc ls (yi x :: yr k :: st) ω cs sl := by
  intro p e s m args below meth c ad0 ad H locs lsA C hE hS hH hL
  have hcell := (hH.2 k _ hsh).2
  exact W.aald (v := ycv ad (yo (ω.2.2 k j))) (ty := yty 4) C.1 C.2.1 hcell ((C.2.2.2.2.2.2.2.2.1.2 4 _ rfl).1 n _) rfl (fun h => by cases h) (yin_of h0 hj hn _ _) (by rw [hj, arrV_read _ _ hn]; rfl) rfl rfl hd (kk p e s m args below meth c ad0 ad H locs lsA C hE hS hH hL)
/-- an array's length, of any of the five types -/
theorem yr_alen {k n tc : Nat} (hd : decode (yMb i) pc = .ok (.arraylength, 1)) (htc : tc < 5) (hsh : ω.1 k = some (.inr (tc, n))) (kk : yWW G i Qf sh0 (pc + 1) ls (yi (nI n) :: st) ω cs sl) : yWW G i Qf sh0 pc ls (yr k :: st) ω cs sl := by
  intro p e s m args below meth c ad0 ad H locs lsA C hE hS hH hL
  have hcell := (hH.2 k _ hsh).2
  have hA : ArrOfT s (ycA G tc) (yty tc) := by
    have hK := C.2.2.2.2.2.2.2.2.1.2
    rcases (show tc = 0 ∨ tc = 1 ∨ tc = 2 ∨ tc = 3 ∨ tc = 4 by omega) with rfl | rfl | rfl | rfl | rfl
    · exact (hK 0 _ rfl).1
    · exact (hK 1 _ rfl).1
    · exact (hK 2 _ rfl).1
    · exact (hK 3 _ rfl).1
    · exact (hK 4 _ rfl).1
  exact W.alen (n := nI n) (ty := yty tc) C.1 C.2.1 hcell (hA n _) (by rw [arrV_size]; rfl) rfl rfl hd (kk p e s m args below meth c ad0 ad H locs lsA C hE hS hH hL)
theorem yast_ok {ad : Nat → Nat} {H H1 : Heap} {k n j tc : Nat} {w : Value} {ω' : yW} (hH : yH G ad ω H) (hsh : ω.1 k = some (.inr (tc, n))) (hw : w = yev ad tc (ω'.2.1 k j) (ω'.2.2 k j)) (hs : ω'.1 = ω.1) (ho : ∀ q, q ≠ k → ω'.2.1 q = ω.2.1 q ∧ ω'.2.2 q = ω.2.2 q) (hj : ∀ q, q ≠ j → ω'.2.1 k q = ω.2.1 k q ∧ ω'.2.2 k q = ω.2.2 k q)
    (e1 : H1[ad k]? = some ((arrV (ycA G tc) n (fun q => yev ad tc (ω.2.1 k q) (ω.2.2 k q))).setSlot j w)) (e3 : ∀ q, q ≠ ad k → H1[q]? = H[q]?) : yH G ad ω' H1 := by
  refine yH_set hH hsh hs ho ?_ e3
  show H1[ad k]? = some (arrV _ _ _)
  rw [e1, arrV_store]
  congr 2
  funext q
  unfold updV
  by_cases e : q = j
  · rw [if_pos e, e, hw]
  · rw [if_neg e, (hj q e).1, (hj q e).2]
theorem ysi_ho (ω : yW) (k j : Nat) (x : Int32) : ∀ q, q ≠ k → (ysi ω k j x).2.1 q = ω.2.1 q ∧ (ysi ω k j x).2.2 q = ω.2.2 q := fun q hq => ⟨funext fun z => yu_ne _ _ (Or.inl hq), rfl⟩
theorem ysi_hj (ω : yW) (k j : Nat) (x : Int32) : ∀ q, q ≠ j → (ysi ω k j x).2.1 k q = ω.2.1 k q ∧ (ysi ω k j x).2.2 k q = ω.2.2 k q := fun q hq => ⟨yu_ne _ _ (Or.inr hq), rfl⟩
theorem ysf_ho (ω : yW) (k j : Nat) (x : Option Nat) : ∀ q, q ≠ k → (ysf ω k j x).2.1 q = ω.2.1 q ∧ (ysf ω k j x).2.2 q = ω.2.2 q := fun q hq => ⟨rfl, funext fun z => yu_ne _ _ (Or.inl hq)⟩
theorem ysf_hj (ω : yW) (k j : Nat) (x : Option Nat) : ∀ q, q ≠ j → (ysf ω k j x).2.1 k q = ω.2.1 k q ∧ (ysf ω k j x).2.2 k q = ω.2.2 k q := fun q hq => ⟨rfl, yu_ne _ _ (Or.inr hq)⟩
theorem yr_puti {k ci f ix : Nat} {ref host : String} {x : Int32} {r : vw_C} (hd : decode (yMb i) pc = .ok (.putfield ix, 3)) (hsh : ω.1 k = some (.inl ci)) (site : ySF (yMy i).cls ix ref host ci f = true) (hr : ycl[ci]? = some r) (hfin : (r.2.1 f).2.2.2 = false) (hk : yfk ci f = false)
    (hn : narrow (yft ci f) (.int x) = .int x ∧ fits (yft ci f) (.int x) = true) (kk : yWW G i Qf sh0 (pc + 3) ls st (ysi ω k f x) cs sl) : yWW G i Qf sh0 pc ls (yi x :: yr k :: st) ω cs sl :=
  yr_put0 (ω' := ysi ω k f x) hd hsh site hr hfin (fun _ => hn) (by rw [if_neg (by rw [hk]; decide)]; exact congrArg yi (yu_same _ _ _ _).symm) rfl (ysi_ho ω k f x) (ysi_hj ω k f x) kk
theorem yr_putr {k ci f ix : Nat} {ref host : String} {o : Option Nat} {r : vw_C} (hd : decode (yMb i) pc = .ok (.putfield ix, 3)) (hsh : ω.1 k = some (.inl ci)) (site : ySF (yMy i).cls ix ref host ci f = true) (hr : ycl[ci]? = some r) (hfin : (r.2.1 f).2.2.2 = false) (hk : yfk ci f = true)
    (hn : ∀ ad, narrow (yft ci f) (ycv ad (yo o)) = ycv ad (yo o) ∧ fits (yft ci f) (ycv ad (yo o)) = true) (kk : yWW G i Qf sh0 (pc + 3) ls st (ysf ω k f o) cs sl) : yWW G i Qf sh0 pc ls (yo o :: yr k :: st) ω cs sl :=
  yr_put0 (ω' := ysf ω k f o) hd hsh site hr hfin hn (by rw [if_pos hk]; exact congrArg yo (yu_same _ _ _ _).symm) rfl (ysf_ho ω k f o) (ysf_hj ω k f o) kk
theorem yr_putiF {k ci f ix : Nat} {ref : String} {x : Int32} {r : vw_C} (hd : decode (yMb i) pc = .ok (.putfield ix, 3)) (hsh : ω.1 k = some (.inl ci)) (site : ySF (yMy i).cls ix ref "" ci f = true) (hr : ycl[ci]? = some r) (hfin : (r.2.1 f).2.2.2 = true) (hin : (yMy i).name = "<init>") (hdecl : (r.2.1 f).1 = (yMy i).cls) (hk : yfk ci f = false)
    (hn : narrow (yft ci f) (.int x) = .int x ∧ fits (yft ci f) (.int x) = true) (kk : yWW G i Qf sh0 (pc + 3) ls st (ysi ω k f x) cs sl) : yWW G i Qf sh0 pc ls (yi x :: yr k :: st) ω cs sl :=
  yr_putF0 (ω' := ysi ω k f x) hd hsh site hr hfin hin hdecl (fun _ => hn) (by rw [if_neg (by rw [hk]; decide)]; exact congrArg yi (yu_same _ _ _ _).symm) rfl (ysi_ho ω k f x) (ysi_hj ω k f x) kk
theorem yr_putrF {k ci f ix : Nat} {ref : String} {o : Option Nat} {r : vw_C} (hd : decode (yMb i) pc = .ok (.putfield ix, 3)) (hsh : ω.1 k = some (.inl ci)) (site : ySF (yMy i).cls ix ref "" ci f = true) (hr : ycl[ci]? = some r) (hfin : (r.2.1 f).2.2.2 = true) (hin : (yMy i).name = "<init>") (hdecl : (r.2.1 f).1 = (yMy i).cls) (hk : yfk ci f = true)
    (hn : ∀ ad, narrow (yft ci f) (ycv ad (yo o)) = ycv ad (yo o) ∧ fits (yft ci f) (ycv ad (yo o)) = true) (kk : yWW G i Qf sh0 (pc + 3) ls st (ysf ω k f o) cs sl) : yWW G i Qf sh0 pc ls (yo o :: yr k :: st) ω cs sl :=
  yr_putF0 (ω' := ysf ω k f o) hd hsh site hr hfin hin hdecl hn (by rw [if_pos hk]; exact congrArg yo (yu_same _ _ _ _).symm) rfl (ysf_ho ω k f o) (ysf_hj ω k f o) kk
theorem yr_iast {k n j : Nat} {x z : Int32} (hd : decode (yMb i) pc = .ok (.iastore, 1)) (hsh : ω.1 k = some (.inr (0, n))) (h0 : ¬ x < 0) (hj : x.toNatClampNeg = j) (hn : j < n) (kk : yWW G i Qf sh0 (pc + 1) ls st (ysi ω k j z) cs sl) : yWW G i Qf sh0 pc ls (yi z :: yi x :: yr k :: st) ω cs sl := by
  intro p e s m args below meth c ad0 ad H locs lsA C hE hS hH hL
  subst hj
  refine W.iast C.1 C.2.1 (hH.2 k _ hsh).2 ((C.2.2.2.2.2.2.2.2.1.2 0 _ rfl).1 n _) (fun h => by cases h) (yin_of h0 rfl hn _ _) rfl rfl hd fun H' e1 e2 e3 => ?_
  exact kk p e s m args below meth c ad0 ad H' _ lsA C hE (hS.put e2 e3 (hH.2 k _ hsh).1) (yast_ok hH hsh (by rw [show (ysi ω k x.toNatClampNeg z).2.1 k x.toNatClampNeg = z from yu_same _ _ _ _]; rfl) rfl (ysi_ho ω k _ z) (ysi_hj ω k _ z) e1 e3) hL
theorem yr_zast {k n j : Nat} {x z : Int32} (hd : decode (yMb i) pc = .ok (.bastore, 1)) (hsh : ω.1 k = some (.inr (1, n))) (h0 : ¬ x < 0) (hj : x.toNatClampNeg = j) (hn : j < n) (hz : narrow .boolean (.int z) = .int z) (kk : yWW G i Qf sh0 (pc + 1) ls st (ysi ω k j z) cs sl) : yWW G i Qf sh0 pc ls (yi z :: yi x :: yr k :: st) ω cs sl := by
  intro p e s m args below meth c ad0 ad H locs lsA C hE hS hH hL
  subst hj
  refine W.zast C.1 C.2.1 (hH.2 k _ hsh).2 ((C.2.2.2.2.2.2.2.2.1.2 1 _ rfl).1 n _) (fun h => by cases h) (yin_of h0 rfl hn _ _) rfl rfl hd fun H' e1 e2 e3 => ?_
  rw [hz] at e1
  exact kk p e s m args below meth c ad0 ad H' _ lsA C hE (hS.put e2 e3 (hH.2 k _ hsh).1) (yast_ok hH hsh (by rw [show (ysi ω k x.toNatClampNeg z).2.1 k x.toNatClampNeg = z from yu_same _ _ _ _]; rfl) rfl (ysi_ho ω k _ z) (ysi_hj ω k _ z) e1 e3) hL
theorem yr_last {k n j : Nat} {x z : Int32} (hd : decode (yMb i) pc = .ok (.lastore, 1)) (hsh : ω.1 k = some (.inr (2, n))) (h0 : ¬ x < 0) (hj : x.toNatClampNeg = j) (hn : j < n) (kk : yWW G i Qf sh0 (pc + 1) ls st (ysi ω k j z) cs sl) : yWW G i Qf sh0 pc ls (yl z.toInt64 :: yi x :: yr k :: st) ω cs sl := by
  intro p e s m args below meth c ad0 ad H locs lsA C hE hS hH hL
  subst hj
  refine W.last C.1 C.2.1 (hH.2 k _ hsh).2 ((C.2.2.2.2.2.2.2.2.1.2 2 _ rfl).1 n _) (fun h => by cases h) (yin_of h0 rfl hn _ _) rfl rfl hd fun H' e1 e2 e3 => ?_
  exact kk p e s m args below meth c ad0 ad H' _ lsA C hE (hS.put e2 e3 (hH.2 k _ hsh).1) (yast_ok hH hsh (by rw [show (ysi ω k x.toNatClampNeg z).2.1 k x.toNatClampNeg = z from yu_same _ _ _ _]; rfl) rfl (ysi_ho ω k _ z) (ysi_hj ω k _ z) e1 e3) hL
end YA
end
section
section YN
variable {G : yG} {i : yM} {Qf : yQT} {sh0 : Nat → Option ySh} {pc : Nat} {ls : List (Option yV)} {st : List yV} {ω : yW} {cs sl : Nat}
/-- a reference into an array of references: by the tables the class may stand there -/
theorem yr_aast {k n j kv ci tc : Nat} {x : Int32} {r : vw_C} {C : String} (hd : decode (yMb i) pc = .ok (.aastore, 1)) (htc : tc = 3 ∨ tc = 4) (hty : yty tc = .object C) (hsh : ω.1 k = some (.inr (tc, n))) (hv : ω.1 kv = some (.inl ci)) (hr : ycl[ci]? = some r) (hcast : r.1 = C ∨ Cond.castable r.1 C ∈ lw_tbl) (h0 : ¬ x < 0) (hj : x.toNatClampNeg = j) (hn : j < n)
    (kk : yWW G i Qf sh0 (pc + 1) ls st (ysf ω k j (some kv)) cs sl) : yWW G i Qf sh0 pc ls (yr kv :: yi x :: yr k :: st) ω cs sl := by
  intro p e s m args below meth c ad0 ad H locs lsA C0 hE hS hH hL
  subst hj
  have hg := C0.2.2.2.2.2.2.2.1
  have hK := C0.2.2.2.2.2.2.2.2.1
  have hRA : va_RA s (ycA G tc) (.object C) := by
    rcases htc with rfl | rfl
    · have h9 := (hK.2 3 _ rfl).2; rw [hty] at h9; exact h9
    · have h9 := (hK.2 4 _ rfl).2; rw [hty] at h9; exact h9
  obtain ⟨kA, comp, k1, k2, k3, -⟩ := hRA
  obtain ⟨-, r0, hc0, cellV, g1, g2, g3, -⟩ := hH.2 kv _ hv
  cases hc0.symm.trans hr
  have hcls := (hK.1 ci r hr).2
  obtain ⟨kC, hkC, -⟩ := hcls.2
  obtain ⟨kcomp, hkcomp, -⟩ := Vm.findClass_spec k3
  have hasg : s.vm.assignable cellV.cls comp = true := by
    rw [g2]
    rcases hcast with hcast | hcast
    · rw [hcast] at hcls
      cases Option.some.inj (k3.symm.trans hcls.1)
      exact va_assign hcls
    · obtain ⟨c3, c4, f1, f2, f3⟩ := Cond.castable_spec (hg _ hcast rfl args)
      cases Option.some.inj (f1.symm.trans hcls.1)
      cases Option.some.inj (f2.symm.trans k3)
      exact f3
  have hev : ∀ (y : Int32) (o : Option Nat), yev ad tc y o = ycv ad (yo o) := by
    rcases htc with rfl | rfl <;> exact fun _ _ => rfl
  refine W.aast C0.1 C0.2.1 (hH.2 k _ hsh).2 (fun q h => by cases h) (fun h => by cases h) k1 k2 rfl hkcomp ⟨h0, by rw [arrV_size]; exact hn⟩ g1 (fun q h => by rw [g3] at h; cases h) (by rw [g2]; exact hkC) hasg rfl rfl hd fun H' e1 e2 e3 => ?_
  exact kk p e s m args below meth c ad0 ad H' _ lsA C0 hE (hS.put e2 e3 (hH.2 k _ hsh).1) (yast_ok hH hsh (by rw [hev, show (ysf ω k x.toNatClampNeg (some kv)).2.2 k x.toNatClampNeg = some kv from yu_same _ _ _ _]; rfl) rfl (ysf_ho ω k _ _) (ysf_hj ω k _ _) e1 e3) hL
theorem ycv_up {ad : Nat → Nat} {kn q : Nat} {v : yV} (h : v ≠ yr kn) : ycv (va_up ad kn q) v = ycv ad v := by
  rcases v with x | (o | z)
  · rfl
  · cases o with
    | none => rfl
    | some a =>
      show Value.ref (va_up ad kn q a) = Value.ref (ad a)
      rw [va_up_ne _ _ (fun e => h (by rw [e]))]
  · rfl
theorem yst_up {ad : Nat → Nat} {kn q : Nat} (l : List yV) (h : ∀ v ∈ l, v ≠ yr kn) : l.map (ycv (va_up ad kn q)) = l.map (ycv ad) := List.map_congr_left fun v hv => ycv_up (h v hv)
/-- a new cell in the heap, under a number that nobody has -/
theorem yH_new {ad : Nat → Nat} {H H' : Heap} {kn : Nat} {sp : ySh} (hH : yH G ad ω H) (hb : yGb G ≤ H.size) (f1 : ω.1 kn = none) (f2 : ∀ (k : Nat) (s9 : ySh) (f : Nat), ω.1 k = some s9 → ω.2.2 k f ≠ some kn) (h1 : ∀ q, q < H.size → H'[q]? = H[q]?) (hn : yOK G (va_up ad kn H.size) sp H.size (fun _ => 0) (fun _ => none) H') : yH G (va_up ad kn H.size) (yadd ω kn sp) H' := by
  have hlt : ∀ k, ω.1 k ≠ none → ad k < H.size := by
    intro k hk
    cases h9 : ω.1 k with
    | none => exact absurd h9 hk
    | some s9 => exact (hH.2 k s9 h9).2.lt
  have hsh : ∀ k, k ≠ kn → (yadd ω kn sp).1 k = ω.1 k := fun k hk => va_up_ne _ _ hk
  refine ⟨fun k k' hk hk' he => ?_, fun k s9 hk => ?_⟩
  · by_cases e1 : k = kn
    · by_cases e2 : k' = kn
      · rw [e1, e2]
      · rw [hsh k' e2] at hk'
        rw [e1, va_up_self, va_up_ne _ _ e2] at he
        have := hlt k' hk'
        omega
    · rw [hsh k e1] at hk
      by_cases e2 : k' = kn
      · rw [e2, va_up_self, va_up_ne _ _ e1] at he
        have := hlt k hk
        omega
      · rw [hsh k' e2] at hk'
        rw [va_up_ne _ _ e1, va_up_ne _ _ e2] at he
        exact hH.1 k k' hk hk' he
  · by_cases e1 : k = kn
    · subst e1
      have hk2 : some sp = some s9 := by
        have : (yadd ω k sp).1 k = some sp := va_up_self _ _ _
        rw [← this]; exact hk
      cases hk2
      rw [va_up_self]
      refine ⟨hb, ?_⟩
      have a1 : (yadd ω k sp).2.1 k = fun _ => 0 := va_up_self _ _ _
      have a2 : (yadd ω k sp).2.2 k = fun _ => none := va_up_self _ _ _
      rw [a1, a2]
      exact hn
    · rw [hsh k e1] at hk
      rw [va_up_ne _ _ e1]
      obtain ⟨b1, b2⟩ := hH.2 k s9 hk
      refine ⟨b1, ?_⟩
      have a1 : (yadd ω kn sp).2.1 k = ω.2.1 k := va_up_ne _ _ e1
      have a2 : (yadd ω kn sp).2.2 k = ω.2.2 k := va_up_ne _ _ e1
      rw [a1, a2]
      have b3 := b2.kept (h1 _ b2.lt)
      cases s9 with
      | inl ci =>
        obtain ⟨r, hr, ho⟩ := b3
        refine ⟨r, hr, ho.to fun j hj => ?_⟩
        show yfv ad ci j _ _ = yfv _ ci j _ _
        unfold yfv
        split
        · exact (ycv_up (v := yo (ω.2.2 k j)) (fun z => f2 k _ j hk (Sum.inl.inj (Sum.inr.inj z)))).symm
        · rfl
      | inr q9 =>
        refine Eq.trans b3 ?_
        congr 2
        funext j
        unfold yev
        split
        · rfl
        · rfl
        · rfl
        · exact (ycv_up (v := yo (ω.2.2 k j)) (fun z => f2 k _ j hk (Sum.inl.inj (Sum.inr.inj z)))).symm
theorem yr_new {ci ix n kn : Nat} {r : vw_C} (hd : decode (yMb i) pc = .ok (.new ix, 3)) (hr : ycl[ci]? = some r) (hl : Cond.classLink (yMy i).cls ix r.1 ∈ lw_tbl) (hi : Cond.instantiable r.1 n ∈ lw_tbl) (hini : Cond.initialized r.1 ∈ lw_tbl) (f0 : sh0 kn = none) (f1 : ω.1 kn = none) (f2 : ∀ (k : Nat) (s9 : ySh) (f : Nat), ω.1 k = some s9 → ω.2.2 k f ≠ some kn) (f3 : ∀ v ∈ st, v ≠ yr kn) (f4 : ∀ v, some v ∈ ls → v ≠ yr kn)
    (hcs : cs + 1 ≤ (yMm i).cells) (hsl : sl + n ≤ (yMm i).slots) (kk : yWW G i Qf sh0 (pc + 3) ls (yr kn :: st) (yadd ω kn (.inl ci)) (cs + 1) (sl + n)) : yWW G i Qf sh0 pc ls st ω cs sl := by
  intro p e s m args below meth c ad0 ad H locs lsA C hE hS hH hL
  have hg := C.2.2.2.2.2.2.2.1
  have hK := C.2.2.2.2.2.2.2.2.1
  have hb : yGb G ≤ H.size := Nat.le_trans C.2.2.2.2.2.2.2.2.2.2.1 hS.1
  have hKn := hK.1 ci r hr
  refine W.newcK C.1 C.2.1 C.2.2.2.2.1 (hg _ hl rfl args) (hg _ hi rfl args) (hg _ hini rfl args) rfl hd hcs hsl hKn.2.1 rfl fun H' kC h1 h2 h3 h4 => ?_
  have hnew : yOK G (va_up ad kn H.size) (.inl ci) H.size (fun _ => 0) (fun _ => none) H' := by
    refine ⟨r, hr, (u_born (yft ci) (hg.hts args) (fun w hw => yIn r (List.mem_of_getElem? hr) w hw) hKn h1 h2 (fun j hj => yftok ci r hr j hj)).to fun j hj => ?_⟩
    show defaultValue (yft ci j) = yfv _ ci j 0 none
    rw [yfdef ci r hr j hj]
    rfl
  have k1 := kk p e s m args below meth c ad0 (va_up ad kn H.size) H' locs lsA C (fun k hk => by
      by_cases e1 : k = kn
      · subst e1
        rcases hk with hk | hk
        · exact absurd f0 hk
        · have : (yadd ω k (.inl ci)).1 k = some (.inl ci) := va_up_self _ _ _
          rw [this] at hk; cases hk
      · rw [va_up_ne _ _ e1]
        have : (yadd ω kn (.inl ci)).1 k = ω.1 k := va_up_ne _ _ e1
        rw [this] at hk
        exact hE k hk) ⟨Nat.le_trans hS.1 (by omega), fun q a1 a2 => (h4 q (Nat.lt_of_lt_of_le a1 hS.1)).trans (hS.2.1 q a1 a2), hS.2.2⟩ (yH_new hH hb f1 f2 h4 hnew) (hL.ext fun j v hj => ycv_up (f4 v (List.mem_of_getElem? hj)))
  rw [List.map_cons, yst_up st f3] at k1
  have k2 : ycv (va_up ad kn H.size) (yr kn) = .ref H.size := by
    show Value.ref (va_up ad kn H.size kn) = _
    rw [va_up_self]
  rw [k2] at k1
  exact k1
theorem yr_newa {tc kn N : Nat} {x : Int32} {ty : ArrayType} (hd : decode (yMb i) pc = .ok (.newarray ty, 2)) (hty : newarray.typeOf ty = yty tc) (htc : tc < 3) (hw : Cond.arrayClass (yty tc) ∈ lw_tbl) (h0 : ¬ x < 0) (hN : x.toNatClampNeg = N) (hb8 : N * 8 ≤ 536870912) (f0 : sh0 kn = none) (f1 : ω.1 kn = none) (f2 : ∀ (k : Nat) (s9 : ySh) (f : Nat), ω.1 k = some s9 → ω.2.2 k f ≠ some kn) (f3 : ∀ v ∈ st, v ≠ yr kn) (f4 : ∀ v, some v ∈ ls → v ≠ yr kn)
    (hcs : cs + 1 ≤ (yMm i).cells) (hsl : sl + N ≤ (yMm i).slots) (kk : yWW G i Qf sh0 (pc + 2) ls (yr kn :: st) (yadd ω kn (.inr (tc, N))) (cs + 1) (sl + N)) : yWW G i Qf sh0 pc ls (yi x :: st) ω cs sl := by
  intro p e s m args below meth c ad0 ad H locs lsA C hE hS hH hL
  subst hN
  have hg := C.2.2.2.2.2.2.2.1
  have hK := C.2.2.2.2.2.2.2.2.1
  have hb : yGb G ≤ H.size := Nat.le_trans C.2.2.2.2.2.2.2.2.2.2.1 hS.1
  have hcb : componentBytes (newarray.typeOf ty) ≤ 8 := by
    rw [hty]
    rcases (show tc = 0 ∨ tc = 1 ∨ tc = 2 by omega) with rfl | rfl | rfl <;> decide
  refine W.newa C.1 C.2.1 (by rw [hty]; exact hg _ hw (by rcases (show tc = 0 ∨ tc = 1 ∨ tc = 2 by omega) with rfl | rfl | rfl <;> rfl) args) rfl hd rfl h0 (Nat.le_trans (Nat.mul_le_mul_left _ hcb) hb8) hcs hsl fun cA kA comp h1 h2 h3 => ?_
  have hcA : cA = ycA G tc := by
    rw [hty] at h1
    rcases (show tc = 0 ∨ tc = 1 ∨ tc = 2 by omega) with rfl | rfl | rfl
    · exact Option.some.inj (h1.symm.trans (hK.2 0 _ rfl).2)
    · exact Option.some.inj (h1.symm.trans (hK.2 1 _ rfl).2)
    · exact Option.some.inj (h1.symm.trans (hK.2 2 _ rfl).2)
  subst hcA
  generalize hH' : H.push ({ cls := ycA G tc, slots := Array.replicate x.toNatClampNeg (defaultValue (newarray.typeOf ty)), vm := .none } : Cell) = H'
  have h4 : ∀ q : Nat, q < H.size → H'[q]? = H[q]? := fun q hq => by rw [← hH', Array.getElem?_push, if_neg (Nat.ne_of_lt hq)]
  have h5 : H'.size = H.size + 1 := by rw [← hH', Array.size_push]
  have hnew : yOK G (va_up ad kn H.size) (.inr (tc, x.toNatClampNeg)) H.size (fun _ => 0) (fun _ => none) H' := by
    show H'[H.size]? = some (arrV _ _ _)
    rw [← hH', Array.getElem?_push_size, arrV_new]
    congr 2
    funext j
    rw [hty]
    rcases (show tc = 0 ∨ tc = 1 ∨ tc = 2 by omega) with rfl | rfl | rfl <;> rfl
  have k1 := kk p e s m args below meth c ad0 (va_up ad kn H.size) H' locs lsA C (fun k hk => by
      by_cases e1 : k = kn
      · subst e1
        rcases hk with hk | hk
        · exact absurd f0 hk
        · have : (yadd ω k (.inr (tc, x.toNatClampNeg))).1 k = some (.inr (tc, x.toNatClampNeg)) := va_up_self _ _ _
          rw [this] at hk; cases hk
      · rw [va_up_ne _ _ e1]
        have : (yadd ω kn (.inr (tc, x.toNatClampNeg))).1 k = ω.1 k := va_up_ne _ _ e1
        rw [this] at hk
        exact hE k hk) ⟨Nat.le_trans hS.1 (by omega), fun q a1 a2 => (h4 q (Nat.lt_of_lt_of_le a1 hS.1)).trans (hS.2.1 q a1 a2), hS.2.2⟩ (yH_new hH hb f1 f2 h4 hnew) (hL.ext fun j v hj => ycv_up (f4 v (List.mem_of_getElem? hj)))
  rw [List.map_cons, yst_up st f3] at k1
  have k2 : ycv (va_up ad kn H.size) (yr kn) = .ref H.size := by
    show Value.ref (va_up ad kn H.size kn) = _
    rw [va_up_self]
  rw [k2] at k1
  exact k1
theorem yr_newq {tc kn N ix : Nat} {x : Int32} {C0 : String} (hd : decode (yMb i) pc = .ok (.anewarray ix, 3)) (htc : tc = 3 ∨ tc = 4) (hty : yty tc = .object C0) (hl : Cond.classLink (yMy i).cls ix C0 ∈ lw_tbl) (hw : Cond.arrayOver (.object C0) ∈ lw_tbl) (h0 : ¬ x < 0) (hN : x.toNatClampNeg = N) (hb8 : N * 8 ≤ 536870912) (f0 : sh0 kn = none) (f1 : ω.1 kn = none) (f2 : ∀ (k : Nat) (s9 : ySh) (f : Nat), ω.1 k = some s9 → ω.2.2 k f ≠ some kn) (f3 : ∀ v ∈ st, v ≠ yr kn) (f4 : ∀ v, some v ∈ ls → v ≠ yr kn)
    (hcs : cs + 1 ≤ (yMm i).cells) (hsl : sl + N ≤ (yMm i).slots) (kk : yWW G i Qf sh0 (pc + 3) ls (yr kn :: st) (yadd ω kn (.inr (tc, N))) (cs + 1) (sl + N)) : yWW G i Qf sh0 pc ls (yi x :: st) ω cs sl := by
  intro p e s m args below meth c ad0 ad H locs lsA C hE hS hH hL
  subst hN
  have hg := C.2.2.2.2.2.2.2.1
  have hK := C.2.2.2.2.2.2.2.2.1
  have hb : yGb G ≤ H.size := Nat.le_trans C.2.2.2.2.2.2.2.2.2.2.1 hS.1
  refine W.anew C.1 C.2.1 C.2.2.2.2.1 (hg _ hl rfl args) (hg _ hw rfl args) rfl hd rfl h0 (by omega) hcs hsl fun cA kA comp h1 h2 h3 h3b => ?_
  have hcA : cA = ycA G tc := by
    rcases htc with rfl | rfl
    · have h9 := (hK.2 3 _ rfl).2
      rw [hty] at h9
      obtain ⟨_, _, -, -, -, h10⟩ := h9
      exact Option.some.inj (h1.symm.trans h10)
    · have h9 := (hK.2 4 _ rfl).2
      rw [hty] at h9
      obtain ⟨_, _, -, -, -, h10⟩ := h9
      exact Option.some.inj (h1.symm.trans h10)
  subst hcA
  generalize hH' : H.push ({ cls := ycA G tc, slots := Array.replicate x.toNatClampNeg .null, vm := .none } : Cell) = H'
  have h4 : ∀ q : Nat, q < H.size → H'[q]? = H[q]? := fun q hq => by rw [← hH', Array.getElem?_push, if_neg (Nat.ne_of_lt hq)]
  have h5 : H'.size = H.size + 1 := by rw [← hH', Array.size_push]
  have hnew : yOK G (va_up ad kn H.size) (.inr (tc, x.toNatClampNeg)) H.size (fun _ => 0) (fun _ => none) H' := by
    show H'[H.size]? = some (arrV _ _ _)
    rw [← hH', Array.getElem?_push_size, arrV_new]
    congr 2
    funext j
    rcases htc with rfl | rfl <;> rfl
  have k1 := kk p e s m args below meth c ad0 (va_up ad kn H.size) H' locs lsA C (fun k hk => by
      by_cases e1 : k = kn
      · subst e1
        rcases hk with hk | hk
        · exact absurd f0 hk
        · have : (yadd ω k (.inr (tc, x.toNatClampNeg))).1 k = some (.inr (tc, x.toNatClampNeg)) := va_up_self _ _ _
          rw [this] at hk; cases hk
      · rw [va_up_ne _ _ e1]
        have : (yadd ω kn (.inr (tc, x.toNatClampNeg))).1 k = ω.1 k := va_up_ne _ _ e1
        rw [this] at hk
        exact hE k hk) ⟨Nat.le_trans hS.1 (by omega), fun q a1 a2 => (h4 q (Nat.lt_of_lt_of_le a1 hS.1)).trans (hS.2.1 q a1 a2), hS.2.2⟩ (yH_new hH hb f1 f2 h4 hnew) (hL.ext fun j v hj => ycv_up (f4 v (List.mem_of_getElem? hj)))
  rw [List.map_cons, yst_up st f3] at k1
  have k2 : ycv (va_up ad kn H.size) (yr kn) = .ref H.size := by
    show Value.ref (va_up ad kn H.size kn) = _
    rw [va_up_self]
  rw [k2] at k1
  exact k1
end YN
end
section
/-! the small logic: calls and ends -/
theorem yPc_blind {G : yG} {ad : Nat → Nat} {As : List yV} {ω : yW} : FrameBlind (yPc G ad As ω) := by
  intro a U g mk ⟨h1, h2, h3, h4, h5, h6⟩
  exact ⟨h1, h2.warm (U' := U.calling g mk a) (State.WarmedH.refl U), va_K.moved (u := U) (U := U.calling g mk a) (Vm.Alike.refl U.vm) h3, ySt.moved (u := U) (U := U.calling g mk a) (Vm.Alike.refl U.vm) h4, h5, h6⟩
def yck (R : Room) (i' : yM) (n : Nat) : Bool := decide ((yMm i').frames + 1 ≤ R.frames) && decide (8 + (yMl i' + 11) + (yMm i').locals ≤ R.locals) && decide ((yMy i').cls ≠ "java/lang/invoke/MethodHandle") && decide ((yMy i').cls ≠ "java/lang/invoke/VarHandle") && decide ((parseMethodDescriptor (yMy i').desc).map (fun d => d.parameters.length) = some n)
abbrev ycode (i' : yM) : Cond := .code (yMy i') (yMb i') (yMl i') (yMr i')
/-- a callee that throws nothing -/
theorem yMet {l : Launch} {y : MethodName} {ws : List Cond} {rm : Room} {Pc : Array Value → State → Prop} {Qc : Array Value → State → Outcome → State → Prop} {XC : String → State → State → Prop} {mc ms : Nat} {free : Addr → Prop} (h : vx_Met l y ws rm Pc Qc XC mc ms free) (hX : ∀ E s t, ¬ XC E s t) : Met l y ws rm Pc Qc mc ms free := by
  intro p e a1 a2 a3 s m args below b1 b2 b3 b4
  obtain ⟨n, o, c1, c2, c3, c4⟩ := h p e a1 a2 a3 s m args below b1 b2 b3 b4
  refine ⟨n, o, c1, c2, c3, ?_⟩
  rcases c4 with c4 | ⟨q, -, E, ce, L, hx, -⟩
  · exact c4
  · exact absurd hx (hX _ _ _)
theorem yMetN {G : yG} {i : yM} {As : List yV} {ω : yW} {P : Option yV → yW → Prop} (h : yCT G i As ω P yNX) (ad : Nat → Nat) : Met (yGl G) (yMy i) [.code (yMy i) (yMb i) (yMl i) (yMr i)] (yMm i) (yPc G ad As ω) (yQc G ad ω.1 P) (yMm i).cells (yMm i).slots (yA G) :=
  yMet (h ad) (fun _ _ _ ⟨_, _, hx, _⟩ => hx)
theorem yRunN {p : Program} {l : Launch} {e : Env} {R : Room} {s : State} {m : MethodId} {args : Array Value} {below : List Frame} {meth : Method} {c : Code} {H : Heap} {locs : List Loc} {cells slots mc ms : Nat} {g : JFrame} {rest : List Value} {Qa : State → Outcome → State → Prop} {XC : String → State → State → Prop} {free : Addr → Prop} (h : va_Run p l e R s m args below meth c H locs cells slots mc ms g rest Qa free) : vx_Run p l e R s m args below meth c H locs cells slots mc ms g rest Qa XC free :=
  fun T hT X => Or.inl (h T hT X)
section YC
variable {G : yG} {i : yM} {Qf : yQT} {sh0 : Nat → Option ySh} {pc : Nat} {ls : List (Option yV)} {st : List yV} {ω : yW} {cs sl : Nat}
variable {p : Program} {e : Env} {s : State} {m : MethodId} {args : Array Value} {below : List Frame} {meth : Method} {c : Code} {ad : Nat → Nat} {H : Heap} {locs : List Loc} {lsA : Array Slot}
theorem yPc_at {As : List yV} {U : State} (C : yCx G i p s m meth c) (hS : va_S (yA G) s.heap H locs) (hH : yH G ad ω H) (hU : U.heap = H) (hW : s.WarmedH U.vm) : yPc G ad As ω (As.map (ycv ad)).toArray U := by
  obtain ⟨-, -, -, -, -, -, -, hg, hK, hst, hsz, -⟩ := C
  refine ⟨rfl, hg.warm hW, va_K.moved hW.alike hK, ?_, ?_, ?_⟩
  · rw [hU]; exact ySt.moved hW.alike (hst.kept hS.2.1)
  · rw [hU]; exact Nat.le_trans hsz hS.1
  · rw [hU]; exact hH
theorem yws {i' : yM} (hg : yGx s) (hcode : ycode i' ∈ lw_tbl) : ∀ w ∈ [ycode i'], ∀ (a' : Array Value) (U : State), s.WarmedH U.vm → w.before a' U = true := by
  intro w hw a' U hW
  rw [List.mem_singleton] at hw
  subst hw
  exact hg.warm hW _ hcode rfl a'
theorem yCB {i' : yM} {own : String} {ix n : Nat} (hg : yGx s) (hck : yck (yMm i) i' n = true) (hcode : ycode i' ∈ lw_tbl) (hini : Cond.initialized (yMy i').cls ∈ lw_tbl) (hl : Cond.methodLink own ix (yMy i') ∈ lw_tbl) :
    CallB (yMm i) s args own ix (yMy i') (yMb i') (yMl i') (yMr i') [ycode i'] (yMm i') (yMm i').cells (yMm i').slots n := by
  unfold yck at hck
  simp only [Bool.and_eq_true, decide_eq_true_eq] at hck
  obtain ⟨⟨⟨⟨h1, h2⟩, h3⟩, h4⟩, h5⟩ := hck
  refine ⟨rfl, rfl, h1, h2, yws hg hcode, List.mem_singleton_self _, hg _ hcode rfl args, hg _ hini rfl args, ⟨h3, h4⟩, fun sig h => ?_, hg _ hl rfl args⟩
  rw [h] at h5
  exact (Option.some.inj h5).symm
theorem yrecv {k ci : Nat} {r : vw_C} (C : yCx G i p s m meth c) (hH : yH G ad ω H) (hsh : ω.1 k = some (.inl ci)) (hr : ycl[ci]? = some r) : ∃ cellB : Cell, H[ad k]? = some cellB ∧ cellB.vm.isStatics = false ∧ s.vm.findClass r.1 = some cellB.cls := by
  obtain ⟨-, r0, hc0, cell, q1, q2, q3, -⟩ := hH.2 k _ hsh
  cases hc0.symm.trans hr
  exact ⟨cell, q1, by rw [q3]; rfl, by rw [q2]; exact (C.2.2.2.2.2.2.2.2.1.1 ci r hr).2.1⟩
end YC
section YD
variable {G : yG} {i : yM} {Qf : yQT} {sh0 : Nat → Option ySh} {pc : Nat} {ls : List (Option yV)} {st : List yV} {ω : yW} {cs sl : Nat}
/-- how a call runs: what each kind of call gives -/
def yRun (G : yG) (i i' : yM) (pc : Nat) (ls : List (Option yV)) (stk rest As : List yV) (ω : yW) (cs sl : Nat) (P : Option yV → yW → Prop) (X : String → yW → Prop) : Prop :=
  ∀ (p : Program) (e : Env) (s : State) (m : MethodId) (args : Array Value) (below : List Frame) (meth : Method) (c : Code) (ad : Nat → Nat) (H : Heap) (locs : List Loc) (lsA : Array Slot),
    yCx G i p s m meth c → va_S (yA G) s.heap H locs → yH G ad ω H → yLv ad (yMl i) lsA ls →
    vx_Run p (yGl G) e (yMm i) s m args below meth c H locs cs sl (yMm i').cells (yMm i').slots (F0 m pc lsA (stk.map (ycv ad))) (rest.map (ycv ad)) (yQc G ad ω.1 P (As.map (ycv ad)).toArray) (yXc G ad ω.1 X) (yA G)
/-- the callee makes nothing and throws nothing -/
theorem yr_call {i' : yM} {stk rest As : List yV} {P : Option yV → yW → Prop} (hr : yRun G i i' pc ls stk rest As ω cs sl P yNX) (hP : ∀ r ω', P r ω' → ω'.1 = ω.1) (kk : ∀ r ω', P r ω' → yWW G i Qf sh0 (pc + 3) ls (r.toList ++ rest) ω' (cs + (yMm i').cells) (sl + (yMm i').slots)) : yWW G i Qf sh0 pc ls stk ω cs sl := by
  intro p e s m args below meth c ad0 ad H locs lsA C hE hS hH hL
  intro T hT X
  rcases hr p e s m args below meth c ad H locs lsA C hS hH hL T hT X with ⟨v, st₀, t, T', L, h0, X', hL2, e1, e2, ⟨r, ad', ω', hv, hp, hx, hH', hF⟩, stp⟩ | ⟨q, st₀, t, T', L, E, ce, h0, X', hL2, e1, e2, ⟨ad', ω', hx, -⟩, -⟩
  · cases hv
    have hs := hP r ω' hp
    have hadd : ad' = ad := by
      funext k
      refine hx k ?_
      by_cases h9 : ω.1 k = none
      · exact Or.inr (by rw [hs]; exact h9)
      · exact Or.inl h9
    subst hadd
    obtain ⟨k1, k2, k3⟩ := vx_keep h0 e1 hS (fun q _ h => h) (fun q h => h) hL2 hF
    have k4 := kk r ω' hp p e s m args below meth c ad0 ad' T'.heap (locs ++ L) lsA C (fun k hk => hE k (by rw [hs] at hk; exact hk)) k3 (by rw [e1]; exact hH') hL
    rw [List.map_append] at k4
    obtain ⟨t2, a1, b1⟩ := k4 T' rfl X'
    refine ⟨t2, stp t2 ?_, b1⟩
    cases r with
    | none => exact a1
    | some w => exact a1
  · exact absurd hx id
/-- .. or it makes cells: their numbers are new -/
theorem yr_callN {i' : yM} {stk rest As : List yV} {P : Option yV → yW → Prop} (hr : yRun G i i' pc ls stk rest As ω cs sl P yNX) (hm : ∀ k, sh0 k ≠ none → ω.1 k ≠ none) (hP : ∀ r ω', P r ω' → (∀ k, ω'.1 k = none → ω.1 k = none) ∧ (∀ k, (yr k ∈ rest ∨ some (yr k) ∈ ls) → ω.1 k ≠ none ∨ ω'.1 k = none)) (kk : ∀ r ω', P r ω' → yWW G i Qf sh0 (pc + 3) ls (r.toList ++ rest) ω' (cs + (yMm i').cells) (sl + (yMm i').slots)) : yWW G i Qf sh0 pc ls stk ω cs sl := by
  intro p e s m args below meth c ad0 ad H locs lsA C hE hS hH hL
  intro T hT X
  rcases hr p e s m args below meth c ad H locs lsA C hS hH hL T hT X with ⟨v, st₀, t, T', L, h0, X', hL2, e1, e2, ⟨r, ad', ω', hv, hp, hx, hH', hF⟩, stp⟩ | ⟨q, st₀, t, T', L, E, ce, h0, X', hL2, e1, e2, ⟨ad', ω', hx, -⟩, -⟩
  · cases hv
    obtain ⟨hq1, hq2⟩ := hP r ω' hp
    have hcv : ∀ v : yV, (∀ k, v = yr k → ad' k = ad k) → ycv ad' v = ycv ad v := by
      intro v hv
      rcases v with x | (o | z)
      · rfl
      · cases o with
        | none => rfl
        | some a => exact congrArg Value.ref (hv a rfl)
      · rfl
    obtain ⟨k1, k2, k3⟩ := vx_keep h0 e1 hS (fun q _ h => h) (fun q h => h) hL2 hF
    have k4 := kk r ω' hp p e s m args below meth c ad0 ad' T'.heap (locs ++ L) lsA C (fun k hk => by
        rcases hk with hk | hk
        · rw [hx k (Or.inl (hm k hk))]; exact hE k (Or.inl hk)
        · rw [hx k (Or.inr hk)]; exact hE k (Or.inr (hq1 k hk))) k3 (by rw [e1]; exact hH') (hL.ext fun j v hj => hcv v fun k hk => hx k (hq2 k (Or.inr (by rw [← hk]; exact List.mem_of_getElem? hj))))
    rw [List.map_append, show rest.map (ycv ad') = rest.map (ycv ad) from List.map_congr_left fun v hv => hcv v fun k hk => hx k (hq2 k (Or.inl (by rw [← hk]; exact hv)))] at k4
    obtain ⟨t2, a1, b1⟩ := k4 T' rfl X'
    refine ⟨t2, stp t2 ?_, b1⟩
    cases r with
    | none => exact a1
    | some w => exact a1
  · exact absurd hx id
variable {P : Option yV → yW → Prop} {X : String → yW → Prop}
theorem ycat_le {ad : Nat → Nat} : ∀ (l : List yV) {n : Nat}, l.length ≤ n → (∀ v ∈ l, ∀ ad, (ycv ad v).category = 1) → ((l.map (ycv ad)).map fun v => v.category).sum ≤ n
  | [], _, _, _ => by simp
  | v :: l, n, h, h2 => by
    have h3 := ycat_le (ad := ad) l (n := n - 1) (by simp at h; omega) (fun w hw => h2 w (List.mem_cons_of_mem _ hw))
    simp only [List.map_cons, List.sum_cons, h2 v List.mem_cons_self ad]
    simp at h
    omega
/-- a static method -/
theorem yrunS {i' : yM} {As rest : List yV} {ix : Nat} (hd : decode (yMb i) pc = .ok (.invokestatic ix, 3)) (hct : yCT G i' As ω P X) (hck : yck (yMm i) i' As.length = true) (hcode : ycode i' ∈ lw_tbl) (hini : Cond.initialized (yMy i').cls ∈ lw_tbl) (hl : Cond.methodLink (yMy i).cls ix (yMy i') ∈ lw_tbl) (hstat : Cond.static (yMy i') ∈ lw_tbl) (hrest : rest.length ≤ 8) (hcat : ∀ v ∈ rest, ∀ ad, (ycv ad v).category = 1) (hc : cs + (yMm i').cells ≤ (yMm i).cells) (hs : sl + (yMm i').slots ≤ (yMm i).slots) : yRun G i i' pc ls (As.reverse ++ rest) rest As ω cs sl P X := by
  intro p e s m args below meth c ad H locs lsA C hS hH hL
  have hg := C.2.2.2.2.2.2.2.1
  exact vx_runS (Ts := yTs) (As := As.map (ycv ad)) ⟨C.1, C.2.1, C.2.2.2.1, C.2.2.2.2.1, hg.hts args⟩ (hct ad) ⟨yCB hg hck hcode hini hl, hg _ hstat rfl args⟩ ⟨yPc_blind, fun U hU hW => yPc_at C hS hH hU hW⟩ rfl (by rw [List.length_map]) hL.size (by rw [List.map_append, List.map_reverse]) (by show 2 * 0 + _ ≤ 8; have := ycat_le (ad := ad) rest hrest hcat; omega) hd ⟨hc, hs⟩
/-- an instance method, the receiver's class its own -/
theorem yrunV {i' : yM} {k ci : Nat} {As rest : List yV} {ix : Nat} {r : vw_C} (hd : decode (yMb i) pc = .ok (.invokevirtual ix, 3)) (hct : yCT G i' (yr k :: As) ω P X) (hsh : ω.1 k = some (.inl ci)) (hr : ycl[ci]? = some r) (hck : yck (yMm i) i' As.length = true) (hcode : ycode i' ∈ lw_tbl) (hini : Cond.initialized (yMy i').cls ∈ lw_tbl) (hl : Cond.methodLink (yMy i).cls ix (yMy i') ∈ lw_tbl) (hin : Cond.instanceMethod (yMy i') ∈ lw_tbl) (hsel : Cond.selects r.1 (yMy i') (yMy i') ∈ lw_tbl) (hrest : rest.length ≤ 8) (hcat : ∀ v ∈ rest, ∀ ad, (ycv ad v).category = 1) (hc : cs + (yMm i').cells ≤ (yMm i).cells) (hs : sl + (yMm i').slots ≤ (yMm i).slots) : yRun G i i' pc ls (As.reverse ++ yr k :: rest) rest (yr k :: As) ω cs sl P X := by
  intro p e s m args below meth c ad H locs lsA C hS hH hL
  have hg := C.2.2.2.2.2.2.2.1
  exact vx_runV (Ts := yTs) (C := r.1) (As := As.map (ycv ad)) ⟨C.1, C.2.1, C.2.2.2.1, C.2.2.2.2.1, hg.hts args⟩ (hct ad) ⟨yCB hg hck hcode hini hl, hg _ hin rfl args, hg _ hsel rfl args⟩ ⟨yPc_blind, yrecv C hH hsh hr, fun U hU hW => yPc_at (As := yr k :: As) C hS hH hU hW⟩ rfl (by rw [List.length_map]) hL.size (by rw [List.map_append, List.map_reverse, List.map_cons]; rfl) (by show 2 * 0 + _ ≤ 8; have := ycat_le (ad := ad) rest hrest hcat; omega) hd ⟨hc, hs⟩
/-- a constructor -/
theorem yrunI {i' : yM} {k : Nat} {As rest : List yV} {ix : Nat} (hd : decode (yMb i) pc = .ok (.invokespecial ix, 3)) (hnm : (yMy i').name = "<init>") (hret : yMr i' = none) (hct : yCT G i' (yr k :: As) ω P yNX) (hck : yck (yMm i) i' As.length = true) (hcode : ycode i' ∈ lw_tbl) (hini : Cond.initialized (yMy i').cls ∈ lw_tbl) (hl : Cond.methodLink (yMy i).cls ix (yMy i') ∈ lw_tbl) (hin : Cond.instanceMethod (yMy i') ∈ lw_tbl) (hrest : rest.length ≤ 8) (hcat : ∀ v ∈ rest, ∀ ad, (ycv ad v).category = 1) (hc : cs + (yMm i').cells ≤ (yMm i).cells) (hs : sl + (yMm i').slots ≤ (yMm i).slots) : yRun G i i' pc ls (As.reverse ++ yr k :: rest) rest (yr k :: As) ω cs sl P yNX := by
  intro p e s m args below meth c ad H locs lsA C hS hH hL
  have hg := C.2.2.2.2.2.2.2.1
  have hcb := yCB (i := i) (args := args) hg hck hcode hini hl
  rw [hret] at hcb
  refine yRunN (va_runI (Ts := yTs) (As := As.map (ycv ad)) ⟨C.1, C.2.1, C.2.2.2.1, C.2.2.2.2.1, hg.hts args⟩ (yMetN hct ad) ⟨hcb, hnm, hg _ hin rfl args⟩ ⟨yPc_blind, fun U hU hW => yPc_at (As := yr k :: As) C hS hH hU hW⟩ rfl (by rw [List.length_map]) hL.size (by rw [List.map_append, List.map_reverse, List.map_cons]; rfl) (by show 2 * 0 + _ ≤ 8; have := ycat_le (ad := ad) rest hrest hcat; omega) hd ⟨hc, hs⟩)
/-- an inherited or overriding method: the site names x, found in owner; the receiver's class selects the callee -/
theorem yrunU {i' : yM} {k ci : Nat} {As rest : List yV} {ix : Nat} {r : vw_C} {x : MethodName} {owner : String} (hd : decode (yMb i) pc = .ok (.invokevirtual ix, 3)) (hct : yCT G i' (yr k :: As) ω P yNX) (hsh : ω.1 k = some (.inl ci)) (hr : ycl[ci]? = some r) (hck : yck (yMm i) i' As.length = true) (hno : owner ≠ "java/lang/invoke/MethodHandle" ∧ owner ≠ "java/lang/invoke/VarHandle") (hpx : (parseMethodDescriptor x.desc).map (fun d => d.parameters.length) = some As.length) (hcode : ycode i' ∈ lw_tbl) (hini : Cond.initialized (yMy i').cls ∈ lw_tbl) (hl : Cond.methodLink (yMy i).cls ix x ∈ lw_tbl) (hsame : Cond.sameMethod x.cls owner x.name x.desc ∈ lw_tbl) (hdecl : ∀ s : State, yGx s → va_Decl s ⟨owner, x.name, x.desc⟩) (hin : Cond.instanceMethod (yMy i') ∈ lw_tbl) (hsel : Cond.selects r.1 x (yMy i') ∈ lw_tbl) (hrest : rest.length ≤ 8) (hcat : ∀ v ∈ rest, ∀ ad, (ycv ad v).category = 1) (hc : cs + (yMm i').cells ≤ (yMm i).cells) (hs : sl + (yMm i').slots ≤ (yMm i).slots) : yRun G i i' pc ls (As.reverse ++ yr k :: rest) rest (yr k :: As) ω cs sl P yNX := by
  intro p e s m args below meth c ad H locs lsA C hS hH hL
  have hg := C.2.2.2.2.2.2.2.1
  unfold yck at hck
  simp only [Bool.and_eq_true, decide_eq_true_eq] at hck
  obtain ⟨⟨⟨⟨h1, h2⟩, -⟩, -⟩, -⟩ := hck
  refine yRunN (va_runU (Ts := yTs) (C := r.1) (As := As.map (ycv ad)) ⟨C.1, C.2.1, C.2.2.2.1, C.2.2.2.2.1, hg.hts args⟩ (yMetN hct ad) ⟨⟨rfl, rfl, h1, h2, yws hg hcode, List.mem_singleton_self _⟩, hg _ hcode rfl args, hg _ hini rfl args, hno, fun sig h => by rw [h] at hpx; exact (Option.some.inj hpx).symm, hg _ hl rfl args, hg _ hsame rfl args, hdecl s hg, hg _ hsel rfl args, hg _ hin rfl args⟩ ⟨yPc_blind, yrecv C hH hsh hr, fun U hU hW => yPc_at (As := yr k :: As) C hS hH hU hW⟩ rfl (by rw [List.length_map]) hL.size (by rw [List.map_append, List.map_reverse, List.map_cons]; rfl) (by show 2 * 0 + _ ≤ 8; have := ycat_le (ad := ad) rest hrest hcat; omega) hd ⟨hc, hs⟩)
/-- a private method of a nest mate -/
theorem yrunVN {i' : yM} {k ci : Nat} {As rest : List yV} {ix : Nat} {r : vw_C} {host : String} (hd : decode (yMb i) pc = .ok (.invokevirtual ix, 3)) (hct : yCT G i' (yr k :: As) ω P yNX) (hsh : ω.1 k = some (.inl ci)) (hr : ycl[ci]? = some r) (hck : yck (yMm i) i' As.length = true) (hcode : ycode i' ∈ lw_tbl) (hini : Cond.initialized (yMy i').cls ∈ lw_tbl) (hl : Cond.methodLinkNest (yMy i).cls ix (yMy i') host ∈ lw_tbl) (hin : Cond.instanceMethod (yMy i') ∈ lw_tbl) (hsel : Cond.selects r.1 (yMy i') (yMy i') ∈ lw_tbl) (hrest : rest.length ≤ 8) (hcat : ∀ v ∈ rest, ∀ ad, (ycv ad v).category = 1) (hc : cs + (yMm i').cells ≤ (yMm i).cells) (hs : sl + (yMm i').slots ≤ (yMm i).slots) : yRun G i i' pc ls (As.reverse ++ yr k :: rest) rest (yr k :: As) ω cs sl P yNX := by
  intro p e s m args below meth c ad H locs lsA C hS hH hL
  have hg := C.2.2.2.2.2.2.2.1
  unfold yck at hck
  simp only [Bool.and_eq_true, decide_eq_true_eq] at hck
  obtain ⟨⟨⟨⟨h1, h2⟩, h3⟩, h4⟩, h5⟩ := hck
  refine yRunN (va_runVN (Ts := yTs) (C := r.1) (As := As.map (ycv ad)) ⟨C.1, C.2.1, C.2.2.2.1, C.2.2.2.2.1, hg.hts args⟩ (yMetN hct ad) ⟨⟨⟨rfl, rfl, h1, h2, yws hg hcode, List.mem_singleton_self _⟩, hg _ hcode rfl args, hg _ hini rfl args, ⟨h3, h4⟩, fun sig h => by rw [h] at h5; exact (Option.some.inj h5).symm, hg _ hl rfl args⟩, hg _ hin rfl args, hg _ hsel rfl args⟩ ⟨yPc_blind, yrecv C hH hsh hr, fun U hU hW => yPc_at (As := yr k :: As) C hS hH hU hW⟩ rfl (by rw [List.length_map]) hL.size (by rw [List.map_append, List.map_reverse, List.map_cons]; rfl) (by show 2 * 0 + _ ≤ 8; have := ycat_le (ad := ad) rest hrest hcat; omega) hd ⟨hc, hs⟩)
/-- a private static method of a nest mate -/
theorem yrunSN {i' : yM} {As rest : List yV} {ix : Nat} {host : String} (hd : decode (yMb i) pc = .ok (.invokestatic ix, 3)) (hct : yCT G i' As ω P yNX) (hck : yck (yMm i) i' As.length = true) (hcode : ycode i' ∈ lw_tbl) (hini : Cond.initialized (yMy i').cls ∈ lw_tbl) (hl : Cond.methodLinkNest (yMy i).cls ix (yMy i') host ∈ lw_tbl) (hstat : Cond.static (yMy i') ∈ lw_tbl) (hrest : rest.length ≤ 8) (hcat : ∀ v ∈ rest, ∀ ad, (ycv ad v).category = 1) (hc : cs + (yMm i').cells ≤ (yMm i).cells) (hs : sl + (yMm i').slots ≤ (yMm i).slots) : yRun G i i' pc ls (As.reverse ++ rest) rest As ω cs sl P yNX := by
  intro p e s m args below meth c ad H locs lsA C hS hH hL
  have hg := C.2.2.2.2.2.2.2.1
  unfold yck at hck
  simp only [Bool.and_eq_true, decide_eq_true_eq] at hck
  obtain ⟨⟨⟨⟨h1, h2⟩, h3⟩, h4⟩, h5⟩ := hck
  refine yRunN (va_runSN (Ts := yTs) (As := As.map (ycv ad)) ⟨C.1, C.2.1, C.2.2.2.1, C.2.2.2.2.1, hg.hts args⟩ (yMetN hct ad) ⟨⟨⟨rfl, rfl, h1, h2, yws hg hcode, List.mem_singleton_self _⟩, hg _ hcode rfl args, hg _ hini rfl args, ⟨h3, h4⟩, fun sig h => by rw [h] at h5; exact (Option.some.inj h5).symm, hg _ hl rfl args⟩, hg _ hstat rfl args, trivial⟩ ⟨yPc_blind, fun U hU hW => yPc_at C hS hH hU hW⟩ rfl (by rw [List.length_map]) hL.size (by rw [List.map_append, List.map_reverse]) (by show 2 * 0 + _ ≤ 8; have := ycat_le (ad := ad) rest hrest hcat; omega) hd ⟨hc, hs⟩)
/-- Object's own constructor -/
theorem yr_objInit {k ix : Nat} (hd : decode (yMb i) pc = .ok (.invokespecial ix, 3)) (hl : Cond.methodLink (yMy i).cls ix Lib.objectInit ∈ lw_tbl) (hin : Cond.instanceMethod Lib.objectInit ∈ lw_tbl) (hcode : Cond.code Lib.objectInit ⟨#[0xb1]⟩ 1 none ∈ lw_tbl) (hf : 1 ≤ (yMm i).frames) (hlo : st.length + 12 ≤ (yMm i).locals) (hcat : ∀ v ∈ st, ∀ ad, (ycv ad v).category = 1) (kk : yWW G i Qf sh0 (pc + 3) ls st ω cs sl) : yWW G i Qf sh0 pc ls (yr k :: st) ω cs sl := by
  intro p e s m args below meth c ad0 ad H locs lsA C hE hS hH hL
  have hg := C.2.2.2.2.2.2.2.1
  exact W.objInit C.1 C.2.1 C.2.2.2.2.1 (hg _ hl rfl args) (hg _ hin rfl args) (hg _ hcode rfl args) rfl (by rw [C.2.2.2.1]; exact hL.size) rfl hd hf (by show 2 * 0 + _ + 12 ≤ _; have := ycat_le (ad := ad) st (Nat.le_refl _) hcat; omega) (kk p e s m args below meth c ad0 ad H locs lsA C hE hS hH hL)
/-- the ends -/
theorem yr_reti {x : Int32} (hd : decode (yMb i) pc = .ok (.ireturn, 1)) (hr : yMr i = some .int) (hc : cs ≤ (yMm i).cells) (hs : sl ≤ (yMm i).slots) (hP : P (some (yi x)) ω) : yWW G i (yQf G i sh0 P X) sh0 pc ls [yi x] ω cs sl := by
  intro p e s m args below meth c ad0 ad H locs lsA C hE hS hH hL
  refine vx_ret (W.widen hc hs ?_)
  exact W.iret C.1 C.2.1 (C.2.2.1.trans hr) (fun t ht hW => ⟨some (yi x), ad, ω, rfl, hP, hE, by rw [ht]; exact hH, hS.F ht⟩) hS.2.2 hd C.2.2.2.2.2.1
theorem yr_retz {x : Int32} (hd : decode (yMb i) pc = .ok (.ireturn, 1)) (hr : yMr i = some .boolean) (hx : narrow .boolean (.int x) = .int x) (hc : cs ≤ (yMm i).cells) (hs : sl ≤ (yMm i).slots) (hP : P (some (yi x)) ω) : yWW G i (yQf G i sh0 P X) sh0 pc ls [yi x] ω cs sl := by
  intro p e s m args below meth c ad0 ad H locs lsA C hE hS hH hL
  refine vx_ret (W.widen hc hs ?_)
  exact W.zret C.1 C.2.1 (C.2.2.1.trans hr) hx (fun t ht hW => ⟨some (yi x), ad, ω, rfl, hP, hE, by rw [ht]; exact hH, hS.F ht⟩) hS.2.2 hd C.2.2.2.2.2.1
theorem yr_reta {o : Option Nat} {rt : FieldType} (hd : decode (yMb i) pc = .ok (.areturn, 1)) (hr : yMr i = some rt) (hrt : (∃ n, rt = .object n) ∨ ∃ t, rt = .array t) (hc : cs ≤ (yMm i).cells) (hs : sl ≤ (yMm i).slots) (hP : P (some (yo o)) ω) : yWW G i (yQf G i sh0 P X) sh0 pc ls [yo o] ω cs sl := by
  intro p e s m args below meth c ad0 ad H locs lsA C hE hS hH hL
  refine vx_ret (W.widen hc hs ?_)
  refine W.aret C.1 C.2.1 (C.2.2.1.trans hr) hrt ?_ (fun t ht hW => ⟨some (yo o), ad, ω, rfl, hP, hE, by rw [ht]; exact hH, hS.F ht⟩) hS.2.2 hd C.2.2.2.2.2.1
  cases o with
  | none => exact Or.inl rfl
  | some a => exact Or.inr ⟨ad a, rfl⟩
theorem yr_retv (hd : decode (yMb i) pc = .ok (.return_, 1)) (hr : yMr i = none) (hc : cs ≤ (yMm i).cells) (hs : sl ≤ (yMm i).slots) (hP : P none ω) : yWW G i (yQf G i sh0 P X) sh0 pc ls [] ω cs sl := by
  intro p e s m args below meth c ad0 ad H locs lsA C hE hS hH hL
  refine vx_ret (W.widen hc hs ?_)
  exact W.vret C.1 C.2.1 (C.2.2.1.trans hr) (fun t ht hW => ⟨none, ad, ω, rfl, hP, hE, by rw [ht]; exact hH, hS.F ht⟩) hS.2.2 hd C.2.2.2.2.2.1
/-- a method's contract out of a walk of its body -/
theorem ylv_args {ad : Nat → Nat} : ∀ (As : List yV) (i0 : Nat), (∀ v ∈ As, ∀ ad, (ycv ad v).category = 1) → ∀ (j : Nat) (v : yV), As[j]? = some v → (i0 + j, ycv ad v) ∈ lv_args i0 (As.map (ycv ad))
  | [], _, _, j, v, h => by simp at h
  | w :: As, i0, hc, j, v, h => by
    have hw : ¬ (ycv ad w).category = 2 := by rw [hc w List.mem_cons_self ad]; decide
    simp only [List.map_cons, lv_args, hw, if_false]
    cases j with
    | zero =>
      simp at h
      subst h
      simp
    | succ j =>
      simp at h
      have := ylv_args (ad := ad) As (i0 + 1) (fun z hz => hc z (List.mem_cons_of_mem _ hz)) j v h
      rw [show i0 + 1 + j = i0 + (j + 1) by omega] at this
      exact List.mem_cons_of_mem _ this
theorem ylg_sl {ad : Nat → Nat} : ∀ (As : List yV), (∀ v ∈ As, ∀ ad, (ycv ad v).category = 1) → (lg_sl (As.map (ycv ad))).length = As.length
  | [], _ => rfl
  | w :: As, hc => by
    have hw : ¬ (ycv ad w).category = 2 := by rw [hc w List.mem_cons_self ad]; decide
    have h2 := ylg_sl (ad := ad) As (fun z hz => hc z (List.mem_cons_of_mem _ hz))
    unfold lg_sl at h2 ⊢
    simp only [List.map_cons, List.flatMap_cons, List.length_append, h2, List.length_cons]
    simp [hw]
    omega
theorem yCT_of {As : List yV} (hpl : plainName (yMy i).cls = true) (hh : yMh i = []) (hcat : ∀ v ∈ As, ∀ ad, (ycv ad v).category = 1) (hlen : As.length ≤ yMl i) (k : yWW G i (yQf G i ω.1 P X) ω.1 0 (As.map some ++ List.replicate (yMl i - As.length) none) [] ω 0 0) : yCT G i As ω P X := by
  intro ad0
  refine vx_ofW (cc := yMb i) (maxL := yMl i) (ret := yMr i) hpl rfl ?_
  intro p e s m args below meth c s₁ B hml ht hv
  obtain ⟨rfl, hg, hK, hst, hsz, hH⟩ := hv
  have hl := lv_entry (As.map (ycv ad0)) (n := yMl i) (by rw [ylg_sl As hcat]; exact hlen)
  rw [lg_entry_eq]
  refine k p e s m _ below meth c ad0 ad0 s.heap [] _ ⟨B.exec, B.bytes, B.returns, hml, findClass_of_methodNamed B.named, B.notSynchronized, (name_of_methodNamed B.named B.method).1, hg, hK, hst, hsz, ?_⟩ (fun _ _ => rfl) va_S.rf hH ⟨_, hl, ?_, fun j v hj => ?_⟩
  · rw [hh]
    cases h9 : c.exceptionTable.toList with
    | nil => rfl
    | cons x r => exact absurd (ht x (by rw [h9]; exact List.mem_cons_self)) id
  · simp
    omega
  · have hj2 : As[j]? = some v := by
      by_cases h9 : j < As.length
      · rw [List.getElem?_append_left (by simpa using h9), List.getElem?_map] at hj
        cases h8 : As[j]? with
        | none => rw [h8] at hj; cases hj
        | some w => rw [h8] at hj; exact Option.some.inj hj
      · rw [List.getElem?_append_right (by simpa using Nat.not_lt.mp h9), List.getElem?_replicate] at hj
        split at hj
        · cases hj
        · cases hj
    have := ylv_args (ad := ad0) As 0 hcat j v hj2
    rw [Nat.zero_add] at this
    exact ⟨this, hcat v (List.mem_of_getElem? hj2) ad0⟩
end YD
end
section
def m_Y_init : yM := (⟨"MonitorYard", "<init>", "()V"⟩, prog_1_method_1_code, 2, (none), { frames := 2, cells := 14, slots := 114, locals := 35 }, [])
def m_Y_make : yM := (⟨"MonitorYard", "make", "(II)I"⟩, prog_1_method_2_code, 4, (some .int), { frames := 7, cells := 7, slots := 31, locals := 100 }, [])
def m_Y_act : yM := (⟨"MonitorYard", "act", "(IIIII)I"⟩, prog_1_method_3_code, 8, (some .int), { frames := 7, cells := 1, slots := 6, locals := 138 }, [])
def m_Y_tick : yM := (⟨"MonitorYard", "tick", "(I)I"⟩, prog_1_method_4_code, 4, (some .int), { frames := 7, cells := 1, slots := 6, locals := 164 }, [])
def m_Y_interrupt : yM := (⟨"MonitorYard", "interrupt", "(I)V"⟩, prog_1_method_5_code, 4, (none), { frames := 7, cells := 1, slots := 6, locals := 138 }, [])
def m_Y_told : yM := (⟨"MonitorYard", "told", "(II)I"⟩, prog_1_method_6_code, 4, (some .int), { frames := 7, cells := 1, slots := 6, locals := 94 }, [])
def m_Y_object : yM := (⟨"MonitorYard", "object", "(II)I"⟩, prog_1_method_7_code, 4, (some .int), { frames := 7, cells := 1, slots := 6, locals := 94 }, [])
def m_Y_waiter : yM := (⟨"MonitorYard", "waiter", "(II)I"⟩, prog_1_method_8_code, 5, (some .int), { frames := 7, cells := 1, slots := 6, locals := 94 }, [])
def m_Y_stuck : yM := (⟨"MonitorYard", "stuck", "()I"⟩, prog_1_method_9_code, 6, (some .int), { frames := 3, cells := 0, slots := 0, locals := 62 }, [])
def m_Y_count : yM := (⟨"MonitorYard", "count", "(I)I"⟩, prog_1_method_10_code, 2, (some .int), { frames := 1, cells := 0, slots := 0, locals := 26 }, [])
def m_Y_threadAt : yM := (⟨"MonitorYard", "threadAt", "(I)LMonitorYard$YardThread;"⟩, prog_1_method_11_code, 2, (some (.object "MonitorYard$YardThread")), { frames := 0, cells := 0, slots := 0, locals := 0 }, [])
def m_Y_placeAt : yM := (⟨"MonitorYard", "placeAt", "(I)LMonitorYard$Place;"⟩, prog_1_method_12_code, 2, (some (.object "MonitorYard$Place")), { frames := 0, cells := 0, slots := 0, locals := 0 }, [])
def m_Y_newPlace : yM := (⟨"MonitorYard", "newPlace", "(III)LMonitorYard$Place;"⟩, prog_1_method_13_code, 3, (some (.object "MonitorYard$Place")), { frames := 4, cells := 7, slots := 31, locals := 78 }, [])
def m_Y_isAct : yM := (⟨"MonitorYard", "isAct", "(II)Z"⟩, prog_1_method_14_code, 2, (some .boolean), { frames := 0, cells := 0, slots := 0, locals := 0 }, [])
def m_Y_isPatience : yM := (⟨"MonitorYard", "isPatience", "(I)Z"⟩, prog_1_method_15_code, 1, (some .boolean), { frames := 0, cells := 0, slots := 0, locals := 0 }, [])
def m_Y_passOneTick : yM := (⟨"MonitorYard", "passOneTick", "()I"⟩, prog_1_method_16_code, 7, (some .int), { frames := 6, cells := 0, slots := 0, locals := 138 }, [])
def m_Y_comesBackByLeaning : yM := (⟨"MonitorYard", "comesBackByLeaning", "(LMonitorYard$YardThread;)Z"⟩, prog_1_method_17_code, 3, (some .boolean), { frames := 2, cells := 0, slots := 0, locals := 40 }, [])
def m_Y_actsEnded : yM := (⟨"MonitorYard", "actsEnded", "(I)I"⟩, prog_1_method_18_code, 7, (some .int), { frames := 0, cells := 0, slots := 0, locals := 0 }, [])
def m_Y_runningThreads : yM := (⟨"MonitorYard", "runningThreads", "()I"⟩, prog_1_method_19_code, 6, (some .int), { frames := 0, cells := 0, slots := 0, locals := 0 }, [])
def m_Y_numberOf : yM := (⟨"MonitorYard", "numberOf", "(LMonitorYard$YardThread;)I"⟩, prog_1_method_20_code, 1, (some .int), { frames := 0, cells := 0, slots := 0, locals := 0 }, [])
def m_T_init : yM := (⟨"MonitorYard$YardThread", "<init>", "(I)V"⟩, prog_10_method_1_code, 2, (none), { frames := 1, cells := 1, slots := 5, locals := 14 }, [])
def m_T_begin : yM := (⟨"MonitorYard$YardThread", "begin", "(II)V"⟩, prog_10_method_2_code, 3, (none), { frames := 0, cells := 0, slots := 0, locals := 0 }, [])
def m_T_stay : yM := (⟨"MonitorYard$YardThread", "stay", "(LMonitorYard$Place;II)V"⟩, prog_10_method_3_code, 4, (none), { frames := 0, cells := 0, slots := 0, locals := 0 }, [])
def m_T_end : yM := (⟨"MonitorYard$YardThread", "end", "(I)V"⟩, prog_10_method_4_code, 2, (none), { frames := 0, cells := 0, slots := 0, locals := 0 }, [])
def m_T_losesPatience : yM := (⟨"MonitorYard$YardThread", "losesPatience", "()Z"⟩, prog_10_method_5_code, 1, (some .boolean), { frames := 0, cells := 0, slots := 0, locals := 0 }, [])
def m_T_takesAgain : yM := (⟨"MonitorYard$YardThread", "takesAgain", "()Z"⟩, prog_10_method_6_code, 1, (some .boolean), { frames := 0, cells := 0, slots := 0, locals := 0 }, [])
def m_T_leansOn : yM := (⟨"MonitorYard$YardThread", "leansOn", "()LMonitorYard$YardThread;"⟩, prog_10_method_7_code, 1, (some (.object "MonitorYard$YardThread")), { frames := 1, cells := 0, slots := 0, locals := 20 }, [])
def m_R_init : yM := (⟨"MonitorYard$Row", "<init>", "()V"⟩, prog_8_method_1_code, 1, (none), { frames := 1, cells := 1, slots := 6, locals := 14 }, [])
def m_R_at : yM := (⟨"MonitorYard$Row", "at", "(I)LMonitorYard$YardThread;"⟩, prog_8_method_2_code, 2, (some (.object "MonitorYard$YardThread")), { frames := 0, cells := 0, slots := 0, locals := 0 }, [])
def m_R_add : yM := (⟨"MonitorYard$Row", "add", "(LMonitorYard$YardThread;)V"⟩, prog_8_method_3_code, 2, (none), { frames := 0, cells := 0, slots := 0, locals := 0 }, [])
def m_R_removeFirst : yM := (⟨"MonitorYard$Row", "removeFirst", "()LMonitorYard$YardThread;"⟩, prog_8_method_4_code, 2, (some (.object "MonitorYard$YardThread")), { frames := 1, cells := 0, slots := 0, locals := 23 }, [])
def m_R_remove : yM := (⟨"MonitorYard$Row", "remove", "(LMonitorYard$YardThread;)V"⟩, prog_8_method_5_code, 4, (none), { frames := 0, cells := 0, slots := 0, locals := 0 }, [])
def m_K_init : yM := (⟨"MonitorYard$Lock", "<init>", "(I)V"⟩, prog_5_method_1_code, 2, (none), { frames := 3, cells := 6, slots := 24, locals := 56 }, [])
def m_K_allows : yM := (⟨"MonitorYard$Lock", "allows", "(LMonitorYard$YardThread;II)Z"⟩, prog_5_method_2_code, 4, (some .boolean), { frames := 0, cells := 0, slots := 0, locals := 0 }, [])
def m_K_canBe : yM := (⟨"MonitorYard$Lock", "canBe", "(LMonitorYard$YardThread;)Z"⟩, prog_5_method_3_code, 2, (some .boolean), { frames := 0, cells := 0, slots := 0, locals := 0 }, [])
def m_K_passesRow : yM := (⟨"MonitorYard$Lock", "passesRow", "(LMonitorYard$YardThread;)Z"⟩, prog_5_method_4_code, 2, (some .boolean), { frames := 0, cells := 0, slots := 0, locals := 0 }, [])
def m_K_grant : yM := (⟨"MonitorYard$Lock", "grant", "(LMonitorYard$YardThread;)V"⟩, prog_5_method_5_code, 2, (none), { frames := 3, cells := 0, slots := 0, locals := 69 }, [])
def m_K_holdBack : yM := (⟨"MonitorYard$Lock", "holdBack", "(LMonitorYard$YardThread;I)V"⟩, prog_5_method_6_code, 3, (none), { frames := 2, cells := 0, slots := 0, locals := 45 }, [])
def m_K_giveUp : yM := (⟨"MonitorYard$Lock", "giveUp", "(LMonitorYard$YardThread;I)V"⟩, prog_5_method_7_code, 3, (none), { frames := 5, cells := 0, slots := 0, locals := 109 }, [])
def m_K_level : yM := (⟨"MonitorYard$Lock", "level", "()I"⟩, prog_5_method_8_code, 1, (some .int), { frames := 0, cells := 0, slots := 0, locals := 0 }, [])
def m_K_owner : yM := (⟨"MonitorYard$Lock", "owner", "()I"⟩, prog_5_method_9_code, 1, (some .int), { frames := 1, cells := 0, slots := 0, locals := 20 }, [])
def m_K_waitersAt : yM := (⟨"MonitorYard$Lock", "waitersAt", "(I)I"⟩, prog_5_method_10_code, 2, (some .int), { frames := 1, cells := 0, slots := 0, locals := 21 }, [])
def m_K_leanedOn : yM := (⟨"MonitorYard$Lock", "leanedOn", "()LMonitorYard$YardThread;"⟩, prog_5_method_11_code, 1, (some (.object "MonitorYard$YardThread")), { frames := 0, cells := 0, slots := 0, locals := 0 }, [])
def m_K_condition : yM := (⟨"MonitorYard$Lock", "condition", "(I)LMonitorYard$Row;"⟩, prog_5_method_12_code, 2, (some (.object "MonitorYard$Row")), { frames := 0, cells := 0, slots := 0, locals := 0 }, [])
def m_K_joinCondition : yM := (⟨"MonitorYard$Lock", "joinCondition", "(LMonitorYard$YardThread;I)V"⟩, prog_5_method_13_code, 3, (none), { frames := 1, cells := 0, slots := 0, locals := 23 }, [])
def m_K_leaveOnce : yM := (⟨"MonitorYard$Lock", "leaveOnce", "()V"⟩, prog_5_method_14_code, 1, (none), { frames := 0, cells := 0, slots := 0, locals := 0 }, [])
def m_K_call : yM := (⟨"MonitorYard$Lock", "call", "(II)V"⟩, prog_5_method_15_code, 5, (none), { frames := 2, cells := 0, slots := 0, locals := 45 }, [])
def m_K_takeAgain : yM := (⟨"MonitorYard$Lock", "takeAgain", "(LMonitorYard$YardThread;I)V"⟩, prog_5_method_16_code, 3, (none), { frames := 1, cells := 0, slots := 0, locals := 23 }, [])
def m_B_init : yM := (⟨"MonitorYard$Book", "<init>", "(I)V"⟩, prog_3_method_1_code, 2, (none), { frames := 3, cells := 3, slots := 14, locals := 56 }, [])
def m_B_allows : yM := (⟨"MonitorYard$Book", "allows", "(LMonitorYard$YardThread;II)Z"⟩, prog_3_method_2_code, 4, (some .boolean), { frames := 0, cells := 0, slots := 0, locals := 0 }, [])
def m_B_canBe : yM := (⟨"MonitorYard$Book", "canBe", "(LMonitorYard$YardThread;)Z"⟩, prog_3_method_3_code, 4, (some .boolean), { frames := 0, cells := 0, slots := 0, locals := 0 }, [])
def m_B_passesRow : yM := (⟨"MonitorYard$Book", "passesRow", "(LMonitorYard$YardThread;)Z"⟩, prog_3_method_4_code, 2, (some .boolean), { frames := 0, cells := 0, slots := 0, locals := 0 }, [])
def m_B_grant : yM := (⟨"MonitorYard$Book", "grant", "(LMonitorYard$YardThread;)V"⟩, prog_3_method_5_code, 2, (none), { frames := 1, cells := 0, slots := 0, locals := 22 }, [])
def m_B_level : yM := (⟨"MonitorYard$Book", "level", "()I"⟩, prog_3_method_6_code, 1, (some .int), { frames := 0, cells := 0, slots := 0, locals := 0 }, [])
def m_B_owner : yM := (⟨"MonitorYard$Book", "owner", "()I"⟩, prog_3_method_7_code, 1, (some .int), { frames := 1, cells := 0, slots := 0, locals := 20 }, [])
def m_B_timesRead : yM := (⟨"MonitorYard$Book", "timesRead", "()I"⟩, prog_3_method_8_code, 1, (some .int), { frames := 0, cells := 0, slots := 0, locals := 0 }, [])
def m_B_countReads : yM := (⟨"MonitorYard$Book", "countReads", "(LMonitorYard$YardThread;I)V"⟩, prog_3_method_9_code, 3, (none), { frames := 0, cells := 0, slots := 0, locals := 0 }, [])
def m_B_closeWritingOnce : yM := (⟨"MonitorYard$Book", "closeWritingOnce", "()V"⟩, prog_3_method_10_code, 1, (none), { frames := 0, cells := 0, slots := 0, locals := 0 }, [])
def m_S_init : yM := (⟨"MonitorYard$Semaphore", "<init>", "(II)V"⟩, prog_9_method_1_code, 3, (none), { frames := 3, cells := 2, slots := 8, locals := 56 }, [])
def m_S_allows : yM := (⟨"MonitorYard$Semaphore", "allows", "(LMonitorYard$YardThread;II)Z"⟩, prog_9_method_2_code, 4, (some .boolean), { frames := 0, cells := 0, slots := 0, locals := 0 }, [])
def m_S_canBe : yM := (⟨"MonitorYard$Semaphore", "canBe", "(LMonitorYard$YardThread;)Z"⟩, prog_9_method_3_code, 2, (some .boolean), { frames := 0, cells := 0, slots := 0, locals := 0 }, [])
def m_S_passesRow : yM := (⟨"MonitorYard$Semaphore", "passesRow", "(LMonitorYard$YardThread;)Z"⟩, prog_9_method_4_code, 2, (some .boolean), { frames := 0, cells := 0, slots := 0, locals := 0 }, [])
def m_S_grant : yM := (⟨"MonitorYard$Semaphore", "grant", "(LMonitorYard$YardThread;)V"⟩, prog_9_method_5_code, 2, (none), { frames := 0, cells := 0, slots := 0, locals := 0 }, [])
def m_S_level : yM := (⟨"MonitorYard$Semaphore", "level", "()I"⟩, prog_9_method_6_code, 1, (some .int), { frames := 0, cells := 0, slots := 0, locals := 0 }, [])
def m_L_init : yM := (⟨"MonitorYard$Latch", "<init>", "(II)V"⟩, prog_4_method_1_code, 3, (none), { frames := 3, cells := 2, slots := 8, locals := 56 }, [])
def m_L_canBe : yM := (⟨"MonitorYard$Latch", "canBe", "(LMonitorYard$YardThread;)Z"⟩, prog_4_method_2_code, 2, (some .boolean), { frames := 0, cells := 0, slots := 0, locals := 0 }, [])
def m_L_passesRow : yM := (⟨"MonitorYard$Latch", "passesRow", "(LMonitorYard$YardThread;)Z"⟩, prog_4_method_3_code, 2, (some .boolean), { frames := 0, cells := 0, slots := 0, locals := 0 }, [])
def m_L_grant : yM := (⟨"MonitorYard$Latch", "grant", "(LMonitorYard$YardThread;)V"⟩, prog_4_method_4_code, 2, (none), { frames := 0, cells := 0, slots := 0, locals := 0 }, [])
def m_L_level : yM := (⟨"MonitorYard$Latch", "level", "()I"⟩, prog_4_method_5_code, 1, (some .int), { frames := 0, cells := 0, slots := 0, locals := 0 }, [])
def m_A_init : yM := (⟨"MonitorYard$Barrier", "<init>", "(II)V"⟩, prog_2_method_1_code, 3, (none), { frames := 3, cells := 2, slots := 8, locals := 56 }, [])
def m_A_refuses : yM := (⟨"MonitorYard$Barrier", "refuses", "(LMonitorYard$YardThread;)Z"⟩, prog_2_method_2_code, 2, (some .boolean), { frames := 0, cells := 0, slots := 0, locals := 0 }, [])
def m_A_canBe : yM := (⟨"MonitorYard$Barrier", "canBe", "(LMonitorYard$YardThread;)Z"⟩, prog_2_method_3_code, 2, (some .boolean), { frames := 0, cells := 0, slots := 0, locals := 0 }, [])
def m_A_passesRow : yM := (⟨"MonitorYard$Barrier", "passesRow", "(LMonitorYard$YardThread;)Z"⟩, prog_2_method_4_code, 2, (some .boolean), { frames := 0, cells := 0, slots := 0, locals := 0 }, [])
def m_A_grant : yM := (⟨"MonitorYard$Barrier", "grant", "(LMonitorYard$YardThread;)V"⟩, prog_2_method_5_code, 2, (none), { frames := 3, cells := 0, slots := 0, locals := 67 }, [])
def m_A_whenOneGaveUp : yM := (⟨"MonitorYard$Barrier", "whenOneGaveUp", "()V"⟩, prog_2_method_6_code, 1, (none), { frames := 3, cells := 0, slots := 0, locals := 67 }, [])
def m_A_level : yM := (⟨"MonitorYard$Barrier", "level", "()I"⟩, prog_2_method_7_code, 1, (some .int), { frames := 0, cells := 0, slots := 0, locals := 0 }, [])
def m_A_isBroken : yM := (⟨"MonitorYard$Barrier", "isBroken", "()Z"⟩, prog_2_method_8_code, 1, (some .boolean), { frames := 0, cells := 0, slots := 0, locals := 0 }, [])
def m_Q_init : yM := (⟨"MonitorYard$Queue", "<init>", "(II)V"⟩, prog_7_method_1_code, 3, (none), { frames := 3, cells := 3, slots := 11, locals := 56 }, [])
def m_Q_sortOf : yM := (⟨"MonitorYard$Queue", "sortOf", "(I)I"⟩, prog_7_method_2_code, 2, (some .int), { frames := 0, cells := 0, slots := 0, locals := 0 }, [])
def m_Q_canBe : yM := (⟨"MonitorYard$Queue", "canBe", "(LMonitorYard$YardThread;)Z"⟩, prog_7_method_3_code, 2, (some .boolean), { frames := 0, cells := 0, slots := 0, locals := 0 }, [])
def m_Q_passesRow : yM := (⟨"MonitorYard$Queue", "passesRow", "(LMonitorYard$YardThread;)Z"⟩, prog_7_method_4_code, 2, (some .boolean), { frames := 0, cells := 0, slots := 0, locals := 0 }, [])
def m_Q_grant : yM := (⟨"MonitorYard$Queue", "grant", "(LMonitorYard$YardThread;)V"⟩, prog_7_method_5_code, 2, (none), { frames := 1, cells := 0, slots := 0, locals := 22 }, [])
def m_Q_level : yM := (⟨"MonitorYard$Queue", "level", "()I"⟩, prog_7_method_6_code, 1, (some .int), { frames := 0, cells := 0, slots := 0, locals := 0 }, [])
def m_Q_putLast : yM := (⟨"MonitorYard$Queue", "putLast", "(I)V"⟩, prog_7_method_7_code, 2, (none), { frames := 0, cells := 0, slots := 0, locals := 0 }, [])
def m_Q_takeFirst : yM := (⟨"MonitorYard$Queue", "takeFirst", "()I"⟩, prog_7_method_8_code, 3, (some .int), { frames := 0, cells := 0, slots := 0, locals := 0 }, [])
def m_M_init : yM := (⟨"MonitorYardModel", "<init>", "()V"⟩, prog_12_method_1_code, 2, (none), { frames := 1, cells := 23, slots := 281, locals := 14 }, [])
def m_M_thrown : yM := (⟨"MonitorYardModel", "thrown", "()I"⟩, prog_12_method_2_code, 1, (some .int), { frames := 0, cells := 0, slots := 0, locals := 0 }, [])
def m_M_in : yM := (⟨"MonitorYardModel", "in", "(III)Z"⟩, prog_12_method_3_code, 3, (some .boolean), { frames := 0, cells := 0, slots := 0, locals := 0 }, [])
def m_M_bad : yM := (⟨"MonitorYardModel", "bad", "(Z)Z"⟩, prog_12_method_4_code, 2, (some .boolean), { frames := 0, cells := 0, slots := 0, locals := 0 }, [])
def m_M_make : yM := (⟨"MonitorYardModel", "make", "(II)I"⟩, prog_12_method_5_code, 3, (some .int), { frames := 1, cells := 0, slots := 0, locals := 22 }, [])
def m_M_end : yM := (⟨"MonitorYardModel", "end", "(II)I"⟩, prog_12_method_6_code, 3, (some .int), { frames := 0, cells := 0, slots := 0, locals := 0 }, [])
def m_M_remove : yM := (⟨"MonitorYardModel", "remove", "([II[III)V"⟩, prog_12_method_7_code, 8, (none), { frames := 0, cells := 0, slots := 0, locals := 0 }, [])
def m_M_enter : yM := (⟨"MonitorYardModel", "enter", "(II)V"⟩, prog_12_method_8_code, 3, (none), { frames := 0, cells := 0, slots := 0, locals := 0 }, [])
def m_M_readers : yM := (⟨"MonitorYardModel", "readers", "(II)I"⟩, prog_12_method_9_code, 5, (some .int), { frames := 0, cells := 0, slots := 0, locals := 0 }, [])
def m_M_can : yM := (⟨"MonitorYardModel", "can", "(III)Z"⟩, prog_12_method_10_code, 4, (some .boolean), { frames := 1, cells := 0, slots := 0, locals := 24 }, [])
def m_M_grant : yM := (⟨"MonitorYardModel", "grant", "(III)V"⟩, prog_12_method_11_code, 5, (none), { frames := 0, cells := 0, slots := 0, locals := 0 }, [])
def m_M_pass : yM := (⟨"MonitorYardModel", "pass", "(I)V"⟩, prog_12_method_12_code, 9, (none), { frames := 2, cells := 0, slots := 0, locals := 47 }, [])
def m_M_sameSort : yM := (⟨"MonitorYardModel", "sameSort", "(II)Z"⟩, prog_12_method_13_code, 4, (some .boolean), { frames := 0, cells := 0, slots := 0, locals := 0 }, [])
def m_M_ofKind : yM := (⟨"MonitorYardModel", "ofKind", "(II)Z"⟩, prog_12_method_14_code, 3, (some .boolean), { frames := 1, cells := 0, slots := 0, locals := 22 }, [])
def m_M_notNow : yM := (⟨"MonitorYardModel", "notNow", "(IIII)Z"⟩, prog_12_method_15_code, 5, (some .boolean), { frames := 1, cells := 0, slots := 0, locals := 22 }, [])
def m_M_breakAll : yM := (⟨"MonitorYardModel", "breakAll", "(I)V"⟩, prog_12_method_16_code, 3, (none), { frames := 1, cells := 0, slots := 0, locals := 22 }, [])
def m_M_called : yM := (⟨"MonitorYardModel", "called", "(III)V"⟩, prog_12_method_17_code, 4, (none), { frames := 1, cells := 0, slots := 0, locals := 22 }, [])
def m_M_call : yM := (⟨"MonitorYardModel", "call", "(III)V"⟩, prog_12_method_18_code, 7, (none), { frames := 2, cells := 0, slots := 0, locals := 45 }, [])
def m_M_less : yM := (⟨"MonitorYardModel", "less", "(I)V"⟩, prog_12_method_19_code, 2, (none), { frames := 0, cells := 0, slots := 0, locals := 0 }, [])
def m_M_simple : yM := (⟨"MonitorYardModel", "simple", "(IIII)I"⟩, prog_12_method_20_code, 6, (some .int), { frames := 3, cells := 0, slots := 0, locals := 75 }, [])
def m_M_arrive : yM := (⟨"MonitorYardModel", "arrive", "(II)I"⟩, prog_12_method_21_code, 4, (some .int), { frames := 1, cells := 0, slots := 0, locals := 22 }, [])
def m_M_waitAt : yM := (⟨"MonitorYardModel", "waitAt", "(III)I"⟩, prog_12_method_22_code, 5, (some .int), { frames := 3, cells := 0, slots := 0, locals := 75 }, [])
def m_M_act : yM := (⟨"MonitorYardModel", "act", "(IIIII)I"⟩, prog_12_method_23_code, 9, (some .int), { frames := 4, cells := 0, slots := 0, locals := 100 }, [])
def m_M_refused : yM := (⟨"MonitorYardModel", "refused", "(III)I"⟩, prog_12_method_24_code, 5, (some .int), { frames := 2, cells := 0, slots := 0, locals := 44 }, [])
def m_M_leave : yM := (⟨"MonitorYardModel", "leave", "(II)V"⟩, prog_12_method_25_code, 7, (none), { frames := 3, cells := 0, slots := 0, locals := 75 }, [])
def m_M_tick : yM := (⟨"MonitorYardModel", "tick", "(I)I"⟩, prog_12_method_26_code, 5, (some .int), { frames := 4, cells := 0, slots := 0, locals := 101 }, [])
def m_M_interrupt : yM := (⟨"MonitorYardModel", "interrupt", "(I)V"⟩, prog_12_method_27_code, 2, (none), { frames := 4, cells := 0, slots := 0, locals := 101 }, [])
def m_M_told : yM := (⟨"MonitorYardModel", "told", "(II)I"⟩, prog_12_method_28_code, 3, (some .int), { frames := 1, cells := 0, slots := 0, locals := 22 }, [])
def m_M_object : yM := (⟨"MonitorYardModel", "object", "(II)I"⟩, prog_12_method_29_code, 4, (some .int), { frames := 1, cells := 0, slots := 0, locals := 24 }, [])
def m_M_waiter : yM := (⟨"MonitorYardModel", "waiter", "(II)I"⟩, prog_12_method_30_code, 3, (some .int), { frames := 1, cells := 0, slots := 0, locals := 22 }, [])
def m_M_leans : yM := (⟨"MonitorYardModel", "leans", "(I)I"⟩, prog_12_method_31_code, 2, (some .int), { frames := 0, cells := 0, slots := 0, locals := 0 }, [])
def m_M_stuck : yM := (⟨"MonitorYardModel", "stuck", "()I"⟩, prog_12_method_32_code, 5, (some .int), { frames := 1, cells := 0, slots := 0, locals := 21 }, [])
def m_M_count : yM := (⟨"MonitorYardModel", "count", "(I)I"⟩, prog_12_method_33_code, 4, (some .int), { frames := 0, cells := 0, slots := 0, locals := 0 }, [])
def m_P_init : yM := (⟨"MonitorYard$Place", "<init>", "(II)V"⟩, prog_6_method_1_code, 3, (none), { frames := 2, cells := 2, slots := 8, locals := 34 }, [])
def m_P_allows : yM := (⟨"MonitorYard$Place", "allows", "(LMonitorYard$YardThread;II)Z"⟩, prog_6_method_6_code, 4, (some .boolean), { frames := 0, cells := 0, slots := 0, locals := 0 }, [])
def m_P_refuses : yM := (⟨"MonitorYard$Place", "refuses", "(LMonitorYard$YardThread;)Z"⟩, prog_6_method_7_code, 2, (some .boolean), { frames := 0, cells := 0, slots := 0, locals := 0 }, [])
def m_P_whenOneGaveUp : yM := (⟨"MonitorYard$Place", "whenOneGaveUp", "()V"⟩, prog_6_method_8_code, 1, (none), { frames := 0, cells := 0, slots := 0, locals := 0 }, [])
def m_P_sortOf : yM := (⟨"MonitorYard$Place", "sortOf", "(I)I"⟩, prog_6_method_9_code, 2, (some .int), { frames := 0, cells := 0, slots := 0, locals := 0 }, [])
def m_P_owner : yM := (⟨"MonitorYard$Place", "owner", "()I"⟩, prog_6_method_10_code, 1, (some .int), { frames := 0, cells := 0, slots := 0, locals := 0 }, [])
def m_P_waitersAt : yM := (⟨"MonitorYard$Place", "waitersAt", "(I)I"⟩, prog_6_method_11_code, 2, (some .int), { frames := 0, cells := 0, slots := 0, locals := 0 }, [])
def m_P_timesRead : yM := (⟨"MonitorYard$Place", "timesRead", "()I"⟩, prog_6_method_12_code, 1, (some .int), { frames := 0, cells := 0, slots := 0, locals := 0 }, [])
def m_P_isBroken : yM := (⟨"MonitorYard$Place", "isBroken", "()Z"⟩, prog_6_method_13_code, 1, (some .boolean), { frames := 0, cells := 0, slots := 0, locals := 0 }, [])
def m_P_leanedOn : yM := (⟨"MonitorYard$Place", "leanedOn", "()LMonitorYard$YardThread;"⟩, prog_6_method_14_code, 1, (some (.object "MonitorYard$YardThread")), { frames := 0, cells := 0, slots := 0, locals := 0 }, [])
def m_P_perform : yM := (⟨"MonitorYard$Place", "perform", "(LMonitorYard$YardThread;I)V"⟩, prog_6_method_15_code, 3, (none), { frames := 4, cells := 0, slots := 0, locals := 90 }, [])
def m_P_holdBack : yM := (⟨"MonitorYard$Place", "holdBack", "(LMonitorYard$YardThread;I)V"⟩, prog_6_method_16_code, 3, (none), { frames := 2, cells := 0, slots := 0, locals := 45 }, [])
def m_P_giveUp : yM := (⟨"MonitorYard$Place", "giveUp", "(LMonitorYard$YardThread;I)V"⟩, prog_6_method_17_code, 3, (none), { frames := 5, cells := 0, slots := 0, locals := 109 }, [])
def m_P_joinRow : yM := (⟨"MonitorYard$Place", "joinRow", "(LMonitorYard$YardThread;I)V"⟩, prog_6_method_18_code, 3, (none), { frames := 1, cells := 0, slots := 0, locals := 23 }, [])
def m_P_leaveRow : yM := (⟨"MonitorYard$Place", "leaveRow", "(LMonitorYard$YardThread;I)V"⟩, prog_6_method_19_code, 3, (none), { frames := 4, cells := 0, slots := 0, locals := 87 }, [])
def m_P_endAllInRow : yM := (⟨"MonitorYard$Place", "endAllInRow", "(I)V"⟩, prog_6_method_20_code, 4, (none), { frames := 2, cells := 0, slots := 0, locals := 44 }, [])
def m_P_settle : yM := (⟨"MonitorYard$Place", "settle", "()V"⟩, prog_6_method_21_code, 3, (none), { frames := 5, cells := 0, slots := 0, locals := 116 }, [])
def m_P_canBeAtOnce : yM := (⟨"MonitorYard$Place", "canBeAtOnce", "(LMonitorYard$YardThread;)Z"⟩, prog_6_method_22_code, 2, (some .boolean), { frames := 2, cells := 0, slots := 0, locals := 44 }, [])
def m_P_hasInRow : yM := (⟨"MonitorYard$Place", "hasInRow", "(I)Z"⟩, prog_6_method_23_code, 4, (some .boolean), { frames := 1, cells := 0, slots := 0, locals := 21 }, [])
def m_P_goThroughRow : yM := (⟨"MonitorYard$Place", "goThroughRow", "()Z"⟩, prog_6_method_24_code, 7, (some .boolean), { frames := 4, cells := 0, slots := 0, locals := 90 }, [])
def m_W_make : yM := (⟨"MonitorYardLaw", "make", "(LMonitorYard;II[J)I"⟩, method_3_code, 5, (some .int), { frames := 8, cells := 7, slots := 31, locals := 123 }, [(0, 10, 13, 13), (0, 10, 17, 15)])
def m_W_act : yM := (⟨"MonitorYardLaw", "act", "(LMonitorYard;IIIII[J)I"⟩, method_4_code, 8, (some .int), { frames := 8, cells := 1, slots := 6, locals := 165 }, [(0, 16, 19, 13), (0, 16, 23, 15), (0, 16, 27, 21)])
def m_W_tick : yM := (⟨"MonitorYardLaw", "tick", "(LMonitorYard;I[J)I"⟩, method_5_code, 4, (some .int), { frames := 8, cells := 1, slots := 6, locals := 187 }, [(0, 9, 12, 13)])
def m_W_interrupt : yM := (⟨"MonitorYardLaw", "interrupt", "(LMonitorYard;I)I"⟩, method_6_code, 3, (some .int), { frames := 8, cells := 1, slots := 6, locals := 161 }, [(0, 5, 8, 13)])
def m_W_told : yM := (⟨"MonitorYardLaw", "told", "(LMonitorYard;II[J)I"⟩, method_7_code, 5, (some .int), { frames := 8, cells := 1, slots := 6, locals := 117 }, [(0, 10, 13, 13)])
def m_W_object : yM := (⟨"MonitorYardLaw", "object", "(LMonitorYard;II[J)I"⟩, method_8_code, 5, (some .int), { frames := 8, cells := 1, slots := 6, locals := 117 }, [(0, 10, 13, 13)])
def m_W_waiter : yM := (⟨"MonitorYardLaw", "waiter", "(LMonitorYard;II[J)I"⟩, method_9_code, 5, (some .int), { frames := 8, cells := 1, slots := 6, locals := 118 }, [(0, 10, 13, 13), (0, 10, 17, 40)])
set_option maxRecDepth 20000 in
theorem cw_Y_init : ycode m_Y_init ∈ lw_tbl := List.mem_of_getElem? (i := 59) rfl
set_option maxRecDepth 20000 in
theorem cw_Y_make : ycode m_Y_make ∈ lw_tbl := List.mem_of_getElem? (i := 188) rfl
set_option maxRecDepth 20000 in
theorem cw_Y_act : ycode m_Y_act ∈ lw_tbl := List.mem_of_getElem? (i := 416) rfl
set_option maxRecDepth 20000 in
theorem cw_Y_tick : ycode m_Y_tick ∈ lw_tbl := List.mem_of_getElem? (i := 699) rfl
set_option maxRecDepth 20000 in
theorem cw_Y_interrupt : ycode m_Y_interrupt ∈ lw_tbl := List.mem_of_getElem? (i := 734) rfl
set_option maxRecDepth 20000 in
theorem cw_Y_told : ycode m_Y_told ∈ lw_tbl := List.mem_of_getElem? (i := 745) rfl
set_option maxRecDepth 20000 in
theorem cw_Y_object : ycode m_Y_object ∈ lw_tbl := List.mem_of_getElem? (i := 752) rfl
set_option maxRecDepth 20000 in
theorem cw_Y_waiter : ycode m_Y_waiter ∈ lw_tbl := List.mem_of_getElem? (i := 833) rfl
set_option maxRecDepth 20000 in
theorem cw_Y_stuck : ycode m_Y_stuck ∈ lw_tbl := List.mem_of_getElem? (i := 148) rfl
set_option maxRecDepth 20000 in
theorem cw_Y_count : ycode m_Y_count ∈ lw_tbl := List.mem_of_getElem? (i := 171) rfl
set_option maxRecDepth 20000 in
theorem cw_Y_threadAt : ycode m_Y_threadAt ∈ lw_tbl := List.mem_of_getElem? (i := 420) rfl
set_option maxRecDepth 20000 in
theorem cw_Y_placeAt : ycode m_Y_placeAt ∈ lw_tbl := List.mem_of_getElem? (i := 424) rfl
set_option maxRecDepth 20000 in
theorem cw_Y_newPlace : ycode m_Y_newPlace ∈ lw_tbl := List.mem_of_getElem? (i := 270) rfl
set_option maxRecDepth 20000 in
theorem cw_Y_isAct : ycode m_Y_isAct ∈ lw_tbl := List.mem_of_getElem? (i := 427) rfl
set_option maxRecDepth 20000 in
theorem cw_Y_isPatience : ycode m_Y_isPatience ∈ lw_tbl := List.mem_of_getElem? (i := 432) rfl
set_option maxRecDepth 20000 in
theorem cw_Y_passOneTick : ycode m_Y_passOneTick ∈ lw_tbl := List.mem_of_getElem? (i := 703) rfl
set_option maxRecDepth 20000 in
theorem cw_Y_comesBackByLeaning : ycode m_Y_comesBackByLeaning ∈ lw_tbl := List.mem_of_getElem? (i := 151) rfl
set_option maxRecDepth 20000 in
theorem cw_Y_actsEnded : ycode m_Y_actsEnded ∈ lw_tbl := List.mem_of_getElem? (i := 175) rfl
set_option maxRecDepth 20000 in
theorem cw_Y_runningThreads : ycode m_Y_runningThreads ∈ lw_tbl := List.mem_of_getElem? (i := 179) rfl
set_option maxRecDepth 20000 in
theorem cw_Y_numberOf : ycode m_Y_numberOf ∈ lw_tbl := List.mem_of_getElem? (i := 783) rfl
set_option maxRecDepth 20000 in
theorem cw_T_init : ycode m_T_init ∈ lw_tbl := List.mem_of_getElem? (i := 70) rfl
set_option maxRecDepth 20000 in
theorem cw_T_begin : ycode m_T_begin ∈ lw_tbl := List.mem_of_getElem? (i := 467) rfl
set_option maxRecDepth 20000 in
theorem cw_T_stay : ycode m_T_stay ∈ lw_tbl := List.mem_of_getElem? (i := 622) rfl
set_option maxRecDepth 20000 in
theorem cw_T_end : ycode m_T_end ∈ lw_tbl := List.mem_of_getElem? (i := 493) rfl
set_option maxRecDepth 20000 in
theorem cw_T_losesPatience : ycode m_T_losesPatience ∈ lw_tbl := List.mem_of_getElem? (i := 707) rfl
set_option maxRecDepth 20000 in
theorem cw_T_takesAgain : ycode m_T_takesAgain ∈ lw_tbl := List.mem_of_getElem? (i := 738) rfl
set_option maxRecDepth 20000 in
theorem cw_T_leansOn : ycode m_T_leansOn ∈ lw_tbl := List.mem_of_getElem? (i := 155) rfl
set_option maxRecDepth 20000 in
theorem cw_R_init : ycode m_R_init ∈ lw_tbl := List.mem_of_getElem? (i := 284) rfl
set_option maxRecDepth 20000 in
theorem cw_R_at : ycode m_R_at ∈ lw_tbl := List.mem_of_getElem? (i := 559) rfl
set_option maxRecDepth 20000 in
theorem cw_R_add : ycode m_R_add ∈ lw_tbl := List.mem_of_getElem? (i := 618) rfl
set_option maxRecDepth 20000 in
theorem cw_R_removeFirst : ycode m_R_removeFirst ∈ lw_tbl := List.mem_of_getElem? (i := 575) rfl
set_option maxRecDepth 20000 in
theorem cw_R_remove : ycode m_R_remove ∈ lw_tbl := List.mem_of_getElem? (i := 580) rfl
set_option maxRecDepth 20000 in
theorem cw_K_init : ycode m_K_init ∈ lw_tbl := List.mem_of_getElem? (i := 275) rfl
set_option maxRecDepth 20000 in
theorem cw_K_allows : ycode m_K_allows ∈ lw_tbl := List.mem_of_getElem? (i := 458) rfl
set_option maxRecDepth 20000 in
theorem cw_K_canBe : ycode m_K_canBe ∈ lw_tbl := List.mem_of_getElem? (i := 533) rfl
set_option maxRecDepth 20000 in
theorem cw_K_passesRow : ycode m_K_passesRow ∈ lw_tbl := List.mem_of_getElem? (i := 512) rfl
set_option maxRecDepth 20000 in
theorem cw_K_grant : ycode m_K_grant ∈ lw_tbl := List.mem_of_getElem? (i := 597) rfl
set_option maxRecDepth 20000 in
theorem cw_K_holdBack : ycode m_K_holdBack ∈ lw_tbl := List.mem_of_getElem? (i := 661) rfl
set_option maxRecDepth 20000 in
theorem cw_K_giveUp : ycode m_K_giveUp ∈ lw_tbl := List.mem_of_getElem? (i := 716) rfl
set_option maxRecDepth 20000 in
theorem cw_K_level : ycode m_K_level ∈ lw_tbl := List.mem_of_getElem? (i := 767) rfl
set_option maxRecDepth 20000 in
theorem cw_K_owner : ycode m_K_owner ∈ lw_tbl := List.mem_of_getElem? (i := 787) rfl
set_option maxRecDepth 20000 in
theorem cw_K_waitersAt : ycode m_K_waitersAt ∈ lw_tbl := List.mem_of_getElem? (i := 626) rfl
set_option maxRecDepth 20000 in
theorem cw_K_leanedOn : ycode m_K_leanedOn ∈ lw_tbl := List.mem_of_getElem? (i := 164) rfl
set_option maxRecDepth 20000 in
theorem cw_K_condition : ycode m_K_condition ∈ lw_tbl := List.mem_of_getElem? (i := 609) rfl
set_option maxRecDepth 20000 in
theorem cw_K_joinCondition : ycode m_K_joinCondition ∈ lw_tbl := List.mem_of_getElem? (i := 665) rfl
set_option maxRecDepth 20000 in
theorem cw_K_leaveOnce : ycode m_K_leaveOnce ∈ lw_tbl := List.mem_of_getElem? (i := 601) rfl
set_option maxRecDepth 20000 in
theorem cw_K_call : ycode m_K_call ∈ lw_tbl := List.mem_of_getElem? (i := 605) rfl
set_option maxRecDepth 20000 in
theorem cw_K_takeAgain : ycode m_K_takeAgain ∈ lw_tbl := List.mem_of_getElem? (i := 614) rfl
set_option maxRecDepth 20000 in
theorem cw_B_init : ycode m_B_init ∈ lw_tbl := List.mem_of_getElem? (i := 333) rfl
set_option maxRecDepth 20000 in
theorem cw_B_allows : ycode m_B_allows ∈ lw_tbl := List.mem_of_getElem? (i := 454) rfl
set_option maxRecDepth 20000 in
theorem cw_B_canBe : ycode m_B_canBe ∈ lw_tbl := List.mem_of_getElem? (i := 527) rfl
set_option maxRecDepth 20000 in
theorem cw_B_passesRow : ycode m_B_passesRow ∈ lw_tbl := List.mem_of_getElem? (i := 506) rfl
set_option maxRecDepth 20000 in
theorem cw_B_grant : ycode m_B_grant ∈ lw_tbl := List.mem_of_getElem? (i := 583) rfl
set_option maxRecDepth 20000 in
theorem cw_B_level : ycode m_B_level ∈ lw_tbl := List.mem_of_getElem? (i := 761) rfl
set_option maxRecDepth 20000 in
theorem cw_B_owner : ycode m_B_owner ∈ lw_tbl := List.mem_of_getElem? (i := 780) rfl
set_option maxRecDepth 20000 in
theorem cw_B_timesRead : ycode m_B_timesRead ∈ lw_tbl := List.mem_of_getElem? (i := 808) rfl
set_option maxRecDepth 20000 in
theorem cw_B_countReads : ycode m_B_countReads ∈ lw_tbl := List.mem_of_getElem? (i := 587) rfl
set_option maxRecDepth 20000 in
theorem cw_B_closeWritingOnce : ycode m_B_closeWritingOnce ∈ lw_tbl := List.mem_of_getElem? (i := 591) rfl
set_option maxRecDepth 20000 in
theorem cw_S_init : ycode m_S_init ∈ lw_tbl := List.mem_of_getElem? (i := 355) rfl
set_option maxRecDepth 20000 in
theorem cw_S_allows : ycode m_S_allows ∈ lw_tbl := List.mem_of_getElem? (i := 462) rfl
set_option maxRecDepth 20000 in
theorem cw_S_canBe : ycode m_S_canBe ∈ lw_tbl := List.mem_of_getElem? (i := 539) rfl
set_option maxRecDepth 20000 in
theorem cw_S_passesRow : ycode m_S_passesRow ∈ lw_tbl := List.mem_of_getElem? (i := 518) rfl
set_option maxRecDepth 20000 in
theorem cw_S_grant : ycode m_S_grant ∈ lw_tbl := List.mem_of_getElem? (i := 640) rfl
set_option maxRecDepth 20000 in
theorem cw_S_level : ycode m_S_level ∈ lw_tbl := List.mem_of_getElem? (i := 773) rfl
set_option maxRecDepth 20000 in
theorem cw_L_init : ycode m_L_init ∈ lw_tbl := List.mem_of_getElem? (i := 368) rfl
set_option maxRecDepth 20000 in
theorem cw_L_canBe : ycode m_L_canBe ∈ lw_tbl := List.mem_of_getElem? (i := 530) rfl
set_option maxRecDepth 20000 in
theorem cw_L_passesRow : ycode m_L_passesRow ∈ lw_tbl := List.mem_of_getElem? (i := 509) rfl
set_option maxRecDepth 20000 in
theorem cw_L_grant : ycode m_L_grant ∈ lw_tbl := List.mem_of_getElem? (i := 594) rfl
set_option maxRecDepth 20000 in
theorem cw_L_level : ycode m_L_level ∈ lw_tbl := List.mem_of_getElem? (i := 764) rfl
set_option maxRecDepth 20000 in
theorem cw_A_init : ycode m_A_init ∈ lw_tbl := List.mem_of_getElem? (i := 381) rfl
set_option maxRecDepth 20000 in
theorem cw_A_refuses : ycode m_A_refuses ∈ lw_tbl := List.mem_of_getElem? (i := 483) rfl
set_option maxRecDepth 20000 in
theorem cw_A_canBe : ycode m_A_canBe ∈ lw_tbl := List.mem_of_getElem? (i := 524) rfl
set_option maxRecDepth 20000 in
theorem cw_A_passesRow : ycode m_A_passesRow ∈ lw_tbl := List.mem_of_getElem? (i := 503) rfl
set_option maxRecDepth 20000 in
theorem cw_A_grant : ycode m_A_grant ∈ lw_tbl := List.mem_of_getElem? (i := 565) rfl
set_option maxRecDepth 20000 in
theorem cw_A_whenOneGaveUp : ycode m_A_whenOneGaveUp ∈ lw_tbl := List.mem_of_getElem? (i := 646) rfl
set_option maxRecDepth 20000 in
theorem cw_A_level : ycode m_A_level ∈ lw_tbl := List.mem_of_getElem? (i := 758) rfl
set_option maxRecDepth 20000 in
theorem cw_A_isBroken : ycode m_A_isBroken ∈ lw_tbl := List.mem_of_getElem? (i := 819) rfl
set_option maxRecDepth 20000 in
theorem cw_Q_init : ycode m_Q_init ∈ lw_tbl := List.mem_of_getElem? (i := 397) rfl
set_option maxRecDepth 20000 in
theorem cw_Q_sortOf : ycode m_Q_sortOf ∈ lw_tbl := List.mem_of_getElem? (i := 549) rfl
set_option maxRecDepth 20000 in
theorem cw_Q_canBe : ycode m_Q_canBe ∈ lw_tbl := List.mem_of_getElem? (i := 536) rfl
set_option maxRecDepth 20000 in
theorem cw_Q_passesRow : ycode m_Q_passesRow ∈ lw_tbl := List.mem_of_getElem? (i := 515) rfl
set_option maxRecDepth 20000 in
theorem cw_Q_grant : ycode m_Q_grant ∈ lw_tbl := List.mem_of_getElem? (i := 629) rfl
set_option maxRecDepth 20000 in
theorem cw_Q_level : ycode m_Q_level ∈ lw_tbl := List.mem_of_getElem? (i := 770) rfl
set_option maxRecDepth 20000 in
theorem cw_Q_putLast : ycode m_Q_putLast ∈ lw_tbl := List.mem_of_getElem? (i := 633) rfl
set_option maxRecDepth 20000 in
theorem cw_Q_takeFirst : ycode m_Q_takeFirst ∈ lw_tbl := List.mem_of_getElem? (i := 637) rfl
set_option maxRecDepth 20000 in
theorem cw_M_init : ycode m_M_init ∈ lw_tbl := List.mem_of_getElem? (i := 854) rfl
set_option maxRecDepth 20000 in
theorem cw_M_thrown : ycode m_M_thrown ∈ lw_tbl := List.mem_of_getElem? (i := 942) rfl
set_option maxRecDepth 20000 in
theorem cw_M_in : ycode m_M_in ∈ lw_tbl := List.mem_of_getElem? (i := 949) rfl
set_option maxRecDepth 20000 in
theorem cw_M_bad : ycode m_M_bad ∈ lw_tbl := List.mem_of_getElem? (i := 953) rfl
set_option maxRecDepth 20000 in
theorem cw_M_make : ycode m_M_make ∈ lw_tbl := List.mem_of_getElem? (i := 946) rfl
set_option maxRecDepth 20000 in
theorem cw_M_end : ycode m_M_end ∈ lw_tbl := List.mem_of_getElem? (i := 997) rfl
set_option maxRecDepth 20000 in
theorem cw_M_remove : ycode m_M_remove ∈ lw_tbl := List.mem_of_getElem? (i := 981) rfl
set_option maxRecDepth 20000 in
theorem cw_M_enter : ycode m_M_enter ∈ lw_tbl := List.mem_of_getElem? (i := 989) rfl
set_option maxRecDepth 20000 in
theorem cw_M_readers : ycode m_M_readers ∈ lw_tbl := List.mem_of_getElem? (i := 1009) rfl
set_option maxRecDepth 20000 in
theorem cw_M_can : ycode m_M_can ∈ lw_tbl := List.mem_of_getElem? (i := 1005) rfl
set_option maxRecDepth 20000 in
theorem cw_M_grant : ycode m_M_grant ∈ lw_tbl := List.mem_of_getElem? (i := 1013) rfl
set_option maxRecDepth 20000 in
theorem cw_M_pass : ycode m_M_pass ∈ lw_tbl := List.mem_of_getElem? (i := 1001) rfl
set_option maxRecDepth 20000 in
theorem cw_M_sameSort : ycode m_M_sameSort ∈ lw_tbl := List.mem_of_getElem? (i := 1017) rfl
set_option maxRecDepth 20000 in
theorem cw_M_ofKind : ycode m_M_ofKind ∈ lw_tbl := List.mem_of_getElem? (i := 961) rfl
set_option maxRecDepth 20000 in
theorem cw_M_notNow : ycode m_M_notNow ∈ lw_tbl := List.mem_of_getElem? (i := 965) rfl
set_option maxRecDepth 20000 in
theorem cw_M_breakAll : ycode m_M_breakAll ∈ lw_tbl := List.mem_of_getElem? (i := 993) rfl
set_option maxRecDepth 20000 in
theorem cw_M_called : ycode m_M_called ∈ lw_tbl := List.mem_of_getElem? (i := 985) rfl
set_option maxRecDepth 20000 in
theorem cw_M_call : ycode m_M_call ∈ lw_tbl := List.mem_of_getElem? (i := 977) rfl
set_option maxRecDepth 20000 in
theorem cw_M_less : ycode m_M_less ∈ lw_tbl := List.mem_of_getElem? (i := 973) rfl
set_option maxRecDepth 20000 in
theorem cw_M_simple : ycode m_M_simple ∈ lw_tbl := List.mem_of_getElem? (i := 969) rfl
set_option maxRecDepth 20000 in
theorem cw_M_arrive : ycode m_M_arrive ∈ lw_tbl := List.mem_of_getElem? (i := 1021) rfl
set_option maxRecDepth 20000 in
theorem cw_M_waitAt : ycode m_M_waitAt ∈ lw_tbl := List.mem_of_getElem? (i := 1029) rfl
set_option maxRecDepth 20000 in
theorem cw_M_act : ycode m_M_act ∈ lw_tbl := List.mem_of_getElem? (i := 957) rfl
set_option maxRecDepth 20000 in
theorem cw_M_refused : ycode m_M_refused ∈ lw_tbl := List.mem_of_getElem? (i := 1025) rfl
set_option maxRecDepth 20000 in
theorem cw_M_leave : ycode m_M_leave ∈ lw_tbl := List.mem_of_getElem? (i := 1037) rfl
set_option maxRecDepth 20000 in
theorem cw_M_tick : ycode m_M_tick ∈ lw_tbl := List.mem_of_getElem? (i := 1033) rfl
set_option maxRecDepth 20000 in
theorem cw_M_interrupt : ycode m_M_interrupt ∈ lw_tbl := List.mem_of_getElem? (i := 1041) rfl
set_option maxRecDepth 20000 in
theorem cw_M_told : ycode m_M_told ∈ lw_tbl := List.mem_of_getElem? (i := 1045) rfl
set_option maxRecDepth 20000 in
theorem cw_M_object : ycode m_M_object ∈ lw_tbl := List.mem_of_getElem? (i := 1049) rfl
set_option maxRecDepth 20000 in
theorem cw_M_waiter : ycode m_M_waiter ∈ lw_tbl := List.mem_of_getElem? (i := 1053) rfl
set_option maxRecDepth 20000 in
theorem cw_M_leans : ycode m_M_leans ∈ lw_tbl := List.mem_of_getElem? (i := 1061) rfl
set_option maxRecDepth 20000 in
theorem cw_M_stuck : ycode m_M_stuck ∈ lw_tbl := List.mem_of_getElem? (i := 1057) rfl
set_option maxRecDepth 20000 in
theorem cw_M_count : ycode m_M_count ∈ lw_tbl := List.mem_of_getElem? (i := 1065) rfl
set_option maxRecDepth 20000 in
theorem cw_P_init : ycode m_P_init ∈ lw_tbl := List.mem_of_getElem? (i := 278) rfl
set_option maxRecDepth 20000 in
theorem cw_P_allows : ycode m_P_allows ∈ lw_tbl := List.mem_of_getElem? (i := 463) rfl
set_option maxRecDepth 20000 in
theorem cw_P_refuses : ycode m_P_refuses ∈ lw_tbl := List.mem_of_getElem? (i := 489) rfl
set_option maxRecDepth 20000 in
theorem cw_P_whenOneGaveUp : ycode m_P_whenOneGaveUp ∈ lw_tbl := List.mem_of_getElem? (i := 652) rfl
set_option maxRecDepth 20000 in
theorem cw_P_sortOf : ycode m_P_sortOf ∈ lw_tbl := List.mem_of_getElem? (i := 551) rfl
set_option maxRecDepth 20000 in
theorem cw_P_owner : ycode m_P_owner ∈ lw_tbl := List.mem_of_getElem? (i := 791) rfl
set_option maxRecDepth 20000 in
theorem cw_P_waitersAt : ycode m_P_waitersAt ∈ lw_tbl := List.mem_of_getElem? (i := 801) rfl
set_option maxRecDepth 20000 in
theorem cw_P_timesRead : ycode m_P_timesRead ∈ lw_tbl := List.mem_of_getElem? (i := 813) rfl
set_option maxRecDepth 20000 in
theorem cw_P_isBroken : ycode m_P_isBroken ∈ lw_tbl := List.mem_of_getElem? (i := 825) rfl
set_option maxRecDepth 20000 in
theorem cw_P_leanedOn : ycode m_P_leanedOn ∈ lw_tbl := List.mem_of_getElem? (i := 167) rfl
set_option maxRecDepth 20000 in
theorem cw_P_perform : ycode m_P_perform ∈ lw_tbl := List.mem_of_getElem? (i := 477) rfl
set_option maxRecDepth 20000 in
theorem cw_P_holdBack : ycode m_P_holdBack ∈ lw_tbl := List.mem_of_getElem? (i := 676) rfl
set_option maxRecDepth 20000 in
theorem cw_P_giveUp : ycode m_P_giveUp ∈ lw_tbl := List.mem_of_getElem? (i := 726) rfl
set_option maxRecDepth 20000 in
theorem cw_P_joinRow : ycode m_P_joinRow ∈ lw_tbl := List.mem_of_getElem? (i := 671) rfl
set_option maxRecDepth 20000 in
theorem cw_P_leaveRow : ycode m_P_leaveRow ∈ lw_tbl := List.mem_of_getElem? (i := 723) rfl
set_option maxRecDepth 20000 in
theorem cw_P_endAllInRow : ycode m_P_endAllInRow ∈ lw_tbl := List.mem_of_getElem? (i := 571) rfl
set_option maxRecDepth 20000 in
theorem cw_P_settle : ycode m_P_settle ∈ lw_tbl := List.mem_of_getElem? (i := 687) rfl
set_option maxRecDepth 20000 in
theorem cw_P_canBeAtOnce : ycode m_P_canBeAtOnce ∈ lw_tbl := List.mem_of_getElem? (i := 497) rfl
set_option maxRecDepth 20000 in
theorem cw_P_hasInRow : ycode m_P_hasInRow ∈ lw_tbl := List.mem_of_getElem? (i := 555) rfl
set_option maxRecDepth 20000 in
theorem cw_P_goThroughRow : ycode m_P_goThroughRow ∈ lw_tbl := List.mem_of_getElem? (i := 691) rfl
end
section
theorem d_Y_init_0 : decode (yMb m_Y_init) 0 = .ok (.aload_n 0, 1) := by decide +kernel
theorem d_Y_init_1 : decode (yMb m_Y_init) 1 = .ok (.invokespecial 1, 3) := by decide +kernel
theorem d_Y_init_4 : decode (yMb m_Y_init) 4 = .ok (.aload_n 0, 1) := by decide +kernel
theorem d_Y_init_5 : decode (yMb m_Y_init) 5 = .ok (.bipush 6, 2) := by decide +kernel
theorem d_Y_init_7 : decode (yMb m_Y_init) 7 = .ok (.anewarray 9, 3) := by decide +kernel
theorem d_Y_init_10 : decode (yMb m_Y_init) 10 = .ok (.putfield 11, 3) := by decide +kernel
theorem d_Y_init_13 : decode (yMb m_Y_init) 13 = .ok (.aload_n 0, 1) := by decide +kernel
theorem d_Y_init_14 : decode (yMb m_Y_init) 14 = .ok (.bipush 6, 2) := by decide +kernel
theorem d_Y_init_16 : decode (yMb m_Y_init) 16 = .ok (.anewarray 15, 3) := by decide +kernel
theorem d_Y_init_19 : decode (yMb m_Y_init) 19 = .ok (.putfield 17, 3) := by decide +kernel
theorem d_Y_init_22 : decode (yMb m_Y_init) 22 = .ok (.iconst 0, 1) := by decide +kernel
theorem d_Y_init_23 : decode (yMb m_Y_init) 23 = .ok (.istore_n 1, 1) := by decide +kernel
theorem d_Y_init_24 : decode (yMb m_Y_init) 24 = .ok (.iload_n 1, 1) := by decide +kernel
theorem d_Y_init_25 : decode (yMb m_Y_init) 25 = .ok (.bipush 6, 2) := by decide +kernel
theorem d_Y_init_27 : decode (yMb m_Y_init) 27 = .ok (.if_icmp .ge 23, 3) := by decide +kernel
theorem d_Y_init_30 : decode (yMb m_Y_init) 30 = .ok (.aload_n 0, 1) := by decide +kernel
theorem d_Y_init_31 : decode (yMb m_Y_init) 31 = .ok (.getfield 11, 3) := by decide +kernel
theorem d_Y_init_34 : decode (yMb m_Y_init) 34 = .ok (.iload_n 1, 1) := by decide +kernel
theorem d_Y_init_35 : decode (yMb m_Y_init) 35 = .ok (.new 9, 3) := by decide +kernel
theorem d_Y_init_38 : decode (yMb m_Y_init) 38 = .ok (.dup, 1) := by decide +kernel
theorem d_Y_init_39 : decode (yMb m_Y_init) 39 = .ok (.iload_n 1, 1) := by decide +kernel
theorem d_Y_init_40 : decode (yMb m_Y_init) 40 = .ok (.invokespecial 21, 3) := by decide +kernel
theorem d_Y_init_43 : decode (yMb m_Y_init) 43 = .ok (.aastore, 1) := by decide +kernel
theorem d_Y_init_44 : decode (yMb m_Y_init) 44 = .ok (.iinc 1 1, 3) := by decide +kernel
theorem d_Y_init_47 : decode (yMb m_Y_init) 47 = .ok (.goto (-23), 3) := by decide +kernel
theorem d_Y_init_50 : decode (yMb m_Y_init) 50 = .ok (.return_, 1) := by decide +kernel
theorem d_Y_make_0 : decode (yMb m_Y_make) 0 = .ok (.iload_n 1, 1) := by decide +kernel
theorem d_Y_make_1 : decode (yMb m_Y_make) 1 = .ok (.ifCond .lt 18, 3) := by decide +kernel
theorem d_Y_make_4 : decode (yMb m_Y_make) 4 = .ok (.iload_n 1, 1) := by decide +kernel
theorem d_Y_make_5 : decode (yMb m_Y_make) 5 = .ok (.iconst 5, 1) := by decide +kernel
theorem d_Y_make_6 : decode (yMb m_Y_make) 6 = .ok (.if_icmp .gt 13, 3) := by decide +kernel
theorem d_Y_make_9 : decode (yMb m_Y_make) 9 = .ok (.iload_n 2, 1) := by decide +kernel
theorem d_Y_make_10 : decode (yMb m_Y_make) 10 = .ok (.iconst 1, 1) := by decide +kernel
theorem d_Y_make_11 : decode (yMb m_Y_make) 11 = .ok (.if_icmp .lt 8, 3) := by decide +kernel
theorem d_Y_make_14 : decode (yMb m_Y_make) 14 = .ok (.iload_n 2, 1) := by decide +kernel
theorem d_Y_make_15 : decode (yMb m_Y_make) 15 = .ok (.iconst 3, 1) := by decide +kernel
theorem d_Y_make_16 : decode (yMb m_Y_make) 16 = .ok (.if_icmp .le 11, 3) := by decide +kernel
theorem d_Y_make_19 : decode (yMb m_Y_make) 19 = .ok (.new 24, 3) := by decide +kernel
theorem d_Y_make_22 : decode (yMb m_Y_make) 22 = .ok (.dup, 1) := by decide +kernel
theorem d_Y_make_23 : decode (yMb m_Y_make) 23 = .ok (.invokespecial 26, 3) := by decide +kernel
theorem d_Y_make_26 : decode (yMb m_Y_make) 26 = .ok (.athrow, 1) := by decide +kernel
theorem d_Y_make_27 : decode (yMb m_Y_make) 27 = .ok (.aload_n 0, 1) := by decide +kernel
theorem d_Y_make_28 : decode (yMb m_Y_make) 28 = .ok (.getfield 27, 3) := by decide +kernel
theorem d_Y_make_31 : decode (yMb m_Y_make) 31 = .ok (.bipush 6, 2) := by decide +kernel
theorem d_Y_make_33 : decode (yMb m_Y_make) 33 = .ok (.if_icmp .lt 11, 3) := by decide +kernel
theorem d_Y_make_36 : decode (yMb m_Y_make) 36 = .ok (.new 31, 3) := by decide +kernel
theorem d_Y_make_39 : decode (yMb m_Y_make) 39 = .ok (.dup, 1) := by decide +kernel
theorem d_Y_make_40 : decode (yMb m_Y_make) 40 = .ok (.invokespecial 33, 3) := by decide +kernel
theorem d_Y_make_43 : decode (yMb m_Y_make) 43 = .ok (.athrow, 1) := by decide +kernel
theorem d_Y_make_44 : decode (yMb m_Y_make) 44 = .ok (.aload_n 0, 1) := by decide +kernel
theorem d_Y_make_45 : decode (yMb m_Y_make) 45 = .ok (.getfield 27, 3) := by decide +kernel
theorem d_Y_make_48 : decode (yMb m_Y_make) 48 = .ok (.istore_n 3, 1) := by decide +kernel
theorem d_Y_make_49 : decode (yMb m_Y_make) 49 = .ok (.aload_n 0, 1) := by decide +kernel
theorem d_Y_make_50 : decode (yMb m_Y_make) 50 = .ok (.getfield 17, 3) := by decide +kernel
theorem d_Y_make_53 : decode (yMb m_Y_make) 53 = .ok (.iload_n 3, 1) := by decide +kernel
theorem d_Y_make_54 : decode (yMb m_Y_make) 54 = .ok (.iload_n 1, 1) := by decide +kernel
theorem d_Y_make_55 : decode (yMb m_Y_make) 55 = .ok (.iload_n 3, 1) := by decide +kernel
theorem d_Y_make_56 : decode (yMb m_Y_make) 56 = .ok (.iload_n 2, 1) := by decide +kernel
theorem d_Y_make_57 : decode (yMb m_Y_make) 57 = .ok (.invokestatic 34, 3) := by decide +kernel
theorem d_Y_make_60 : decode (yMb m_Y_make) 60 = .ok (.aastore, 1) := by decide +kernel
theorem d_Y_make_61 : decode (yMb m_Y_make) 61 = .ok (.aload_n 0, 1) := by decide +kernel
theorem d_Y_make_62 : decode (yMb m_Y_make) 62 = .ok (.dup, 1) := by decide +kernel
theorem d_Y_make_63 : decode (yMb m_Y_make) 63 = .ok (.getfield 27, 3) := by decide +kernel
theorem d_Y_make_66 : decode (yMb m_Y_make) 66 = .ok (.iconst 1, 1) := by decide +kernel
theorem d_Y_make_67 : decode (yMb m_Y_make) 67 = .ok (.iadd, 1) := by decide +kernel
theorem d_Y_make_68 : decode (yMb m_Y_make) 68 = .ok (.putfield 27, 3) := by decide +kernel
theorem d_Y_make_71 : decode (yMb m_Y_make) 71 = .ok (.iload_n 3, 1) := by decide +kernel
theorem d_Y_make_72 : decode (yMb m_Y_make) 72 = .ok (.ireturn, 1) := by decide +kernel
theorem d_Y_act_0 : decode (yMb m_Y_act) 0 = .ok (.aload_n 0, 1) := by decide +kernel
theorem d_Y_act_1 : decode (yMb m_Y_act) 1 = .ok (.iload_n 1, 1) := by decide +kernel
theorem d_Y_act_2 : decode (yMb m_Y_act) 2 = .ok (.invokevirtual 38, 3) := by decide +kernel
theorem d_Y_act_5 : decode (yMb m_Y_act) 5 = .ok (.astore 6, 2) := by decide +kernel
theorem d_Y_act_7 : decode (yMb m_Y_act) 7 = .ok (.aload_n 0, 1) := by decide +kernel
theorem d_Y_act_8 : decode (yMb m_Y_act) 8 = .ok (.iload_n 2, 1) := by decide +kernel
theorem d_Y_act_9 : decode (yMb m_Y_act) 9 = .ok (.invokevirtual 42, 3) := by decide +kernel
theorem d_Y_act_12 : decode (yMb m_Y_act) 12 = .ok (.astore 7, 2) := by decide +kernel
theorem d_Y_act_14 : decode (yMb m_Y_act) 14 = .ok (.aload 6, 2) := by decide +kernel
theorem d_Y_act_16 : decode (yMb m_Y_act) 16 = .ok (.ifnull 25, 3) := by decide +kernel
theorem d_Y_act_19 : decode (yMb m_Y_act) 19 = .ok (.aload 7, 2) := by decide +kernel
theorem d_Y_act_21 : decode (yMb m_Y_act) 21 = .ok (.ifnull 20, 3) := by decide +kernel
theorem d_Y_act_24 : decode (yMb m_Y_act) 24 = .ok (.iload_n 3, 1) := by decide +kernel
theorem d_Y_act_25 : decode (yMb m_Y_act) 25 = .ok (.iload 4, 2) := by decide +kernel
theorem d_Y_act_27 : decode (yMb m_Y_act) 27 = .ok (.invokestatic 46, 3) := by decide +kernel
theorem d_Y_act_30 : decode (yMb m_Y_act) 30 = .ok (.ifCond .eq 11, 3) := by decide +kernel
theorem d_Y_act_33 : decode (yMb m_Y_act) 33 = .ok (.iload 5, 2) := by decide +kernel
theorem d_Y_act_35 : decode (yMb m_Y_act) 35 = .ok (.invokestatic 50, 3) := by decide +kernel
theorem d_Y_act_38 : decode (yMb m_Y_act) 38 = .ok (.ifCond .ne 11, 3) := by decide +kernel
theorem d_Y_act_41 : decode (yMb m_Y_act) 41 = .ok (.new 24, 3) := by decide +kernel
theorem d_Y_act_44 : decode (yMb m_Y_act) 44 = .ok (.dup, 1) := by decide +kernel
theorem d_Y_act_45 : decode (yMb m_Y_act) 45 = .ok (.invokespecial 26, 3) := by decide +kernel
theorem d_Y_act_48 : decode (yMb m_Y_act) 48 = .ok (.athrow, 1) := by decide +kernel
theorem d_Y_act_49 : decode (yMb m_Y_act) 49 = .ok (.getstatic 54, 3) := by decide +kernel
theorem d_Y_act_52 : decode (yMb m_Y_act) 52 = .ok (.iload_n 3, 1) := by decide +kernel
theorem d_Y_act_53 : decode (yMb m_Y_act) 53 = .ok (.iaload, 1) := by decide +kernel
theorem d_Y_act_54 : decode (yMb m_Y_act) 54 = .ok (.aload 7, 2) := by decide +kernel
theorem d_Y_act_56 : decode (yMb m_Y_act) 56 = .ok (.getfield 58, 3) := by decide +kernel
theorem d_Y_act_59 : decode (yMb m_Y_act) 59 = .ok (.if_icmp .eq 11, 3) := by decide +kernel
theorem d_Y_act_62 : decode (yMb m_Y_act) 62 = .ok (.new 61, 3) := by decide +kernel
theorem d_Y_act_65 : decode (yMb m_Y_act) 65 = .ok (.dup, 1) := by decide +kernel
theorem d_Y_act_66 : decode (yMb m_Y_act) 66 = .ok (.invokespecial 63, 3) := by decide +kernel
theorem d_Y_act_69 : decode (yMb m_Y_act) 69 = .ok (.athrow, 1) := by decide +kernel
theorem d_Y_act_70 : decode (yMb m_Y_act) 70 = .ok (.aload 6, 2) := by decide +kernel
theorem d_Y_act_72 : decode (yMb m_Y_act) 72 = .ok (.getfield 64, 3) := by decide +kernel
theorem d_Y_act_75 : decode (yMb m_Y_act) 75 = .ok (.ifCond .ne 16, 3) := by decide +kernel
theorem d_Y_act_78 : decode (yMb m_Y_act) 78 = .ok (.aload 7, 2) := by decide +kernel
theorem d_Y_act_80 : decode (yMb m_Y_act) 80 = .ok (.aload 6, 2) := by decide +kernel
theorem d_Y_act_82 : decode (yMb m_Y_act) 82 = .ok (.iload_n 3, 1) := by decide +kernel
theorem d_Y_act_83 : decode (yMb m_Y_act) 83 = .ok (.iload 4, 2) := by decide +kernel
theorem d_Y_act_85 : decode (yMb m_Y_act) 85 = .ok (.invokevirtual 67, 3) := by decide +kernel
theorem d_Y_act_88 : decode (yMb m_Y_act) 88 = .ok (.ifCond .ne 11, 3) := by decide +kernel
theorem d_Y_act_91 : decode (yMb m_Y_act) 91 = .ok (.new 31, 3) := by decide +kernel
theorem d_Y_act_94 : decode (yMb m_Y_act) 94 = .ok (.dup, 1) := by decide +kernel
theorem d_Y_act_95 : decode (yMb m_Y_act) 95 = .ok (.invokespecial 33, 3) := by decide +kernel
theorem d_Y_act_98 : decode (yMb m_Y_act) 98 = .ok (.athrow, 1) := by decide +kernel
theorem d_Y_act_99 : decode (yMb m_Y_act) 99 = .ok (.aload 6, 2) := by decide +kernel
theorem d_Y_act_101 : decode (yMb m_Y_act) 101 = .ok (.iload_n 3, 1) := by decide +kernel
theorem d_Y_act_102 : decode (yMb m_Y_act) 102 = .ok (.iload 4, 2) := by decide +kernel
theorem d_Y_act_104 : decode (yMb m_Y_act) 104 = .ok (.invokevirtual 71, 3) := by decide +kernel
theorem d_Y_act_107 : decode (yMb m_Y_act) 107 = .ok (.aload 7, 2) := by decide +kernel
theorem d_Y_act_109 : decode (yMb m_Y_act) 109 = .ok (.aload 6, 2) := by decide +kernel
theorem d_Y_act_111 : decode (yMb m_Y_act) 111 = .ok (.iload 5, 2) := by decide +kernel
theorem d_Y_act_113 : decode (yMb m_Y_act) 113 = .ok (.invokevirtual 75, 3) := by decide +kernel
theorem d_Y_act_116 : decode (yMb m_Y_act) 116 = .ok (.aload 7, 2) := by decide +kernel
theorem d_Y_act_118 : decode (yMb m_Y_act) 118 = .ok (.invokevirtual 79, 3) := by decide +kernel
theorem d_Y_act_121 : decode (yMb m_Y_act) 121 = .ok (.aload 6, 2) := by decide +kernel
theorem d_Y_act_123 : decode (yMb m_Y_act) 123 = .ok (.getfield 82, 3) := by decide +kernel
theorem d_Y_act_126 : decode (yMb m_Y_act) 126 = .ok (.ireturn, 1) := by decide +kernel
theorem d_Y_tick_0 : decode (yMb m_Y_tick) 0 = .ok (.iload_n 1, 1) := by decide +kernel
theorem d_Y_tick_1 : decode (yMb m_Y_tick) 1 = .ok (.iconst 1, 1) := by decide +kernel
theorem d_Y_tick_2 : decode (yMb m_Y_tick) 2 = .ok (.if_icmp .lt 9, 3) := by decide +kernel
theorem d_Y_tick_5 : decode (yMb m_Y_tick) 5 = .ok (.iload_n 1, 1) := by decide +kernel
theorem d_Y_tick_6 : decode (yMb m_Y_tick) 6 = .ok (.bipush 50, 2) := by decide +kernel
theorem d_Y_tick_8 : decode (yMb m_Y_tick) 8 = .ok (.if_icmp .le 11, 3) := by decide +kernel
theorem d_Y_tick_11 : decode (yMb m_Y_tick) 11 = .ok (.new 24, 3) := by decide +kernel
theorem d_Y_tick_14 : decode (yMb m_Y_tick) 14 = .ok (.dup, 1) := by decide +kernel
theorem d_Y_tick_15 : decode (yMb m_Y_tick) 15 = .ok (.invokespecial 26, 3) := by decide +kernel
theorem d_Y_tick_18 : decode (yMb m_Y_tick) 18 = .ok (.athrow, 1) := by decide +kernel
theorem d_Y_tick_19 : decode (yMb m_Y_tick) 19 = .ok (.iconst 0, 1) := by decide +kernel
theorem d_Y_tick_20 : decode (yMb m_Y_tick) 20 = .ok (.istore_n 2, 1) := by decide +kernel
theorem d_Y_tick_21 : decode (yMb m_Y_tick) 21 = .ok (.iconst 0, 1) := by decide +kernel
theorem d_Y_tick_22 : decode (yMb m_Y_tick) 22 = .ok (.istore_n 3, 1) := by decide +kernel
theorem d_Y_tick_23 : decode (yMb m_Y_tick) 23 = .ok (.iload_n 3, 1) := by decide +kernel
theorem d_Y_tick_24 : decode (yMb m_Y_tick) 24 = .ok (.iload_n 1, 1) := by decide +kernel
theorem d_Y_tick_25 : decode (yMb m_Y_tick) 25 = .ok (.if_icmp .ge 16, 3) := by decide +kernel
theorem d_Y_tick_28 : decode (yMb m_Y_tick) 28 = .ok (.iload_n 2, 1) := by decide +kernel
theorem d_Y_tick_29 : decode (yMb m_Y_tick) 29 = .ok (.aload_n 0, 1) := by decide +kernel
theorem d_Y_tick_30 : decode (yMb m_Y_tick) 30 = .ok (.invokevirtual 85, 3) := by decide +kernel
theorem d_Y_tick_33 : decode (yMb m_Y_tick) 33 = .ok (.iadd, 1) := by decide +kernel
theorem d_Y_tick_34 : decode (yMb m_Y_tick) 34 = .ok (.istore_n 2, 1) := by decide +kernel
theorem d_Y_tick_35 : decode (yMb m_Y_tick) 35 = .ok (.iinc 3 1, 3) := by decide +kernel
theorem d_Y_tick_38 : decode (yMb m_Y_tick) 38 = .ok (.goto (-15), 3) := by decide +kernel
theorem d_Y_tick_41 : decode (yMb m_Y_tick) 41 = .ok (.iload_n 2, 1) := by decide +kernel
theorem d_Y_tick_42 : decode (yMb m_Y_tick) 42 = .ok (.ireturn, 1) := by decide +kernel
theorem d_Y_interrupt_0 : decode (yMb m_Y_interrupt) 0 = .ok (.aload_n 0, 1) := by decide +kernel
theorem d_Y_interrupt_1 : decode (yMb m_Y_interrupt) 1 = .ok (.iload_n 1, 1) := by decide +kernel
theorem d_Y_interrupt_2 : decode (yMb m_Y_interrupt) 2 = .ok (.invokevirtual 38, 3) := by decide +kernel
theorem d_Y_interrupt_5 : decode (yMb m_Y_interrupt) 5 = .ok (.astore_n 2, 1) := by decide +kernel
theorem d_Y_interrupt_6 : decode (yMb m_Y_interrupt) 6 = .ok (.aload_n 2, 1) := by decide +kernel
theorem d_Y_interrupt_7 : decode (yMb m_Y_interrupt) 7 = .ok (.ifnonnull 11, 3) := by decide +kernel
theorem d_Y_interrupt_10 : decode (yMb m_Y_interrupt) 10 = .ok (.new 24, 3) := by decide +kernel
theorem d_Y_interrupt_13 : decode (yMb m_Y_interrupt) 13 = .ok (.dup, 1) := by decide +kernel
theorem d_Y_interrupt_14 : decode (yMb m_Y_interrupt) 14 = .ok (.invokespecial 26, 3) := by decide +kernel
theorem d_Y_interrupt_17 : decode (yMb m_Y_interrupt) 17 = .ok (.athrow, 1) := by decide +kernel
theorem d_Y_interrupt_18 : decode (yMb m_Y_interrupt) 18 = .ok (.aload_n 2, 1) := by decide +kernel
theorem d_Y_interrupt_19 : decode (yMb m_Y_interrupt) 19 = .ok (.getfield 89, 3) := by decide +kernel
theorem d_Y_interrupt_22 : decode (yMb m_Y_interrupt) 22 = .ok (.astore_n 3, 1) := by decide +kernel
theorem d_Y_interrupt_23 : decode (yMb m_Y_interrupt) 23 = .ok (.aload_n 3, 1) := by decide +kernel
theorem d_Y_interrupt_24 : decode (yMb m_Y_interrupt) 24 = .ok (.ifnull 10, 3) := by decide +kernel
theorem d_Y_interrupt_27 : decode (yMb m_Y_interrupt) 27 = .ok (.aload_n 2, 1) := by decide +kernel
theorem d_Y_interrupt_28 : decode (yMb m_Y_interrupt) 28 = .ok (.invokevirtual 93, 3) := by decide +kernel
theorem d_Y_interrupt_31 : decode (yMb m_Y_interrupt) 31 = .ok (.ifCond .eq 11, 3) := by decide +kernel
theorem d_Y_interrupt_34 : decode (yMb m_Y_interrupt) 34 = .ok (.aload_n 2, 1) := by decide +kernel
theorem d_Y_interrupt_35 : decode (yMb m_Y_interrupt) 35 = .ok (.iconst 1, 1) := by decide +kernel
theorem d_Y_interrupt_36 : decode (yMb m_Y_interrupt) 36 = .ok (.putfield 97, 3) := by decide +kernel
theorem d_Y_interrupt_39 : decode (yMb m_Y_interrupt) 39 = .ok (.goto 13, 3) := by decide +kernel
theorem d_Y_interrupt_42 : decode (yMb m_Y_interrupt) 42 = .ok (.aload_n 3, 1) := by decide +kernel
theorem d_Y_interrupt_43 : decode (yMb m_Y_interrupt) 43 = .ok (.aload_n 2, 1) := by decide +kernel
theorem d_Y_interrupt_44 : decode (yMb m_Y_interrupt) 44 = .ok (.iconst 4, 1) := by decide +kernel
theorem d_Y_interrupt_45 : decode (yMb m_Y_interrupt) 45 = .ok (.invokevirtual 101, 3) := by decide +kernel
theorem d_Y_interrupt_48 : decode (yMb m_Y_interrupt) 48 = .ok (.aload_n 3, 1) := by decide +kernel
theorem d_Y_interrupt_49 : decode (yMb m_Y_interrupt) 49 = .ok (.invokevirtual 79, 3) := by decide +kernel
theorem d_Y_interrupt_52 : decode (yMb m_Y_interrupt) 52 = .ok (.return_, 1) := by decide +kernel
theorem d_Y_told_0 : decode (yMb m_Y_told) 0 = .ok (.aload_n 0, 1) := by decide +kernel
theorem d_Y_told_1 : decode (yMb m_Y_told) 1 = .ok (.iload_n 1, 1) := by decide +kernel
theorem d_Y_told_2 : decode (yMb m_Y_told) 2 = .ok (.invokevirtual 38, 3) := by decide +kernel
theorem d_Y_told_5 : decode (yMb m_Y_told) 5 = .ok (.astore_n 3, 1) := by decide +kernel
theorem d_Y_told_6 : decode (yMb m_Y_told) 6 = .ok (.aload_n 3, 1) := by decide +kernel
theorem d_Y_told_7 : decode (yMb m_Y_told) 7 = .ok (.ifnull 12, 3) := by decide +kernel
theorem d_Y_told_10 : decode (yMb m_Y_told) 10 = .ok (.iload_n 2, 1) := by decide +kernel
theorem d_Y_told_11 : decode (yMb m_Y_told) 11 = .ok (.ifCond .lt 8, 3) := by decide +kernel
theorem d_Y_told_14 : decode (yMb m_Y_told) 14 = .ok (.iload_n 2, 1) := by decide +kernel
theorem d_Y_told_15 : decode (yMb m_Y_told) 15 = .ok (.iconst 5, 1) := by decide +kernel
theorem d_Y_told_16 : decode (yMb m_Y_told) 16 = .ok (.if_icmp .le 11, 3) := by decide +kernel
theorem d_Y_told_19 : decode (yMb m_Y_told) 19 = .ok (.new 24, 3) := by decide +kernel
theorem d_Y_told_22 : decode (yMb m_Y_told) 22 = .ok (.dup, 1) := by decide +kernel
theorem d_Y_told_23 : decode (yMb m_Y_told) 23 = .ok (.invokespecial 26, 3) := by decide +kernel
theorem d_Y_told_26 : decode (yMb m_Y_told) 26 = .ok (.athrow, 1) := by decide +kernel
theorem d_Y_told_27 : decode (yMb m_Y_told) 27 = .ok (.iload_n 2, 1) := by decide +kernel
theorem d_Y_told_28 : decode (yMb m_Y_told) 28 = .ok (.tableswitch 83 0 4 #[36, 41, 46, 65, 70], 36) := by decide +kernel
theorem d_Y_told_64 : decode (yMb m_Y_told) 64 = .ok (.aload_n 3, 1) := by decide +kernel
theorem d_Y_told_65 : decode (yMb m_Y_told) 65 = .ok (.getfield 64, 3) := by decide +kernel
theorem d_Y_told_68 : decode (yMb m_Y_told) 68 = .ok (.ireturn, 1) := by decide +kernel
theorem d_Y_told_69 : decode (yMb m_Y_told) 69 = .ok (.aload_n 3, 1) := by decide +kernel
theorem d_Y_told_70 : decode (yMb m_Y_told) 70 = .ok (.getfield 82, 3) := by decide +kernel
theorem d_Y_told_73 : decode (yMb m_Y_told) 73 = .ok (.ireturn, 1) := by decide +kernel
theorem d_Y_told_74 : decode (yMb m_Y_told) 74 = .ok (.aload_n 3, 1) := by decide +kernel
theorem d_Y_told_75 : decode (yMb m_Y_told) 75 = .ok (.getfield 89, 3) := by decide +kernel
theorem d_Y_told_78 : decode (yMb m_Y_told) 78 = .ok (.ifnonnull 7, 3) := by decide +kernel
theorem d_Y_told_81 : decode (yMb m_Y_told) 81 = .ok (.iconst (-1), 1) := by decide +kernel
theorem d_Y_told_82 : decode (yMb m_Y_told) 82 = .ok (.goto 10, 3) := by decide +kernel
theorem d_Y_told_85 : decode (yMb m_Y_told) 85 = .ok (.aload_n 3, 1) := by decide +kernel
theorem d_Y_told_86 : decode (yMb m_Y_told) 86 = .ok (.getfield 89, 3) := by decide +kernel
theorem d_Y_told_89 : decode (yMb m_Y_told) 89 = .ok (.getfield 104, 3) := by decide +kernel
theorem d_Y_told_92 : decode (yMb m_Y_told) 92 = .ok (.ireturn, 1) := by decide +kernel
theorem d_Y_told_93 : decode (yMb m_Y_told) 93 = .ok (.aload_n 3, 1) := by decide +kernel
theorem d_Y_told_94 : decode (yMb m_Y_told) 94 = .ok (.getfield 107, 3) := by decide +kernel
theorem d_Y_told_97 : decode (yMb m_Y_told) 97 = .ok (.ireturn, 1) := by decide +kernel
theorem d_Y_told_98 : decode (yMb m_Y_told) 98 = .ok (.aload_n 3, 1) := by decide +kernel
theorem d_Y_told_99 : decode (yMb m_Y_told) 99 = .ok (.getfield 97, 3) := by decide +kernel
theorem d_Y_told_102 : decode (yMb m_Y_told) 102 = .ok (.ifCond .eq 7, 3) := by decide +kernel
theorem d_Y_told_105 : decode (yMb m_Y_told) 105 = .ok (.iconst 1, 1) := by decide +kernel
theorem d_Y_told_106 : decode (yMb m_Y_told) 106 = .ok (.goto 4, 3) := by decide +kernel
theorem d_Y_told_109 : decode (yMb m_Y_told) 109 = .ok (.iconst 0, 1) := by decide +kernel
theorem d_Y_told_110 : decode (yMb m_Y_told) 110 = .ok (.ireturn, 1) := by decide +kernel
theorem d_Y_told_111 : decode (yMb m_Y_told) 111 = .ok (.aload_n 3, 1) := by decide +kernel
theorem d_Y_told_112 : decode (yMb m_Y_told) 112 = .ok (.getfield 110, 3) := by decide +kernel
theorem d_Y_told_115 : decode (yMb m_Y_told) 115 = .ok (.ireturn, 1) := by decide +kernel
theorem d_Y_object_0 : decode (yMb m_Y_object) 0 = .ok (.aload_n 0, 1) := by decide +kernel
theorem d_Y_object_1 : decode (yMb m_Y_object) 1 = .ok (.iload_n 1, 1) := by decide +kernel
theorem d_Y_object_2 : decode (yMb m_Y_object) 2 = .ok (.invokevirtual 42, 3) := by decide +kernel
theorem d_Y_object_5 : decode (yMb m_Y_object) 5 = .ok (.astore_n 3, 1) := by decide +kernel
theorem d_Y_object_6 : decode (yMb m_Y_object) 6 = .ok (.aload_n 3, 1) := by decide +kernel
theorem d_Y_object_7 : decode (yMb m_Y_object) 7 = .ok (.ifnull 13, 3) := by decide +kernel
theorem d_Y_object_10 : decode (yMb m_Y_object) 10 = .ok (.iload_n 2, 1) := by decide +kernel
theorem d_Y_object_11 : decode (yMb m_Y_object) 11 = .ok (.ifCond .lt 9, 3) := by decide +kernel
theorem d_Y_object_14 : decode (yMb m_Y_object) 14 = .ok (.iload_n 2, 1) := by decide +kernel
theorem d_Y_object_15 : decode (yMb m_Y_object) 15 = .ok (.bipush 7, 2) := by decide +kernel
theorem d_Y_object_17 : decode (yMb m_Y_object) 17 = .ok (.if_icmp .le 11, 3) := by decide +kernel
theorem d_Y_object_20 : decode (yMb m_Y_object) 20 = .ok (.new 24, 3) := by decide +kernel
theorem d_Y_object_23 : decode (yMb m_Y_object) 23 = .ok (.dup, 1) := by decide +kernel
theorem d_Y_object_24 : decode (yMb m_Y_object) 24 = .ok (.invokespecial 26, 3) := by decide +kernel
theorem d_Y_object_27 : decode (yMb m_Y_object) 27 = .ok (.athrow, 1) := by decide +kernel
theorem d_Y_object_28 : decode (yMb m_Y_object) 28 = .ok (.iload_n 2, 1) := by decide +kernel
theorem d_Y_object_29 : decode (yMb m_Y_object) 29 = .ok (.tableswitch 83 0 6 #[43, 48, 53, 58, 66, 72, 78], 43) := by decide +kernel
theorem d_Y_object_72 : decode (yMb m_Y_object) 72 = .ok (.aload_n 3, 1) := by decide +kernel
theorem d_Y_object_73 : decode (yMb m_Y_object) 73 = .ok (.getfield 58, 3) := by decide +kernel
theorem d_Y_object_76 : decode (yMb m_Y_object) 76 = .ok (.ireturn, 1) := by decide +kernel
theorem d_Y_object_77 : decode (yMb m_Y_object) 77 = .ok (.aload_n 3, 1) := by decide +kernel
theorem d_Y_object_78 : decode (yMb m_Y_object) 78 = .ok (.invokevirtual 113, 3) := by decide +kernel
theorem d_Y_object_81 : decode (yMb m_Y_object) 81 = .ok (.ireturn, 1) := by decide +kernel
theorem d_Y_object_82 : decode (yMb m_Y_object) 82 = .ok (.aload_n 3, 1) := by decide +kernel
theorem d_Y_object_83 : decode (yMb m_Y_object) 83 = .ok (.invokevirtual 116, 3) := by decide +kernel
theorem d_Y_object_86 : decode (yMb m_Y_object) 86 = .ok (.ireturn, 1) := by decide +kernel
theorem d_Y_object_87 : decode (yMb m_Y_object) 87 = .ok (.aload_n 3, 1) := by decide +kernel
theorem d_Y_object_88 : decode (yMb m_Y_object) 88 = .ok (.getfield 119, 3) := by decide +kernel
theorem d_Y_object_91 : decode (yMb m_Y_object) 91 = .ok (.getfield 123, 3) := by decide +kernel
theorem d_Y_object_94 : decode (yMb m_Y_object) 94 = .ok (.ireturn, 1) := by decide +kernel
theorem d_Y_object_95 : decode (yMb m_Y_object) 95 = .ok (.aload_n 3, 1) := by decide +kernel
theorem d_Y_object_96 : decode (yMb m_Y_object) 96 = .ok (.iconst 0, 1) := by decide +kernel
theorem d_Y_object_97 : decode (yMb m_Y_object) 97 = .ok (.invokevirtual 128, 3) := by decide +kernel
theorem d_Y_object_100 : decode (yMb m_Y_object) 100 = .ok (.ireturn, 1) := by decide +kernel
theorem d_Y_object_101 : decode (yMb m_Y_object) 101 = .ok (.aload_n 3, 1) := by decide +kernel
theorem d_Y_object_102 : decode (yMb m_Y_object) 102 = .ok (.iconst 1, 1) := by decide +kernel
theorem d_Y_object_103 : decode (yMb m_Y_object) 103 = .ok (.invokevirtual 128, 3) := by decide +kernel
theorem d_Y_object_106 : decode (yMb m_Y_object) 106 = .ok (.ireturn, 1) := by decide +kernel
theorem d_Y_object_107 : decode (yMb m_Y_object) 107 = .ok (.aload_n 3, 1) := by decide +kernel
theorem d_Y_object_108 : decode (yMb m_Y_object) 108 = .ok (.invokevirtual 132, 3) := by decide +kernel
theorem d_Y_object_111 : decode (yMb m_Y_object) 111 = .ok (.ireturn, 1) := by decide +kernel
theorem d_Y_object_112 : decode (yMb m_Y_object) 112 = .ok (.aload_n 3, 1) := by decide +kernel
theorem d_Y_object_113 : decode (yMb m_Y_object) 113 = .ok (.invokevirtual 135, 3) := by decide +kernel
theorem d_Y_object_116 : decode (yMb m_Y_object) 116 = .ok (.ifCond .eq 7, 3) := by decide +kernel
theorem d_Y_object_119 : decode (yMb m_Y_object) 119 = .ok (.iconst 1, 1) := by decide +kernel
theorem d_Y_object_120 : decode (yMb m_Y_object) 120 = .ok (.goto 4, 3) := by decide +kernel
theorem d_Y_object_123 : decode (yMb m_Y_object) 123 = .ok (.iconst 0, 1) := by decide +kernel
theorem d_Y_object_124 : decode (yMb m_Y_object) 124 = .ok (.ireturn, 1) := by decide +kernel
theorem d_Y_waiter_0 : decode (yMb m_Y_waiter) 0 = .ok (.aload_n 0, 1) := by decide +kernel
theorem d_Y_waiter_1 : decode (yMb m_Y_waiter) 1 = .ok (.iload_n 1, 1) := by decide +kernel
theorem d_Y_waiter_2 : decode (yMb m_Y_waiter) 2 = .ok (.invokevirtual 42, 3) := by decide +kernel
theorem d_Y_waiter_5 : decode (yMb m_Y_waiter) 5 = .ok (.astore_n 3, 1) := by decide +kernel
theorem d_Y_waiter_6 : decode (yMb m_Y_waiter) 6 = .ok (.aload_n 3, 1) := by decide +kernel
theorem d_Y_waiter_7 : decode (yMb m_Y_waiter) 7 = .ok (.ifnonnull 11, 3) := by decide +kernel
theorem d_Y_waiter_10 : decode (yMb m_Y_waiter) 10 = .ok (.new 24, 3) := by decide +kernel
theorem d_Y_waiter_13 : decode (yMb m_Y_waiter) 13 = .ok (.dup, 1) := by decide +kernel
theorem d_Y_waiter_14 : decode (yMb m_Y_waiter) 14 = .ok (.invokespecial 26, 3) := by decide +kernel
theorem d_Y_waiter_17 : decode (yMb m_Y_waiter) 17 = .ok (.athrow, 1) := by decide +kernel
theorem d_Y_waiter_18 : decode (yMb m_Y_waiter) 18 = .ok (.aload_n 3, 1) := by decide +kernel
theorem d_Y_waiter_19 : decode (yMb m_Y_waiter) 19 = .ok (.getfield 119, 3) := by decide +kernel
theorem d_Y_waiter_22 : decode (yMb m_Y_waiter) 22 = .ok (.iload_n 2, 1) := by decide +kernel
theorem d_Y_waiter_23 : decode (yMb m_Y_waiter) 23 = .ok (.invokevirtual 138, 3) := by decide +kernel
theorem d_Y_waiter_26 : decode (yMb m_Y_waiter) 26 = .ok (.astore 4, 2) := by decide +kernel
theorem d_Y_waiter_28 : decode (yMb m_Y_waiter) 28 = .ok (.aload 4, 2) := by decide +kernel
theorem d_Y_waiter_30 : decode (yMb m_Y_waiter) 30 = .ok (.ifnonnull 11, 3) := by decide +kernel
theorem d_Y_waiter_33 : decode (yMb m_Y_waiter) 33 = .ok (.new 141, 3) := by decide +kernel
theorem d_Y_waiter_36 : decode (yMb m_Y_waiter) 36 = .ok (.dup, 1) := by decide +kernel
theorem d_Y_waiter_37 : decode (yMb m_Y_waiter) 37 = .ok (.invokespecial 143, 3) := by decide +kernel
theorem d_Y_waiter_40 : decode (yMb m_Y_waiter) 40 = .ok (.athrow, 1) := by decide +kernel
theorem d_Y_waiter_41 : decode (yMb m_Y_waiter) 41 = .ok (.aload 4, 2) := by decide +kernel
theorem d_Y_waiter_43 : decode (yMb m_Y_waiter) 43 = .ok (.getfield 144, 3) := by decide +kernel
theorem d_Y_waiter_46 : decode (yMb m_Y_waiter) 46 = .ok (.ireturn, 1) := by decide +kernel
theorem d_Y_stuck_0 : decode (yMb m_Y_stuck) 0 = .ok (.iconst 0, 1) := by decide +kernel
theorem d_Y_stuck_1 : decode (yMb m_Y_stuck) 1 = .ok (.istore_n 1, 1) := by decide +kernel
theorem d_Y_stuck_2 : decode (yMb m_Y_stuck) 2 = .ok (.aload_n 0, 1) := by decide +kernel
theorem d_Y_stuck_3 : decode (yMb m_Y_stuck) 3 = .ok (.getfield 11, 3) := by decide +kernel
theorem d_Y_stuck_6 : decode (yMb m_Y_stuck) 6 = .ok (.astore_n 2, 1) := by decide +kernel
theorem d_Y_stuck_7 : decode (yMb m_Y_stuck) 7 = .ok (.aload_n 2, 1) := by decide +kernel
theorem d_Y_stuck_8 : decode (yMb m_Y_stuck) 8 = .ok (.arraylength, 1) := by decide +kernel
theorem d_Y_stuck_9 : decode (yMb m_Y_stuck) 9 = .ok (.istore_n 3, 1) := by decide +kernel
theorem d_Y_stuck_10 : decode (yMb m_Y_stuck) 10 = .ok (.iconst 0, 1) := by decide +kernel
theorem d_Y_stuck_11 : decode (yMb m_Y_stuck) 11 = .ok (.istore 4, 2) := by decide +kernel
theorem d_Y_stuck_13 : decode (yMb m_Y_stuck) 13 = .ok (.iload 4, 2) := by decide +kernel
theorem d_Y_stuck_15 : decode (yMb m_Y_stuck) 15 = .ok (.iload_n 3, 1) := by decide +kernel
theorem d_Y_stuck_16 : decode (yMb m_Y_stuck) 16 = .ok (.if_icmp .ge 26, 3) := by decide +kernel
theorem d_Y_stuck_19 : decode (yMb m_Y_stuck) 19 = .ok (.aload_n 2, 1) := by decide +kernel
theorem d_Y_stuck_20 : decode (yMb m_Y_stuck) 20 = .ok (.iload 4, 2) := by decide +kernel
theorem d_Y_stuck_22 : decode (yMb m_Y_stuck) 22 = .ok (.aaload, 1) := by decide +kernel
theorem d_Y_stuck_23 : decode (yMb m_Y_stuck) 23 = .ok (.astore 5, 2) := by decide +kernel
theorem d_Y_stuck_25 : decode (yMb m_Y_stuck) 25 = .ok (.aload 5, 2) := by decide +kernel
theorem d_Y_stuck_27 : decode (yMb m_Y_stuck) 27 = .ok (.invokestatic 145, 3) := by decide +kernel
theorem d_Y_stuck_30 : decode (yMb m_Y_stuck) 30 = .ok (.ifCond .eq 6, 3) := by decide +kernel
theorem d_Y_stuck_33 : decode (yMb m_Y_stuck) 33 = .ok (.iinc 1 1, 3) := by decide +kernel
theorem d_Y_stuck_36 : decode (yMb m_Y_stuck) 36 = .ok (.iinc 4 1, 3) := by decide +kernel
theorem d_Y_stuck_39 : decode (yMb m_Y_stuck) 39 = .ok (.goto (-26), 3) := by decide +kernel
theorem d_Y_stuck_42 : decode (yMb m_Y_stuck) 42 = .ok (.iload_n 1, 1) := by decide +kernel
theorem d_Y_stuck_43 : decode (yMb m_Y_stuck) 43 = .ok (.ireturn, 1) := by decide +kernel
theorem d_Y_count_0 : decode (yMb m_Y_count) 0 = .ok (.iload_n 1, 1) := by decide +kernel
theorem d_Y_count_1 : decode (yMb m_Y_count) 1 = .ok (.tableswitch 82 0 6 #[43, 48, 54, 60, 66, 72, 77], 43) := by decide +kernel
theorem d_Y_count_44 : decode (yMb m_Y_count) 44 = .ok (.aload_n 0, 1) := by decide +kernel
theorem d_Y_count_45 : decode (yMb m_Y_count) 45 = .ok (.getfield 27, 3) := by decide +kernel
theorem d_Y_count_48 : decode (yMb m_Y_count) 48 = .ok (.ireturn, 1) := by decide +kernel
theorem d_Y_count_49 : decode (yMb m_Y_count) 49 = .ok (.aload_n 0, 1) := by decide +kernel
theorem d_Y_count_50 : decode (yMb m_Y_count) 50 = .ok (.iconst 0, 1) := by decide +kernel
theorem d_Y_count_51 : decode (yMb m_Y_count) 51 = .ok (.invokevirtual 149, 3) := by decide +kernel
theorem d_Y_count_54 : decode (yMb m_Y_count) 54 = .ok (.ireturn, 1) := by decide +kernel
theorem d_Y_count_55 : decode (yMb m_Y_count) 55 = .ok (.aload_n 0, 1) := by decide +kernel
theorem d_Y_count_56 : decode (yMb m_Y_count) 56 = .ok (.iconst 2, 1) := by decide +kernel
theorem d_Y_count_57 : decode (yMb m_Y_count) 57 = .ok (.invokevirtual 149, 3) := by decide +kernel
theorem d_Y_count_60 : decode (yMb m_Y_count) 60 = .ok (.ireturn, 1) := by decide +kernel
theorem d_Y_count_61 : decode (yMb m_Y_count) 61 = .ok (.aload_n 0, 1) := by decide +kernel
theorem d_Y_count_62 : decode (yMb m_Y_count) 62 = .ok (.iconst 3, 1) := by decide +kernel
theorem d_Y_count_63 : decode (yMb m_Y_count) 63 = .ok (.invokevirtual 149, 3) := by decide +kernel
theorem d_Y_count_66 : decode (yMb m_Y_count) 66 = .ok (.ireturn, 1) := by decide +kernel
theorem d_Y_count_67 : decode (yMb m_Y_count) 67 = .ok (.aload_n 0, 1) := by decide +kernel
theorem d_Y_count_68 : decode (yMb m_Y_count) 68 = .ok (.iconst 4, 1) := by decide +kernel
theorem d_Y_count_69 : decode (yMb m_Y_count) 69 = .ok (.invokevirtual 149, 3) := by decide +kernel
theorem d_Y_count_72 : decode (yMb m_Y_count) 72 = .ok (.ireturn, 1) := by decide +kernel
theorem d_Y_count_73 : decode (yMb m_Y_count) 73 = .ok (.aload_n 0, 1) := by decide +kernel
theorem d_Y_count_74 : decode (yMb m_Y_count) 74 = .ok (.getfield 152, 3) := by decide +kernel
theorem d_Y_count_77 : decode (yMb m_Y_count) 77 = .ok (.ireturn, 1) := by decide +kernel
theorem d_Y_count_78 : decode (yMb m_Y_count) 78 = .ok (.aload_n 0, 1) := by decide +kernel
theorem d_Y_count_79 : decode (yMb m_Y_count) 79 = .ok (.invokevirtual 155, 3) := by decide +kernel
theorem d_Y_count_82 : decode (yMb m_Y_count) 82 = .ok (.ireturn, 1) := by decide +kernel
theorem d_Y_count_83 : decode (yMb m_Y_count) 83 = .ok (.iconst (-1), 1) := by decide +kernel
theorem d_Y_count_84 : decode (yMb m_Y_count) 84 = .ok (.ireturn, 1) := by decide +kernel
theorem d_Y_threadAt_0 : decode (yMb m_Y_threadAt) 0 = .ok (.iload_n 1, 1) := by decide +kernel
theorem d_Y_threadAt_1 : decode (yMb m_Y_threadAt) 1 = .ok (.ifCond .lt 9, 3) := by decide +kernel
theorem d_Y_threadAt_4 : decode (yMb m_Y_threadAt) 4 = .ok (.iload_n 1, 1) := by decide +kernel
theorem d_Y_threadAt_5 : decode (yMb m_Y_threadAt) 5 = .ok (.bipush 6, 2) := by decide +kernel
theorem d_Y_threadAt_7 : decode (yMb m_Y_threadAt) 7 = .ok (.if_icmp .lt 7, 3) := by decide +kernel
theorem d_Y_threadAt_10 : decode (yMb m_Y_threadAt) 10 = .ok (.aconst_null, 1) := by decide +kernel
theorem d_Y_threadAt_11 : decode (yMb m_Y_threadAt) 11 = .ok (.goto 9, 3) := by decide +kernel
theorem d_Y_threadAt_14 : decode (yMb m_Y_threadAt) 14 = .ok (.aload_n 0, 1) := by decide +kernel
theorem d_Y_threadAt_15 : decode (yMb m_Y_threadAt) 15 = .ok (.getfield 11, 3) := by decide +kernel
theorem d_Y_threadAt_18 : decode (yMb m_Y_threadAt) 18 = .ok (.iload_n 1, 1) := by decide +kernel
theorem d_Y_threadAt_19 : decode (yMb m_Y_threadAt) 19 = .ok (.aaload, 1) := by decide +kernel
theorem d_Y_threadAt_20 : decode (yMb m_Y_threadAt) 20 = .ok (.areturn, 1) := by decide +kernel
theorem d_Y_placeAt_0 : decode (yMb m_Y_placeAt) 0 = .ok (.iload_n 1, 1) := by decide +kernel
theorem d_Y_placeAt_1 : decode (yMb m_Y_placeAt) 1 = .ok (.ifCond .lt 11, 3) := by decide +kernel
theorem d_Y_placeAt_4 : decode (yMb m_Y_placeAt) 4 = .ok (.iload_n 1, 1) := by decide +kernel
theorem d_Y_placeAt_5 : decode (yMb m_Y_placeAt) 5 = .ok (.aload_n 0, 1) := by decide +kernel
theorem d_Y_placeAt_6 : decode (yMb m_Y_placeAt) 6 = .ok (.getfield 27, 3) := by decide +kernel
theorem d_Y_placeAt_9 : decode (yMb m_Y_placeAt) 9 = .ok (.if_icmp .lt 7, 3) := by decide +kernel
theorem d_Y_placeAt_12 : decode (yMb m_Y_placeAt) 12 = .ok (.aconst_null, 1) := by decide +kernel
theorem d_Y_placeAt_13 : decode (yMb m_Y_placeAt) 13 = .ok (.goto 9, 3) := by decide +kernel
theorem d_Y_placeAt_16 : decode (yMb m_Y_placeAt) 16 = .ok (.aload_n 0, 1) := by decide +kernel
theorem d_Y_placeAt_17 : decode (yMb m_Y_placeAt) 17 = .ok (.getfield 17, 3) := by decide +kernel
theorem d_Y_placeAt_20 : decode (yMb m_Y_placeAt) 20 = .ok (.iload_n 1, 1) := by decide +kernel
theorem d_Y_placeAt_21 : decode (yMb m_Y_placeAt) 21 = .ok (.aaload, 1) := by decide +kernel
theorem d_Y_placeAt_22 : decode (yMb m_Y_placeAt) 22 = .ok (.areturn, 1) := by decide +kernel
theorem d_Y_newPlace_0 : decode (yMb m_Y_newPlace) 0 = .ok (.iload_n 0, 1) := by decide +kernel
theorem d_Y_newPlace_1 : decode (yMb m_Y_newPlace) 1 = .ok (.tableswitch 83 0 4 #[35, 44, 53, 63, 73], 35) := by decide +kernel
theorem d_Y_newPlace_36 : decode (yMb m_Y_newPlace) 36 = .ok (.new 158, 3) := by decide +kernel
theorem d_Y_newPlace_39 : decode (yMb m_Y_newPlace) 39 = .ok (.dup, 1) := by decide +kernel
theorem d_Y_newPlace_40 : decode (yMb m_Y_newPlace) 40 = .ok (.iload_n 1, 1) := by decide +kernel
theorem d_Y_newPlace_41 : decode (yMb m_Y_newPlace) 41 = .ok (.invokespecial 160, 3) := by decide +kernel
theorem d_Y_newPlace_44 : decode (yMb m_Y_newPlace) 44 = .ok (.areturn, 1) := by decide +kernel
theorem d_Y_newPlace_45 : decode (yMb m_Y_newPlace) 45 = .ok (.new 161, 3) := by decide +kernel
theorem d_Y_newPlace_48 : decode (yMb m_Y_newPlace) 48 = .ok (.dup, 1) := by decide +kernel
theorem d_Y_newPlace_49 : decode (yMb m_Y_newPlace) 49 = .ok (.iload_n 1, 1) := by decide +kernel
theorem d_Y_newPlace_50 : decode (yMb m_Y_newPlace) 50 = .ok (.invokespecial 163, 3) := by decide +kernel
theorem d_Y_newPlace_53 : decode (yMb m_Y_newPlace) 53 = .ok (.areturn, 1) := by decide +kernel
theorem d_Y_newPlace_54 : decode (yMb m_Y_newPlace) 54 = .ok (.new 164, 3) := by decide +kernel
theorem d_Y_newPlace_57 : decode (yMb m_Y_newPlace) 57 = .ok (.dup, 1) := by decide +kernel
theorem d_Y_newPlace_58 : decode (yMb m_Y_newPlace) 58 = .ok (.iload_n 1, 1) := by decide +kernel
theorem d_Y_newPlace_59 : decode (yMb m_Y_newPlace) 59 = .ok (.iload_n 2, 1) := by decide +kernel
theorem d_Y_newPlace_60 : decode (yMb m_Y_newPlace) 60 = .ok (.invokespecial 166, 3) := by decide +kernel
theorem d_Y_newPlace_63 : decode (yMb m_Y_newPlace) 63 = .ok (.areturn, 1) := by decide +kernel
theorem d_Y_newPlace_64 : decode (yMb m_Y_newPlace) 64 = .ok (.new 168, 3) := by decide +kernel
theorem d_Y_newPlace_67 : decode (yMb m_Y_newPlace) 67 = .ok (.dup, 1) := by decide +kernel
theorem d_Y_newPlace_68 : decode (yMb m_Y_newPlace) 68 = .ok (.iload_n 1, 1) := by decide +kernel
theorem d_Y_newPlace_69 : decode (yMb m_Y_newPlace) 69 = .ok (.iload_n 2, 1) := by decide +kernel
theorem d_Y_newPlace_70 : decode (yMb m_Y_newPlace) 70 = .ok (.invokespecial 170, 3) := by decide +kernel
theorem d_Y_newPlace_73 : decode (yMb m_Y_newPlace) 73 = .ok (.areturn, 1) := by decide +kernel
theorem d_Y_newPlace_74 : decode (yMb m_Y_newPlace) 74 = .ok (.new 171, 3) := by decide +kernel
theorem d_Y_newPlace_77 : decode (yMb m_Y_newPlace) 77 = .ok (.dup, 1) := by decide +kernel
theorem d_Y_newPlace_78 : decode (yMb m_Y_newPlace) 78 = .ok (.iload_n 1, 1) := by decide +kernel
theorem d_Y_newPlace_79 : decode (yMb m_Y_newPlace) 79 = .ok (.iload_n 2, 1) := by decide +kernel
theorem d_Y_newPlace_80 : decode (yMb m_Y_newPlace) 80 = .ok (.invokespecial 173, 3) := by decide +kernel
theorem d_Y_newPlace_83 : decode (yMb m_Y_newPlace) 83 = .ok (.areturn, 1) := by decide +kernel
theorem d_Y_newPlace_84 : decode (yMb m_Y_newPlace) 84 = .ok (.new 174, 3) := by decide +kernel
theorem d_Y_newPlace_87 : decode (yMb m_Y_newPlace) 87 = .ok (.dup, 1) := by decide +kernel
theorem d_Y_newPlace_88 : decode (yMb m_Y_newPlace) 88 = .ok (.iload_n 1, 1) := by decide +kernel
theorem d_Y_newPlace_89 : decode (yMb m_Y_newPlace) 89 = .ok (.iload_n 2, 1) := by decide +kernel
theorem d_Y_newPlace_90 : decode (yMb m_Y_newPlace) 90 = .ok (.invokespecial 176, 3) := by decide +kernel
theorem d_Y_newPlace_93 : decode (yMb m_Y_newPlace) 93 = .ok (.areturn, 1) := by decide +kernel
theorem d_Y_isAct_0 : decode (yMb m_Y_isAct) 0 = .ok (.iload_n 0, 1) := by decide +kernel
theorem d_Y_isAct_1 : decode (yMb m_Y_isAct) 1 = .ok (.tableswitch 82 2 10 #[51, 51, 51, 82, 82, 82, 82, 66, 66], 51) := by decide +kernel
theorem d_Y_isAct_52 : decode (yMb m_Y_isAct) 52 = .ok (.iload_n 1, 1) := by decide +kernel
theorem d_Y_isAct_53 : decode (yMb m_Y_isAct) 53 = .ok (.ifCond .eq 8, 3) := by decide +kernel
theorem d_Y_isAct_56 : decode (yMb m_Y_isAct) 56 = .ok (.iload_n 1, 1) := by decide +kernel
theorem d_Y_isAct_57 : decode (yMb m_Y_isAct) 57 = .ok (.iconst 1, 1) := by decide +kernel
theorem d_Y_isAct_58 : decode (yMb m_Y_isAct) 58 = .ok (.if_icmp .ne 7, 3) := by decide +kernel
theorem d_Y_isAct_61 : decode (yMb m_Y_isAct) 61 = .ok (.iconst 1, 1) := by decide +kernel
theorem d_Y_isAct_62 : decode (yMb m_Y_isAct) 62 = .ok (.goto 4, 3) := by decide +kernel
theorem d_Y_isAct_65 : decode (yMb m_Y_isAct) 65 = .ok (.iconst 0, 1) := by decide +kernel
theorem d_Y_isAct_66 : decode (yMb m_Y_isAct) 66 = .ok (.ireturn, 1) := by decide +kernel
theorem d_Y_isAct_67 : decode (yMb m_Y_isAct) 67 = .ok (.iload_n 1, 1) := by decide +kernel
theorem d_Y_isAct_68 : decode (yMb m_Y_isAct) 68 = .ok (.iconst 1, 1) := by decide +kernel
theorem d_Y_isAct_69 : decode (yMb m_Y_isAct) 69 = .ok (.if_icmp .lt 12, 3) := by decide +kernel
theorem d_Y_isAct_72 : decode (yMb m_Y_isAct) 72 = .ok (.iload_n 1, 1) := by decide +kernel
theorem d_Y_isAct_73 : decode (yMb m_Y_isAct) 73 = .ok (.iconst 3, 1) := by decide +kernel
theorem d_Y_isAct_74 : decode (yMb m_Y_isAct) 74 = .ok (.if_icmp .gt 7, 3) := by decide +kernel
theorem d_Y_isAct_77 : decode (yMb m_Y_isAct) 77 = .ok (.iconst 1, 1) := by decide +kernel
theorem d_Y_isAct_78 : decode (yMb m_Y_isAct) 78 = .ok (.goto 4, 3) := by decide +kernel
theorem d_Y_isAct_81 : decode (yMb m_Y_isAct) 81 = .ok (.iconst 0, 1) := by decide +kernel
theorem d_Y_isAct_82 : decode (yMb m_Y_isAct) 82 = .ok (.ireturn, 1) := by decide +kernel
theorem d_Y_isAct_83 : decode (yMb m_Y_isAct) 83 = .ok (.iload_n 0, 1) := by decide +kernel
theorem d_Y_isAct_84 : decode (yMb m_Y_isAct) 84 = .ok (.ifCond .lt 15, 3) := by decide +kernel
theorem d_Y_isAct_87 : decode (yMb m_Y_isAct) 87 = .ok (.iload_n 0, 1) := by decide +kernel
theorem d_Y_isAct_88 : decode (yMb m_Y_isAct) 88 = .ok (.getstatic 54, 3) := by decide +kernel
theorem d_Y_isAct_91 : decode (yMb m_Y_isAct) 91 = .ok (.arraylength, 1) := by decide +kernel
theorem d_Y_isAct_92 : decode (yMb m_Y_isAct) 92 = .ok (.if_icmp .ge 7, 3) := by decide +kernel
theorem d_Y_isAct_95 : decode (yMb m_Y_isAct) 95 = .ok (.iconst 1, 1) := by decide +kernel
theorem d_Y_isAct_96 : decode (yMb m_Y_isAct) 96 = .ok (.goto 4, 3) := by decide +kernel
theorem d_Y_isAct_99 : decode (yMb m_Y_isAct) 99 = .ok (.iconst 0, 1) := by decide +kernel
theorem d_Y_isAct_100 : decode (yMb m_Y_isAct) 100 = .ok (.ireturn, 1) := by decide +kernel
theorem d_Y_isPatience_0 : decode (yMb m_Y_isPatience) 0 = .ok (.iload_n 0, 1) := by decide +kernel
theorem d_Y_isPatience_1 : decode (yMb m_Y_isPatience) 1 = .ok (.iconst (-1), 1) := by decide +kernel
theorem d_Y_isPatience_2 : decode (yMb m_Y_isPatience) 2 = .ok (.if_icmp .lt 13, 3) := by decide +kernel
theorem d_Y_isPatience_5 : decode (yMb m_Y_isPatience) 5 = .ok (.iload_n 0, 1) := by decide +kernel
theorem d_Y_isPatience_6 : decode (yMb m_Y_isPatience) 6 = .ok (.bipush 100, 2) := by decide +kernel
theorem d_Y_isPatience_8 : decode (yMb m_Y_isPatience) 8 = .ok (.if_icmp .gt 7, 3) := by decide +kernel
theorem d_Y_isPatience_11 : decode (yMb m_Y_isPatience) 11 = .ok (.iconst 1, 1) := by decide +kernel
theorem d_Y_isPatience_12 : decode (yMb m_Y_isPatience) 12 = .ok (.goto 4, 3) := by decide +kernel
theorem d_Y_isPatience_15 : decode (yMb m_Y_isPatience) 15 = .ok (.iconst 0, 1) := by decide +kernel
theorem d_Y_isPatience_16 : decode (yMb m_Y_isPatience) 16 = .ok (.ireturn, 1) := by decide +kernel
theorem d_Y_passOneTick_0 : decode (yMb m_Y_passOneTick) 0 = .ok (.aload_n 0, 1) := by decide +kernel
theorem d_Y_passOneTick_1 : decode (yMb m_Y_passOneTick) 1 = .ok (.dup, 1) := by decide +kernel
theorem d_Y_passOneTick_2 : decode (yMb m_Y_passOneTick) 2 = .ok (.getfield 152, 3) := by decide +kernel
theorem d_Y_passOneTick_5 : decode (yMb m_Y_passOneTick) 5 = .ok (.iconst 1, 1) := by decide +kernel
theorem d_Y_passOneTick_6 : decode (yMb m_Y_passOneTick) 6 = .ok (.iadd, 1) := by decide +kernel
theorem d_Y_passOneTick_7 : decode (yMb m_Y_passOneTick) 7 = .ok (.putfield 152, 3) := by decide +kernel
theorem d_Y_passOneTick_10 : decode (yMb m_Y_passOneTick) 10 = .ok (.iconst 0, 1) := by decide +kernel
theorem d_Y_passOneTick_11 : decode (yMb m_Y_passOneTick) 11 = .ok (.istore_n 1, 1) := by decide +kernel
theorem d_Y_passOneTick_12 : decode (yMb m_Y_passOneTick) 12 = .ok (.aload_n 0, 1) := by decide +kernel
theorem d_Y_passOneTick_13 : decode (yMb m_Y_passOneTick) 13 = .ok (.getfield 11, 3) := by decide +kernel
theorem d_Y_passOneTick_16 : decode (yMb m_Y_passOneTick) 16 = .ok (.astore_n 2, 1) := by decide +kernel
theorem d_Y_passOneTick_17 : decode (yMb m_Y_passOneTick) 17 = .ok (.aload_n 2, 1) := by decide +kernel
theorem d_Y_passOneTick_18 : decode (yMb m_Y_passOneTick) 18 = .ok (.arraylength, 1) := by decide +kernel
theorem d_Y_passOneTick_19 : decode (yMb m_Y_passOneTick) 19 = .ok (.istore_n 3, 1) := by decide +kernel
theorem d_Y_passOneTick_20 : decode (yMb m_Y_passOneTick) 20 = .ok (.iconst 0, 1) := by decide +kernel
theorem d_Y_passOneTick_21 : decode (yMb m_Y_passOneTick) 21 = .ok (.istore 4, 2) := by decide +kernel
theorem d_Y_passOneTick_23 : decode (yMb m_Y_passOneTick) 23 = .ok (.iload 4, 2) := by decide +kernel
theorem d_Y_passOneTick_25 : decode (yMb m_Y_passOneTick) 25 = .ok (.iload_n 3, 1) := by decide +kernel
theorem d_Y_passOneTick_26 : decode (yMb m_Y_passOneTick) 26 = .ok (.if_icmp .ge 51, 3) := by decide +kernel
theorem d_Y_passOneTick_29 : decode (yMb m_Y_passOneTick) 29 = .ok (.aload_n 2, 1) := by decide +kernel
theorem d_Y_passOneTick_30 : decode (yMb m_Y_passOneTick) 30 = .ok (.iload 4, 2) := by decide +kernel
theorem d_Y_passOneTick_32 : decode (yMb m_Y_passOneTick) 32 = .ok (.aaload, 1) := by decide +kernel
theorem d_Y_passOneTick_33 : decode (yMb m_Y_passOneTick) 33 = .ok (.astore 5, 2) := by decide +kernel
theorem d_Y_passOneTick_35 : decode (yMb m_Y_passOneTick) 35 = .ok (.aload 5, 2) := by decide +kernel
theorem d_Y_passOneTick_37 : decode (yMb m_Y_passOneTick) 37 = .ok (.getfield 89, 3) := by decide +kernel
theorem d_Y_passOneTick_40 : decode (yMb m_Y_passOneTick) 40 = .ok (.astore 6, 2) := by decide +kernel
theorem d_Y_passOneTick_42 : decode (yMb m_Y_passOneTick) 42 = .ok (.aload 6, 2) := by decide +kernel
theorem d_Y_passOneTick_44 : decode (yMb m_Y_passOneTick) 44 = .ok (.ifnull 27, 3) := by decide +kernel
theorem d_Y_passOneTick_47 : decode (yMb m_Y_passOneTick) 47 = .ok (.aload 5, 2) := by decide +kernel
theorem d_Y_passOneTick_49 : decode (yMb m_Y_passOneTick) 49 = .ok (.invokevirtual 177, 3) := by decide +kernel
theorem d_Y_passOneTick_52 : decode (yMb m_Y_passOneTick) 52 = .ok (.ifCond .eq 19, 3) := by decide +kernel
theorem d_Y_passOneTick_55 : decode (yMb m_Y_passOneTick) 55 = .ok (.aload 6, 2) := by decide +kernel
theorem d_Y_passOneTick_57 : decode (yMb m_Y_passOneTick) 57 = .ok (.aload 5, 2) := by decide +kernel
theorem d_Y_passOneTick_59 : decode (yMb m_Y_passOneTick) 59 = .ok (.iconst 2, 1) := by decide +kernel
theorem d_Y_passOneTick_60 : decode (yMb m_Y_passOneTick) 60 = .ok (.invokevirtual 101, 3) := by decide +kernel
theorem d_Y_passOneTick_63 : decode (yMb m_Y_passOneTick) 63 = .ok (.aload 6, 2) := by decide +kernel
theorem d_Y_passOneTick_65 : decode (yMb m_Y_passOneTick) 65 = .ok (.invokevirtual 79, 3) := by decide +kernel
theorem d_Y_passOneTick_68 : decode (yMb m_Y_passOneTick) 68 = .ok (.iinc 1 1, 3) := by decide +kernel
theorem d_Y_passOneTick_71 : decode (yMb m_Y_passOneTick) 71 = .ok (.iinc 4 1, 3) := by decide +kernel
theorem d_Y_passOneTick_74 : decode (yMb m_Y_passOneTick) 74 = .ok (.goto (-51), 3) := by decide +kernel
theorem d_Y_passOneTick_77 : decode (yMb m_Y_passOneTick) 77 = .ok (.iload_n 1, 1) := by decide +kernel
theorem d_Y_passOneTick_78 : decode (yMb m_Y_passOneTick) 78 = .ok (.ireturn, 1) := by decide +kernel
theorem d_Y_comesBackByLeaning_0 : decode (yMb m_Y_comesBackByLeaning) 0 = .ok (.aload_n 0, 1) := by decide +kernel
theorem d_Y_comesBackByLeaning_1 : decode (yMb m_Y_comesBackByLeaning) 1 = .ok (.invokevirtual 180, 3) := by decide +kernel
theorem d_Y_comesBackByLeaning_4 : decode (yMb m_Y_comesBackByLeaning) 4 = .ok (.astore_n 1, 1) := by decide +kernel
theorem d_Y_comesBackByLeaning_5 : decode (yMb m_Y_comesBackByLeaning) 5 = .ok (.iconst 1, 1) := by decide +kernel
theorem d_Y_comesBackByLeaning_6 : decode (yMb m_Y_comesBackByLeaning) 6 = .ok (.istore_n 2, 1) := by decide +kernel
theorem d_Y_comesBackByLeaning_7 : decode (yMb m_Y_comesBackByLeaning) 7 = .ok (.iload_n 2, 1) := by decide +kernel
theorem d_Y_comesBackByLeaning_8 : decode (yMb m_Y_comesBackByLeaning) 8 = .ok (.bipush 6, 2) := by decide +kernel
theorem d_Y_comesBackByLeaning_10 : decode (yMb m_Y_comesBackByLeaning) 10 = .ok (.if_icmp .ge 23, 3) := by decide +kernel
theorem d_Y_comesBackByLeaning_13 : decode (yMb m_Y_comesBackByLeaning) 13 = .ok (.aload_n 1, 1) := by decide +kernel
theorem d_Y_comesBackByLeaning_14 : decode (yMb m_Y_comesBackByLeaning) 14 = .ok (.ifnull 19, 3) := by decide +kernel
theorem d_Y_comesBackByLeaning_17 : decode (yMb m_Y_comesBackByLeaning) 17 = .ok (.aload_n 1, 1) := by decide +kernel
theorem d_Y_comesBackByLeaning_18 : decode (yMb m_Y_comesBackByLeaning) 18 = .ok (.aload_n 0, 1) := by decide +kernel
theorem d_Y_comesBackByLeaning_19 : decode (yMb m_Y_comesBackByLeaning) 19 = .ok (.if_acmp .eq 14, 3) := by decide +kernel
theorem d_Y_comesBackByLeaning_22 : decode (yMb m_Y_comesBackByLeaning) 22 = .ok (.aload_n 1, 1) := by decide +kernel
theorem d_Y_comesBackByLeaning_23 : decode (yMb m_Y_comesBackByLeaning) 23 = .ok (.invokevirtual 180, 3) := by decide +kernel
theorem d_Y_comesBackByLeaning_26 : decode (yMb m_Y_comesBackByLeaning) 26 = .ok (.astore_n 1, 1) := by decide +kernel
theorem d_Y_comesBackByLeaning_27 : decode (yMb m_Y_comesBackByLeaning) 27 = .ok (.iinc 2 1, 3) := by decide +kernel
theorem d_Y_comesBackByLeaning_30 : decode (yMb m_Y_comesBackByLeaning) 30 = .ok (.goto (-23), 3) := by decide +kernel
theorem d_Y_comesBackByLeaning_33 : decode (yMb m_Y_comesBackByLeaning) 33 = .ok (.aload_n 1, 1) := by decide +kernel
theorem d_Y_comesBackByLeaning_34 : decode (yMb m_Y_comesBackByLeaning) 34 = .ok (.aload_n 0, 1) := by decide +kernel
theorem d_Y_comesBackByLeaning_35 : decode (yMb m_Y_comesBackByLeaning) 35 = .ok (.if_acmp .ne 7, 3) := by decide +kernel
theorem d_Y_comesBackByLeaning_38 : decode (yMb m_Y_comesBackByLeaning) 38 = .ok (.iconst 1, 1) := by decide +kernel
theorem d_Y_comesBackByLeaning_39 : decode (yMb m_Y_comesBackByLeaning) 39 = .ok (.goto 4, 3) := by decide +kernel
theorem d_Y_comesBackByLeaning_42 : decode (yMb m_Y_comesBackByLeaning) 42 = .ok (.iconst 0, 1) := by decide +kernel
theorem d_Y_comesBackByLeaning_43 : decode (yMb m_Y_comesBackByLeaning) 43 = .ok (.ireturn, 1) := by decide +kernel
theorem d_Y_actsEnded_0 : decode (yMb m_Y_actsEnded) 0 = .ok (.iconst 0, 1) := by decide +kernel
theorem d_Y_actsEnded_1 : decode (yMb m_Y_actsEnded) 1 = .ok (.istore_n 2, 1) := by decide +kernel
theorem d_Y_actsEnded_2 : decode (yMb m_Y_actsEnded) 2 = .ok (.aload_n 0, 1) := by decide +kernel
theorem d_Y_actsEnded_3 : decode (yMb m_Y_actsEnded) 3 = .ok (.getfield 11, 3) := by decide +kernel
theorem d_Y_actsEnded_6 : decode (yMb m_Y_actsEnded) 6 = .ok (.astore_n 3, 1) := by decide +kernel
theorem d_Y_actsEnded_7 : decode (yMb m_Y_actsEnded) 7 = .ok (.aload_n 3, 1) := by decide +kernel
theorem d_Y_actsEnded_8 : decode (yMb m_Y_actsEnded) 8 = .ok (.arraylength, 1) := by decide +kernel
theorem d_Y_actsEnded_9 : decode (yMb m_Y_actsEnded) 9 = .ok (.istore 4, 2) := by decide +kernel
theorem d_Y_actsEnded_11 : decode (yMb m_Y_actsEnded) 11 = .ok (.iconst 0, 1) := by decide +kernel
theorem d_Y_actsEnded_12 : decode (yMb m_Y_actsEnded) 12 = .ok (.istore 5, 2) := by decide +kernel
theorem d_Y_actsEnded_14 : decode (yMb m_Y_actsEnded) 14 = .ok (.iload 5, 2) := by decide +kernel
theorem d_Y_actsEnded_16 : decode (yMb m_Y_actsEnded) 16 = .ok (.iload 4, 2) := by decide +kernel
theorem d_Y_actsEnded_18 : decode (yMb m_Y_actsEnded) 18 = .ok (.if_icmp .ge 25, 3) := by decide +kernel
theorem d_Y_actsEnded_21 : decode (yMb m_Y_actsEnded) 21 = .ok (.aload_n 3, 1) := by decide +kernel
theorem d_Y_actsEnded_22 : decode (yMb m_Y_actsEnded) 22 = .ok (.iload 5, 2) := by decide +kernel
theorem d_Y_actsEnded_24 : decode (yMb m_Y_actsEnded) 24 = .ok (.aaload, 1) := by decide +kernel
theorem d_Y_actsEnded_25 : decode (yMb m_Y_actsEnded) 25 = .ok (.astore 6, 2) := by decide +kernel
theorem d_Y_actsEnded_27 : decode (yMb m_Y_actsEnded) 27 = .ok (.iload_n 2, 1) := by decide +kernel
theorem d_Y_actsEnded_28 : decode (yMb m_Y_actsEnded) 28 = .ok (.aload 6, 2) := by decide +kernel
theorem d_Y_actsEnded_30 : decode (yMb m_Y_actsEnded) 30 = .ok (.getfield 184, 3) := by decide +kernel
theorem d_Y_actsEnded_33 : decode (yMb m_Y_actsEnded) 33 = .ok (.iload_n 1, 1) := by decide +kernel
theorem d_Y_actsEnded_34 : decode (yMb m_Y_actsEnded) 34 = .ok (.iaload, 1) := by decide +kernel
theorem d_Y_actsEnded_35 : decode (yMb m_Y_actsEnded) 35 = .ok (.iadd, 1) := by decide +kernel
theorem d_Y_actsEnded_36 : decode (yMb m_Y_actsEnded) 36 = .ok (.istore_n 2, 1) := by decide +kernel
theorem d_Y_actsEnded_37 : decode (yMb m_Y_actsEnded) 37 = .ok (.iinc 5 1, 3) := by decide +kernel
theorem d_Y_actsEnded_40 : decode (yMb m_Y_actsEnded) 40 = .ok (.goto (-26), 3) := by decide +kernel
theorem d_Y_actsEnded_43 : decode (yMb m_Y_actsEnded) 43 = .ok (.iload_n 2, 1) := by decide +kernel
theorem d_Y_actsEnded_44 : decode (yMb m_Y_actsEnded) 44 = .ok (.ireturn, 1) := by decide +kernel
theorem d_Y_runningThreads_0 : decode (yMb m_Y_runningThreads) 0 = .ok (.iconst 0, 1) := by decide +kernel
theorem d_Y_runningThreads_1 : decode (yMb m_Y_runningThreads) 1 = .ok (.istore_n 1, 1) := by decide +kernel
theorem d_Y_runningThreads_2 : decode (yMb m_Y_runningThreads) 2 = .ok (.aload_n 0, 1) := by decide +kernel
theorem d_Y_runningThreads_3 : decode (yMb m_Y_runningThreads) 3 = .ok (.getfield 11, 3) := by decide +kernel
theorem d_Y_runningThreads_6 : decode (yMb m_Y_runningThreads) 6 = .ok (.astore_n 2, 1) := by decide +kernel
theorem d_Y_runningThreads_7 : decode (yMb m_Y_runningThreads) 7 = .ok (.aload_n 2, 1) := by decide +kernel
theorem d_Y_runningThreads_8 : decode (yMb m_Y_runningThreads) 8 = .ok (.arraylength, 1) := by decide +kernel
theorem d_Y_runningThreads_9 : decode (yMb m_Y_runningThreads) 9 = .ok (.istore_n 3, 1) := by decide +kernel
theorem d_Y_runningThreads_10 : decode (yMb m_Y_runningThreads) 10 = .ok (.iconst 0, 1) := by decide +kernel
theorem d_Y_runningThreads_11 : decode (yMb m_Y_runningThreads) 11 = .ok (.istore 4, 2) := by decide +kernel
theorem d_Y_runningThreads_13 : decode (yMb m_Y_runningThreads) 13 = .ok (.iload 4, 2) := by decide +kernel
theorem d_Y_runningThreads_15 : decode (yMb m_Y_runningThreads) 15 = .ok (.iload_n 3, 1) := by decide +kernel
theorem d_Y_runningThreads_16 : decode (yMb m_Y_runningThreads) 16 = .ok (.if_icmp .ge 26, 3) := by decide +kernel
theorem d_Y_runningThreads_19 : decode (yMb m_Y_runningThreads) 19 = .ok (.aload_n 2, 1) := by decide +kernel
theorem d_Y_runningThreads_20 : decode (yMb m_Y_runningThreads) 20 = .ok (.iload 4, 2) := by decide +kernel
theorem d_Y_runningThreads_22 : decode (yMb m_Y_runningThreads) 22 = .ok (.aaload, 1) := by decide +kernel
theorem d_Y_runningThreads_23 : decode (yMb m_Y_runningThreads) 23 = .ok (.astore 5, 2) := by decide +kernel
theorem d_Y_runningThreads_25 : decode (yMb m_Y_runningThreads) 25 = .ok (.aload 5, 2) := by decide +kernel
theorem d_Y_runningThreads_27 : decode (yMb m_Y_runningThreads) 27 = .ok (.getfield 64, 3) := by decide +kernel
theorem d_Y_runningThreads_30 : decode (yMb m_Y_runningThreads) 30 = .ok (.ifCond .ne 6, 3) := by decide +kernel
theorem d_Y_runningThreads_33 : decode (yMb m_Y_runningThreads) 33 = .ok (.iinc 1 1, 3) := by decide +kernel
theorem d_Y_runningThreads_36 : decode (yMb m_Y_runningThreads) 36 = .ok (.iinc 4 1, 3) := by decide +kernel
theorem d_Y_runningThreads_39 : decode (yMb m_Y_runningThreads) 39 = .ok (.goto (-26), 3) := by decide +kernel
theorem d_Y_runningThreads_42 : decode (yMb m_Y_runningThreads) 42 = .ok (.iload_n 1, 1) := by decide +kernel
theorem d_Y_runningThreads_43 : decode (yMb m_Y_runningThreads) 43 = .ok (.ireturn, 1) := by decide +kernel
theorem d_Y_numberOf_0 : decode (yMb m_Y_numberOf) 0 = .ok (.aload_n 0, 1) := by decide +kernel
theorem d_Y_numberOf_1 : decode (yMb m_Y_numberOf) 1 = .ok (.ifnonnull 7, 3) := by decide +kernel
theorem d_Y_numberOf_4 : decode (yMb m_Y_numberOf) 4 = .ok (.iconst (-1), 1) := by decide +kernel
theorem d_Y_numberOf_5 : decode (yMb m_Y_numberOf) 5 = .ok (.goto 7, 3) := by decide +kernel
theorem d_Y_numberOf_8 : decode (yMb m_Y_numberOf) 8 = .ok (.aload_n 0, 1) := by decide +kernel
theorem d_Y_numberOf_9 : decode (yMb m_Y_numberOf) 9 = .ok (.getfield 144, 3) := by decide +kernel
theorem d_Y_numberOf_12 : decode (yMb m_Y_numberOf) 12 = .ok (.ireturn, 1) := by decide +kernel
theorem d_T_init_0 : decode (yMb m_T_init) 0 = .ok (.aload_n 0, 1) := by decide +kernel
theorem d_T_init_1 : decode (yMb m_T_init) 1 = .ok (.invokespecial 3, 3) := by decide +kernel
theorem d_T_init_4 : decode (yMb m_T_init) 4 = .ok (.aload_n 0, 1) := by decide +kernel
theorem d_T_init_5 : decode (yMb m_T_init) 5 = .ok (.iconst 5, 1) := by decide +kernel
theorem d_T_init_6 : decode (yMb m_T_init) 6 = .ok (.newarray .int, 2) := by decide +kernel
theorem d_T_init_8 : decode (yMb m_T_init) 8 = .ok (.putfield 9, 3) := by decide +kernel
theorem d_T_init_11 : decode (yMb m_T_init) 11 = .ok (.aload_n 0, 1) := by decide +kernel
theorem d_T_init_12 : decode (yMb m_T_init) 12 = .ok (.iconst 0, 1) := by decide +kernel
theorem d_T_init_13 : decode (yMb m_T_init) 13 = .ok (.putfield 15, 3) := by decide +kernel
theorem d_T_init_16 : decode (yMb m_T_init) 16 = .ok (.aload_n 0, 1) := by decide +kernel
theorem d_T_init_17 : decode (yMb m_T_init) 17 = .ok (.iconst 0, 1) := by decide +kernel
theorem d_T_init_18 : decode (yMb m_T_init) 18 = .ok (.putfield 19, 3) := by decide +kernel
theorem d_T_init_21 : decode (yMb m_T_init) 21 = .ok (.aload_n 0, 1) := by decide +kernel
theorem d_T_init_22 : decode (yMb m_T_init) 22 = .ok (.iconst (-1), 1) := by decide +kernel
theorem d_T_init_23 : decode (yMb m_T_init) 23 = .ok (.putfield 22, 3) := by decide +kernel
theorem d_T_init_26 : decode (yMb m_T_init) 26 = .ok (.aload_n 0, 1) := by decide +kernel
theorem d_T_init_27 : decode (yMb m_T_init) 27 = .ok (.iload_n 1, 1) := by decide +kernel
theorem d_T_init_28 : decode (yMb m_T_init) 28 = .ok (.putfield 25, 3) := by decide +kernel
theorem d_T_init_31 : decode (yMb m_T_init) 31 = .ok (.return_, 1) := by decide +kernel
theorem d_T_begin_0 : decode (yMb m_T_begin) 0 = .ok (.aload_n 0, 1) := by decide +kernel
theorem d_T_begin_1 : decode (yMb m_T_begin) 1 = .ok (.iload_n 1, 1) := by decide +kernel
theorem d_T_begin_2 : decode (yMb m_T_begin) 2 = .ok (.putfield 28, 3) := by decide +kernel
theorem d_T_begin_5 : decode (yMb m_T_begin) 5 = .ok (.aload_n 0, 1) := by decide +kernel
theorem d_T_begin_6 : decode (yMb m_T_begin) 6 = .ok (.iload_n 2, 1) := by decide +kernel
theorem d_T_begin_7 : decode (yMb m_T_begin) 7 = .ok (.putfield 31, 3) := by decide +kernel
theorem d_T_begin_10 : decode (yMb m_T_begin) 10 = .ok (.aload_n 0, 1) := by decide +kernel
theorem d_T_begin_11 : decode (yMb m_T_begin) 11 = .ok (.iconst 1, 1) := by decide +kernel
theorem d_T_begin_12 : decode (yMb m_T_begin) 12 = .ok (.putfield 19, 3) := by decide +kernel
theorem d_T_begin_15 : decode (yMb m_T_begin) 15 = .ok (.aload_n 0, 1) := by decide +kernel
theorem d_T_begin_16 : decode (yMb m_T_begin) 16 = .ok (.iconst 0, 1) := by decide +kernel
theorem d_T_begin_17 : decode (yMb m_T_begin) 17 = .ok (.putfield 34, 3) := by decide +kernel
theorem d_T_begin_20 : decode (yMb m_T_begin) 20 = .ok (.return_, 1) := by decide +kernel
theorem d_T_stay_0 : decode (yMb m_T_stay) 0 = .ok (.aload_n 0, 1) := by decide +kernel
theorem d_T_stay_1 : decode (yMb m_T_stay) 1 = .ok (.aload_n 1, 1) := by decide +kernel
theorem d_T_stay_2 : decode (yMb m_T_stay) 2 = .ok (.putfield 37, 3) := by decide +kernel
theorem d_T_stay_5 : decode (yMb m_T_stay) 5 = .ok (.aload_n 0, 1) := by decide +kernel
theorem d_T_stay_6 : decode (yMb m_T_stay) 6 = .ok (.iload_n 2, 1) := by decide +kernel
theorem d_T_stay_7 : decode (yMb m_T_stay) 7 = .ok (.putfield 15, 3) := by decide +kernel
theorem d_T_stay_10 : decode (yMb m_T_stay) 10 = .ok (.aload_n 0, 1) := by decide +kernel
theorem d_T_stay_11 : decode (yMb m_T_stay) 11 = .ok (.iload_n 3, 1) := by decide +kernel
theorem d_T_stay_12 : decode (yMb m_T_stay) 12 = .ok (.putfield 22, 3) := by decide +kernel
theorem d_T_stay_15 : decode (yMb m_T_stay) 15 = .ok (.return_, 1) := by decide +kernel
theorem d_T_end_0 : decode (yMb m_T_end) 0 = .ok (.aload_n 0, 1) := by decide +kernel
theorem d_T_end_1 : decode (yMb m_T_end) 1 = .ok (.aconst_null, 1) := by decide +kernel
theorem d_T_end_2 : decode (yMb m_T_end) 2 = .ok (.putfield 37, 3) := by decide +kernel
theorem d_T_end_5 : decode (yMb m_T_end) 5 = .ok (.aload_n 0, 1) := by decide +kernel
theorem d_T_end_6 : decode (yMb m_T_end) 6 = .ok (.iconst 0, 1) := by decide +kernel
theorem d_T_end_7 : decode (yMb m_T_end) 7 = .ok (.putfield 15, 3) := by decide +kernel
theorem d_T_end_10 : decode (yMb m_T_end) 10 = .ok (.aload_n 0, 1) := by decide +kernel
theorem d_T_end_11 : decode (yMb m_T_end) 11 = .ok (.iconst (-1), 1) := by decide +kernel
theorem d_T_end_12 : decode (yMb m_T_end) 12 = .ok (.putfield 22, 3) := by decide +kernel
theorem d_T_end_15 : decode (yMb m_T_end) 15 = .ok (.aload_n 0, 1) := by decide +kernel
theorem d_T_end_16 : decode (yMb m_T_end) 16 = .ok (.iload_n 1, 1) := by decide +kernel
theorem d_T_end_17 : decode (yMb m_T_end) 17 = .ok (.putfield 19, 3) := by decide +kernel
theorem d_T_end_20 : decode (yMb m_T_end) 20 = .ok (.aload_n 0, 1) := by decide +kernel
theorem d_T_end_21 : decode (yMb m_T_end) 21 = .ok (.getfield 9, 3) := by decide +kernel
theorem d_T_end_24 : decode (yMb m_T_end) 24 = .ok (.iload_n 1, 1) := by decide +kernel
theorem d_T_end_25 : decode (yMb m_T_end) 25 = .ok (.dup2, 1) := by decide +kernel
theorem d_T_end_26 : decode (yMb m_T_end) 26 = .ok (.iaload, 1) := by decide +kernel
theorem d_T_end_27 : decode (yMb m_T_end) 27 = .ok (.iconst 1, 1) := by decide +kernel
theorem d_T_end_28 : decode (yMb m_T_end) 28 = .ok (.iadd, 1) := by decide +kernel
theorem d_T_end_29 : decode (yMb m_T_end) 29 = .ok (.iastore, 1) := by decide +kernel
theorem d_T_end_30 : decode (yMb m_T_end) 30 = .ok (.return_, 1) := by decide +kernel
theorem d_T_losesPatience_0 : decode (yMb m_T_losesPatience) 0 = .ok (.aload_n 0, 1) := by decide +kernel
theorem d_T_losesPatience_1 : decode (yMb m_T_losesPatience) 1 = .ok (.getfield 22, 3) := by decide +kernel
theorem d_T_losesPatience_4 : decode (yMb m_T_losesPatience) 4 = .ok (.ifCond .gt 5, 3) := by decide +kernel
theorem d_T_losesPatience_7 : decode (yMb m_T_losesPatience) 7 = .ok (.iconst 0, 1) := by decide +kernel
theorem d_T_losesPatience_8 : decode (yMb m_T_losesPatience) 8 = .ok (.ireturn, 1) := by decide +kernel
theorem d_T_losesPatience_9 : decode (yMb m_T_losesPatience) 9 = .ok (.aload_n 0, 1) := by decide +kernel
theorem d_T_losesPatience_10 : decode (yMb m_T_losesPatience) 10 = .ok (.dup, 1) := by decide +kernel
theorem d_T_losesPatience_11 : decode (yMb m_T_losesPatience) 11 = .ok (.getfield 22, 3) := by decide +kernel
theorem d_T_losesPatience_14 : decode (yMb m_T_losesPatience) 14 = .ok (.iconst 1, 1) := by decide +kernel
theorem d_T_losesPatience_15 : decode (yMb m_T_losesPatience) 15 = .ok (.isub, 1) := by decide +kernel
theorem d_T_losesPatience_16 : decode (yMb m_T_losesPatience) 16 = .ok (.putfield 22, 3) := by decide +kernel
theorem d_T_losesPatience_19 : decode (yMb m_T_losesPatience) 19 = .ok (.aload_n 0, 1) := by decide +kernel
theorem d_T_losesPatience_20 : decode (yMb m_T_losesPatience) 20 = .ok (.getfield 22, 3) := by decide +kernel
theorem d_T_losesPatience_23 : decode (yMb m_T_losesPatience) 23 = .ok (.ifCond .ne 7, 3) := by decide +kernel
theorem d_T_losesPatience_26 : decode (yMb m_T_losesPatience) 26 = .ok (.iconst 1, 1) := by decide +kernel
theorem d_T_losesPatience_27 : decode (yMb m_T_losesPatience) 27 = .ok (.goto 4, 3) := by decide +kernel
theorem d_T_losesPatience_30 : decode (yMb m_T_losesPatience) 30 = .ok (.iconst 0, 1) := by decide +kernel
theorem d_T_losesPatience_31 : decode (yMb m_T_losesPatience) 31 = .ok (.ireturn, 1) := by decide +kernel
theorem d_T_takesAgain_0 : decode (yMb m_T_takesAgain) 0 = .ok (.aload_n 0, 1) := by decide +kernel
theorem d_T_takesAgain_1 : decode (yMb m_T_takesAgain) 1 = .ok (.getfield 15, 3) := by decide +kernel
theorem d_T_takesAgain_4 : decode (yMb m_T_takesAgain) 4 = .ok (.iconst 1, 1) := by decide +kernel
theorem d_T_takesAgain_5 : decode (yMb m_T_takesAgain) 5 = .ok (.if_icmp .ne 15, 3) := by decide +kernel
theorem d_T_takesAgain_8 : decode (yMb m_T_takesAgain) 8 = .ok (.aload_n 0, 1) := by decide +kernel
theorem d_T_takesAgain_9 : decode (yMb m_T_takesAgain) 9 = .ok (.getfield 28, 3) := by decide +kernel
theorem d_T_takesAgain_12 : decode (yMb m_T_takesAgain) 12 = .ok (.iconst 2, 1) := by decide +kernel
theorem d_T_takesAgain_13 : decode (yMb m_T_takesAgain) 13 = .ok (.if_icmp .ne 7, 3) := by decide +kernel
theorem d_T_takesAgain_16 : decode (yMb m_T_takesAgain) 16 = .ok (.iconst 1, 1) := by decide +kernel
theorem d_T_takesAgain_17 : decode (yMb m_T_takesAgain) 17 = .ok (.goto 4, 3) := by decide +kernel
theorem d_T_takesAgain_20 : decode (yMb m_T_takesAgain) 20 = .ok (.iconst 0, 1) := by decide +kernel
theorem d_T_takesAgain_21 : decode (yMb m_T_takesAgain) 21 = .ok (.ireturn, 1) := by decide +kernel
theorem d_T_leansOn_0 : decode (yMb m_T_leansOn) 0 = .ok (.aload_n 0, 1) := by decide +kernel
theorem d_T_leansOn_1 : decode (yMb m_T_leansOn) 1 = .ok (.getfield 15, 3) := by decide +kernel
theorem d_T_leansOn_4 : decode (yMb m_T_leansOn) 4 = .ok (.iconst 1, 1) := by decide +kernel
theorem d_T_leansOn_5 : decode (yMb m_T_leansOn) 5 = .ok (.if_icmp .ne 20, 3) := by decide +kernel
theorem d_T_leansOn_8 : decode (yMb m_T_leansOn) 8 = .ok (.aload_n 0, 1) := by decide +kernel
theorem d_T_leansOn_9 : decode (yMb m_T_leansOn) 9 = .ok (.getfield 37, 3) := by decide +kernel
theorem d_T_leansOn_12 : decode (yMb m_T_leansOn) 12 = .ok (.ifnull 13, 3) := by decide +kernel
theorem d_T_leansOn_15 : decode (yMb m_T_leansOn) 15 = .ok (.aload_n 0, 1) := by decide +kernel
theorem d_T_leansOn_16 : decode (yMb m_T_leansOn) 16 = .ok (.getfield 37, 3) := by decide +kernel
theorem d_T_leansOn_19 : decode (yMb m_T_leansOn) 19 = .ok (.invokevirtual 41, 3) := by decide +kernel
theorem d_T_leansOn_22 : decode (yMb m_T_leansOn) 22 = .ok (.goto 4, 3) := by decide +kernel
theorem d_T_leansOn_25 : decode (yMb m_T_leansOn) 25 = .ok (.aconst_null, 1) := by decide +kernel
theorem d_T_leansOn_26 : decode (yMb m_T_leansOn) 26 = .ok (.areturn, 1) := by decide +kernel
theorem d_R_init_0 : decode (yMb m_R_init) 0 = .ok (.aload_n 0, 1) := by decide +kernel
theorem d_R_init_1 : decode (yMb m_R_init) 1 = .ok (.invokespecial 3, 3) := by decide +kernel
theorem d_R_init_4 : decode (yMb m_R_init) 4 = .ok (.aload_n 0, 1) := by decide +kernel
theorem d_R_init_5 : decode (yMb m_R_init) 5 = .ok (.bipush 6, 2) := by decide +kernel
theorem d_R_init_7 : decode (yMb m_R_init) 7 = .ok (.anewarray 9, 3) := by decide +kernel
theorem d_R_init_10 : decode (yMb m_R_init) 10 = .ok (.putfield 11, 3) := by decide +kernel
theorem d_R_init_13 : decode (yMb m_R_init) 13 = .ok (.return_, 1) := by decide +kernel
end
section
theorem d_R_at_0 : decode (yMb m_R_at) 0 = .ok (.iload_n 1, 1) := by decide +kernel
theorem d_R_at_1 : decode (yMb m_R_at) 1 = .ok (.ifCond .lt 11, 3) := by decide +kernel
theorem d_R_at_4 : decode (yMb m_R_at) 4 = .ok (.iload_n 1, 1) := by decide +kernel
theorem d_R_at_5 : decode (yMb m_R_at) 5 = .ok (.aload_n 0, 1) := by decide +kernel
theorem d_R_at_6 : decode (yMb m_R_at) 6 = .ok (.getfield 17, 3) := by decide +kernel
theorem d_R_at_9 : decode (yMb m_R_at) 9 = .ok (.if_icmp .lt 7, 3) := by decide +kernel
theorem d_R_at_12 : decode (yMb m_R_at) 12 = .ok (.aconst_null, 1) := by decide +kernel
theorem d_R_at_13 : decode (yMb m_R_at) 13 = .ok (.goto 9, 3) := by decide +kernel
theorem d_R_at_16 : decode (yMb m_R_at) 16 = .ok (.aload_n 0, 1) := by decide +kernel
theorem d_R_at_17 : decode (yMb m_R_at) 17 = .ok (.getfield 11, 3) := by decide +kernel
theorem d_R_at_20 : decode (yMb m_R_at) 20 = .ok (.iload_n 1, 1) := by decide +kernel
theorem d_R_at_21 : decode (yMb m_R_at) 21 = .ok (.aaload, 1) := by decide +kernel
theorem d_R_at_22 : decode (yMb m_R_at) 22 = .ok (.areturn, 1) := by decide +kernel
theorem d_R_add_0 : decode (yMb m_R_add) 0 = .ok (.aload_n 0, 1) := by decide +kernel
theorem d_R_add_1 : decode (yMb m_R_add) 1 = .ok (.getfield 17, 3) := by decide +kernel
theorem d_R_add_4 : decode (yMb m_R_add) 4 = .ok (.bipush 6, 2) := by decide +kernel
theorem d_R_add_6 : decode (yMb m_R_add) 6 = .ok (.if_icmp .ge 23, 3) := by decide +kernel
theorem d_R_add_9 : decode (yMb m_R_add) 9 = .ok (.aload_n 0, 1) := by decide +kernel
theorem d_R_add_10 : decode (yMb m_R_add) 10 = .ok (.getfield 11, 3) := by decide +kernel
theorem d_R_add_13 : decode (yMb m_R_add) 13 = .ok (.aload_n 0, 1) := by decide +kernel
theorem d_R_add_14 : decode (yMb m_R_add) 14 = .ok (.getfield 17, 3) := by decide +kernel
theorem d_R_add_17 : decode (yMb m_R_add) 17 = .ok (.aload_n 1, 1) := by decide +kernel
theorem d_R_add_18 : decode (yMb m_R_add) 18 = .ok (.aastore, 1) := by decide +kernel
theorem d_R_add_19 : decode (yMb m_R_add) 19 = .ok (.aload_n 0, 1) := by decide +kernel
theorem d_R_add_20 : decode (yMb m_R_add) 20 = .ok (.dup, 1) := by decide +kernel
theorem d_R_add_21 : decode (yMb m_R_add) 21 = .ok (.getfield 17, 3) := by decide +kernel
theorem d_R_add_24 : decode (yMb m_R_add) 24 = .ok (.iconst 1, 1) := by decide +kernel
theorem d_R_add_25 : decode (yMb m_R_add) 25 = .ok (.iadd, 1) := by decide +kernel
theorem d_R_add_26 : decode (yMb m_R_add) 26 = .ok (.putfield 17, 3) := by decide +kernel
theorem d_R_add_29 : decode (yMb m_R_add) 29 = .ok (.return_, 1) := by decide +kernel
theorem d_R_removeFirst_0 : decode (yMb m_R_removeFirst) 0 = .ok (.aload_n 0, 1) := by decide +kernel
theorem d_R_removeFirst_1 : decode (yMb m_R_removeFirst) 1 = .ok (.iconst 0, 1) := by decide +kernel
theorem d_R_removeFirst_2 : decode (yMb m_R_removeFirst) 2 = .ok (.invokevirtual 21, 3) := by decide +kernel
theorem d_R_removeFirst_5 : decode (yMb m_R_removeFirst) 5 = .ok (.astore_n 1, 1) := by decide +kernel
theorem d_R_removeFirst_6 : decode (yMb m_R_removeFirst) 6 = .ok (.aload_n 1, 1) := by decide +kernel
theorem d_R_removeFirst_7 : decode (yMb m_R_removeFirst) 7 = .ok (.ifnull 8, 3) := by decide +kernel
theorem d_R_removeFirst_10 : decode (yMb m_R_removeFirst) 10 = .ok (.aload_n 0, 1) := by decide +kernel
theorem d_R_removeFirst_11 : decode (yMb m_R_removeFirst) 11 = .ok (.aload_n 1, 1) := by decide +kernel
theorem d_R_removeFirst_12 : decode (yMb m_R_removeFirst) 12 = .ok (.invokevirtual 25, 3) := by decide +kernel
theorem d_R_removeFirst_15 : decode (yMb m_R_removeFirst) 15 = .ok (.aload_n 1, 1) := by decide +kernel
theorem d_R_removeFirst_16 : decode (yMb m_R_removeFirst) 16 = .ok (.areturn, 1) := by decide +kernel
theorem d_R_remove_0 : decode (yMb m_R_remove) 0 = .ok (.iconst 0, 1) := by decide +kernel
theorem d_R_remove_1 : decode (yMb m_R_remove) 1 = .ok (.istore_n 2, 1) := by decide +kernel
theorem d_R_remove_2 : decode (yMb m_R_remove) 2 = .ok (.iconst 0, 1) := by decide +kernel
theorem d_R_remove_3 : decode (yMb m_R_remove) 3 = .ok (.istore_n 3, 1) := by decide +kernel
theorem d_R_remove_4 : decode (yMb m_R_remove) 4 = .ok (.iload_n 3, 1) := by decide +kernel
theorem d_R_remove_5 : decode (yMb m_R_remove) 5 = .ok (.aload_n 0, 1) := by decide +kernel
theorem d_R_remove_6 : decode (yMb m_R_remove) 6 = .ok (.getfield 17, 3) := by decide +kernel
theorem d_R_remove_9 : decode (yMb m_R_remove) 9 = .ok (.if_icmp .ge 34, 3) := by decide +kernel
theorem d_R_remove_12 : decode (yMb m_R_remove) 12 = .ok (.aload_n 0, 1) := by decide +kernel
theorem d_R_remove_13 : decode (yMb m_R_remove) 13 = .ok (.getfield 11, 3) := by decide +kernel
theorem d_R_remove_16 : decode (yMb m_R_remove) 16 = .ok (.iload_n 3, 1) := by decide +kernel
theorem d_R_remove_17 : decode (yMb m_R_remove) 17 = .ok (.aaload, 1) := by decide +kernel
theorem d_R_remove_18 : decode (yMb m_R_remove) 18 = .ok (.aload_n 1, 1) := by decide +kernel
theorem d_R_remove_19 : decode (yMb m_R_remove) 19 = .ok (.if_acmp .eq 18, 3) := by decide +kernel
theorem d_R_remove_22 : decode (yMb m_R_remove) 22 = .ok (.aload_n 0, 1) := by decide +kernel
theorem d_R_remove_23 : decode (yMb m_R_remove) 23 = .ok (.getfield 11, 3) := by decide +kernel
theorem d_R_remove_26 : decode (yMb m_R_remove) 26 = .ok (.iload_n 2, 1) := by decide +kernel
theorem d_R_remove_27 : decode (yMb m_R_remove) 27 = .ok (.aload_n 0, 1) := by decide +kernel
theorem d_R_remove_28 : decode (yMb m_R_remove) 28 = .ok (.getfield 11, 3) := by decide +kernel
theorem d_R_remove_31 : decode (yMb m_R_remove) 31 = .ok (.iload_n 3, 1) := by decide +kernel
theorem d_R_remove_32 : decode (yMb m_R_remove) 32 = .ok (.aaload, 1) := by decide +kernel
theorem d_R_remove_33 : decode (yMb m_R_remove) 33 = .ok (.aastore, 1) := by decide +kernel
theorem d_R_remove_34 : decode (yMb m_R_remove) 34 = .ok (.iinc 2 1, 3) := by decide +kernel
theorem d_R_remove_37 : decode (yMb m_R_remove) 37 = .ok (.iinc 3 1, 3) := by decide +kernel
theorem d_R_remove_40 : decode (yMb m_R_remove) 40 = .ok (.goto (-36), 3) := by decide +kernel
theorem d_R_remove_43 : decode (yMb m_R_remove) 43 = .ok (.aload_n 0, 1) := by decide +kernel
theorem d_R_remove_44 : decode (yMb m_R_remove) 44 = .ok (.iload_n 2, 1) := by decide +kernel
theorem d_R_remove_45 : decode (yMb m_R_remove) 45 = .ok (.putfield 17, 3) := by decide +kernel
theorem d_R_remove_48 : decode (yMb m_R_remove) 48 = .ok (.return_, 1) := by decide +kernel
theorem d_K_init_0 : decode (yMb m_K_init) 0 = .ok (.aload_n 0, 1) := by decide +kernel
theorem d_K_init_1 : decode (yMb m_K_init) 1 = .ok (.iconst 0, 1) := by decide +kernel
theorem d_K_init_2 : decode (yMb m_K_init) 2 = .ok (.iload_n 1, 1) := by decide +kernel
theorem d_K_init_3 : decode (yMb m_K_init) 3 = .ok (.invokespecial 3, 3) := by decide +kernel
theorem d_K_init_6 : decode (yMb m_K_init) 6 = .ok (.aload_n 0, 1) := by decide +kernel
theorem d_K_init_7 : decode (yMb m_K_init) 7 = .ok (.new 9, 3) := by decide +kernel
theorem d_K_init_10 : decode (yMb m_K_init) 10 = .ok (.dup, 1) := by decide +kernel
theorem d_K_init_11 : decode (yMb m_K_init) 11 = .ok (.invokespecial 11, 3) := by decide +kernel
theorem d_K_init_14 : decode (yMb m_K_init) 14 = .ok (.putfield 14, 3) := by decide +kernel
theorem d_K_init_17 : decode (yMb m_K_init) 17 = .ok (.aload_n 0, 1) := by decide +kernel
theorem d_K_init_18 : decode (yMb m_K_init) 18 = .ok (.new 9, 3) := by decide +kernel
theorem d_K_init_21 : decode (yMb m_K_init) 21 = .ok (.dup, 1) := by decide +kernel
theorem d_K_init_22 : decode (yMb m_K_init) 22 = .ok (.invokespecial 11, 3) := by decide +kernel
theorem d_K_init_25 : decode (yMb m_K_init) 25 = .ok (.putfield 20, 3) := by decide +kernel
theorem d_K_init_28 : decode (yMb m_K_init) 28 = .ok (.return_, 1) := by decide +kernel
theorem d_K_allows_0 : decode (yMb m_K_allows) 0 = .ok (.iload_n 2, 1) := by decide +kernel
theorem d_K_allows_1 : decode (yMb m_K_allows) 1 = .ok (.ifCond .eq 11, 3) := by decide +kernel
theorem d_K_allows_4 : decode (yMb m_K_allows) 4 = .ok (.aload_n 0, 1) := by decide +kernel
theorem d_K_allows_5 : decode (yMb m_K_allows) 5 = .ok (.getfield 23, 3) := by decide +kernel
theorem d_K_allows_8 : decode (yMb m_K_allows) 8 = .ok (.aload_n 1, 1) := by decide +kernel
theorem d_K_allows_9 : decode (yMb m_K_allows) 9 = .ok (.if_acmp .ne 7, 3) := by decide +kernel
theorem d_K_allows_12 : decode (yMb m_K_allows) 12 = .ok (.iconst 1, 1) := by decide +kernel
theorem d_K_allows_13 : decode (yMb m_K_allows) 13 = .ok (.goto 4, 3) := by decide +kernel
theorem d_K_allows_16 : decode (yMb m_K_allows) 16 = .ok (.iconst 0, 1) := by decide +kernel
theorem d_K_allows_17 : decode (yMb m_K_allows) 17 = .ok (.ireturn, 1) := by decide +kernel
theorem d_K_canBe_0 : decode (yMb m_K_canBe) 0 = .ok (.aload_n 0, 1) := by decide +kernel
theorem d_K_canBe_1 : decode (yMb m_K_canBe) 1 = .ok (.getfield 23, 3) := by decide +kernel
theorem d_K_canBe_4 : decode (yMb m_K_canBe) 4 = .ok (.ifnonnull 7, 3) := by decide +kernel
theorem d_K_canBe_7 : decode (yMb m_K_canBe) 7 = .ok (.iconst 1, 1) := by decide +kernel
theorem d_K_canBe_8 : decode (yMb m_K_canBe) 8 = .ok (.goto 4, 3) := by decide +kernel
theorem d_K_canBe_11 : decode (yMb m_K_canBe) 11 = .ok (.iconst 0, 1) := by decide +kernel
theorem d_K_canBe_12 : decode (yMb m_K_canBe) 12 = .ok (.ireturn, 1) := by decide +kernel
theorem d_K_passesRow_0 : decode (yMb m_K_passesRow) 0 = .ok (.aload_n 0, 1) := by decide +kernel
theorem d_K_passesRow_1 : decode (yMb m_K_passesRow) 1 = .ok (.getfield 23, 3) := by decide +kernel
theorem d_K_passesRow_4 : decode (yMb m_K_passesRow) 4 = .ok (.aload_n 1, 1) := by decide +kernel
theorem d_K_passesRow_5 : decode (yMb m_K_passesRow) 5 = .ok (.if_acmp .ne 15, 3) := by decide +kernel
theorem d_K_passesRow_8 : decode (yMb m_K_passesRow) 8 = .ok (.aload_n 1, 1) := by decide +kernel
theorem d_K_passesRow_9 : decode (yMb m_K_passesRow) 9 = .ok (.getfield 27, 3) := by decide +kernel
theorem d_K_passesRow_12 : decode (yMb m_K_passesRow) 12 = .ok (.iconst 2, 1) := by decide +kernel
theorem d_K_passesRow_13 : decode (yMb m_K_passesRow) 13 = .ok (.if_icmp .eq 7, 3) := by decide +kernel
theorem d_K_passesRow_16 : decode (yMb m_K_passesRow) 16 = .ok (.iconst 1, 1) := by decide +kernel
theorem d_K_passesRow_17 : decode (yMb m_K_passesRow) 17 = .ok (.goto 4, 3) := by decide +kernel
theorem d_K_passesRow_20 : decode (yMb m_K_passesRow) 20 = .ok (.iconst 0, 1) := by decide +kernel
theorem d_K_passesRow_21 : decode (yMb m_K_passesRow) 21 = .ok (.ireturn, 1) := by decide +kernel
theorem d_K_grant_0 : decode (yMb m_K_grant) 0 = .ok (.aload_n 1, 1) := by decide +kernel
theorem d_K_grant_1 : decode (yMb m_K_grant) 1 = .ok (.getfield 27, 3) := by decide +kernel
theorem d_K_grant_4 : decode (yMb m_K_grant) 4 = .ok (.tableswitch 85 0 3 #[32, 66, 50, 73], 32) := by decide +kernel
theorem d_K_grant_36 : decode (yMb m_K_grant) 36 = .ok (.aload_n 0, 1) := by decide +kernel
theorem d_K_grant_37 : decode (yMb m_K_grant) 37 = .ok (.aload_n 1, 1) := by decide +kernel
theorem d_K_grant_38 : decode (yMb m_K_grant) 38 = .ok (.putfield 23, 3) := by decide +kernel
theorem d_K_grant_41 : decode (yMb m_K_grant) 41 = .ok (.aload_n 0, 1) := by decide +kernel
theorem d_K_grant_42 : decode (yMb m_K_grant) 42 = .ok (.dup, 1) := by decide +kernel
theorem d_K_grant_43 : decode (yMb m_K_grant) 43 = .ok (.getfield 33, 3) := by decide +kernel
theorem d_K_grant_46 : decode (yMb m_K_grant) 46 = .ok (.iconst 1, 1) := by decide +kernel
theorem d_K_grant_47 : decode (yMb m_K_grant) 47 = .ok (.iadd, 1) := by decide +kernel
theorem d_K_grant_48 : decode (yMb m_K_grant) 48 = .ok (.putfield 33, 3) := by decide +kernel
theorem d_K_grant_51 : decode (yMb m_K_grant) 51 = .ok (.goto 54, 3) := by decide +kernel
theorem d_K_grant_54 : decode (yMb m_K_grant) 54 = .ok (.aload_n 0, 1) := by decide +kernel
theorem d_K_grant_55 : decode (yMb m_K_grant) 55 = .ok (.aload_n 1, 1) := by decide +kernel
theorem d_K_grant_56 : decode (yMb m_K_grant) 56 = .ok (.putfield 23, 3) := by decide +kernel
theorem d_K_grant_59 : decode (yMb m_K_grant) 59 = .ok (.aload_n 0, 1) := by decide +kernel
theorem d_K_grant_60 : decode (yMb m_K_grant) 60 = .ok (.aload_n 1, 1) := by decide +kernel
theorem d_K_grant_61 : decode (yMb m_K_grant) 61 = .ok (.getfield 36, 3) := by decide +kernel
theorem d_K_grant_64 : decode (yMb m_K_grant) 64 = .ok (.putfield 33, 3) := by decide +kernel
theorem d_K_grant_67 : decode (yMb m_K_grant) 67 = .ok (.goto 38, 3) := by decide +kernel
theorem d_K_grant_70 : decode (yMb m_K_grant) 70 = .ok (.aload_n 0, 1) := by decide +kernel
theorem d_K_grant_71 : decode (yMb m_K_grant) 71 = .ok (.invokevirtual 37, 3) := by decide +kernel
theorem d_K_grant_74 : decode (yMb m_K_grant) 74 = .ok (.goto 31, 3) := by decide +kernel
theorem d_K_grant_77 : decode (yMb m_K_grant) 77 = .ok (.aload_n 0, 1) := by decide +kernel
theorem d_K_grant_78 : decode (yMb m_K_grant) 78 = .ok (.aload_n 1, 1) := by decide +kernel
theorem d_K_grant_79 : decode (yMb m_K_grant) 79 = .ok (.getfield 40, 3) := by decide +kernel
theorem d_K_grant_82 : decode (yMb m_K_grant) 82 = .ok (.iconst 1, 1) := by decide +kernel
theorem d_K_grant_83 : decode (yMb m_K_grant) 83 = .ok (.invokevirtual 43, 3) := by decide +kernel
theorem d_K_grant_86 : decode (yMb m_K_grant) 86 = .ok (.goto 19, 3) := by decide +kernel
theorem d_K_grant_89 : decode (yMb m_K_grant) 89 = .ok (.aload_n 0, 1) := by decide +kernel
theorem d_K_grant_90 : decode (yMb m_K_grant) 90 = .ok (.aload_n 1, 1) := by decide +kernel
theorem d_K_grant_91 : decode (yMb m_K_grant) 91 = .ok (.getfield 40, 3) := by decide +kernel
theorem d_K_grant_94 : decode (yMb m_K_grant) 94 = .ok (.aload_n 0, 1) := by decide +kernel
theorem d_K_grant_95 : decode (yMb m_K_grant) 95 = .ok (.aload_n 1, 1) := by decide +kernel
theorem d_K_grant_96 : decode (yMb m_K_grant) 96 = .ok (.getfield 40, 3) := by decide +kernel
theorem d_K_grant_99 : decode (yMb m_K_grant) 99 = .ok (.invokevirtual 46, 3) := by decide +kernel
theorem d_K_grant_102 : decode (yMb m_K_grant) 102 = .ok (.invokevirtual 43, 3) := by decide +kernel
theorem d_K_grant_105 : decode (yMb m_K_grant) 105 = .ok (.return_, 1) := by decide +kernel
theorem d_K_holdBack_0 : decode (yMb m_K_holdBack) 0 = .ok (.aload_n 1, 1) := by decide +kernel
theorem d_K_holdBack_1 : decode (yMb m_K_holdBack) 1 = .ok (.getfield 27, 3) := by decide +kernel
theorem d_K_holdBack_4 : decode (yMb m_K_holdBack) 4 = .ok (.iconst 2, 1) := by decide +kernel
theorem d_K_holdBack_5 : decode (yMb m_K_holdBack) 5 = .ok (.if_icmp .ne 12, 3) := by decide +kernel
theorem d_K_holdBack_8 : decode (yMb m_K_holdBack) 8 = .ok (.aload_n 0, 1) := by decide +kernel
theorem d_K_holdBack_9 : decode (yMb m_K_holdBack) 9 = .ok (.aload_n 1, 1) := by decide +kernel
theorem d_K_holdBack_10 : decode (yMb m_K_holdBack) 10 = .ok (.iload_n 2, 1) := by decide +kernel
theorem d_K_holdBack_11 : decode (yMb m_K_holdBack) 11 = .ok (.invokevirtual 50, 3) := by decide +kernel
theorem d_K_holdBack_14 : decode (yMb m_K_holdBack) 14 = .ok (.goto 9, 3) := by decide +kernel
theorem d_K_holdBack_17 : decode (yMb m_K_holdBack) 17 = .ok (.aload_n 0, 1) := by decide +kernel
theorem d_K_holdBack_18 : decode (yMb m_K_holdBack) 18 = .ok (.aload_n 1, 1) := by decide +kernel
theorem d_K_holdBack_19 : decode (yMb m_K_holdBack) 19 = .ok (.iload_n 2, 1) := by decide +kernel
theorem d_K_holdBack_20 : decode (yMb m_K_holdBack) 20 = .ok (.invokevirtual 54, 3) := by decide +kernel
theorem d_K_holdBack_23 : decode (yMb m_K_holdBack) 23 = .ok (.return_, 1) := by decide +kernel
theorem d_K_giveUp_0 : decode (yMb m_K_giveUp) 0 = .ok (.aload_n 1, 1) := by decide +kernel
theorem d_K_giveUp_1 : decode (yMb m_K_giveUp) 1 = .ok (.getfield 57, 3) := by decide +kernel
theorem d_K_giveUp_4 : decode (yMb m_K_giveUp) 4 = .ok (.iconst 2, 1) := by decide +kernel
theorem d_K_giveUp_5 : decode (yMb m_K_giveUp) 5 = .ok (.if_icmp .ne 24, 3) := by decide +kernel
theorem d_K_giveUp_8 : decode (yMb m_K_giveUp) 8 = .ok (.aload_n 0, 1) := by decide +kernel
theorem d_K_giveUp_9 : decode (yMb m_K_giveUp) 9 = .ok (.aload_n 1, 1) := by decide +kernel
theorem d_K_giveUp_10 : decode (yMb m_K_giveUp) 10 = .ok (.getfield 40, 3) := by decide +kernel
theorem d_K_giveUp_13 : decode (yMb m_K_giveUp) 13 = .ok (.invokevirtual 60, 3) := by decide +kernel
theorem d_K_giveUp_16 : decode (yMb m_K_giveUp) 16 = .ok (.aload_n 1, 1) := by decide +kernel
theorem d_K_giveUp_17 : decode (yMb m_K_giveUp) 17 = .ok (.invokevirtual 64, 3) := by decide +kernel
theorem d_K_giveUp_20 : decode (yMb m_K_giveUp) 20 = .ok (.aload_n 0, 1) := by decide +kernel
theorem d_K_giveUp_21 : decode (yMb m_K_giveUp) 21 = .ok (.aload_n 1, 1) := by decide +kernel
theorem d_K_giveUp_22 : decode (yMb m_K_giveUp) 22 = .ok (.iload_n 2, 1) := by decide +kernel
theorem d_K_giveUp_23 : decode (yMb m_K_giveUp) 23 = .ok (.invokevirtual 68, 3) := by decide +kernel
theorem d_K_giveUp_26 : decode (yMb m_K_giveUp) 26 = .ok (.goto 9, 3) := by decide +kernel
theorem d_K_giveUp_29 : decode (yMb m_K_giveUp) 29 = .ok (.aload_n 0, 1) := by decide +kernel
theorem d_K_giveUp_30 : decode (yMb m_K_giveUp) 30 = .ok (.aload_n 1, 1) := by decide +kernel
theorem d_K_giveUp_31 : decode (yMb m_K_giveUp) 31 = .ok (.iload_n 2, 1) := by decide +kernel
theorem d_K_giveUp_32 : decode (yMb m_K_giveUp) 32 = .ok (.invokevirtual 71, 3) := by decide +kernel
theorem d_K_giveUp_35 : decode (yMb m_K_giveUp) 35 = .ok (.return_, 1) := by decide +kernel
theorem d_K_level_0 : decode (yMb m_K_level) 0 = .ok (.aload_n 0, 1) := by decide +kernel
theorem d_K_level_1 : decode (yMb m_K_level) 1 = .ok (.getfield 33, 3) := by decide +kernel
theorem d_K_level_4 : decode (yMb m_K_level) 4 = .ok (.ireturn, 1) := by decide +kernel
theorem d_K_owner_0 : decode (yMb m_K_owner) 0 = .ok (.aload_n 0, 1) := by decide +kernel
theorem d_K_owner_1 : decode (yMb m_K_owner) 1 = .ok (.getfield 23, 3) := by decide +kernel
theorem d_K_owner_4 : decode (yMb m_K_owner) 4 = .ok (.invokestatic 74, 3) := by decide +kernel
theorem d_K_owner_7 : decode (yMb m_K_owner) 7 = .ok (.ireturn, 1) := by decide +kernel
theorem d_K_waitersAt_0 : decode (yMb m_K_waitersAt) 0 = .ok (.aload_n 0, 1) := by decide +kernel
theorem d_K_waitersAt_1 : decode (yMb m_K_waitersAt) 1 = .ok (.iload_n 1, 1) := by decide +kernel
theorem d_K_waitersAt_2 : decode (yMb m_K_waitersAt) 2 = .ok (.invokevirtual 60, 3) := by decide +kernel
theorem d_K_waitersAt_5 : decode (yMb m_K_waitersAt) 5 = .ok (.getfield 78, 3) := by decide +kernel
theorem d_K_waitersAt_8 : decode (yMb m_K_waitersAt) 8 = .ok (.ireturn, 1) := by decide +kernel
theorem d_K_leanedOn_0 : decode (yMb m_K_leanedOn) 0 = .ok (.aload_n 0, 1) := by decide +kernel
theorem d_K_leanedOn_1 : decode (yMb m_K_leanedOn) 1 = .ok (.getfield 23, 3) := by decide +kernel
theorem d_K_leanedOn_4 : decode (yMb m_K_leanedOn) 4 = .ok (.areturn, 1) := by decide +kernel
theorem d_K_condition_0 : decode (yMb m_K_condition) 0 = .ok (.iload_n 1, 1) := by decide +kernel
theorem d_K_condition_1 : decode (yMb m_K_condition) 1 = .ok (.ifCond .ne 10, 3) := by decide +kernel
theorem d_K_condition_4 : decode (yMb m_K_condition) 4 = .ok (.aload_n 0, 1) := by decide +kernel
theorem d_K_condition_5 : decode (yMb m_K_condition) 5 = .ok (.getfield 14, 3) := by decide +kernel
theorem d_K_condition_8 : decode (yMb m_K_condition) 8 = .ok (.goto 7, 3) := by decide +kernel
theorem d_K_condition_11 : decode (yMb m_K_condition) 11 = .ok (.aload_n 0, 1) := by decide +kernel
theorem d_K_condition_12 : decode (yMb m_K_condition) 12 = .ok (.getfield 20, 3) := by decide +kernel
theorem d_K_condition_15 : decode (yMb m_K_condition) 15 = .ok (.areturn, 1) := by decide +kernel
theorem d_K_joinCondition_0 : decode (yMb m_K_joinCondition) 0 = .ok (.aload_n 1, 1) := by decide +kernel
theorem d_K_joinCondition_1 : decode (yMb m_K_joinCondition) 1 = .ok (.aload_n 0, 1) := by decide +kernel
theorem d_K_joinCondition_2 : decode (yMb m_K_joinCondition) 2 = .ok (.getfield 33, 3) := by decide +kernel
theorem d_K_joinCondition_5 : decode (yMb m_K_joinCondition) 5 = .ok (.putfield 36, 3) := by decide +kernel
theorem d_K_joinCondition_8 : decode (yMb m_K_joinCondition) 8 = .ok (.aload_n 0, 1) := by decide +kernel
theorem d_K_joinCondition_9 : decode (yMb m_K_joinCondition) 9 = .ok (.iconst 0, 1) := by decide +kernel
theorem d_K_joinCondition_10 : decode (yMb m_K_joinCondition) 10 = .ok (.putfield 33, 3) := by decide +kernel
theorem d_K_joinCondition_13 : decode (yMb m_K_joinCondition) 13 = .ok (.aload_n 0, 1) := by decide +kernel
theorem d_K_joinCondition_14 : decode (yMb m_K_joinCondition) 14 = .ok (.aconst_null, 1) := by decide +kernel
theorem d_K_joinCondition_15 : decode (yMb m_K_joinCondition) 15 = .ok (.putfield 23, 3) := by decide +kernel
theorem d_K_joinCondition_18 : decode (yMb m_K_joinCondition) 18 = .ok (.aload_n 0, 1) := by decide +kernel
theorem d_K_joinCondition_19 : decode (yMb m_K_joinCondition) 19 = .ok (.aload_n 1, 1) := by decide +kernel
theorem d_K_joinCondition_20 : decode (yMb m_K_joinCondition) 20 = .ok (.getfield 40, 3) := by decide +kernel
theorem d_K_joinCondition_23 : decode (yMb m_K_joinCondition) 23 = .ok (.invokevirtual 60, 3) := by decide +kernel
theorem d_K_joinCondition_26 : decode (yMb m_K_joinCondition) 26 = .ok (.aload_n 1, 1) := by decide +kernel
theorem d_K_joinCondition_27 : decode (yMb m_K_joinCondition) 27 = .ok (.invokevirtual 81, 3) := by decide +kernel
theorem d_K_joinCondition_30 : decode (yMb m_K_joinCondition) 30 = .ok (.aload_n 1, 1) := by decide +kernel
theorem d_K_joinCondition_31 : decode (yMb m_K_joinCondition) 31 = .ok (.aload_n 0, 1) := by decide +kernel
theorem d_K_joinCondition_32 : decode (yMb m_K_joinCondition) 32 = .ok (.iconst 2, 1) := by decide +kernel
theorem d_K_joinCondition_33 : decode (yMb m_K_joinCondition) 33 = .ok (.iload_n 2, 1) := by decide +kernel
theorem d_K_joinCondition_34 : decode (yMb m_K_joinCondition) 34 = .ok (.invokevirtual 84, 3) := by decide +kernel
theorem d_K_joinCondition_37 : decode (yMb m_K_joinCondition) 37 = .ok (.return_, 1) := by decide +kernel
theorem d_K_leaveOnce_0 : decode (yMb m_K_leaveOnce) 0 = .ok (.aload_n 0, 1) := by decide +kernel
theorem d_K_leaveOnce_1 : decode (yMb m_K_leaveOnce) 1 = .ok (.dup, 1) := by decide +kernel
theorem d_K_leaveOnce_2 : decode (yMb m_K_leaveOnce) 2 = .ok (.getfield 33, 3) := by decide +kernel
theorem d_K_leaveOnce_5 : decode (yMb m_K_leaveOnce) 5 = .ok (.iconst 1, 1) := by decide +kernel
theorem d_K_leaveOnce_6 : decode (yMb m_K_leaveOnce) 6 = .ok (.isub, 1) := by decide +kernel
theorem d_K_leaveOnce_7 : decode (yMb m_K_leaveOnce) 7 = .ok (.putfield 33, 3) := by decide +kernel
theorem d_K_leaveOnce_10 : decode (yMb m_K_leaveOnce) 10 = .ok (.aload_n 0, 1) := by decide +kernel
theorem d_K_leaveOnce_11 : decode (yMb m_K_leaveOnce) 11 = .ok (.getfield 33, 3) := by decide +kernel
theorem d_K_leaveOnce_14 : decode (yMb m_K_leaveOnce) 14 = .ok (.ifCond .ne 8, 3) := by decide +kernel
theorem d_K_leaveOnce_17 : decode (yMb m_K_leaveOnce) 17 = .ok (.aload_n 0, 1) := by decide +kernel
theorem d_K_leaveOnce_18 : decode (yMb m_K_leaveOnce) 18 = .ok (.aconst_null, 1) := by decide +kernel
theorem d_K_leaveOnce_19 : decode (yMb m_K_leaveOnce) 19 = .ok (.putfield 23, 3) := by decide +kernel
theorem d_K_leaveOnce_22 : decode (yMb m_K_leaveOnce) 22 = .ok (.return_, 1) := by decide +kernel
theorem d_K_call_0 : decode (yMb m_K_call) 0 = .ok (.iconst 0, 1) := by decide +kernel
theorem d_K_call_1 : decode (yMb m_K_call) 1 = .ok (.istore_n 3, 1) := by decide +kernel
theorem d_K_call_2 : decode (yMb m_K_call) 2 = .ok (.iload_n 3, 1) := by decide +kernel
theorem d_K_call_3 : decode (yMb m_K_call) 3 = .ok (.iload_n 2, 1) := by decide +kernel
theorem d_K_call_4 : decode (yMb m_K_call) 4 = .ok (.if_icmp .ge 31, 3) := by decide +kernel
theorem d_K_call_7 : decode (yMb m_K_call) 7 = .ok (.aload_n 0, 1) := by decide +kernel
theorem d_K_call_8 : decode (yMb m_K_call) 8 = .ok (.iload_n 1, 1) := by decide +kernel
theorem d_K_call_9 : decode (yMb m_K_call) 9 = .ok (.invokevirtual 60, 3) := by decide +kernel
theorem d_K_call_12 : decode (yMb m_K_call) 12 = .ok (.invokevirtual 88, 3) := by decide +kernel
theorem d_K_call_15 : decode (yMb m_K_call) 15 = .ok (.astore 4, 2) := by decide +kernel
theorem d_K_call_17 : decode (yMb m_K_call) 17 = .ok (.aload 4, 2) := by decide +kernel
theorem d_K_call_19 : decode (yMb m_K_call) 19 = .ok (.ifnull 10, 3) := by decide +kernel
theorem d_K_call_22 : decode (yMb m_K_call) 22 = .ok (.aload_n 0, 1) := by decide +kernel
theorem d_K_call_23 : decode (yMb m_K_call) 23 = .ok (.aload 4, 2) := by decide +kernel
theorem d_K_call_25 : decode (yMb m_K_call) 25 = .ok (.iconst 0, 1) := by decide +kernel
theorem d_K_call_26 : decode (yMb m_K_call) 26 = .ok (.invokevirtual 68, 3) := by decide +kernel
theorem d_K_call_29 : decode (yMb m_K_call) 29 = .ok (.iinc 3 1, 3) := by decide +kernel
theorem d_K_call_32 : decode (yMb m_K_call) 32 = .ok (.goto (-30), 3) := by decide +kernel
theorem d_K_call_35 : decode (yMb m_K_call) 35 = .ok (.return_, 1) := by decide +kernel
theorem d_K_takeAgain_0 : decode (yMb m_K_takeAgain) 0 = .ok (.aload_n 1, 1) := by decide +kernel
theorem d_K_takeAgain_1 : decode (yMb m_K_takeAgain) 1 = .ok (.iload_n 2, 1) := by decide +kernel
theorem d_K_takeAgain_2 : decode (yMb m_K_takeAgain) 2 = .ok (.putfield 92, 3) := by decide +kernel
theorem d_K_takeAgain_5 : decode (yMb m_K_takeAgain) 5 = .ok (.aload_n 0, 1) := by decide +kernel
theorem d_K_takeAgain_6 : decode (yMb m_K_takeAgain) 6 = .ok (.getfield 95, 3) := by decide +kernel
theorem d_K_takeAgain_9 : decode (yMb m_K_takeAgain) 9 = .ok (.aload_n 1, 1) := by decide +kernel
theorem d_K_takeAgain_10 : decode (yMb m_K_takeAgain) 10 = .ok (.invokevirtual 81, 3) := by decide +kernel
theorem d_K_takeAgain_13 : decode (yMb m_K_takeAgain) 13 = .ok (.aload_n 1, 1) := by decide +kernel
theorem d_K_takeAgain_14 : decode (yMb m_K_takeAgain) 14 = .ok (.aload_n 0, 1) := by decide +kernel
theorem d_K_takeAgain_15 : decode (yMb m_K_takeAgain) 15 = .ok (.iconst 1, 1) := by decide +kernel
theorem d_K_takeAgain_16 : decode (yMb m_K_takeAgain) 16 = .ok (.iconst (-1), 1) := by decide +kernel
theorem d_K_takeAgain_17 : decode (yMb m_K_takeAgain) 17 = .ok (.invokevirtual 84, 3) := by decide +kernel
theorem d_K_takeAgain_20 : decode (yMb m_K_takeAgain) 20 = .ok (.return_, 1) := by decide +kernel
theorem d_B_init_0 : decode (yMb m_B_init) 0 = .ok (.aload_n 0, 1) := by decide +kernel
theorem d_B_init_1 : decode (yMb m_B_init) 1 = .ok (.iconst 1, 1) := by decide +kernel
theorem d_B_init_2 : decode (yMb m_B_init) 2 = .ok (.iload_n 1, 1) := by decide +kernel
theorem d_B_init_3 : decode (yMb m_B_init) 3 = .ok (.invokespecial 3, 3) := by decide +kernel
theorem d_B_init_6 : decode (yMb m_B_init) 6 = .ok (.aload_n 0, 1) := by decide +kernel
theorem d_B_init_7 : decode (yMb m_B_init) 7 = .ok (.bipush 6, 2) := by decide +kernel
theorem d_B_init_9 : decode (yMb m_B_init) 9 = .ok (.newarray .int, 2) := by decide +kernel
theorem d_B_init_11 : decode (yMb m_B_init) 11 = .ok (.putfield 9, 3) := by decide +kernel
theorem d_B_init_14 : decode (yMb m_B_init) 14 = .ok (.return_, 1) := by decide +kernel
theorem d_B_allows_0 : decode (yMb m_B_allows) 0 = .ok (.iload_n 2, 1) := by decide +kernel
theorem d_B_allows_1 : decode (yMb m_B_allows) 1 = .ok (.lookupswitch 59 #[(6, 27), (8, 45)], 27) := by decide +kernel
theorem d_B_allows_28 : decode (yMb m_B_allows) 28 = .ok (.aload_n 0, 1) := by decide +kernel
theorem d_B_allows_29 : decode (yMb m_B_allows) 29 = .ok (.getfield 9, 3) := by decide +kernel
theorem d_B_allows_32 : decode (yMb m_B_allows) 32 = .ok (.aload_n 1, 1) := by decide +kernel
theorem d_B_allows_33 : decode (yMb m_B_allows) 33 = .ok (.getfield 15, 3) := by decide +kernel
theorem d_B_allows_36 : decode (yMb m_B_allows) 36 = .ok (.iaload, 1) := by decide +kernel
theorem d_B_allows_37 : decode (yMb m_B_allows) 37 = .ok (.ifCond .le 7, 3) := by decide +kernel
theorem d_B_allows_40 : decode (yMb m_B_allows) 40 = .ok (.iconst 1, 1) := by decide +kernel
theorem d_B_allows_41 : decode (yMb m_B_allows) 41 = .ok (.goto 4, 3) := by decide +kernel
theorem d_B_allows_44 : decode (yMb m_B_allows) 44 = .ok (.iconst 0, 1) := by decide +kernel
theorem d_B_allows_45 : decode (yMb m_B_allows) 45 = .ok (.ireturn, 1) := by decide +kernel
theorem d_B_allows_46 : decode (yMb m_B_allows) 46 = .ok (.aload_n 0, 1) := by decide +kernel
theorem d_B_allows_47 : decode (yMb m_B_allows) 47 = .ok (.getfield 21, 3) := by decide +kernel
theorem d_B_allows_50 : decode (yMb m_B_allows) 50 = .ok (.aload_n 1, 1) := by decide +kernel
theorem d_B_allows_51 : decode (yMb m_B_allows) 51 = .ok (.if_acmp .ne 7, 3) := by decide +kernel
theorem d_B_allows_54 : decode (yMb m_B_allows) 54 = .ok (.iconst 1, 1) := by decide +kernel
theorem d_B_allows_55 : decode (yMb m_B_allows) 55 = .ok (.goto 4, 3) := by decide +kernel
theorem d_B_allows_58 : decode (yMb m_B_allows) 58 = .ok (.iconst 0, 1) := by decide +kernel
theorem d_B_allows_59 : decode (yMb m_B_allows) 59 = .ok (.ireturn, 1) := by decide +kernel
theorem d_B_allows_60 : decode (yMb m_B_allows) 60 = .ok (.iconst 1, 1) := by decide +kernel
theorem d_B_allows_61 : decode (yMb m_B_allows) 61 = .ok (.ireturn, 1) := by decide +kernel
theorem d_B_canBe_0 : decode (yMb m_B_canBe) 0 = .ok (.aload_n 0, 1) := by decide +kernel
theorem d_B_canBe_1 : decode (yMb m_B_canBe) 1 = .ok (.getfield 21, 3) := by decide +kernel
theorem d_B_canBe_4 : decode (yMb m_B_canBe) 4 = .ok (.ifnull 15, 3) := by decide +kernel
theorem d_B_canBe_7 : decode (yMb m_B_canBe) 7 = .ok (.aload_n 0, 1) := by decide +kernel
theorem d_B_canBe_8 : decode (yMb m_B_canBe) 8 = .ok (.getfield 21, 3) := by decide +kernel
theorem d_B_canBe_11 : decode (yMb m_B_canBe) 11 = .ok (.aload_n 1, 1) := by decide +kernel
theorem d_B_canBe_12 : decode (yMb m_B_canBe) 12 = .ok (.if_acmp .eq 7, 3) := by decide +kernel
theorem d_B_canBe_15 : decode (yMb m_B_canBe) 15 = .ok (.iconst 1, 1) := by decide +kernel
theorem d_B_canBe_16 : decode (yMb m_B_canBe) 16 = .ok (.goto 4, 3) := by decide +kernel
theorem d_B_canBe_19 : decode (yMb m_B_canBe) 19 = .ok (.iconst 0, 1) := by decide +kernel
theorem d_B_canBe_20 : decode (yMb m_B_canBe) 20 = .ok (.istore_n 2, 1) := by decide +kernel
theorem d_B_canBe_21 : decode (yMb m_B_canBe) 21 = .ok (.aload_n 0, 1) := by decide +kernel
theorem d_B_canBe_22 : decode (yMb m_B_canBe) 22 = .ok (.getfield 25, 3) := by decide +kernel
theorem d_B_canBe_25 : decode (yMb m_B_canBe) 25 = .ok (.aload_n 0, 1) := by decide +kernel
theorem d_B_canBe_26 : decode (yMb m_B_canBe) 26 = .ok (.getfield 9, 3) := by decide +kernel
theorem d_B_canBe_29 : decode (yMb m_B_canBe) 29 = .ok (.aload_n 1, 1) := by decide +kernel
theorem d_B_canBe_30 : decode (yMb m_B_canBe) 30 = .ok (.getfield 15, 3) := by decide +kernel
theorem d_B_canBe_33 : decode (yMb m_B_canBe) 33 = .ok (.iaload, 1) := by decide +kernel
theorem d_B_canBe_34 : decode (yMb m_B_canBe) 34 = .ok (.if_icmp .le 7, 3) := by decide +kernel
theorem d_B_canBe_37 : decode (yMb m_B_canBe) 37 = .ok (.iconst 1, 1) := by decide +kernel
theorem d_B_canBe_38 : decode (yMb m_B_canBe) 38 = .ok (.goto 4, 3) := by decide +kernel
theorem d_B_canBe_41 : decode (yMb m_B_canBe) 41 = .ok (.iconst 0, 1) := by decide +kernel
theorem d_B_canBe_42 : decode (yMb m_B_canBe) 42 = .ok (.istore_n 3, 1) := by decide +kernel
theorem d_B_canBe_43 : decode (yMb m_B_canBe) 43 = .ok (.iload_n 2, 1) := by decide +kernel
theorem d_B_canBe_44 : decode (yMb m_B_canBe) 44 = .ok (.ifCond .ne 19, 3) := by decide +kernel
theorem d_B_canBe_47 : decode (yMb m_B_canBe) 47 = .ok (.aload_n 1, 1) := by decide +kernel
theorem d_B_canBe_48 : decode (yMb m_B_canBe) 48 = .ok (.getfield 28, 3) := by decide +kernel
theorem d_B_canBe_51 : decode (yMb m_B_canBe) 51 = .ok (.iconst 5, 1) := by decide +kernel
theorem d_B_canBe_52 : decode (yMb m_B_canBe) 52 = .ok (.if_icmp .eq 7, 3) := by decide +kernel
theorem d_B_canBe_55 : decode (yMb m_B_canBe) 55 = .ok (.iload_n 3, 1) := by decide +kernel
theorem d_B_canBe_56 : decode (yMb m_B_canBe) 56 = .ok (.ifCond .ne 7, 3) := by decide +kernel
theorem d_B_canBe_59 : decode (yMb m_B_canBe) 59 = .ok (.iconst 1, 1) := by decide +kernel
theorem d_B_canBe_60 : decode (yMb m_B_canBe) 60 = .ok (.goto 4, 3) := by decide +kernel
theorem d_B_canBe_63 : decode (yMb m_B_canBe) 63 = .ok (.iconst 0, 1) := by decide +kernel
theorem d_B_canBe_64 : decode (yMb m_B_canBe) 64 = .ok (.ireturn, 1) := by decide +kernel
theorem d_B_passesRow_0 : decode (yMb m_B_passesRow) 0 = .ok (.aload_n 0, 1) := by decide +kernel
theorem d_B_passesRow_1 : decode (yMb m_B_passesRow) 1 = .ok (.getfield 21, 3) := by decide +kernel
theorem d_B_passesRow_4 : decode (yMb m_B_passesRow) 4 = .ok (.aload_n 1, 1) := by decide +kernel
theorem d_B_passesRow_5 : decode (yMb m_B_passesRow) 5 = .ok (.if_acmp .eq 12, 3) := by decide +kernel
theorem d_B_passesRow_8 : decode (yMb m_B_passesRow) 8 = .ok (.aload_n 1, 1) := by decide +kernel
theorem d_B_passesRow_9 : decode (yMb m_B_passesRow) 9 = .ok (.getfield 28, 3) := by decide +kernel
theorem d_B_passesRow_12 : decode (yMb m_B_passesRow) 12 = .ok (.bipush 6, 2) := by decide +kernel
theorem d_B_passesRow_14 : decode (yMb m_B_passesRow) 14 = .ok (.if_icmp .ne 7, 3) := by decide +kernel
theorem d_B_passesRow_17 : decode (yMb m_B_passesRow) 17 = .ok (.iconst 1, 1) := by decide +kernel
theorem d_B_passesRow_18 : decode (yMb m_B_passesRow) 18 = .ok (.goto 4, 3) := by decide +kernel
theorem d_B_passesRow_21 : decode (yMb m_B_passesRow) 21 = .ok (.iconst 0, 1) := by decide +kernel
theorem d_B_passesRow_22 : decode (yMb m_B_passesRow) 22 = .ok (.ireturn, 1) := by decide +kernel
theorem d_B_grant_0 : decode (yMb m_B_grant) 0 = .ok (.aload_n 1, 1) := by decide +kernel
theorem d_B_grant_1 : decode (yMb m_B_grant) 1 = .ok (.getfield 28, 3) := by decide +kernel
theorem d_B_grant_4 : decode (yMb m_B_grant) 4 = .ok (.tableswitch 64 5 7 #[28, 37, 46], 28) := by decide +kernel
theorem d_B_grant_32 : decode (yMb m_B_grant) 32 = .ok (.aload_n 0, 1) := by decide +kernel
theorem d_B_grant_33 : decode (yMb m_B_grant) 33 = .ok (.aload_n 1, 1) := by decide +kernel
theorem d_B_grant_34 : decode (yMb m_B_grant) 34 = .ok (.iconst 1, 1) := by decide +kernel
theorem d_B_grant_35 : decode (yMb m_B_grant) 35 = .ok (.invokevirtual 31, 3) := by decide +kernel
theorem d_B_grant_38 : decode (yMb m_B_grant) 38 = .ok (.goto 34, 3) := by decide +kernel
theorem d_B_grant_41 : decode (yMb m_B_grant) 41 = .ok (.aload_n 0, 1) := by decide +kernel
theorem d_B_grant_42 : decode (yMb m_B_grant) 42 = .ok (.aload_n 1, 1) := by decide +kernel
theorem d_B_grant_43 : decode (yMb m_B_grant) 43 = .ok (.iconst (-1), 1) := by decide +kernel
theorem d_B_grant_44 : decode (yMb m_B_grant) 44 = .ok (.invokevirtual 31, 3) := by decide +kernel
theorem d_B_grant_47 : decode (yMb m_B_grant) 47 = .ok (.goto 25, 3) := by decide +kernel
theorem d_B_grant_50 : decode (yMb m_B_grant) 50 = .ok (.aload_n 0, 1) := by decide +kernel
theorem d_B_grant_51 : decode (yMb m_B_grant) 51 = .ok (.aload_n 1, 1) := by decide +kernel
theorem d_B_grant_52 : decode (yMb m_B_grant) 52 = .ok (.putfield 21, 3) := by decide +kernel
theorem d_B_grant_55 : decode (yMb m_B_grant) 55 = .ok (.aload_n 0, 1) := by decide +kernel
theorem d_B_grant_56 : decode (yMb m_B_grant) 56 = .ok (.dup, 1) := by decide +kernel
theorem d_B_grant_57 : decode (yMb m_B_grant) 57 = .ok (.getfield 35, 3) := by decide +kernel
theorem d_B_grant_60 : decode (yMb m_B_grant) 60 = .ok (.iconst 1, 1) := by decide +kernel
theorem d_B_grant_61 : decode (yMb m_B_grant) 61 = .ok (.iadd, 1) := by decide +kernel
theorem d_B_grant_62 : decode (yMb m_B_grant) 62 = .ok (.putfield 35, 3) := by decide +kernel
theorem d_B_grant_65 : decode (yMb m_B_grant) 65 = .ok (.goto 7, 3) := by decide +kernel
theorem d_B_grant_68 : decode (yMb m_B_grant) 68 = .ok (.aload_n 0, 1) := by decide +kernel
theorem d_B_grant_69 : decode (yMb m_B_grant) 69 = .ok (.invokevirtual 38, 3) := by decide +kernel
theorem d_B_grant_72 : decode (yMb m_B_grant) 72 = .ok (.return_, 1) := by decide +kernel
theorem d_B_level_0 : decode (yMb m_B_level) 0 = .ok (.aload_n 0, 1) := by decide +kernel
theorem d_B_level_1 : decode (yMb m_B_level) 1 = .ok (.getfield 35, 3) := by decide +kernel
theorem d_B_level_4 : decode (yMb m_B_level) 4 = .ok (.ireturn, 1) := by decide +kernel
theorem d_B_owner_0 : decode (yMb m_B_owner) 0 = .ok (.aload_n 0, 1) := by decide +kernel
theorem d_B_owner_1 : decode (yMb m_B_owner) 1 = .ok (.getfield 21, 3) := by decide +kernel
theorem d_B_owner_4 : decode (yMb m_B_owner) 4 = .ok (.invokestatic 42, 3) := by decide +kernel
theorem d_B_owner_7 : decode (yMb m_B_owner) 7 = .ok (.ireturn, 1) := by decide +kernel
theorem d_B_timesRead_0 : decode (yMb m_B_timesRead) 0 = .ok (.aload_n 0, 1) := by decide +kernel
theorem d_B_timesRead_1 : decode (yMb m_B_timesRead) 1 = .ok (.getfield 25, 3) := by decide +kernel
theorem d_B_timesRead_4 : decode (yMb m_B_timesRead) 4 = .ok (.ireturn, 1) := by decide +kernel
theorem d_B_countReads_0 : decode (yMb m_B_countReads) 0 = .ok (.aload_n 0, 1) := by decide +kernel
theorem d_B_countReads_1 : decode (yMb m_B_countReads) 1 = .ok (.getfield 9, 3) := by decide +kernel
theorem d_B_countReads_4 : decode (yMb m_B_countReads) 4 = .ok (.aload_n 1, 1) := by decide +kernel
theorem d_B_countReads_5 : decode (yMb m_B_countReads) 5 = .ok (.getfield 15, 3) := by decide +kernel
theorem d_B_countReads_8 : decode (yMb m_B_countReads) 8 = .ok (.dup2, 1) := by decide +kernel
theorem d_B_countReads_9 : decode (yMb m_B_countReads) 9 = .ok (.iaload, 1) := by decide +kernel
theorem d_B_countReads_10 : decode (yMb m_B_countReads) 10 = .ok (.iload_n 2, 1) := by decide +kernel
theorem d_B_countReads_11 : decode (yMb m_B_countReads) 11 = .ok (.iadd, 1) := by decide +kernel
theorem d_B_countReads_12 : decode (yMb m_B_countReads) 12 = .ok (.iastore, 1) := by decide +kernel
theorem d_B_countReads_13 : decode (yMb m_B_countReads) 13 = .ok (.aload_n 0, 1) := by decide +kernel
theorem d_B_countReads_14 : decode (yMb m_B_countReads) 14 = .ok (.dup, 1) := by decide +kernel
theorem d_B_countReads_15 : decode (yMb m_B_countReads) 15 = .ok (.getfield 25, 3) := by decide +kernel
theorem d_B_countReads_18 : decode (yMb m_B_countReads) 18 = .ok (.iload_n 2, 1) := by decide +kernel
theorem d_B_countReads_19 : decode (yMb m_B_countReads) 19 = .ok (.iadd, 1) := by decide +kernel
theorem d_B_countReads_20 : decode (yMb m_B_countReads) 20 = .ok (.putfield 25, 3) := by decide +kernel
theorem d_B_countReads_23 : decode (yMb m_B_countReads) 23 = .ok (.return_, 1) := by decide +kernel
theorem d_B_closeWritingOnce_0 : decode (yMb m_B_closeWritingOnce) 0 = .ok (.aload_n 0, 1) := by decide +kernel
theorem d_B_closeWritingOnce_1 : decode (yMb m_B_closeWritingOnce) 1 = .ok (.dup, 1) := by decide +kernel
theorem d_B_closeWritingOnce_2 : decode (yMb m_B_closeWritingOnce) 2 = .ok (.getfield 35, 3) := by decide +kernel
theorem d_B_closeWritingOnce_5 : decode (yMb m_B_closeWritingOnce) 5 = .ok (.iconst 1, 1) := by decide +kernel
theorem d_B_closeWritingOnce_6 : decode (yMb m_B_closeWritingOnce) 6 = .ok (.isub, 1) := by decide +kernel
theorem d_B_closeWritingOnce_7 : decode (yMb m_B_closeWritingOnce) 7 = .ok (.putfield 35, 3) := by decide +kernel
theorem d_B_closeWritingOnce_10 : decode (yMb m_B_closeWritingOnce) 10 = .ok (.aload_n 0, 1) := by decide +kernel
theorem d_B_closeWritingOnce_11 : decode (yMb m_B_closeWritingOnce) 11 = .ok (.getfield 35, 3) := by decide +kernel
theorem d_B_closeWritingOnce_14 : decode (yMb m_B_closeWritingOnce) 14 = .ok (.ifCond .ne 8, 3) := by decide +kernel
theorem d_B_closeWritingOnce_17 : decode (yMb m_B_closeWritingOnce) 17 = .ok (.aload_n 0, 1) := by decide +kernel
theorem d_B_closeWritingOnce_18 : decode (yMb m_B_closeWritingOnce) 18 = .ok (.aconst_null, 1) := by decide +kernel
theorem d_B_closeWritingOnce_19 : decode (yMb m_B_closeWritingOnce) 19 = .ok (.putfield 21, 3) := by decide +kernel
theorem d_B_closeWritingOnce_22 : decode (yMb m_B_closeWritingOnce) 22 = .ok (.return_, 1) := by decide +kernel
theorem d_S_init_0 : decode (yMb m_S_init) 0 = .ok (.aload_n 0, 1) := by decide +kernel
theorem d_S_init_1 : decode (yMb m_S_init) 1 = .ok (.iconst 2, 1) := by decide +kernel
theorem d_S_init_2 : decode (yMb m_S_init) 2 = .ok (.iload_n 1, 1) := by decide +kernel
theorem d_S_init_3 : decode (yMb m_S_init) 3 = .ok (.invokespecial 3, 3) := by decide +kernel
theorem d_S_init_6 : decode (yMb m_S_init) 6 = .ok (.aload_n 0, 1) := by decide +kernel
theorem d_S_init_7 : decode (yMb m_S_init) 7 = .ok (.iload_n 2, 1) := by decide +kernel
theorem d_S_init_8 : decode (yMb m_S_init) 8 = .ok (.putfield 9, 3) := by decide +kernel
theorem d_S_init_11 : decode (yMb m_S_init) 11 = .ok (.return_, 1) := by decide +kernel
theorem d_S_allows_0 : decode (yMb m_S_allows) 0 = .ok (.iload_n 2, 1) := by decide +kernel
theorem d_S_allows_1 : decode (yMb m_S_allows) 1 = .ok (.bipush 10, 2) := by decide +kernel
theorem d_S_allows_3 : decode (yMb m_S_allows) 3 = .ok (.if_icmp .ne 14, 3) := by decide +kernel
theorem d_S_allows_6 : decode (yMb m_S_allows) 6 = .ok (.aload_n 0, 1) := by decide +kernel
theorem d_S_allows_7 : decode (yMb m_S_allows) 7 = .ok (.getfield 9, 3) := by decide +kernel
theorem d_S_allows_10 : decode (yMb m_S_allows) 10 = .ok (.iload_n 3, 1) := by decide +kernel
theorem d_S_allows_11 : decode (yMb m_S_allows) 11 = .ok (.iadd, 1) := by decide +kernel
theorem d_S_allows_12 : decode (yMb m_S_allows) 12 = .ok (.bipush 50, 2) := by decide +kernel
theorem d_S_allows_14 : decode (yMb m_S_allows) 14 = .ok (.if_icmp .gt 7, 3) := by decide +kernel
theorem d_S_allows_17 : decode (yMb m_S_allows) 17 = .ok (.iconst 1, 1) := by decide +kernel
theorem d_S_allows_18 : decode (yMb m_S_allows) 18 = .ok (.goto 4, 3) := by decide +kernel
theorem d_S_allows_21 : decode (yMb m_S_allows) 21 = .ok (.iconst 0, 1) := by decide +kernel
theorem d_S_allows_22 : decode (yMb m_S_allows) 22 = .ok (.ireturn, 1) := by decide +kernel
theorem d_S_canBe_0 : decode (yMb m_S_canBe) 0 = .ok (.aload_n 0, 1) := by decide +kernel
theorem d_S_canBe_1 : decode (yMb m_S_canBe) 1 = .ok (.getfield 9, 3) := by decide +kernel
theorem d_S_canBe_4 : decode (yMb m_S_canBe) 4 = .ok (.aload_n 1, 1) := by decide +kernel
theorem d_S_canBe_5 : decode (yMb m_S_canBe) 5 = .ok (.getfield 15, 3) := by decide +kernel
theorem d_S_canBe_8 : decode (yMb m_S_canBe) 8 = .ok (.if_icmp .lt 7, 3) := by decide +kernel
theorem d_S_canBe_11 : decode (yMb m_S_canBe) 11 = .ok (.iconst 1, 1) := by decide +kernel
theorem d_S_canBe_12 : decode (yMb m_S_canBe) 12 = .ok (.goto 4, 3) := by decide +kernel
theorem d_S_canBe_15 : decode (yMb m_S_canBe) 15 = .ok (.iconst 0, 1) := by decide +kernel
theorem d_S_canBe_16 : decode (yMb m_S_canBe) 16 = .ok (.ireturn, 1) := by decide +kernel
theorem d_S_passesRow_0 : decode (yMb m_S_passesRow) 0 = .ok (.aload_n 1, 1) := by decide +kernel
theorem d_S_passesRow_1 : decode (yMb m_S_passesRow) 1 = .ok (.getfield 20, 3) := by decide +kernel
theorem d_S_passesRow_4 : decode (yMb m_S_passesRow) 4 = .ok (.bipush 10, 2) := by decide +kernel
theorem d_S_passesRow_6 : decode (yMb m_S_passesRow) 6 = .ok (.if_icmp .ne 7, 3) := by decide +kernel
theorem d_S_passesRow_9 : decode (yMb m_S_passesRow) 9 = .ok (.iconst 1, 1) := by decide +kernel
theorem d_S_passesRow_10 : decode (yMb m_S_passesRow) 10 = .ok (.goto 4, 3) := by decide +kernel
theorem d_S_passesRow_13 : decode (yMb m_S_passesRow) 13 = .ok (.iconst 0, 1) := by decide +kernel
theorem d_S_passesRow_14 : decode (yMb m_S_passesRow) 14 = .ok (.ireturn, 1) := by decide +kernel
theorem d_S_grant_0 : decode (yMb m_S_grant) 0 = .ok (.aload_n 0, 1) := by decide +kernel
theorem d_S_grant_1 : decode (yMb m_S_grant) 1 = .ok (.dup, 1) := by decide +kernel
theorem d_S_grant_2 : decode (yMb m_S_grant) 2 = .ok (.getfield 9, 3) := by decide +kernel
theorem d_S_grant_5 : decode (yMb m_S_grant) 5 = .ok (.aload_n 1, 1) := by decide +kernel
theorem d_S_grant_6 : decode (yMb m_S_grant) 6 = .ok (.getfield 20, 3) := by decide +kernel
theorem d_S_grant_9 : decode (yMb m_S_grant) 9 = .ok (.bipush 10, 2) := by decide +kernel
theorem d_S_grant_11 : decode (yMb m_S_grant) 11 = .ok (.if_icmp .ne 10, 3) := by decide +kernel
theorem d_S_grant_14 : decode (yMb m_S_grant) 14 = .ok (.aload_n 1, 1) := by decide +kernel
theorem d_S_grant_15 : decode (yMb m_S_grant) 15 = .ok (.getfield 15, 3) := by decide +kernel
theorem d_S_grant_18 : decode (yMb m_S_grant) 18 = .ok (.goto 8, 3) := by decide +kernel
theorem d_S_grant_21 : decode (yMb m_S_grant) 21 = .ok (.aload_n 1, 1) := by decide +kernel
theorem d_S_grant_22 : decode (yMb m_S_grant) 22 = .ok (.getfield 15, 3) := by decide +kernel
theorem d_S_grant_25 : decode (yMb m_S_grant) 25 = .ok (.ineg, 1) := by decide +kernel
theorem d_S_grant_26 : decode (yMb m_S_grant) 26 = .ok (.iadd, 1) := by decide +kernel
theorem d_S_grant_27 : decode (yMb m_S_grant) 27 = .ok (.putfield 9, 3) := by decide +kernel
theorem d_S_grant_30 : decode (yMb m_S_grant) 30 = .ok (.return_, 1) := by decide +kernel
theorem d_S_level_0 : decode (yMb m_S_level) 0 = .ok (.aload_n 0, 1) := by decide +kernel
theorem d_S_level_1 : decode (yMb m_S_level) 1 = .ok (.getfield 9, 3) := by decide +kernel
theorem d_S_level_4 : decode (yMb m_S_level) 4 = .ok (.ireturn, 1) := by decide +kernel
theorem d_L_init_0 : decode (yMb m_L_init) 0 = .ok (.aload_n 0, 1) := by decide +kernel
theorem d_L_init_1 : decode (yMb m_L_init) 1 = .ok (.iconst 3, 1) := by decide +kernel
theorem d_L_init_2 : decode (yMb m_L_init) 2 = .ok (.iload_n 1, 1) := by decide +kernel
theorem d_L_init_3 : decode (yMb m_L_init) 3 = .ok (.invokespecial 3, 3) := by decide +kernel
theorem d_L_init_6 : decode (yMb m_L_init) 6 = .ok (.aload_n 0, 1) := by decide +kernel
theorem d_L_init_7 : decode (yMb m_L_init) 7 = .ok (.iload_n 2, 1) := by decide +kernel
theorem d_L_init_8 : decode (yMb m_L_init) 8 = .ok (.putfield 9, 3) := by decide +kernel
theorem d_L_init_11 : decode (yMb m_L_init) 11 = .ok (.return_, 1) := by decide +kernel
theorem d_L_canBe_0 : decode (yMb m_L_canBe) 0 = .ok (.aload_n 0, 1) := by decide +kernel
theorem d_L_canBe_1 : decode (yMb m_L_canBe) 1 = .ok (.getfield 9, 3) := by decide +kernel
theorem d_L_canBe_4 : decode (yMb m_L_canBe) 4 = .ok (.ifCond .ne 7, 3) := by decide +kernel
theorem d_L_canBe_7 : decode (yMb m_L_canBe) 7 = .ok (.iconst 1, 1) := by decide +kernel
theorem d_L_canBe_8 : decode (yMb m_L_canBe) 8 = .ok (.goto 4, 3) := by decide +kernel
theorem d_L_canBe_11 : decode (yMb m_L_canBe) 11 = .ok (.iconst 0, 1) := by decide +kernel
theorem d_L_canBe_12 : decode (yMb m_L_canBe) 12 = .ok (.ireturn, 1) := by decide +kernel
theorem d_L_passesRow_0 : decode (yMb m_L_passesRow) 0 = .ok (.aload_n 1, 1) := by decide +kernel
theorem d_L_passesRow_1 : decode (yMb m_L_passesRow) 1 = .ok (.getfield 15, 3) := by decide +kernel
theorem d_L_passesRow_4 : decode (yMb m_L_passesRow) 4 = .ok (.bipush 12, 2) := by decide +kernel
theorem d_L_passesRow_6 : decode (yMb m_L_passesRow) 6 = .ok (.if_icmp .ne 7, 3) := by decide +kernel
theorem d_L_passesRow_9 : decode (yMb m_L_passesRow) 9 = .ok (.iconst 1, 1) := by decide +kernel
theorem d_L_passesRow_10 : decode (yMb m_L_passesRow) 10 = .ok (.goto 4, 3) := by decide +kernel
theorem d_L_passesRow_13 : decode (yMb m_L_passesRow) 13 = .ok (.iconst 0, 1) := by decide +kernel
theorem d_L_passesRow_14 : decode (yMb m_L_passesRow) 14 = .ok (.ireturn, 1) := by decide +kernel
theorem d_L_grant_0 : decode (yMb m_L_grant) 0 = .ok (.aload_n 1, 1) := by decide +kernel
theorem d_L_grant_1 : decode (yMb m_L_grant) 1 = .ok (.getfield 15, 3) := by decide +kernel
theorem d_L_grant_4 : decode (yMb m_L_grant) 4 = .ok (.bipush 12, 2) := by decide +kernel
theorem d_L_grant_6 : decode (yMb m_L_grant) 6 = .ok (.if_icmp .ne 20, 3) := by decide +kernel
theorem d_L_grant_9 : decode (yMb m_L_grant) 9 = .ok (.aload_n 0, 1) := by decide +kernel
theorem d_L_grant_10 : decode (yMb m_L_grant) 10 = .ok (.getfield 9, 3) := by decide +kernel
theorem d_L_grant_13 : decode (yMb m_L_grant) 13 = .ok (.ifCond .le 13, 3) := by decide +kernel
theorem d_L_grant_16 : decode (yMb m_L_grant) 16 = .ok (.aload_n 0, 1) := by decide +kernel
theorem d_L_grant_17 : decode (yMb m_L_grant) 17 = .ok (.dup, 1) := by decide +kernel
theorem d_L_grant_18 : decode (yMb m_L_grant) 18 = .ok (.getfield 9, 3) := by decide +kernel
theorem d_L_grant_21 : decode (yMb m_L_grant) 21 = .ok (.iconst 1, 1) := by decide +kernel
theorem d_L_grant_22 : decode (yMb m_L_grant) 22 = .ok (.isub, 1) := by decide +kernel
theorem d_L_grant_23 : decode (yMb m_L_grant) 23 = .ok (.putfield 9, 3) := by decide +kernel
theorem d_L_grant_26 : decode (yMb m_L_grant) 26 = .ok (.return_, 1) := by decide +kernel
theorem d_L_level_0 : decode (yMb m_L_level) 0 = .ok (.aload_n 0, 1) := by decide +kernel
theorem d_L_level_1 : decode (yMb m_L_level) 1 = .ok (.getfield 9, 3) := by decide +kernel
theorem d_L_level_4 : decode (yMb m_L_level) 4 = .ok (.ireturn, 1) := by decide +kernel
theorem d_A_init_0 : decode (yMb m_A_init) 0 = .ok (.aload_n 0, 1) := by decide +kernel
theorem d_A_init_1 : decode (yMb m_A_init) 1 = .ok (.iconst 4, 1) := by decide +kernel
theorem d_A_init_2 : decode (yMb m_A_init) 2 = .ok (.iload_n 1, 1) := by decide +kernel
theorem d_A_init_3 : decode (yMb m_A_init) 3 = .ok (.invokespecial 3, 3) := by decide +kernel
theorem d_A_init_6 : decode (yMb m_A_init) 6 = .ok (.aload_n 0, 1) := by decide +kernel
theorem d_A_init_7 : decode (yMb m_A_init) 7 = .ok (.iload_n 2, 1) := by decide +kernel
theorem d_A_init_8 : decode (yMb m_A_init) 8 = .ok (.putfield 9, 3) := by decide +kernel
theorem d_A_init_11 : decode (yMb m_A_init) 11 = .ok (.return_, 1) := by decide +kernel
theorem d_A_refuses_0 : decode (yMb m_A_refuses) 0 = .ok (.aload_n 1, 1) := by decide +kernel
theorem d_A_refuses_1 : decode (yMb m_A_refuses) 1 = .ok (.getfield 15, 3) := by decide +kernel
theorem d_A_refuses_4 : decode (yMb m_A_refuses) 4 = .ok (.bipush 13, 2) := by decide +kernel
theorem d_A_refuses_6 : decode (yMb m_A_refuses) 6 = .ok (.if_icmp .ne 14, 3) := by decide +kernel
theorem d_A_refuses_9 : decode (yMb m_A_refuses) 9 = .ok (.aload_n 0, 1) := by decide +kernel
theorem d_A_refuses_10 : decode (yMb m_A_refuses) 10 = .ok (.getfield 20, 3) := by decide +kernel
theorem d_A_refuses_13 : decode (yMb m_A_refuses) 13 = .ok (.ifCond .eq 7, 3) := by decide +kernel
theorem d_A_refuses_16 : decode (yMb m_A_refuses) 16 = .ok (.iconst 1, 1) := by decide +kernel
theorem d_A_refuses_17 : decode (yMb m_A_refuses) 17 = .ok (.goto 4, 3) := by decide +kernel
theorem d_A_refuses_20 : decode (yMb m_A_refuses) 20 = .ok (.iconst 0, 1) := by decide +kernel
theorem d_A_refuses_21 : decode (yMb m_A_refuses) 21 = .ok (.ireturn, 1) := by decide +kernel
theorem d_A_canBe_0 : decode (yMb m_A_canBe) 0 = .ok (.iconst 0, 1) := by decide +kernel
theorem d_A_canBe_1 : decode (yMb m_A_canBe) 1 = .ok (.ireturn, 1) := by decide +kernel
theorem d_A_passesRow_0 : decode (yMb m_A_passesRow) 0 = .ok (.aload_n 1, 1) := by decide +kernel
theorem d_A_passesRow_1 : decode (yMb m_A_passesRow) 1 = .ok (.getfield 15, 3) := by decide +kernel
theorem d_A_passesRow_4 : decode (yMb m_A_passesRow) 4 = .ok (.bipush 14, 2) := by decide +kernel
theorem d_A_passesRow_6 : decode (yMb m_A_passesRow) 6 = .ok (.if_icmp .eq 19, 3) := by decide +kernel
theorem d_A_passesRow_9 : decode (yMb m_A_passesRow) 9 = .ok (.aload_n 0, 1) := by decide +kernel
theorem d_A_passesRow_10 : decode (yMb m_A_passesRow) 10 = .ok (.getfield 24, 3) := by decide +kernel
theorem d_A_passesRow_13 : decode (yMb m_A_passesRow) 13 = .ok (.getfield 28, 3) := by decide +kernel
theorem d_A_passesRow_16 : decode (yMb m_A_passesRow) 16 = .ok (.iconst 1, 1) := by decide +kernel
theorem d_A_passesRow_17 : decode (yMb m_A_passesRow) 17 = .ok (.iadd, 1) := by decide +kernel
theorem d_A_passesRow_18 : decode (yMb m_A_passesRow) 18 = .ok (.aload_n 0, 1) := by decide +kernel
theorem d_A_passesRow_19 : decode (yMb m_A_passesRow) 19 = .ok (.getfield 9, 3) := by decide +kernel
theorem d_A_passesRow_22 : decode (yMb m_A_passesRow) 22 = .ok (.if_icmp .lt 7, 3) := by decide +kernel
theorem d_A_passesRow_25 : decode (yMb m_A_passesRow) 25 = .ok (.iconst 1, 1) := by decide +kernel
theorem d_A_passesRow_26 : decode (yMb m_A_passesRow) 26 = .ok (.goto 4, 3) := by decide +kernel
theorem d_A_passesRow_29 : decode (yMb m_A_passesRow) 29 = .ok (.iconst 0, 1) := by decide +kernel
theorem d_A_passesRow_30 : decode (yMb m_A_passesRow) 30 = .ok (.ireturn, 1) := by decide +kernel
theorem d_A_grant_0 : decode (yMb m_A_grant) 0 = .ok (.aload_n 1, 1) := by decide +kernel
theorem d_A_grant_1 : decode (yMb m_A_grant) 1 = .ok (.getfield 15, 3) := by decide +kernel
theorem d_A_grant_4 : decode (yMb m_A_grant) 4 = .ok (.bipush 14, 2) := by decide +kernel
theorem d_A_grant_6 : decode (yMb m_A_grant) 6 = .ok (.if_icmp .ne 16, 3) := by decide +kernel
theorem d_A_grant_9 : decode (yMb m_A_grant) 9 = .ok (.aload_n 0, 1) := by decide +kernel
theorem d_A_grant_10 : decode (yMb m_A_grant) 10 = .ok (.iconst 0, 1) := by decide +kernel
theorem d_A_grant_11 : decode (yMb m_A_grant) 11 = .ok (.putfield 20, 3) := by decide +kernel
theorem d_A_grant_14 : decode (yMb m_A_grant) 14 = .ok (.aload_n 0, 1) := by decide +kernel
theorem d_A_grant_15 : decode (yMb m_A_grant) 15 = .ok (.iconst 3, 1) := by decide +kernel
theorem d_A_grant_16 : decode (yMb m_A_grant) 16 = .ok (.invokevirtual 33, 3) := by decide +kernel
theorem d_A_grant_19 : decode (yMb m_A_grant) 19 = .ok (.goto 8, 3) := by decide +kernel
theorem d_A_grant_22 : decode (yMb m_A_grant) 22 = .ok (.aload_n 0, 1) := by decide +kernel
theorem d_A_grant_23 : decode (yMb m_A_grant) 23 = .ok (.iconst 0, 1) := by decide +kernel
theorem d_A_grant_24 : decode (yMb m_A_grant) 24 = .ok (.invokevirtual 33, 3) := by decide +kernel
theorem d_A_grant_27 : decode (yMb m_A_grant) 27 = .ok (.return_, 1) := by decide +kernel
theorem d_A_whenOneGaveUp_0 : decode (yMb m_A_whenOneGaveUp) 0 = .ok (.aload_n 0, 1) := by decide +kernel
theorem d_A_whenOneGaveUp_1 : decode (yMb m_A_whenOneGaveUp) 1 = .ok (.iconst 1, 1) := by decide +kernel
theorem d_A_whenOneGaveUp_2 : decode (yMb m_A_whenOneGaveUp) 2 = .ok (.putfield 20, 3) := by decide +kernel
theorem d_A_whenOneGaveUp_5 : decode (yMb m_A_whenOneGaveUp) 5 = .ok (.aload_n 0, 1) := by decide +kernel
theorem d_A_whenOneGaveUp_6 : decode (yMb m_A_whenOneGaveUp) 6 = .ok (.iconst 3, 1) := by decide +kernel
theorem d_A_whenOneGaveUp_7 : decode (yMb m_A_whenOneGaveUp) 7 = .ok (.invokevirtual 33, 3) := by decide +kernel
theorem d_A_whenOneGaveUp_10 : decode (yMb m_A_whenOneGaveUp) 10 = .ok (.return_, 1) := by decide +kernel
theorem d_A_level_0 : decode (yMb m_A_level) 0 = .ok (.aload_n 0, 1) := by decide +kernel
theorem d_A_level_1 : decode (yMb m_A_level) 1 = .ok (.getfield 24, 3) := by decide +kernel
theorem d_A_level_4 : decode (yMb m_A_level) 4 = .ok (.getfield 28, 3) := by decide +kernel
theorem d_A_level_7 : decode (yMb m_A_level) 7 = .ok (.ireturn, 1) := by decide +kernel
theorem d_A_isBroken_0 : decode (yMb m_A_isBroken) 0 = .ok (.aload_n 0, 1) := by decide +kernel
theorem d_A_isBroken_1 : decode (yMb m_A_isBroken) 1 = .ok (.getfield 20, 3) := by decide +kernel
theorem d_A_isBroken_4 : decode (yMb m_A_isBroken) 4 = .ok (.ireturn, 1) := by decide +kernel
theorem d_Q_init_0 : decode (yMb m_Q_init) 0 = .ok (.aload_n 0, 1) := by decide +kernel
theorem d_Q_init_1 : decode (yMb m_Q_init) 1 = .ok (.iconst 5, 1) := by decide +kernel
theorem d_Q_init_2 : decode (yMb m_Q_init) 2 = .ok (.iload_n 1, 1) := by decide +kernel
theorem d_Q_init_3 : decode (yMb m_Q_init) 3 = .ok (.invokespecial 3, 3) := by decide +kernel
theorem d_Q_init_6 : decode (yMb m_Q_init) 6 = .ok (.aload_n 0, 1) := by decide +kernel
theorem d_Q_init_7 : decode (yMb m_Q_init) 7 = .ok (.iload_n 2, 1) := by decide +kernel
theorem d_Q_init_8 : decode (yMb m_Q_init) 8 = .ok (.newarray .int, 2) := by decide +kernel
theorem d_Q_init_10 : decode (yMb m_Q_init) 10 = .ok (.putfield 9, 3) := by decide +kernel
theorem d_Q_init_13 : decode (yMb m_Q_init) 13 = .ok (.return_, 1) := by decide +kernel
theorem d_Q_sortOf_0 : decode (yMb m_Q_sortOf) 0 = .ok (.iload_n 1, 1) := by decide +kernel
theorem d_Q_sortOf_1 : decode (yMb m_Q_sortOf) 1 = .ok (.bipush 16, 2) := by decide +kernel
theorem d_Q_sortOf_3 : decode (yMb m_Q_sortOf) 3 = .ok (.if_icmp .ne 7, 3) := by decide +kernel
theorem d_Q_sortOf_6 : decode (yMb m_Q_sortOf) 6 = .ok (.iconst 1, 1) := by decide +kernel
theorem d_Q_sortOf_7 : decode (yMb m_Q_sortOf) 7 = .ok (.goto 4, 3) := by decide +kernel
theorem d_Q_sortOf_10 : decode (yMb m_Q_sortOf) 10 = .ok (.iconst 0, 1) := by decide +kernel
theorem d_Q_sortOf_11 : decode (yMb m_Q_sortOf) 11 = .ok (.ireturn, 1) := by decide +kernel
theorem d_Q_canBe_0 : decode (yMb m_Q_canBe) 0 = .ok (.aload_n 1, 1) := by decide +kernel
theorem d_Q_canBe_1 : decode (yMb m_Q_canBe) 1 = .ok (.getfield 15, 3) := by decide +kernel
theorem d_Q_canBe_4 : decode (yMb m_Q_canBe) 4 = .ok (.bipush 15, 2) := by decide +kernel
theorem d_Q_canBe_6 : decode (yMb m_Q_canBe) 6 = .ok (.if_icmp .ne 23, 3) := by decide +kernel
theorem d_Q_canBe_9 : decode (yMb m_Q_canBe) 9 = .ok (.aload_n 0, 1) := by decide +kernel
theorem d_Q_canBe_10 : decode (yMb m_Q_canBe) 10 = .ok (.getfield 21, 3) := by decide +kernel
theorem d_Q_canBe_13 : decode (yMb m_Q_canBe) 13 = .ok (.aload_n 0, 1) := by decide +kernel
theorem d_Q_canBe_14 : decode (yMb m_Q_canBe) 14 = .ok (.getfield 9, 3) := by decide +kernel
theorem d_Q_canBe_17 : decode (yMb m_Q_canBe) 17 = .ok (.arraylength, 1) := by decide +kernel
theorem d_Q_canBe_18 : decode (yMb m_Q_canBe) 18 = .ok (.if_icmp .ge 7, 3) := by decide +kernel
theorem d_Q_canBe_21 : decode (yMb m_Q_canBe) 21 = .ok (.iconst 1, 1) := by decide +kernel
theorem d_Q_canBe_22 : decode (yMb m_Q_canBe) 22 = .ok (.goto 19, 3) := by decide +kernel
theorem d_Q_canBe_25 : decode (yMb m_Q_canBe) 25 = .ok (.iconst 0, 1) := by decide +kernel
theorem d_Q_canBe_26 : decode (yMb m_Q_canBe) 26 = .ok (.goto 15, 3) := by decide +kernel
theorem d_Q_canBe_29 : decode (yMb m_Q_canBe) 29 = .ok (.aload_n 0, 1) := by decide +kernel
theorem d_Q_canBe_30 : decode (yMb m_Q_canBe) 30 = .ok (.getfield 21, 3) := by decide +kernel
theorem d_Q_canBe_33 : decode (yMb m_Q_canBe) 33 = .ok (.ifCond .le 7, 3) := by decide +kernel
theorem d_Q_canBe_36 : decode (yMb m_Q_canBe) 36 = .ok (.iconst 1, 1) := by decide +kernel
theorem d_Q_canBe_37 : decode (yMb m_Q_canBe) 37 = .ok (.goto 4, 3) := by decide +kernel
theorem d_Q_canBe_40 : decode (yMb m_Q_canBe) 40 = .ok (.iconst 0, 1) := by decide +kernel
theorem d_Q_canBe_41 : decode (yMb m_Q_canBe) 41 = .ok (.ireturn, 1) := by decide +kernel
theorem d_Q_passesRow_0 : decode (yMb m_Q_passesRow) 0 = .ok (.iconst 0, 1) := by decide +kernel
theorem d_Q_passesRow_1 : decode (yMb m_Q_passesRow) 1 = .ok (.ireturn, 1) := by decide +kernel
theorem d_Q_grant_0 : decode (yMb m_Q_grant) 0 = .ok (.aload_n 1, 1) := by decide +kernel
theorem d_Q_grant_1 : decode (yMb m_Q_grant) 1 = .ok (.getfield 15, 3) := by decide +kernel
theorem d_Q_grant_4 : decode (yMb m_Q_grant) 4 = .ok (.bipush 15, 2) := by decide +kernel
theorem d_Q_grant_6 : decode (yMb m_Q_grant) 6 = .ok (.if_icmp .ne 14, 3) := by decide +kernel
theorem d_Q_grant_9 : decode (yMb m_Q_grant) 9 = .ok (.aload_n 0, 1) := by decide +kernel
theorem d_Q_grant_10 : decode (yMb m_Q_grant) 10 = .ok (.aload_n 1, 1) := by decide +kernel
theorem d_Q_grant_11 : decode (yMb m_Q_grant) 11 = .ok (.getfield 24, 3) := by decide +kernel
theorem d_Q_grant_14 : decode (yMb m_Q_grant) 14 = .ok (.invokevirtual 27, 3) := by decide +kernel
theorem d_Q_grant_17 : decode (yMb m_Q_grant) 17 = .ok (.goto 11, 3) := by decide +kernel
theorem d_Q_grant_20 : decode (yMb m_Q_grant) 20 = .ok (.aload_n 1, 1) := by decide +kernel
theorem d_Q_grant_21 : decode (yMb m_Q_grant) 21 = .ok (.aload_n 0, 1) := by decide +kernel
theorem d_Q_grant_22 : decode (yMb m_Q_grant) 22 = .ok (.invokevirtual 31, 3) := by decide +kernel
theorem d_Q_grant_25 : decode (yMb m_Q_grant) 25 = .ok (.putfield 35, 3) := by decide +kernel
theorem d_Q_grant_28 : decode (yMb m_Q_grant) 28 = .ok (.return_, 1) := by decide +kernel
theorem d_Q_level_0 : decode (yMb m_Q_level) 0 = .ok (.aload_n 0, 1) := by decide +kernel
theorem d_Q_level_1 : decode (yMb m_Q_level) 1 = .ok (.getfield 21, 3) := by decide +kernel
theorem d_Q_level_4 : decode (yMb m_Q_level) 4 = .ok (.ireturn, 1) := by decide +kernel
theorem d_Q_putLast_0 : decode (yMb m_Q_putLast) 0 = .ok (.aload_n 0, 1) := by decide +kernel
theorem d_Q_putLast_1 : decode (yMb m_Q_putLast) 1 = .ok (.getfield 21, 3) := by decide +kernel
theorem d_Q_putLast_4 : decode (yMb m_Q_putLast) 4 = .ok (.aload_n 0, 1) := by decide +kernel
theorem d_Q_putLast_5 : decode (yMb m_Q_putLast) 5 = .ok (.getfield 9, 3) := by decide +kernel
theorem d_Q_putLast_8 : decode (yMb m_Q_putLast) 8 = .ok (.arraylength, 1) := by decide +kernel
theorem d_Q_putLast_9 : decode (yMb m_Q_putLast) 9 = .ok (.if_icmp .ge 23, 3) := by decide +kernel
theorem d_Q_putLast_12 : decode (yMb m_Q_putLast) 12 = .ok (.aload_n 0, 1) := by decide +kernel
theorem d_Q_putLast_13 : decode (yMb m_Q_putLast) 13 = .ok (.getfield 9, 3) := by decide +kernel
theorem d_Q_putLast_16 : decode (yMb m_Q_putLast) 16 = .ok (.aload_n 0, 1) := by decide +kernel
theorem d_Q_putLast_17 : decode (yMb m_Q_putLast) 17 = .ok (.getfield 21, 3) := by decide +kernel
theorem d_Q_putLast_20 : decode (yMb m_Q_putLast) 20 = .ok (.iload_n 1, 1) := by decide +kernel
theorem d_Q_putLast_21 : decode (yMb m_Q_putLast) 21 = .ok (.iastore, 1) := by decide +kernel
theorem d_Q_putLast_22 : decode (yMb m_Q_putLast) 22 = .ok (.aload_n 0, 1) := by decide +kernel
theorem d_Q_putLast_23 : decode (yMb m_Q_putLast) 23 = .ok (.dup, 1) := by decide +kernel
theorem d_Q_putLast_24 : decode (yMb m_Q_putLast) 24 = .ok (.getfield 21, 3) := by decide +kernel
theorem d_Q_putLast_27 : decode (yMb m_Q_putLast) 27 = .ok (.iconst 1, 1) := by decide +kernel
theorem d_Q_putLast_28 : decode (yMb m_Q_putLast) 28 = .ok (.iadd, 1) := by decide +kernel
theorem d_Q_putLast_29 : decode (yMb m_Q_putLast) 29 = .ok (.putfield 21, 3) := by decide +kernel
theorem d_Q_putLast_32 : decode (yMb m_Q_putLast) 32 = .ok (.return_, 1) := by decide +kernel
theorem d_Q_takeFirst_0 : decode (yMb m_Q_takeFirst) 0 = .ok (.aload_n 0, 1) := by decide +kernel
theorem d_Q_takeFirst_1 : decode (yMb m_Q_takeFirst) 1 = .ok (.getfield 9, 3) := by decide +kernel
theorem d_Q_takeFirst_4 : decode (yMb m_Q_takeFirst) 4 = .ok (.iconst 0, 1) := by decide +kernel
theorem d_Q_takeFirst_5 : decode (yMb m_Q_takeFirst) 5 = .ok (.iaload, 1) := by decide +kernel
theorem d_Q_takeFirst_6 : decode (yMb m_Q_takeFirst) 6 = .ok (.istore_n 1, 1) := by decide +kernel
theorem d_Q_takeFirst_7 : decode (yMb m_Q_takeFirst) 7 = .ok (.aload_n 0, 1) := by decide +kernel
theorem d_Q_takeFirst_8 : decode (yMb m_Q_takeFirst) 8 = .ok (.dup, 1) := by decide +kernel
theorem d_Q_takeFirst_9 : decode (yMb m_Q_takeFirst) 9 = .ok (.getfield 21, 3) := by decide +kernel
theorem d_Q_takeFirst_12 : decode (yMb m_Q_takeFirst) 12 = .ok (.iconst 1, 1) := by decide +kernel
theorem d_Q_takeFirst_13 : decode (yMb m_Q_takeFirst) 13 = .ok (.isub, 1) := by decide +kernel
theorem d_Q_takeFirst_14 : decode (yMb m_Q_takeFirst) 14 = .ok (.putfield 21, 3) := by decide +kernel
theorem d_Q_takeFirst_17 : decode (yMb m_Q_takeFirst) 17 = .ok (.iconst 0, 1) := by decide +kernel
theorem d_Q_takeFirst_18 : decode (yMb m_Q_takeFirst) 18 = .ok (.istore_n 2, 1) := by decide +kernel
theorem d_Q_takeFirst_19 : decode (yMb m_Q_takeFirst) 19 = .ok (.iload_n 2, 1) := by decide +kernel
theorem d_Q_takeFirst_20 : decode (yMb m_Q_takeFirst) 20 = .ok (.aload_n 0, 1) := by decide +kernel
theorem d_Q_takeFirst_21 : decode (yMb m_Q_takeFirst) 21 = .ok (.getfield 21, 3) := by decide +kernel
theorem d_Q_takeFirst_24 : decode (yMb m_Q_takeFirst) 24 = .ok (.if_icmp .ge 23, 3) := by decide +kernel
theorem d_Q_takeFirst_27 : decode (yMb m_Q_takeFirst) 27 = .ok (.aload_n 0, 1) := by decide +kernel
theorem d_Q_takeFirst_28 : decode (yMb m_Q_takeFirst) 28 = .ok (.getfield 9, 3) := by decide +kernel
theorem d_Q_takeFirst_31 : decode (yMb m_Q_takeFirst) 31 = .ok (.iload_n 2, 1) := by decide +kernel
theorem d_Q_takeFirst_32 : decode (yMb m_Q_takeFirst) 32 = .ok (.aload_n 0, 1) := by decide +kernel
theorem d_Q_takeFirst_33 : decode (yMb m_Q_takeFirst) 33 = .ok (.getfield 9, 3) := by decide +kernel
theorem d_Q_takeFirst_36 : decode (yMb m_Q_takeFirst) 36 = .ok (.iload_n 2, 1) := by decide +kernel
theorem d_Q_takeFirst_37 : decode (yMb m_Q_takeFirst) 37 = .ok (.iconst 1, 1) := by decide +kernel
theorem d_Q_takeFirst_38 : decode (yMb m_Q_takeFirst) 38 = .ok (.iadd, 1) := by decide +kernel
theorem d_Q_takeFirst_39 : decode (yMb m_Q_takeFirst) 39 = .ok (.iaload, 1) := by decide +kernel
theorem d_Q_takeFirst_40 : decode (yMb m_Q_takeFirst) 40 = .ok (.iastore, 1) := by decide +kernel
theorem d_Q_takeFirst_41 : decode (yMb m_Q_takeFirst) 41 = .ok (.iinc 2 1, 3) := by decide +kernel
theorem d_Q_takeFirst_44 : decode (yMb m_Q_takeFirst) 44 = .ok (.goto (-25), 3) := by decide +kernel
theorem d_Q_takeFirst_47 : decode (yMb m_Q_takeFirst) 47 = .ok (.iload_n 1, 1) := by decide +kernel
theorem d_Q_takeFirst_48 : decode (yMb m_Q_takeFirst) 48 = .ok (.ireturn, 1) := by decide +kernel
end
section
theorem d_M_init_0 : decode (yMb m_M_init) 0 = .ok (.aload_n 0, 1) := by decide +kernel
theorem d_M_init_1 : decode (yMb m_M_init) 1 = .ok (.invokespecial 1, 3) := by decide +kernel
theorem d_M_init_4 : decode (yMb m_M_init) 4 = .ok (.aload_n 0, 1) := by decide +kernel
theorem d_M_init_5 : decode (yMb m_M_init) 5 = .ok (.bipush 6, 2) := by decide +kernel
theorem d_M_init_7 : decode (yMb m_M_init) 7 = .ok (.newarray .int, 2) := by decide +kernel
theorem d_M_init_9 : decode (yMb m_M_init) 9 = .ok (.putfield 7, 3) := by decide +kernel
theorem d_M_init_12 : decode (yMb m_M_init) 12 = .ok (.aload_n 0, 1) := by decide +kernel
theorem d_M_init_13 : decode (yMb m_M_init) 13 = .ok (.bipush 6, 2) := by decide +kernel
theorem d_M_init_15 : decode (yMb m_M_init) 15 = .ok (.newarray .int, 2) := by decide +kernel
theorem d_M_init_17 : decode (yMb m_M_init) 17 = .ok (.putfield 13, 3) := by decide +kernel
theorem d_M_init_20 : decode (yMb m_M_init) 20 = .ok (.aload_n 0, 1) := by decide +kernel
theorem d_M_init_21 : decode (yMb m_M_init) 21 = .ok (.bipush 6, 2) := by decide +kernel
theorem d_M_init_23 : decode (yMb m_M_init) 23 = .ok (.newarray .int, 2) := by decide +kernel
theorem d_M_init_25 : decode (yMb m_M_init) 25 = .ok (.putfield 16, 3) := by decide +kernel
theorem d_M_init_28 : decode (yMb m_M_init) 28 = .ok (.aload_n 0, 1) := by decide +kernel
theorem d_M_init_29 : decode (yMb m_M_init) 29 = .ok (.bipush 6, 2) := by decide +kernel
theorem d_M_init_31 : decode (yMb m_M_init) 31 = .ok (.newarray .int, 2) := by decide +kernel
theorem d_M_init_33 : decode (yMb m_M_init) 33 = .ok (.putfield 19, 3) := by decide +kernel
theorem d_M_init_36 : decode (yMb m_M_init) 36 = .ok (.aload_n 0, 1) := by decide +kernel
theorem d_M_init_37 : decode (yMb m_M_init) 37 = .ok (.bipush 6, 2) := by decide +kernel
theorem d_M_init_39 : decode (yMb m_M_init) 39 = .ok (.newarray .int, 2) := by decide +kernel
theorem d_M_init_41 : decode (yMb m_M_init) 41 = .ok (.putfield 22, 3) := by decide +kernel
theorem d_M_init_44 : decode (yMb m_M_init) 44 = .ok (.aload_n 0, 1) := by decide +kernel
theorem d_M_init_45 : decode (yMb m_M_init) 45 = .ok (.bipush 6, 2) := by decide +kernel
theorem d_M_init_47 : decode (yMb m_M_init) 47 = .ok (.newarray .int, 2) := by decide +kernel
theorem d_M_init_49 : decode (yMb m_M_init) 49 = .ok (.putfield 25, 3) := by decide +kernel
theorem d_M_init_52 : decode (yMb m_M_init) 52 = .ok (.aload_n 0, 1) := by decide +kernel
theorem d_M_init_53 : decode (yMb m_M_init) 53 = .ok (.bipush 6, 2) := by decide +kernel
theorem d_M_init_55 : decode (yMb m_M_init) 55 = .ok (.newarray .int, 2) := by decide +kernel
theorem d_M_init_57 : decode (yMb m_M_init) 57 = .ok (.putfield 28, 3) := by decide +kernel
theorem d_M_init_60 : decode (yMb m_M_init) 60 = .ok (.aload_n 0, 1) := by decide +kernel
theorem d_M_init_61 : decode (yMb m_M_init) 61 = .ok (.bipush 6, 2) := by decide +kernel
theorem d_M_init_63 : decode (yMb m_M_init) 63 = .ok (.newarray .int, 2) := by decide +kernel
theorem d_M_init_65 : decode (yMb m_M_init) 65 = .ok (.putfield 31, 3) := by decide +kernel
theorem d_M_init_68 : decode (yMb m_M_init) 68 = .ok (.aload_n 0, 1) := by decide +kernel
theorem d_M_init_69 : decode (yMb m_M_init) 69 = .ok (.bipush 6, 2) := by decide +kernel
theorem d_M_init_71 : decode (yMb m_M_init) 71 = .ok (.newarray .int, 2) := by decide +kernel
theorem d_M_init_73 : decode (yMb m_M_init) 73 = .ok (.putfield 34, 3) := by decide +kernel
theorem d_M_init_76 : decode (yMb m_M_init) 76 = .ok (.aload_n 0, 1) := by decide +kernel
theorem d_M_init_77 : decode (yMb m_M_init) 77 = .ok (.bipush 6, 2) := by decide +kernel
theorem d_M_init_79 : decode (yMb m_M_init) 79 = .ok (.newarray .boolean, 2) := by decide +kernel
theorem d_M_init_81 : decode (yMb m_M_init) 81 = .ok (.putfield 37, 3) := by decide +kernel
theorem d_M_init_84 : decode (yMb m_M_init) 84 = .ok (.aload_n 0, 1) := by decide +kernel
theorem d_M_init_85 : decode (yMb m_M_init) 85 = .ok (.bipush 6, 2) := by decide +kernel
theorem d_M_init_87 : decode (yMb m_M_init) 87 = .ok (.newarray .boolean, 2) := by decide +kernel
theorem d_M_init_89 : decode (yMb m_M_init) 89 = .ok (.putfield 41, 3) := by decide +kernel
theorem d_M_init_92 : decode (yMb m_M_init) 92 = .ok (.aload_n 0, 1) := by decide +kernel
theorem d_M_init_93 : decode (yMb m_M_init) 93 = .ok (.bipush 6, 2) := by decide +kernel
theorem d_M_init_95 : decode (yMb m_M_init) 95 = .ok (.newarray .int, 2) := by decide +kernel
theorem d_M_init_97 : decode (yMb m_M_init) 97 = .ok (.putfield 44, 3) := by decide +kernel
theorem d_M_init_100 : decode (yMb m_M_init) 100 = .ok (.aload_n 0, 1) := by decide +kernel
theorem d_M_init_101 : decode (yMb m_M_init) 101 = .ok (.bipush 6, 2) := by decide +kernel
theorem d_M_init_103 : decode (yMb m_M_init) 103 = .ok (.newarray .int, 2) := by decide +kernel
theorem d_M_init_105 : decode (yMb m_M_init) 105 = .ok (.putfield 47, 3) := by decide +kernel
theorem d_M_init_108 : decode (yMb m_M_init) 108 = .ok (.aload_n 0, 1) := by decide +kernel
theorem d_M_init_109 : decode (yMb m_M_init) 109 = .ok (.bipush 6, 2) := by decide +kernel
theorem d_M_init_111 : decode (yMb m_M_init) 111 = .ok (.newarray .int, 2) := by decide +kernel
theorem d_M_init_113 : decode (yMb m_M_init) 113 = .ok (.putfield 50, 3) := by decide +kernel
theorem d_M_init_116 : decode (yMb m_M_init) 116 = .ok (.aload_n 0, 1) := by decide +kernel
theorem d_M_init_117 : decode (yMb m_M_init) 117 = .ok (.bipush 6, 2) := by decide +kernel
theorem d_M_init_119 : decode (yMb m_M_init) 119 = .ok (.newarray .int, 2) := by decide +kernel
theorem d_M_init_121 : decode (yMb m_M_init) 121 = .ok (.putfield 53, 3) := by decide +kernel
theorem d_M_init_124 : decode (yMb m_M_init) 124 = .ok (.aload_n 0, 1) := by decide +kernel
theorem d_M_init_125 : decode (yMb m_M_init) 125 = .ok (.bipush 6, 2) := by decide +kernel
theorem d_M_init_127 : decode (yMb m_M_init) 127 = .ok (.newarray .int, 2) := by decide +kernel
theorem d_M_init_129 : decode (yMb m_M_init) 129 = .ok (.putfield 56, 3) := by decide +kernel
theorem d_M_init_132 : decode (yMb m_M_init) 132 = .ok (.aload_n 0, 1) := by decide +kernel
theorem d_M_init_133 : decode (yMb m_M_init) 133 = .ok (.bipush 36, 2) := by decide +kernel
theorem d_M_init_135 : decode (yMb m_M_init) 135 = .ok (.newarray .int, 2) := by decide +kernel
theorem d_M_init_137 : decode (yMb m_M_init) 137 = .ok (.putfield 59, 3) := by decide +kernel
theorem d_M_init_140 : decode (yMb m_M_init) 140 = .ok (.aload_n 0, 1) := by decide +kernel
theorem d_M_init_141 : decode (yMb m_M_init) 141 = .ok (.bipush 12, 2) := by decide +kernel
theorem d_M_init_143 : decode (yMb m_M_init) 143 = .ok (.newarray .int, 2) := by decide +kernel
theorem d_M_init_145 : decode (yMb m_M_init) 145 = .ok (.putfield 62, 3) := by decide +kernel
theorem d_M_init_148 : decode (yMb m_M_init) 148 = .ok (.aload_n 0, 1) := by decide +kernel
theorem d_M_init_149 : decode (yMb m_M_init) 149 = .ok (.bipush 72, 2) := by decide +kernel
theorem d_M_init_151 : decode (yMb m_M_init) 151 = .ok (.newarray .int, 2) := by decide +kernel
theorem d_M_init_153 : decode (yMb m_M_init) 153 = .ok (.putfield 65, 3) := by decide +kernel
theorem d_M_init_156 : decode (yMb m_M_init) 156 = .ok (.aload_n 0, 1) := by decide +kernel
theorem d_M_init_157 : decode (yMb m_M_init) 157 = .ok (.bipush 36, 2) := by decide +kernel
theorem d_M_init_159 : decode (yMb m_M_init) 159 = .ok (.newarray .int, 2) := by decide +kernel
theorem d_M_init_161 : decode (yMb m_M_init) 161 = .ok (.putfield 68, 3) := by decide +kernel
theorem d_M_init_164 : decode (yMb m_M_init) 164 = .ok (.aload_n 0, 1) := by decide +kernel
theorem d_M_init_165 : decode (yMb m_M_init) 165 = .ok (.bipush 18, 2) := by decide +kernel
theorem d_M_init_167 : decode (yMb m_M_init) 167 = .ok (.newarray .int, 2) := by decide +kernel
theorem d_M_init_169 : decode (yMb m_M_init) 169 = .ok (.putfield 71, 3) := by decide +kernel
theorem d_M_init_172 : decode (yMb m_M_init) 172 = .ok (.aload_n 0, 1) := by decide +kernel
theorem d_M_init_173 : decode (yMb m_M_init) 173 = .ok (.iconst 5, 1) := by decide +kernel
theorem d_M_init_174 : decode (yMb m_M_init) 174 = .ok (.newarray .int, 2) := by decide +kernel
theorem d_M_init_176 : decode (yMb m_M_init) 176 = .ok (.putfield 74, 3) := by decide +kernel
theorem d_M_init_179 : decode (yMb m_M_init) 179 = .ok (.aload_n 0, 1) := by decide +kernel
theorem d_M_init_180 : decode (yMb m_M_init) 180 = .ok (.bipush 6, 2) := by decide +kernel
theorem d_M_init_182 : decode (yMb m_M_init) 182 = .ok (.newarray .boolean, 2) := by decide +kernel
theorem d_M_init_184 : decode (yMb m_M_init) 184 = .ok (.putfield 77, 3) := by decide +kernel
theorem d_M_init_187 : decode (yMb m_M_init) 187 = .ok (.iconst 0, 1) := by decide +kernel
theorem d_M_init_188 : decode (yMb m_M_init) 188 = .ok (.istore_n 1, 1) := by decide +kernel
theorem d_M_init_189 : decode (yMb m_M_init) 189 = .ok (.iload_n 1, 1) := by decide +kernel
theorem d_M_init_190 : decode (yMb m_M_init) 190 = .ok (.bipush 6, 2) := by decide +kernel
theorem d_M_init_192 : decode (yMb m_M_init) 192 = .ok (.if_icmp .ge 23, 3) := by decide +kernel
theorem d_M_init_195 : decode (yMb m_M_init) 195 = .ok (.aload_n 0, 1) := by decide +kernel
theorem d_M_init_196 : decode (yMb m_M_init) 196 = .ok (.getfield 16, 3) := by decide +kernel
theorem d_M_init_199 : decode (yMb m_M_init) 199 = .ok (.iload_n 1, 1) := by decide +kernel
theorem d_M_init_200 : decode (yMb m_M_init) 200 = .ok (.iconst (-1), 1) := by decide +kernel
theorem d_M_init_201 : decode (yMb m_M_init) 201 = .ok (.iastore, 1) := by decide +kernel
theorem d_M_init_202 : decode (yMb m_M_init) 202 = .ok (.aload_n 0, 1) := by decide +kernel
theorem d_M_init_203 : decode (yMb m_M_init) 203 = .ok (.getfield 22, 3) := by decide +kernel
theorem d_M_init_206 : decode (yMb m_M_init) 206 = .ok (.iload_n 1, 1) := by decide +kernel
theorem d_M_init_207 : decode (yMb m_M_init) 207 = .ok (.iconst (-1), 1) := by decide +kernel
theorem d_M_init_208 : decode (yMb m_M_init) 208 = .ok (.iastore, 1) := by decide +kernel
theorem d_M_init_209 : decode (yMb m_M_init) 209 = .ok (.iinc 1 1, 3) := by decide +kernel
theorem d_M_init_212 : decode (yMb m_M_init) 212 = .ok (.goto (-23), 3) := by decide +kernel
theorem d_M_init_215 : decode (yMb m_M_init) 215 = .ok (.return_, 1) := by decide +kernel
theorem d_M_thrown_0 : decode (yMb m_M_thrown) 0 = .ok (.aload_n 0, 1) := by decide +kernel
theorem d_M_thrown_1 : decode (yMb m_M_thrown) 1 = .ok (.getfield 80, 3) := by decide +kernel
theorem d_M_thrown_4 : decode (yMb m_M_thrown) 4 = .ok (.ireturn, 1) := by decide +kernel
theorem d_M_in_0 : decode (yMb m_M_in) 0 = .ok (.iload_n 0, 1) := by decide +kernel
theorem d_M_in_1 : decode (yMb m_M_in) 1 = .ok (.iload_n 1, 1) := by decide +kernel
theorem d_M_in_2 : decode (yMb m_M_in) 2 = .ok (.if_icmp .lt 12, 3) := by decide +kernel
theorem d_M_in_5 : decode (yMb m_M_in) 5 = .ok (.iload_n 0, 1) := by decide +kernel
theorem d_M_in_6 : decode (yMb m_M_in) 6 = .ok (.iload_n 2, 1) := by decide +kernel
theorem d_M_in_7 : decode (yMb m_M_in) 7 = .ok (.if_icmp .gt 7, 3) := by decide +kernel
theorem d_M_in_10 : decode (yMb m_M_in) 10 = .ok (.iconst 1, 1) := by decide +kernel
theorem d_M_in_11 : decode (yMb m_M_in) 11 = .ok (.goto 4, 3) := by decide +kernel
theorem d_M_in_14 : decode (yMb m_M_in) 14 = .ok (.iconst 0, 1) := by decide +kernel
theorem d_M_in_15 : decode (yMb m_M_in) 15 = .ok (.ireturn, 1) := by decide +kernel
theorem d_M_bad_0 : decode (yMb m_M_bad) 0 = .ok (.aload_n 0, 1) := by decide +kernel
theorem d_M_bad_1 : decode (yMb m_M_bad) 1 = .ok (.iload_n 1, 1) := by decide +kernel
theorem d_M_bad_2 : decode (yMb m_M_bad) 2 = .ok (.ifCond .eq 7, 3) := by decide +kernel
theorem d_M_bad_5 : decode (yMb m_M_bad) 5 = .ok (.iconst 0, 1) := by decide +kernel
theorem d_M_bad_6 : decode (yMb m_M_bad) 6 = .ok (.goto 4, 3) := by decide +kernel
theorem d_M_bad_9 : decode (yMb m_M_bad) 9 = .ok (.iconst 1, 1) := by decide +kernel
theorem d_M_bad_10 : decode (yMb m_M_bad) 10 = .ok (.putfield 80, 3) := by decide +kernel
theorem d_M_bad_13 : decode (yMb m_M_bad) 13 = .ok (.iload_n 1, 1) := by decide +kernel
theorem d_M_bad_14 : decode (yMb m_M_bad) 14 = .ok (.ifCond .ne 7, 3) := by decide +kernel
theorem d_M_bad_17 : decode (yMb m_M_bad) 17 = .ok (.iconst 1, 1) := by decide +kernel
theorem d_M_bad_18 : decode (yMb m_M_bad) 18 = .ok (.goto 4, 3) := by decide +kernel
theorem d_M_bad_21 : decode (yMb m_M_bad) 21 = .ok (.iconst 0, 1) := by decide +kernel
theorem d_M_bad_22 : decode (yMb m_M_bad) 22 = .ok (.ireturn, 1) := by decide +kernel
theorem d_M_make_0 : decode (yMb m_M_make) 0 = .ok (.aload_n 0, 1) := by decide +kernel
theorem d_M_make_1 : decode (yMb m_M_make) 1 = .ok (.iload_n 1, 1) := by decide +kernel
theorem d_M_make_2 : decode (yMb m_M_make) 2 = .ok (.iconst 0, 1) := by decide +kernel
theorem d_M_make_3 : decode (yMb m_M_make) 3 = .ok (.iconst 5, 1) := by decide +kernel
theorem d_M_make_4 : decode (yMb m_M_make) 4 = .ok (.invokestatic 84, 3) := by decide +kernel
theorem d_M_make_7 : decode (yMb m_M_make) 7 = .ok (.ifCond .eq 16, 3) := by decide +kernel
theorem d_M_make_10 : decode (yMb m_M_make) 10 = .ok (.iload_n 2, 1) := by decide +kernel
theorem d_M_make_11 : decode (yMb m_M_make) 11 = .ok (.iconst 1, 1) := by decide +kernel
theorem d_M_make_12 : decode (yMb m_M_make) 12 = .ok (.iconst 3, 1) := by decide +kernel
theorem d_M_make_13 : decode (yMb m_M_make) 13 = .ok (.invokestatic 84, 3) := by decide +kernel
theorem d_M_make_16 : decode (yMb m_M_make) 16 = .ok (.ifCond .eq 7, 3) := by decide +kernel
theorem d_M_make_19 : decode (yMb m_M_make) 19 = .ok (.iconst 1, 1) := by decide +kernel
theorem d_M_make_20 : decode (yMb m_M_make) 20 = .ok (.goto 4, 3) := by decide +kernel
theorem d_M_make_23 : decode (yMb m_M_make) 23 = .ok (.iconst 0, 1) := by decide +kernel
theorem d_M_make_24 : decode (yMb m_M_make) 24 = .ok (.invokevirtual 88, 3) := by decide +kernel
theorem d_M_make_27 : decode (yMb m_M_make) 27 = .ok (.ifCond .eq 5, 3) := by decide +kernel
theorem d_M_make_30 : decode (yMb m_M_make) 30 = .ok (.iconst 0, 1) := by decide +kernel
theorem d_M_make_31 : decode (yMb m_M_make) 31 = .ok (.ireturn, 1) := by decide +kernel
theorem d_M_make_32 : decode (yMb m_M_make) 32 = .ok (.aload_n 0, 1) := by decide +kernel
theorem d_M_make_33 : decode (yMb m_M_make) 33 = .ok (.getfield 92, 3) := by decide +kernel
theorem d_M_make_36 : decode (yMb m_M_make) 36 = .ok (.bipush 6, 2) := by decide +kernel
theorem d_M_make_38 : decode (yMb m_M_make) 38 = .ok (.if_icmp .ne 10, 3) := by decide +kernel
theorem d_M_make_41 : decode (yMb m_M_make) 41 = .ok (.aload_n 0, 1) := by decide +kernel
theorem d_M_make_42 : decode (yMb m_M_make) 42 = .ok (.iconst 2, 1) := by decide +kernel
theorem d_M_make_43 : decode (yMb m_M_make) 43 = .ok (.putfield 80, 3) := by decide +kernel
theorem d_M_make_46 : decode (yMb m_M_make) 46 = .ok (.iconst 0, 1) := by decide +kernel
theorem d_M_make_47 : decode (yMb m_M_make) 47 = .ok (.ireturn, 1) := by decide +kernel
theorem d_M_make_48 : decode (yMb m_M_make) 48 = .ok (.aload_n 0, 1) := by decide +kernel
theorem d_M_make_49 : decode (yMb m_M_make) 49 = .ok (.getfield 44, 3) := by decide +kernel
theorem d_M_make_52 : decode (yMb m_M_make) 52 = .ok (.aload_n 0, 1) := by decide +kernel
theorem d_M_make_53 : decode (yMb m_M_make) 53 = .ok (.getfield 92, 3) := by decide +kernel
theorem d_M_make_56 : decode (yMb m_M_make) 56 = .ok (.iload_n 1, 1) := by decide +kernel
theorem d_M_make_57 : decode (yMb m_M_make) 57 = .ok (.iastore, 1) := by decide +kernel
theorem d_M_make_58 : decode (yMb m_M_make) 58 = .ok (.aload_n 0, 1) := by decide +kernel
theorem d_M_make_59 : decode (yMb m_M_make) 59 = .ok (.getfield 47, 3) := by decide +kernel
theorem d_M_make_62 : decode (yMb m_M_make) 62 = .ok (.aload_n 0, 1) := by decide +kernel
theorem d_M_make_63 : decode (yMb m_M_make) 63 = .ok (.getfield 92, 3) := by decide +kernel
theorem d_M_make_66 : decode (yMb m_M_make) 66 = .ok (.iload_n 2, 1) := by decide +kernel
theorem d_M_make_67 : decode (yMb m_M_make) 67 = .ok (.iastore, 1) := by decide +kernel
theorem d_M_make_68 : decode (yMb m_M_make) 68 = .ok (.aload_n 0, 1) := by decide +kernel
theorem d_M_make_69 : decode (yMb m_M_make) 69 = .ok (.getfield 50, 3) := by decide +kernel
theorem d_M_make_72 : decode (yMb m_M_make) 72 = .ok (.aload_n 0, 1) := by decide +kernel
theorem d_M_make_73 : decode (yMb m_M_make) 73 = .ok (.getfield 92, 3) := by decide +kernel
theorem d_M_make_76 : decode (yMb m_M_make) 76 = .ok (.iload_n 1, 1) := by decide +kernel
theorem d_M_make_77 : decode (yMb m_M_make) 77 = .ok (.iconst 2, 1) := by decide +kernel
theorem d_M_make_78 : decode (yMb m_M_make) 78 = .ok (.if_icmp .eq 8, 3) := by decide +kernel
theorem d_M_make_81 : decode (yMb m_M_make) 81 = .ok (.iload_n 1, 1) := by decide +kernel
theorem d_M_make_82 : decode (yMb m_M_make) 82 = .ok (.iconst 3, 1) := by decide +kernel
theorem d_M_make_83 : decode (yMb m_M_make) 83 = .ok (.if_icmp .ne 7, 3) := by decide +kernel
theorem d_M_make_86 : decode (yMb m_M_make) 86 = .ok (.iload_n 2, 1) := by decide +kernel
theorem d_M_make_87 : decode (yMb m_M_make) 87 = .ok (.goto 4, 3) := by decide +kernel
theorem d_M_make_90 : decode (yMb m_M_make) 90 = .ok (.iconst 0, 1) := by decide +kernel
theorem d_M_make_91 : decode (yMb m_M_make) 91 = .ok (.iastore, 1) := by decide +kernel
theorem d_M_make_92 : decode (yMb m_M_make) 92 = .ok (.aload_n 0, 1) := by decide +kernel
theorem d_M_make_93 : decode (yMb m_M_make) 93 = .ok (.getfield 53, 3) := by decide +kernel
theorem d_M_make_96 : decode (yMb m_M_make) 96 = .ok (.aload_n 0, 1) := by decide +kernel
theorem d_M_make_97 : decode (yMb m_M_make) 97 = .ok (.getfield 92, 3) := by decide +kernel
theorem d_M_make_100 : decode (yMb m_M_make) 100 = .ok (.iconst (-1), 1) := by decide +kernel
theorem d_M_make_101 : decode (yMb m_M_make) 101 = .ok (.iastore, 1) := by decide +kernel
theorem d_M_make_102 : decode (yMb m_M_make) 102 = .ok (.aload_n 0, 1) := by decide +kernel
theorem d_M_make_103 : decode (yMb m_M_make) 103 = .ok (.dup, 1) := by decide +kernel
theorem d_M_make_104 : decode (yMb m_M_make) 104 = .ok (.getfield 92, 3) := by decide +kernel
theorem d_M_make_107 : decode (yMb m_M_make) 107 = .ok (.iconst 1, 1) := by decide +kernel
theorem d_M_make_108 : decode (yMb m_M_make) 108 = .ok (.iadd, 1) := by decide +kernel
theorem d_M_make_109 : decode (yMb m_M_make) 109 = .ok (.putfield 92, 3) := by decide +kernel
theorem d_M_make_112 : decode (yMb m_M_make) 112 = .ok (.aload_n 0, 1) := by decide +kernel
theorem d_M_make_113 : decode (yMb m_M_make) 113 = .ok (.getfield 92, 3) := by decide +kernel
theorem d_M_make_116 : decode (yMb m_M_make) 116 = .ok (.iconst 1, 1) := by decide +kernel
theorem d_M_make_117 : decode (yMb m_M_make) 117 = .ok (.isub, 1) := by decide +kernel
theorem d_M_make_118 : decode (yMb m_M_make) 118 = .ok (.ireturn, 1) := by decide +kernel
theorem d_M_end_0 : decode (yMb m_M_end) 0 = .ok (.aload_n 0, 1) := by decide +kernel
theorem d_M_end_1 : decode (yMb m_M_end) 1 = .ok (.getfield 7, 3) := by decide +kernel
theorem d_M_end_4 : decode (yMb m_M_end) 4 = .ok (.iload_n 1, 1) := by decide +kernel
theorem d_M_end_5 : decode (yMb m_M_end) 5 = .ok (.iconst 0, 1) := by decide +kernel
theorem d_M_end_6 : decode (yMb m_M_end) 6 = .ok (.iastore, 1) := by decide +kernel
theorem d_M_end_7 : decode (yMb m_M_end) 7 = .ok (.aload_n 0, 1) := by decide +kernel
theorem d_M_end_8 : decode (yMb m_M_end) 8 = .ok (.getfield 13, 3) := by decide +kernel
theorem d_M_end_11 : decode (yMb m_M_end) 11 = .ok (.iload_n 1, 1) := by decide +kernel
theorem d_M_end_12 : decode (yMb m_M_end) 12 = .ok (.iload_n 2, 1) := by decide +kernel
theorem d_M_end_13 : decode (yMb m_M_end) 13 = .ok (.iastore, 1) := by decide +kernel
theorem d_M_end_14 : decode (yMb m_M_end) 14 = .ok (.aload_n 0, 1) := by decide +kernel
theorem d_M_end_15 : decode (yMb m_M_end) 15 = .ok (.getfield 16, 3) := by decide +kernel
theorem d_M_end_18 : decode (yMb m_M_end) 18 = .ok (.iload_n 1, 1) := by decide +kernel
theorem d_M_end_19 : decode (yMb m_M_end) 19 = .ok (.iconst (-1), 1) := by decide +kernel
theorem d_M_end_20 : decode (yMb m_M_end) 20 = .ok (.iastore, 1) := by decide +kernel
theorem d_M_end_21 : decode (yMb m_M_end) 21 = .ok (.aload_n 0, 1) := by decide +kernel
theorem d_M_end_22 : decode (yMb m_M_end) 22 = .ok (.getfield 22, 3) := by decide +kernel
theorem d_M_end_25 : decode (yMb m_M_end) 25 = .ok (.iload_n 1, 1) := by decide +kernel
theorem d_M_end_26 : decode (yMb m_M_end) 26 = .ok (.iconst (-1), 1) := by decide +kernel
theorem d_M_end_27 : decode (yMb m_M_end) 27 = .ok (.iastore, 1) := by decide +kernel
theorem d_M_end_28 : decode (yMb m_M_end) 28 = .ok (.aload_n 0, 1) := by decide +kernel
theorem d_M_end_29 : decode (yMb m_M_end) 29 = .ok (.getfield 41, 3) := by decide +kernel
theorem d_M_end_32 : decode (yMb m_M_end) 32 = .ok (.iload_n 1, 1) := by decide +kernel
theorem d_M_end_33 : decode (yMb m_M_end) 33 = .ok (.iconst 0, 1) := by decide +kernel
theorem d_M_end_34 : decode (yMb m_M_end) 34 = .ok (.bastore, 1) := by decide +kernel
theorem d_M_end_35 : decode (yMb m_M_end) 35 = .ok (.aload_n 0, 1) := by decide +kernel
theorem d_M_end_36 : decode (yMb m_M_end) 36 = .ok (.getfield 74, 3) := by decide +kernel
theorem d_M_end_39 : decode (yMb m_M_end) 39 = .ok (.iload_n 2, 1) := by decide +kernel
theorem d_M_end_40 : decode (yMb m_M_end) 40 = .ok (.dup2, 1) := by decide +kernel
theorem d_M_end_41 : decode (yMb m_M_end) 41 = .ok (.iaload, 1) := by decide +kernel
theorem d_M_end_42 : decode (yMb m_M_end) 42 = .ok (.iconst 1, 1) := by decide +kernel
theorem d_M_end_43 : decode (yMb m_M_end) 43 = .ok (.iadd, 1) := by decide +kernel
theorem d_M_end_44 : decode (yMb m_M_end) 44 = .ok (.iastore, 1) := by decide +kernel
theorem d_M_end_45 : decode (yMb m_M_end) 45 = .ok (.iload_n 2, 1) := by decide +kernel
theorem d_M_end_46 : decode (yMb m_M_end) 46 = .ok (.ireturn, 1) := by decide +kernel
theorem d_M_remove_0 : decode (yMb m_M_remove) 0 = .ok (.iconst 0, 1) := by decide +kernel
theorem d_M_remove_1 : decode (yMb m_M_remove) 1 = .ok (.istore 6, 2) := by decide +kernel
theorem d_M_remove_3 : decode (yMb m_M_remove) 3 = .ok (.aload_n 1, 1) := by decide +kernel
theorem d_M_remove_4 : decode (yMb m_M_remove) 4 = .ok (.iload_n 2, 1) := by decide +kernel
theorem d_M_remove_5 : decode (yMb m_M_remove) 5 = .ok (.iload 6, 2) := by decide +kernel
theorem d_M_remove_7 : decode (yMb m_M_remove) 7 = .ok (.iadd, 1) := by decide +kernel
theorem d_M_remove_8 : decode (yMb m_M_remove) 8 = .ok (.iaload, 1) := by decide +kernel
theorem d_M_remove_9 : decode (yMb m_M_remove) 9 = .ok (.iload 5, 2) := by decide +kernel
theorem d_M_remove_11 : decode (yMb m_M_remove) 11 = .ok (.if_icmp .eq 9, 3) := by decide +kernel
theorem d_M_remove_14 : decode (yMb m_M_remove) 14 = .ok (.iinc 6 1, 3) := by decide +kernel
theorem d_M_remove_17 : decode (yMb m_M_remove) 17 = .ok (.goto (-14), 3) := by decide +kernel
theorem d_M_remove_20 : decode (yMb m_M_remove) 20 = .ok (.aload_n 3, 1) := by decide +kernel
theorem d_M_remove_21 : decode (yMb m_M_remove) 21 = .ok (.iload 4, 2) := by decide +kernel
theorem d_M_remove_23 : decode (yMb m_M_remove) 23 = .ok (.dup2, 1) := by decide +kernel
theorem d_M_remove_24 : decode (yMb m_M_remove) 24 = .ok (.iaload, 1) := by decide +kernel
theorem d_M_remove_25 : decode (yMb m_M_remove) 25 = .ok (.iconst 1, 1) := by decide +kernel
theorem d_M_remove_26 : decode (yMb m_M_remove) 26 = .ok (.isub, 1) := by decide +kernel
theorem d_M_remove_27 : decode (yMb m_M_remove) 27 = .ok (.iastore, 1) := by decide +kernel
theorem d_M_remove_28 : decode (yMb m_M_remove) 28 = .ok (.iload 6, 2) := by decide +kernel
theorem d_M_remove_30 : decode (yMb m_M_remove) 30 = .ok (.istore 7, 2) := by decide +kernel
theorem d_M_remove_32 : decode (yMb m_M_remove) 32 = .ok (.iload 7, 2) := by decide +kernel
theorem d_M_remove_34 : decode (yMb m_M_remove) 34 = .ok (.aload_n 3, 1) := by decide +kernel
theorem d_M_remove_35 : decode (yMb m_M_remove) 35 = .ok (.iload 4, 2) := by decide +kernel
theorem d_M_remove_37 : decode (yMb m_M_remove) 37 = .ok (.iaload, 1) := by decide +kernel
theorem d_M_remove_38 : decode (yMb m_M_remove) 38 = .ok (.if_icmp .ge 23, 3) := by decide +kernel
theorem d_M_remove_41 : decode (yMb m_M_remove) 41 = .ok (.aload_n 1, 1) := by decide +kernel
theorem d_M_remove_42 : decode (yMb m_M_remove) 42 = .ok (.iload_n 2, 1) := by decide +kernel
theorem d_M_remove_43 : decode (yMb m_M_remove) 43 = .ok (.iload 7, 2) := by decide +kernel
theorem d_M_remove_45 : decode (yMb m_M_remove) 45 = .ok (.iadd, 1) := by decide +kernel
theorem d_M_remove_46 : decode (yMb m_M_remove) 46 = .ok (.aload_n 1, 1) := by decide +kernel
theorem d_M_remove_47 : decode (yMb m_M_remove) 47 = .ok (.iload_n 2, 1) := by decide +kernel
theorem d_M_remove_48 : decode (yMb m_M_remove) 48 = .ok (.iload 7, 2) := by decide +kernel
theorem d_M_remove_50 : decode (yMb m_M_remove) 50 = .ok (.iadd, 1) := by decide +kernel
theorem d_M_remove_51 : decode (yMb m_M_remove) 51 = .ok (.iconst 1, 1) := by decide +kernel
theorem d_M_remove_52 : decode (yMb m_M_remove) 52 = .ok (.iadd, 1) := by decide +kernel
theorem d_M_remove_53 : decode (yMb m_M_remove) 53 = .ok (.iaload, 1) := by decide +kernel
theorem d_M_remove_54 : decode (yMb m_M_remove) 54 = .ok (.iastore, 1) := by decide +kernel
theorem d_M_remove_55 : decode (yMb m_M_remove) 55 = .ok (.iinc 7 1, 3) := by decide +kernel
theorem d_M_remove_58 : decode (yMb m_M_remove) 58 = .ok (.goto (-26), 3) := by decide +kernel
theorem d_M_remove_61 : decode (yMb m_M_remove) 61 = .ok (.return_, 1) := by decide +kernel
theorem d_M_enter_0 : decode (yMb m_M_enter) 0 = .ok (.aload_n 0, 1) := by decide +kernel
theorem d_M_enter_1 : decode (yMb m_M_enter) 1 = .ok (.getfield 59, 3) := by decide +kernel
theorem d_M_enter_4 : decode (yMb m_M_enter) 4 = .ok (.iload_n 2, 1) := by decide +kernel
theorem d_M_enter_5 : decode (yMb m_M_enter) 5 = .ok (.bipush 6, 2) := by decide +kernel
theorem d_M_enter_7 : decode (yMb m_M_enter) 7 = .ok (.imul, 1) := by decide +kernel
theorem d_M_enter_8 : decode (yMb m_M_enter) 8 = .ok (.aload_n 0, 1) := by decide +kernel
theorem d_M_enter_9 : decode (yMb m_M_enter) 9 = .ok (.getfield 56, 3) := by decide +kernel
theorem d_M_enter_12 : decode (yMb m_M_enter) 12 = .ok (.iload_n 2, 1) := by decide +kernel
theorem d_M_enter_13 : decode (yMb m_M_enter) 13 = .ok (.iaload, 1) := by decide +kernel
theorem d_M_enter_14 : decode (yMb m_M_enter) 14 = .ok (.iadd, 1) := by decide +kernel
theorem d_M_enter_15 : decode (yMb m_M_enter) 15 = .ok (.iload_n 1, 1) := by decide +kernel
theorem d_M_enter_16 : decode (yMb m_M_enter) 16 = .ok (.iastore, 1) := by decide +kernel
theorem d_M_enter_17 : decode (yMb m_M_enter) 17 = .ok (.aload_n 0, 1) := by decide +kernel
theorem d_M_enter_18 : decode (yMb m_M_enter) 18 = .ok (.getfield 56, 3) := by decide +kernel
theorem d_M_enter_21 : decode (yMb m_M_enter) 21 = .ok (.iload_n 2, 1) := by decide +kernel
theorem d_M_enter_22 : decode (yMb m_M_enter) 22 = .ok (.dup2, 1) := by decide +kernel
theorem d_M_enter_23 : decode (yMb m_M_enter) 23 = .ok (.iaload, 1) := by decide +kernel
theorem d_M_enter_24 : decode (yMb m_M_enter) 24 = .ok (.iconst 1, 1) := by decide +kernel
theorem d_M_enter_25 : decode (yMb m_M_enter) 25 = .ok (.iadd, 1) := by decide +kernel
theorem d_M_enter_26 : decode (yMb m_M_enter) 26 = .ok (.iastore, 1) := by decide +kernel
theorem d_M_enter_27 : decode (yMb m_M_enter) 27 = .ok (.aload_n 0, 1) := by decide +kernel
theorem d_M_enter_28 : decode (yMb m_M_enter) 28 = .ok (.getfield 7, 3) := by decide +kernel
theorem d_M_enter_31 : decode (yMb m_M_enter) 31 = .ok (.iload_n 1, 1) := by decide +kernel
theorem d_M_enter_32 : decode (yMb m_M_enter) 32 = .ok (.iconst 1, 1) := by decide +kernel
theorem d_M_enter_33 : decode (yMb m_M_enter) 33 = .ok (.iastore, 1) := by decide +kernel
theorem d_M_enter_34 : decode (yMb m_M_enter) 34 = .ok (.aload_n 0, 1) := by decide +kernel
theorem d_M_enter_35 : decode (yMb m_M_enter) 35 = .ok (.getfield 16, 3) := by decide +kernel
theorem d_M_enter_38 : decode (yMb m_M_enter) 38 = .ok (.iload_n 1, 1) := by decide +kernel
theorem d_M_enter_39 : decode (yMb m_M_enter) 39 = .ok (.iload_n 2, 1) := by decide +kernel
theorem d_M_enter_40 : decode (yMb m_M_enter) 40 = .ok (.iastore, 1) := by decide +kernel
theorem d_M_enter_41 : decode (yMb m_M_enter) 41 = .ok (.return_, 1) := by decide +kernel
theorem d_M_readers_0 : decode (yMb m_M_readers) 0 = .ok (.iconst 0, 1) := by decide +kernel
theorem d_M_readers_1 : decode (yMb m_M_readers) 1 = .ok (.istore_n 3, 1) := by decide +kernel
theorem d_M_readers_2 : decode (yMb m_M_readers) 2 = .ok (.iconst 0, 1) := by decide +kernel
theorem d_M_readers_3 : decode (yMb m_M_readers) 3 = .ok (.istore 4, 2) := by decide +kernel
theorem d_M_readers_5 : decode (yMb m_M_readers) 5 = .ok (.iload 4, 2) := by decide +kernel
theorem d_M_readers_7 : decode (yMb m_M_readers) 7 = .ok (.bipush 6, 2) := by decide +kernel
theorem d_M_readers_9 : decode (yMb m_M_readers) 9 = .ok (.if_icmp .ge 30, 3) := by decide +kernel
theorem d_M_readers_12 : decode (yMb m_M_readers) 12 = .ok (.iload 4, 2) := by decide +kernel
theorem d_M_readers_14 : decode (yMb m_M_readers) 14 = .ok (.iload_n 2, 1) := by decide +kernel
theorem d_M_readers_15 : decode (yMb m_M_readers) 15 = .ok (.if_icmp .eq 18, 3) := by decide +kernel
theorem d_M_readers_18 : decode (yMb m_M_readers) 18 = .ok (.iload_n 3, 1) := by decide +kernel
theorem d_M_readers_19 : decode (yMb m_M_readers) 19 = .ok (.aload_n 0, 1) := by decide +kernel
theorem d_M_readers_20 : decode (yMb m_M_readers) 20 = .ok (.getfield 68, 3) := by decide +kernel
theorem d_M_readers_23 : decode (yMb m_M_readers) 23 = .ok (.iload_n 1, 1) := by decide +kernel
theorem d_M_readers_24 : decode (yMb m_M_readers) 24 = .ok (.bipush 6, 2) := by decide +kernel
theorem d_M_readers_26 : decode (yMb m_M_readers) 26 = .ok (.imul, 1) := by decide +kernel
theorem d_M_readers_27 : decode (yMb m_M_readers) 27 = .ok (.iload 4, 2) := by decide +kernel
theorem d_M_readers_29 : decode (yMb m_M_readers) 29 = .ok (.iadd, 1) := by decide +kernel
theorem d_M_readers_30 : decode (yMb m_M_readers) 30 = .ok (.iaload, 1) := by decide +kernel
theorem d_M_readers_31 : decode (yMb m_M_readers) 31 = .ok (.iadd, 1) := by decide +kernel
theorem d_M_readers_32 : decode (yMb m_M_readers) 32 = .ok (.istore_n 3, 1) := by decide +kernel
theorem d_M_readers_33 : decode (yMb m_M_readers) 33 = .ok (.iinc 4 1, 3) := by decide +kernel
theorem d_M_readers_36 : decode (yMb m_M_readers) 36 = .ok (.goto (-31), 3) := by decide +kernel
theorem d_M_readers_39 : decode (yMb m_M_readers) 39 = .ok (.iload_n 3, 1) := by decide +kernel
theorem d_M_readers_40 : decode (yMb m_M_readers) 40 = .ok (.ireturn, 1) := by decide +kernel
theorem d_M_can_0 : decode (yMb m_M_can) 0 = .ok (.iload_n 3, 1) := by decide +kernel
theorem d_M_can_1 : decode (yMb m_M_can) 1 = .ok (.tableswitch 239 0 16 #[83, 239, 239, 239, 239, 108, 239, 133, 239, 167, 239, 188, 239, 239, 239, 203, 224], 83) := by decide +kernel
theorem d_M_can_84 : decode (yMb m_M_can) 84 = .ok (.aload_n 0, 1) := by decide +kernel
theorem d_M_can_85 : decode (yMb m_M_can) 85 = .ok (.getfield 53, 3) := by decide +kernel
theorem d_M_can_88 : decode (yMb m_M_can) 88 = .ok (.iload_n 2, 1) := by decide +kernel
theorem d_M_can_89 : decode (yMb m_M_can) 89 = .ok (.iaload, 1) := by decide +kernel
theorem d_M_can_90 : decode (yMb m_M_can) 90 = .ok (.ifCond .lt 13, 3) := by decide +kernel
theorem d_M_can_93 : decode (yMb m_M_can) 93 = .ok (.aload_n 0, 1) := by decide +kernel
theorem d_M_can_94 : decode (yMb m_M_can) 94 = .ok (.getfield 53, 3) := by decide +kernel
theorem d_M_can_97 : decode (yMb m_M_can) 97 = .ok (.iload_n 2, 1) := by decide +kernel
theorem d_M_can_98 : decode (yMb m_M_can) 98 = .ok (.iaload, 1) := by decide +kernel
theorem d_M_can_99 : decode (yMb m_M_can) 99 = .ok (.iload_n 1, 1) := by decide +kernel
theorem d_M_can_100 : decode (yMb m_M_can) 100 = .ok (.if_icmp .ne 7, 3) := by decide +kernel
theorem d_M_can_103 : decode (yMb m_M_can) 103 = .ok (.iconst 1, 1) := by decide +kernel
theorem d_M_can_104 : decode (yMb m_M_can) 104 = .ok (.goto 4, 3) := by decide +kernel
theorem d_M_can_107 : decode (yMb m_M_can) 107 = .ok (.iconst 0, 1) := by decide +kernel
theorem d_M_can_108 : decode (yMb m_M_can) 108 = .ok (.ireturn, 1) := by decide +kernel
theorem d_M_can_109 : decode (yMb m_M_can) 109 = .ok (.aload_n 0, 1) := by decide +kernel
theorem d_M_can_110 : decode (yMb m_M_can) 110 = .ok (.getfield 53, 3) := by decide +kernel
theorem d_M_can_113 : decode (yMb m_M_can) 113 = .ok (.iload_n 2, 1) := by decide +kernel
theorem d_M_can_114 : decode (yMb m_M_can) 114 = .ok (.iaload, 1) := by decide +kernel
theorem d_M_can_115 : decode (yMb m_M_can) 115 = .ok (.ifCond .lt 13, 3) := by decide +kernel
theorem d_M_can_118 : decode (yMb m_M_can) 118 = .ok (.aload_n 0, 1) := by decide +kernel
theorem d_M_can_119 : decode (yMb m_M_can) 119 = .ok (.getfield 53, 3) := by decide +kernel
theorem d_M_can_122 : decode (yMb m_M_can) 122 = .ok (.iload_n 2, 1) := by decide +kernel
theorem d_M_can_123 : decode (yMb m_M_can) 123 = .ok (.iaload, 1) := by decide +kernel
theorem d_M_can_124 : decode (yMb m_M_can) 124 = .ok (.iload_n 1, 1) := by decide +kernel
theorem d_M_can_125 : decode (yMb m_M_can) 125 = .ok (.if_icmp .ne 7, 3) := by decide +kernel
theorem d_M_can_128 : decode (yMb m_M_can) 128 = .ok (.iconst 1, 1) := by decide +kernel
theorem d_M_can_129 : decode (yMb m_M_can) 129 = .ok (.goto 4, 3) := by decide +kernel
theorem d_M_can_132 : decode (yMb m_M_can) 132 = .ok (.iconst 0, 1) := by decide +kernel
theorem d_M_can_133 : decode (yMb m_M_can) 133 = .ok (.ireturn, 1) := by decide +kernel
theorem d_M_can_134 : decode (yMb m_M_can) 134 = .ok (.aload_n 0, 1) := by decide +kernel
theorem d_M_can_135 : decode (yMb m_M_can) 135 = .ok (.getfield 53, 3) := by decide +kernel
theorem d_M_can_138 : decode (yMb m_M_can) 138 = .ok (.iload_n 2, 1) := by decide +kernel
theorem d_M_can_139 : decode (yMb m_M_can) 139 = .ok (.iaload, 1) := by decide +kernel
theorem d_M_can_140 : decode (yMb m_M_can) 140 = .ok (.ifCond .lt 13, 3) := by decide +kernel
theorem d_M_can_143 : decode (yMb m_M_can) 143 = .ok (.aload_n 0, 1) := by decide +kernel
theorem d_M_can_144 : decode (yMb m_M_can) 144 = .ok (.getfield 53, 3) := by decide +kernel
theorem d_M_can_147 : decode (yMb m_M_can) 147 = .ok (.iload_n 2, 1) := by decide +kernel
theorem d_M_can_148 : decode (yMb m_M_can) 148 = .ok (.iaload, 1) := by decide +kernel
theorem d_M_can_149 : decode (yMb m_M_can) 149 = .ok (.iload_n 1, 1) := by decide +kernel
theorem d_M_can_150 : decode (yMb m_M_can) 150 = .ok (.if_icmp .ne 16, 3) := by decide +kernel
theorem d_M_can_153 : decode (yMb m_M_can) 153 = .ok (.aload_n 0, 1) := by decide +kernel
theorem d_M_can_154 : decode (yMb m_M_can) 154 = .ok (.iload_n 2, 1) := by decide +kernel
theorem d_M_can_155 : decode (yMb m_M_can) 155 = .ok (.iload_n 1, 1) := by decide +kernel
theorem d_M_can_156 : decode (yMb m_M_can) 156 = .ok (.invokevirtual 95, 3) := by decide +kernel
theorem d_M_can_159 : decode (yMb m_M_can) 159 = .ok (.ifCond .ne 7, 3) := by decide +kernel
theorem d_M_can_162 : decode (yMb m_M_can) 162 = .ok (.iconst 1, 1) := by decide +kernel
theorem d_M_can_163 : decode (yMb m_M_can) 163 = .ok (.goto 4, 3) := by decide +kernel
theorem d_M_can_166 : decode (yMb m_M_can) 166 = .ok (.iconst 0, 1) := by decide +kernel
theorem d_M_can_167 : decode (yMb m_M_can) 167 = .ok (.ireturn, 1) := by decide +kernel
theorem d_M_can_168 : decode (yMb m_M_can) 168 = .ok (.aload_n 0, 1) := by decide +kernel
theorem d_M_can_169 : decode (yMb m_M_can) 169 = .ok (.getfield 50, 3) := by decide +kernel
theorem d_M_can_172 : decode (yMb m_M_can) 172 = .ok (.iload_n 2, 1) := by decide +kernel
theorem d_M_can_173 : decode (yMb m_M_can) 173 = .ok (.iaload, 1) := by decide +kernel
theorem d_M_can_174 : decode (yMb m_M_can) 174 = .ok (.aload_n 0, 1) := by decide +kernel
theorem d_M_can_175 : decode (yMb m_M_can) 175 = .ok (.getfield 28, 3) := by decide +kernel
theorem d_M_can_178 : decode (yMb m_M_can) 178 = .ok (.iload_n 1, 1) := by decide +kernel
theorem d_M_can_179 : decode (yMb m_M_can) 179 = .ok (.iaload, 1) := by decide +kernel
theorem d_M_can_180 : decode (yMb m_M_can) 180 = .ok (.if_icmp .lt 7, 3) := by decide +kernel
theorem d_M_can_183 : decode (yMb m_M_can) 183 = .ok (.iconst 1, 1) := by decide +kernel
theorem d_M_can_184 : decode (yMb m_M_can) 184 = .ok (.goto 4, 3) := by decide +kernel
theorem d_M_can_187 : decode (yMb m_M_can) 187 = .ok (.iconst 0, 1) := by decide +kernel
theorem d_M_can_188 : decode (yMb m_M_can) 188 = .ok (.ireturn, 1) := by decide +kernel
theorem d_M_can_189 : decode (yMb m_M_can) 189 = .ok (.aload_n 0, 1) := by decide +kernel
theorem d_M_can_190 : decode (yMb m_M_can) 190 = .ok (.getfield 50, 3) := by decide +kernel
theorem d_M_can_193 : decode (yMb m_M_can) 193 = .ok (.iload_n 2, 1) := by decide +kernel
theorem d_M_can_194 : decode (yMb m_M_can) 194 = .ok (.iaload, 1) := by decide +kernel
theorem d_M_can_195 : decode (yMb m_M_can) 195 = .ok (.ifCond .ne 7, 3) := by decide +kernel
theorem d_M_can_198 : decode (yMb m_M_can) 198 = .ok (.iconst 1, 1) := by decide +kernel
theorem d_M_can_199 : decode (yMb m_M_can) 199 = .ok (.goto 4, 3) := by decide +kernel
theorem d_M_can_202 : decode (yMb m_M_can) 202 = .ok (.iconst 0, 1) := by decide +kernel
theorem d_M_can_203 : decode (yMb m_M_can) 203 = .ok (.ireturn, 1) := by decide +kernel
theorem d_M_can_204 : decode (yMb m_M_can) 204 = .ok (.aload_n 0, 1) := by decide +kernel
theorem d_M_can_205 : decode (yMb m_M_can) 205 = .ok (.getfield 50, 3) := by decide +kernel
theorem d_M_can_208 : decode (yMb m_M_can) 208 = .ok (.iload_n 2, 1) := by decide +kernel
theorem d_M_can_209 : decode (yMb m_M_can) 209 = .ok (.iaload, 1) := by decide +kernel
theorem d_M_can_210 : decode (yMb m_M_can) 210 = .ok (.aload_n 0, 1) := by decide +kernel
theorem d_M_can_211 : decode (yMb m_M_can) 211 = .ok (.getfield 47, 3) := by decide +kernel
theorem d_M_can_214 : decode (yMb m_M_can) 214 = .ok (.iload_n 2, 1) := by decide +kernel
theorem d_M_can_215 : decode (yMb m_M_can) 215 = .ok (.iaload, 1) := by decide +kernel
theorem d_M_can_216 : decode (yMb m_M_can) 216 = .ok (.if_icmp .ge 7, 3) := by decide +kernel
theorem d_M_can_219 : decode (yMb m_M_can) 219 = .ok (.iconst 1, 1) := by decide +kernel
theorem d_M_can_220 : decode (yMb m_M_can) 220 = .ok (.goto 4, 3) := by decide +kernel
theorem d_M_can_223 : decode (yMb m_M_can) 223 = .ok (.iconst 0, 1) := by decide +kernel
theorem d_M_can_224 : decode (yMb m_M_can) 224 = .ok (.ireturn, 1) := by decide +kernel
theorem d_M_can_225 : decode (yMb m_M_can) 225 = .ok (.aload_n 0, 1) := by decide +kernel
theorem d_M_can_226 : decode (yMb m_M_can) 226 = .ok (.getfield 50, 3) := by decide +kernel
theorem d_M_can_229 : decode (yMb m_M_can) 229 = .ok (.iload_n 2, 1) := by decide +kernel
theorem d_M_can_230 : decode (yMb m_M_can) 230 = .ok (.iaload, 1) := by decide +kernel
theorem d_M_can_231 : decode (yMb m_M_can) 231 = .ok (.ifCond .le 7, 3) := by decide +kernel
theorem d_M_can_234 : decode (yMb m_M_can) 234 = .ok (.iconst 1, 1) := by decide +kernel
theorem d_M_can_235 : decode (yMb m_M_can) 235 = .ok (.goto 4, 3) := by decide +kernel
theorem d_M_can_238 : decode (yMb m_M_can) 238 = .ok (.iconst 0, 1) := by decide +kernel
theorem d_M_can_239 : decode (yMb m_M_can) 239 = .ok (.ireturn, 1) := by decide +kernel
theorem d_M_can_240 : decode (yMb m_M_can) 240 = .ok (.iconst 0, 1) := by decide +kernel
theorem d_M_can_241 : decode (yMb m_M_can) 241 = .ok (.ireturn, 1) := by decide +kernel
theorem d_M_grant_0 : decode (yMb m_M_grant) 0 = .ok (.iload_n 3, 1) := by decide +kernel
theorem d_M_grant_1 : decode (yMb m_M_grant) 1 = .ok (.ifCond .eq 9, 3) := by decide +kernel
theorem d_M_grant_4 : decode (yMb m_M_grant) 4 = .ok (.iload_n 3, 1) := by decide +kernel
theorem d_M_grant_5 : decode (yMb m_M_grant) 5 = .ok (.bipush 7, 2) := by decide +kernel
theorem d_M_grant_7 : decode (yMb m_M_grant) 7 = .ok (.if_icmp .ne 38, 3) := by decide +kernel
theorem d_M_grant_10 : decode (yMb m_M_grant) 10 = .ok (.aload_n 0, 1) := by decide +kernel
theorem d_M_grant_11 : decode (yMb m_M_grant) 11 = .ok (.getfield 53, 3) := by decide +kernel
theorem d_M_grant_14 : decode (yMb m_M_grant) 14 = .ok (.iload_n 2, 1) := by decide +kernel
theorem d_M_grant_15 : decode (yMb m_M_grant) 15 = .ok (.iload_n 1, 1) := by decide +kernel
theorem d_M_grant_16 : decode (yMb m_M_grant) 16 = .ok (.iastore, 1) := by decide +kernel
theorem d_M_grant_17 : decode (yMb m_M_grant) 17 = .ok (.aload_n 0, 1) := by decide +kernel
theorem d_M_grant_18 : decode (yMb m_M_grant) 18 = .ok (.getfield 50, 3) := by decide +kernel
theorem d_M_grant_21 : decode (yMb m_M_grant) 21 = .ok (.iload_n 2, 1) := by decide +kernel
theorem d_M_grant_22 : decode (yMb m_M_grant) 22 = .ok (.dup2, 1) := by decide +kernel
theorem d_M_grant_23 : decode (yMb m_M_grant) 23 = .ok (.iaload, 1) := by decide +kernel
theorem d_M_grant_24 : decode (yMb m_M_grant) 24 = .ok (.aload_n 0, 1) := by decide +kernel
theorem d_M_grant_25 : decode (yMb m_M_grant) 25 = .ok (.getfield 41, 3) := by decide +kernel
theorem d_M_grant_28 : decode (yMb m_M_grant) 28 = .ok (.iload_n 1, 1) := by decide +kernel
theorem d_M_grant_29 : decode (yMb m_M_grant) 29 = .ok (.baload, 1) := by decide +kernel
theorem d_M_grant_30 : decode (yMb m_M_grant) 30 = .ok (.ifCond .eq 12, 3) := by decide +kernel
theorem d_M_grant_33 : decode (yMb m_M_grant) 33 = .ok (.aload_n 0, 1) := by decide +kernel
theorem d_M_grant_34 : decode (yMb m_M_grant) 34 = .ok (.getfield 31, 3) := by decide +kernel
theorem d_M_grant_37 : decode (yMb m_M_grant) 37 = .ok (.iload_n 1, 1) := by decide +kernel
theorem d_M_grant_38 : decode (yMb m_M_grant) 38 = .ok (.iaload, 1) := by decide +kernel
theorem d_M_grant_39 : decode (yMb m_M_grant) 39 = .ok (.goto 4, 3) := by decide +kernel
theorem d_M_grant_42 : decode (yMb m_M_grant) 42 = .ok (.iconst 1, 1) := by decide +kernel
theorem d_M_grant_43 : decode (yMb m_M_grant) 43 = .ok (.iadd, 1) := by decide +kernel
theorem d_M_grant_44 : decode (yMb m_M_grant) 44 = .ok (.iastore, 1) := by decide +kernel
theorem d_M_grant_45 : decode (yMb m_M_grant) 45 = .ok (.iload_n 3, 1) := by decide +kernel
theorem d_M_grant_46 : decode (yMb m_M_grant) 46 = .ok (.iconst 5, 1) := by decide +kernel
theorem d_M_grant_47 : decode (yMb m_M_grant) 47 = .ok (.if_icmp .ne 18, 3) := by decide +kernel
theorem d_M_grant_50 : decode (yMb m_M_grant) 50 = .ok (.aload_n 0, 1) := by decide +kernel
theorem d_M_grant_51 : decode (yMb m_M_grant) 51 = .ok (.getfield 68, 3) := by decide +kernel
theorem d_M_grant_54 : decode (yMb m_M_grant) 54 = .ok (.iload_n 2, 1) := by decide +kernel
theorem d_M_grant_55 : decode (yMb m_M_grant) 55 = .ok (.bipush 6, 2) := by decide +kernel
theorem d_M_grant_57 : decode (yMb m_M_grant) 57 = .ok (.imul, 1) := by decide +kernel
theorem d_M_grant_58 : decode (yMb m_M_grant) 58 = .ok (.iload_n 1, 1) := by decide +kernel
theorem d_M_grant_59 : decode (yMb m_M_grant) 59 = .ok (.iadd, 1) := by decide +kernel
theorem d_M_grant_60 : decode (yMb m_M_grant) 60 = .ok (.dup2, 1) := by decide +kernel
theorem d_M_grant_61 : decode (yMb m_M_grant) 61 = .ok (.iaload, 1) := by decide +kernel
theorem d_M_grant_62 : decode (yMb m_M_grant) 62 = .ok (.iconst 1, 1) := by decide +kernel
theorem d_M_grant_63 : decode (yMb m_M_grant) 63 = .ok (.iadd, 1) := by decide +kernel
theorem d_M_grant_64 : decode (yMb m_M_grant) 64 = .ok (.iastore, 1) := by decide +kernel
theorem d_M_grant_65 : decode (yMb m_M_grant) 65 = .ok (.iload_n 3, 1) := by decide +kernel
theorem d_M_grant_66 : decode (yMb m_M_grant) 66 = .ok (.bipush 9, 2) := by decide +kernel
theorem d_M_grant_68 : decode (yMb m_M_grant) 68 = .ok (.if_icmp .ne 18, 3) := by decide +kernel
theorem d_M_grant_71 : decode (yMb m_M_grant) 71 = .ok (.aload_n 0, 1) := by decide +kernel
theorem d_M_grant_72 : decode (yMb m_M_grant) 72 = .ok (.getfield 50, 3) := by decide +kernel
theorem d_M_grant_75 : decode (yMb m_M_grant) 75 = .ok (.iload_n 2, 1) := by decide +kernel
theorem d_M_grant_76 : decode (yMb m_M_grant) 76 = .ok (.dup2, 1) := by decide +kernel
theorem d_M_grant_77 : decode (yMb m_M_grant) 77 = .ok (.iaload, 1) := by decide +kernel
theorem d_M_grant_78 : decode (yMb m_M_grant) 78 = .ok (.aload_n 0, 1) := by decide +kernel
theorem d_M_grant_79 : decode (yMb m_M_grant) 79 = .ok (.getfield 28, 3) := by decide +kernel
theorem d_M_grant_82 : decode (yMb m_M_grant) 82 = .ok (.iload_n 1, 1) := by decide +kernel
theorem d_M_grant_83 : decode (yMb m_M_grant) 83 = .ok (.iaload, 1) := by decide +kernel
theorem d_M_grant_84 : decode (yMb m_M_grant) 84 = .ok (.isub, 1) := by decide +kernel
theorem d_M_grant_85 : decode (yMb m_M_grant) 85 = .ok (.iastore, 1) := by decide +kernel
theorem d_M_grant_86 : decode (yMb m_M_grant) 86 = .ok (.iload_n 3, 1) := by decide +kernel
theorem d_M_grant_87 : decode (yMb m_M_grant) 87 = .ok (.bipush 15, 2) := by decide +kernel
theorem d_M_grant_89 : decode (yMb m_M_grant) 89 = .ok (.if_icmp .ne 34, 3) := by decide +kernel
theorem d_M_grant_92 : decode (yMb m_M_grant) 92 = .ok (.aload_n 0, 1) := by decide +kernel
theorem d_M_grant_93 : decode (yMb m_M_grant) 93 = .ok (.getfield 71, 3) := by decide +kernel
theorem d_M_grant_96 : decode (yMb m_M_grant) 96 = .ok (.iload_n 2, 1) := by decide +kernel
theorem d_M_grant_97 : decode (yMb m_M_grant) 97 = .ok (.iconst 3, 1) := by decide +kernel
theorem d_M_grant_98 : decode (yMb m_M_grant) 98 = .ok (.imul, 1) := by decide +kernel
theorem d_M_grant_99 : decode (yMb m_M_grant) 99 = .ok (.aload_n 0, 1) := by decide +kernel
theorem d_M_grant_100 : decode (yMb m_M_grant) 100 = .ok (.getfield 50, 3) := by decide +kernel
theorem d_M_grant_103 : decode (yMb m_M_grant) 103 = .ok (.iload_n 2, 1) := by decide +kernel
theorem d_M_grant_104 : decode (yMb m_M_grant) 104 = .ok (.iaload, 1) := by decide +kernel
theorem d_M_grant_105 : decode (yMb m_M_grant) 105 = .ok (.iadd, 1) := by decide +kernel
theorem d_M_grant_106 : decode (yMb m_M_grant) 106 = .ok (.aload_n 0, 1) := by decide +kernel
theorem d_M_grant_107 : decode (yMb m_M_grant) 107 = .ok (.getfield 28, 3) := by decide +kernel
theorem d_M_grant_110 : decode (yMb m_M_grant) 110 = .ok (.iload_n 1, 1) := by decide +kernel
theorem d_M_grant_111 : decode (yMb m_M_grant) 111 = .ok (.iaload, 1) := by decide +kernel
theorem d_M_grant_112 : decode (yMb m_M_grant) 112 = .ok (.iastore, 1) := by decide +kernel
theorem d_M_grant_113 : decode (yMb m_M_grant) 113 = .ok (.aload_n 0, 1) := by decide +kernel
theorem d_M_grant_114 : decode (yMb m_M_grant) 114 = .ok (.getfield 50, 3) := by decide +kernel
theorem d_M_grant_117 : decode (yMb m_M_grant) 117 = .ok (.iload_n 2, 1) := by decide +kernel
theorem d_M_grant_118 : decode (yMb m_M_grant) 118 = .ok (.dup2, 1) := by decide +kernel
theorem d_M_grant_119 : decode (yMb m_M_grant) 119 = .ok (.iaload, 1) := by decide +kernel
theorem d_M_grant_120 : decode (yMb m_M_grant) 120 = .ok (.iconst 1, 1) := by decide +kernel
theorem d_M_grant_121 : decode (yMb m_M_grant) 121 = .ok (.iadd, 1) := by decide +kernel
theorem d_M_grant_122 : decode (yMb m_M_grant) 122 = .ok (.iastore, 1) := by decide +kernel
theorem d_M_grant_123 : decode (yMb m_M_grant) 123 = .ok (.iload_n 3, 1) := by decide +kernel
theorem d_M_grant_124 : decode (yMb m_M_grant) 124 = .ok (.bipush 16, 2) := by decide +kernel
theorem d_M_grant_126 : decode (yMb m_M_grant) 126 = .ok (.if_icmp .ne 71, 3) := by decide +kernel
theorem d_M_grant_129 : decode (yMb m_M_grant) 129 = .ok (.aload_n 0, 1) := by decide +kernel
theorem d_M_grant_130 : decode (yMb m_M_grant) 130 = .ok (.getfield 19, 3) := by decide +kernel
theorem d_M_grant_133 : decode (yMb m_M_grant) 133 = .ok (.iload_n 1, 1) := by decide +kernel
theorem d_M_grant_134 : decode (yMb m_M_grant) 134 = .ok (.aload_n 0, 1) := by decide +kernel
theorem d_M_grant_135 : decode (yMb m_M_grant) 135 = .ok (.getfield 71, 3) := by decide +kernel
theorem d_M_grant_138 : decode (yMb m_M_grant) 138 = .ok (.iload_n 2, 1) := by decide +kernel
theorem d_M_grant_139 : decode (yMb m_M_grant) 139 = .ok (.iconst 3, 1) := by decide +kernel
theorem d_M_grant_140 : decode (yMb m_M_grant) 140 = .ok (.imul, 1) := by decide +kernel
theorem d_M_grant_141 : decode (yMb m_M_grant) 141 = .ok (.iaload, 1) := by decide +kernel
theorem d_M_grant_142 : decode (yMb m_M_grant) 142 = .ok (.iastore, 1) := by decide +kernel
theorem d_M_grant_143 : decode (yMb m_M_grant) 143 = .ok (.aload_n 0, 1) := by decide +kernel
theorem d_M_grant_144 : decode (yMb m_M_grant) 144 = .ok (.getfield 50, 3) := by decide +kernel
theorem d_M_grant_147 : decode (yMb m_M_grant) 147 = .ok (.iload_n 2, 1) := by decide +kernel
theorem d_M_grant_148 : decode (yMb m_M_grant) 148 = .ok (.dup2, 1) := by decide +kernel
theorem d_M_grant_149 : decode (yMb m_M_grant) 149 = .ok (.iaload, 1) := by decide +kernel
theorem d_M_grant_150 : decode (yMb m_M_grant) 150 = .ok (.iconst 1, 1) := by decide +kernel
theorem d_M_grant_151 : decode (yMb m_M_grant) 151 = .ok (.isub, 1) := by decide +kernel
theorem d_M_grant_152 : decode (yMb m_M_grant) 152 = .ok (.iastore, 1) := by decide +kernel
theorem d_M_grant_153 : decode (yMb m_M_grant) 153 = .ok (.iconst 0, 1) := by decide +kernel
theorem d_M_grant_154 : decode (yMb m_M_grant) 154 = .ok (.istore 4, 2) := by decide +kernel
theorem d_M_grant_156 : decode (yMb m_M_grant) 156 = .ok (.iload 4, 2) := by decide +kernel
theorem d_M_grant_158 : decode (yMb m_M_grant) 158 = .ok (.aload_n 0, 1) := by decide +kernel
theorem d_M_grant_159 : decode (yMb m_M_grant) 159 = .ok (.getfield 50, 3) := by decide +kernel
theorem d_M_grant_162 : decode (yMb m_M_grant) 162 = .ok (.iload_n 2, 1) := by decide +kernel
theorem d_M_grant_163 : decode (yMb m_M_grant) 163 = .ok (.iaload, 1) := by decide +kernel
theorem d_M_grant_164 : decode (yMb m_M_grant) 164 = .ok (.if_icmp .ge 33, 3) := by decide +kernel
theorem d_M_grant_167 : decode (yMb m_M_grant) 167 = .ok (.aload_n 0, 1) := by decide +kernel
theorem d_M_grant_168 : decode (yMb m_M_grant) 168 = .ok (.getfield 71, 3) := by decide +kernel
theorem d_M_grant_171 : decode (yMb m_M_grant) 171 = .ok (.iload_n 2, 1) := by decide +kernel
theorem d_M_grant_172 : decode (yMb m_M_grant) 172 = .ok (.iconst 3, 1) := by decide +kernel
theorem d_M_grant_173 : decode (yMb m_M_grant) 173 = .ok (.imul, 1) := by decide +kernel
theorem d_M_grant_174 : decode (yMb m_M_grant) 174 = .ok (.iload 4, 2) := by decide +kernel
theorem d_M_grant_176 : decode (yMb m_M_grant) 176 = .ok (.iadd, 1) := by decide +kernel
theorem d_M_grant_177 : decode (yMb m_M_grant) 177 = .ok (.aload_n 0, 1) := by decide +kernel
theorem d_M_grant_178 : decode (yMb m_M_grant) 178 = .ok (.getfield 71, 3) := by decide +kernel
theorem d_M_grant_181 : decode (yMb m_M_grant) 181 = .ok (.iload_n 2, 1) := by decide +kernel
theorem d_M_grant_182 : decode (yMb m_M_grant) 182 = .ok (.iconst 3, 1) := by decide +kernel
theorem d_M_grant_183 : decode (yMb m_M_grant) 183 = .ok (.imul, 1) := by decide +kernel
theorem d_M_grant_184 : decode (yMb m_M_grant) 184 = .ok (.iload 4, 2) := by decide +kernel
theorem d_M_grant_186 : decode (yMb m_M_grant) 186 = .ok (.iadd, 1) := by decide +kernel
theorem d_M_grant_187 : decode (yMb m_M_grant) 187 = .ok (.iconst 1, 1) := by decide +kernel
theorem d_M_grant_188 : decode (yMb m_M_grant) 188 = .ok (.iadd, 1) := by decide +kernel
theorem d_M_grant_189 : decode (yMb m_M_grant) 189 = .ok (.iaload, 1) := by decide +kernel
theorem d_M_grant_190 : decode (yMb m_M_grant) 190 = .ok (.iastore, 1) := by decide +kernel
theorem d_M_grant_191 : decode (yMb m_M_grant) 191 = .ok (.iinc 4 1, 3) := by decide +kernel
theorem d_M_grant_194 : decode (yMb m_M_grant) 194 = .ok (.goto (-38), 3) := by decide +kernel
theorem d_M_grant_197 : decode (yMb m_M_grant) 197 = .ok (.return_, 1) := by decide +kernel
theorem d_M_pass_0 : decode (yMb m_M_pass) 0 = .ok (.iconst 1, 1) := by decide +kernel
theorem d_M_pass_1 : decode (yMb m_M_pass) 1 = .ok (.istore_n 2, 1) := by decide +kernel
theorem d_M_pass_2 : decode (yMb m_M_pass) 2 = .ok (.iload_n 2, 1) := by decide +kernel
theorem d_M_pass_3 : decode (yMb m_M_pass) 3 = .ok (.ifCond .eq 191, 3) := by decide +kernel
theorem d_M_pass_6 : decode (yMb m_M_pass) 6 = .ok (.iconst 0, 1) := by decide +kernel
theorem d_M_pass_7 : decode (yMb m_M_pass) 7 = .ok (.istore_n 2, 1) := by decide +kernel
theorem d_M_pass_8 : decode (yMb m_M_pass) 8 = .ok (.iconst 1, 1) := by decide +kernel
theorem d_M_pass_9 : decode (yMb m_M_pass) 9 = .ok (.istore_n 3, 1) := by decide +kernel
theorem d_M_pass_10 : decode (yMb m_M_pass) 10 = .ok (.iconst 1, 1) := by decide +kernel
theorem d_M_pass_11 : decode (yMb m_M_pass) 11 = .ok (.istore 4, 2) := by decide +kernel
theorem d_M_pass_13 : decode (yMb m_M_pass) 13 = .ok (.iconst 0, 1) := by decide +kernel
theorem d_M_pass_14 : decode (yMb m_M_pass) 14 = .ok (.istore 5, 2) := by decide +kernel
theorem d_M_pass_16 : decode (yMb m_M_pass) 16 = .ok (.iload 5, 2) := by decide +kernel
theorem d_M_pass_18 : decode (yMb m_M_pass) 18 = .ok (.aload_n 0, 1) := by decide +kernel
theorem d_M_pass_19 : decode (yMb m_M_pass) 19 = .ok (.getfield 56, 3) := by decide +kernel
theorem d_M_pass_22 : decode (yMb m_M_pass) 22 = .ok (.iload_n 1, 1) := by decide +kernel
theorem d_M_pass_23 : decode (yMb m_M_pass) 23 = .ok (.iaload, 1) := by decide +kernel
theorem d_M_pass_24 : decode (yMb m_M_pass) 24 = .ok (.if_icmp .ge 167, 3) := by decide +kernel
theorem d_M_pass_27 : decode (yMb m_M_pass) 27 = .ok (.iload_n 3, 1) := by decide +kernel
theorem d_M_pass_28 : decode (yMb m_M_pass) 28 = .ok (.ifCond .ne 8, 3) := by decide +kernel
theorem d_M_pass_31 : decode (yMb m_M_pass) 31 = .ok (.iload 4, 2) := by decide +kernel
theorem d_M_pass_33 : decode (yMb m_M_pass) 33 = .ok (.ifCond .eq 158, 3) := by decide +kernel
theorem d_M_pass_36 : decode (yMb m_M_pass) 36 = .ok (.aload_n 0, 1) := by decide +kernel
theorem d_M_pass_37 : decode (yMb m_M_pass) 37 = .ok (.getfield 59, 3) := by decide +kernel
theorem d_M_pass_40 : decode (yMb m_M_pass) 40 = .ok (.iload_n 1, 1) := by decide +kernel
theorem d_M_pass_41 : decode (yMb m_M_pass) 41 = .ok (.bipush 6, 2) := by decide +kernel
theorem d_M_pass_43 : decode (yMb m_M_pass) 43 = .ok (.imul, 1) := by decide +kernel
theorem d_M_pass_44 : decode (yMb m_M_pass) 44 = .ok (.iload 5, 2) := by decide +kernel
theorem d_M_pass_46 : decode (yMb m_M_pass) 46 = .ok (.iadd, 1) := by decide +kernel
theorem d_M_pass_47 : decode (yMb m_M_pass) 47 = .ok (.iaload, 1) := by decide +kernel
theorem d_M_pass_48 : decode (yMb m_M_pass) 48 = .ok (.istore 6, 2) := by decide +kernel
theorem d_M_pass_50 : decode (yMb m_M_pass) 50 = .ok (.aload_n 0, 1) := by decide +kernel
theorem d_M_pass_51 : decode (yMb m_M_pass) 51 = .ok (.getfield 25, 3) := by decide +kernel
theorem d_M_pass_54 : decode (yMb m_M_pass) 54 = .ok (.iload 6, 2) := by decide +kernel
theorem d_M_pass_56 : decode (yMb m_M_pass) 56 = .ok (.iaload, 1) := by decide +kernel
theorem d_M_pass_57 : decode (yMb m_M_pass) 57 = .ok (.istore 7, 2) := by decide +kernel
theorem d_M_pass_59 : decode (yMb m_M_pass) 59 = .ok (.iload 7, 2) := by decide +kernel
theorem d_M_pass_61 : decode (yMb m_M_pass) 61 = .ok (.bipush 15, 2) := by decide +kernel
theorem d_M_pass_63 : decode (yMb m_M_pass) 63 = .ok (.if_icmp .ne 7, 3) := by decide +kernel
theorem d_M_pass_66 : decode (yMb m_M_pass) 66 = .ok (.iconst 1, 1) := by decide +kernel
theorem d_M_pass_67 : decode (yMb m_M_pass) 67 = .ok (.goto 4, 3) := by decide +kernel
theorem d_M_pass_70 : decode (yMb m_M_pass) 70 = .ok (.iconst 0, 1) := by decide +kernel
theorem d_M_pass_71 : decode (yMb m_M_pass) 71 = .ok (.istore 8, 2) := by decide +kernel
theorem d_M_pass_73 : decode (yMb m_M_pass) 73 = .ok (.iload 8, 2) := by decide +kernel
theorem d_M_pass_75 : decode (yMb m_M_pass) 75 = .ok (.ifCond .eq 10, 3) := by decide +kernel
theorem d_M_pass_78 : decode (yMb m_M_pass) 78 = .ok (.iload_n 3, 1) := by decide +kernel
theorem d_M_pass_79 : decode (yMb m_M_pass) 79 = .ok (.ifCond .ne 14, 3) := by decide +kernel
theorem d_M_pass_82 : decode (yMb m_M_pass) 82 = .ok (.goto 103, 3) := by decide +kernel
theorem d_M_pass_85 : decode (yMb m_M_pass) 85 = .ok (.iload 4, 2) := by decide +kernel
theorem d_M_pass_87 : decode (yMb m_M_pass) 87 = .ok (.ifCond .ne 6, 3) := by decide +kernel
theorem d_M_pass_90 : decode (yMb m_M_pass) 90 = .ok (.goto 95, 3) := by decide +kernel
theorem d_M_pass_93 : decode (yMb m_M_pass) 93 = .ok (.aload_n 0, 1) := by decide +kernel
theorem d_M_pass_94 : decode (yMb m_M_pass) 94 = .ok (.iload 6, 2) := by decide +kernel
theorem d_M_pass_96 : decode (yMb m_M_pass) 96 = .ok (.iload_n 1, 1) := by decide +kernel
theorem d_M_pass_97 : decode (yMb m_M_pass) 97 = .ok (.iload 7, 2) := by decide +kernel
theorem d_M_pass_99 : decode (yMb m_M_pass) 99 = .ok (.invokevirtual 99, 3) := by decide +kernel
theorem d_M_pass_102 : decode (yMb m_M_pass) 102 = .ok (.ifCond .eq 70, 3) := by decide +kernel
theorem d_M_pass_105 : decode (yMb m_M_pass) 105 = .ok (.aload_n 0, 1) := by decide +kernel
theorem d_M_pass_106 : decode (yMb m_M_pass) 106 = .ok (.iload 6, 2) := by decide +kernel
theorem d_M_pass_108 : decode (yMb m_M_pass) 108 = .ok (.iload_n 1, 1) := by decide +kernel
theorem d_M_pass_109 : decode (yMb m_M_pass) 109 = .ok (.iload 7, 2) := by decide +kernel
theorem d_M_pass_111 : decode (yMb m_M_pass) 111 = .ok (.invokevirtual 102, 3) := by decide +kernel
theorem d_M_pass_114 : decode (yMb m_M_pass) 114 = .ok (.aload_n 0, 1) := by decide +kernel
theorem d_M_pass_115 : decode (yMb m_M_pass) 115 = .ok (.aload_n 0, 1) := by decide +kernel
theorem d_M_pass_116 : decode (yMb m_M_pass) 116 = .ok (.getfield 59, 3) := by decide +kernel
theorem d_M_pass_119 : decode (yMb m_M_pass) 119 = .ok (.iload_n 1, 1) := by decide +kernel
theorem d_M_pass_120 : decode (yMb m_M_pass) 120 = .ok (.bipush 6, 2) := by decide +kernel
theorem d_M_pass_122 : decode (yMb m_M_pass) 122 = .ok (.imul, 1) := by decide +kernel
theorem d_M_pass_123 : decode (yMb m_M_pass) 123 = .ok (.aload_n 0, 1) := by decide +kernel
theorem d_M_pass_124 : decode (yMb m_M_pass) 124 = .ok (.getfield 56, 3) := by decide +kernel
theorem d_M_pass_127 : decode (yMb m_M_pass) 127 = .ok (.iload_n 1, 1) := by decide +kernel
theorem d_M_pass_128 : decode (yMb m_M_pass) 128 = .ok (.iload 6, 2) := by decide +kernel
theorem d_M_pass_130 : decode (yMb m_M_pass) 130 = .ok (.invokevirtual 106, 3) := by decide +kernel
theorem d_M_pass_133 : decode (yMb m_M_pass) 133 = .ok (.aload_n 0, 1) := by decide +kernel
theorem d_M_pass_134 : decode (yMb m_M_pass) 134 = .ok (.aload_n 0, 1) := by decide +kernel
theorem d_M_pass_135 : decode (yMb m_M_pass) 135 = .ok (.iload 6, 2) := by decide +kernel
theorem d_M_pass_137 : decode (yMb m_M_pass) 137 = .ok (.aload_n 0, 1) := by decide +kernel
theorem d_M_pass_138 : decode (yMb m_M_pass) 138 = .ok (.getfield 41, 3) := by decide +kernel
theorem d_M_pass_141 : decode (yMb m_M_pass) 141 = .ok (.iload 6, 2) := by decide +kernel
theorem d_M_pass_143 : decode (yMb m_M_pass) 143 = .ok (.baload, 1) := by decide +kernel
theorem d_M_pass_144 : decode (yMb m_M_pass) 144 = .ok (.ifCond .eq 13, 3) := by decide +kernel
theorem d_M_pass_147 : decode (yMb m_M_pass) 147 = .ok (.aload_n 0, 1) := by decide +kernel
theorem d_M_pass_148 : decode (yMb m_M_pass) 148 = .ok (.getfield 34, 3) := by decide +kernel
theorem d_M_pass_151 : decode (yMb m_M_pass) 151 = .ok (.iload 6, 2) := by decide +kernel
theorem d_M_pass_153 : decode (yMb m_M_pass) 153 = .ok (.iaload, 1) := by decide +kernel
theorem d_M_pass_154 : decode (yMb m_M_pass) 154 = .ok (.goto 4, 3) := by decide +kernel
theorem d_M_pass_157 : decode (yMb m_M_pass) 157 = .ok (.iconst 0, 1) := by decide +kernel
theorem d_M_pass_158 : decode (yMb m_M_pass) 158 = .ok (.invokevirtual 110, 3) := by decide +kernel
theorem d_M_pass_161 : decode (yMb m_M_pass) 161 = .ok (.putfield 113, 3) := by decide +kernel
theorem d_M_pass_164 : decode (yMb m_M_pass) 164 = .ok (.iinc 5 (-1), 3) := by decide +kernel
theorem d_M_pass_167 : decode (yMb m_M_pass) 167 = .ok (.iconst 1, 1) := by decide +kernel
theorem d_M_pass_168 : decode (yMb m_M_pass) 168 = .ok (.istore_n 2, 1) := by decide +kernel
theorem d_M_pass_169 : decode (yMb m_M_pass) 169 = .ok (.goto 16, 3) := by decide +kernel
theorem d_M_pass_172 : decode (yMb m_M_pass) 172 = .ok (.iload 8, 2) := by decide +kernel
theorem d_M_pass_174 : decode (yMb m_M_pass) 174 = .ok (.ifCond .eq 8, 3) := by decide +kernel
theorem d_M_pass_177 : decode (yMb m_M_pass) 177 = .ok (.iconst 0, 1) := by decide +kernel
theorem d_M_pass_178 : decode (yMb m_M_pass) 178 = .ok (.istore_n 3, 1) := by decide +kernel
theorem d_M_pass_179 : decode (yMb m_M_pass) 179 = .ok (.goto 6, 3) := by decide +kernel
theorem d_M_pass_182 : decode (yMb m_M_pass) 182 = .ok (.iconst 0, 1) := by decide +kernel
theorem d_M_pass_183 : decode (yMb m_M_pass) 183 = .ok (.istore 4, 2) := by decide +kernel
theorem d_M_pass_185 : decode (yMb m_M_pass) 185 = .ok (.iinc 5 1, 3) := by decide +kernel
theorem d_M_pass_188 : decode (yMb m_M_pass) 188 = .ok (.goto (-172), 3) := by decide +kernel
theorem d_M_pass_191 : decode (yMb m_M_pass) 191 = .ok (.goto (-189), 3) := by decide +kernel
theorem d_M_pass_194 : decode (yMb m_M_pass) 194 = .ok (.return_, 1) := by decide +kernel
end
section
theorem d_M_sameSort_0 : decode (yMb m_M_sameSort) 0 = .ok (.iconst 0, 1) := by decide +kernel
theorem d_M_sameSort_1 : decode (yMb m_M_sameSort) 1 = .ok (.istore_n 3, 1) := by decide +kernel
theorem d_M_sameSort_2 : decode (yMb m_M_sameSort) 2 = .ok (.iload_n 3, 1) := by decide +kernel
theorem d_M_sameSort_3 : decode (yMb m_M_sameSort) 3 = .ok (.aload_n 0, 1) := by decide +kernel
theorem d_M_sameSort_4 : decode (yMb m_M_sameSort) 4 = .ok (.getfield 56, 3) := by decide +kernel
theorem d_M_sameSort_7 : decode (yMb m_M_sameSort) 7 = .ok (.iload_n 1, 1) := by decide +kernel
theorem d_M_sameSort_8 : decode (yMb m_M_sameSort) 8 = .ok (.iaload, 1) := by decide +kernel
theorem d_M_sameSort_9 : decode (yMb m_M_sameSort) 9 = .ok (.if_icmp .ge 51, 3) := by decide +kernel
theorem d_M_sameSort_12 : decode (yMb m_M_sameSort) 12 = .ok (.aload_n 0, 1) := by decide +kernel
theorem d_M_sameSort_13 : decode (yMb m_M_sameSort) 13 = .ok (.getfield 25, 3) := by decide +kernel
theorem d_M_sameSort_16 : decode (yMb m_M_sameSort) 16 = .ok (.aload_n 0, 1) := by decide +kernel
theorem d_M_sameSort_17 : decode (yMb m_M_sameSort) 17 = .ok (.getfield 59, 3) := by decide +kernel
theorem d_M_sameSort_20 : decode (yMb m_M_sameSort) 20 = .ok (.iload_n 1, 1) := by decide +kernel
theorem d_M_sameSort_21 : decode (yMb m_M_sameSort) 21 = .ok (.bipush 6, 2) := by decide +kernel
theorem d_M_sameSort_23 : decode (yMb m_M_sameSort) 23 = .ok (.imul, 1) := by decide +kernel
theorem d_M_sameSort_24 : decode (yMb m_M_sameSort) 24 = .ok (.iload_n 3, 1) := by decide +kernel
theorem d_M_sameSort_25 : decode (yMb m_M_sameSort) 25 = .ok (.iadd, 1) := by decide +kernel
theorem d_M_sameSort_26 : decode (yMb m_M_sameSort) 26 = .ok (.iaload, 1) := by decide +kernel
theorem d_M_sameSort_27 : decode (yMb m_M_sameSort) 27 = .ok (.iaload, 1) := by decide +kernel
theorem d_M_sameSort_28 : decode (yMb m_M_sameSort) 28 = .ok (.bipush 15, 2) := by decide +kernel
theorem d_M_sameSort_30 : decode (yMb m_M_sameSort) 30 = .ok (.if_icmp .ne 7, 3) := by decide +kernel
theorem d_M_sameSort_33 : decode (yMb m_M_sameSort) 33 = .ok (.iconst 1, 1) := by decide +kernel
theorem d_M_sameSort_34 : decode (yMb m_M_sameSort) 34 = .ok (.goto 4, 3) := by decide +kernel
theorem d_M_sameSort_37 : decode (yMb m_M_sameSort) 37 = .ok (.iconst 0, 1) := by decide +kernel
theorem d_M_sameSort_38 : decode (yMb m_M_sameSort) 38 = .ok (.iload_n 2, 1) := by decide +kernel
theorem d_M_sameSort_39 : decode (yMb m_M_sameSort) 39 = .ok (.bipush 15, 2) := by decide +kernel
theorem d_M_sameSort_41 : decode (yMb m_M_sameSort) 41 = .ok (.if_icmp .ne 7, 3) := by decide +kernel
theorem d_M_sameSort_44 : decode (yMb m_M_sameSort) 44 = .ok (.iconst 1, 1) := by decide +kernel
theorem d_M_sameSort_45 : decode (yMb m_M_sameSort) 45 = .ok (.goto 4, 3) := by decide +kernel
theorem d_M_sameSort_48 : decode (yMb m_M_sameSort) 48 = .ok (.iconst 0, 1) := by decide +kernel
theorem d_M_sameSort_49 : decode (yMb m_M_sameSort) 49 = .ok (.if_icmp .ne 5, 3) := by decide +kernel
theorem d_M_sameSort_52 : decode (yMb m_M_sameSort) 52 = .ok (.iconst 1, 1) := by decide +kernel
theorem d_M_sameSort_53 : decode (yMb m_M_sameSort) 53 = .ok (.ireturn, 1) := by decide +kernel
theorem d_M_sameSort_54 : decode (yMb m_M_sameSort) 54 = .ok (.iinc 3 1, 3) := by decide +kernel
theorem d_M_sameSort_57 : decode (yMb m_M_sameSort) 57 = .ok (.goto (-55), 3) := by decide +kernel
theorem d_M_sameSort_60 : decode (yMb m_M_sameSort) 60 = .ok (.iconst 0, 1) := by decide +kernel
theorem d_M_sameSort_61 : decode (yMb m_M_sameSort) 61 = .ok (.ireturn, 1) := by decide +kernel
theorem d_M_ofKind_0 : decode (yMb m_M_ofKind) 0 = .ok (.iload_n 1, 1) := by decide +kernel
theorem d_M_ofKind_1 : decode (yMb m_M_ofKind) 1 = .ok (.tableswitch 108 0 4 #[35, 46, 54, 72, 90], 35) := by decide +kernel
theorem d_M_ofKind_36 : decode (yMb m_M_ofKind) 36 = .ok (.iload_n 2, 1) := by decide +kernel
theorem d_M_ofKind_37 : decode (yMb m_M_ofKind) 37 = .ok (.iconst 5, 1) := by decide +kernel
theorem d_M_ofKind_38 : decode (yMb m_M_ofKind) 38 = .ok (.if_icmp .ge 7, 3) := by decide +kernel
theorem d_M_ofKind_41 : decode (yMb m_M_ofKind) 41 = .ok (.iconst 1, 1) := by decide +kernel
theorem d_M_ofKind_42 : decode (yMb m_M_ofKind) 42 = .ok (.goto 4, 3) := by decide +kernel
theorem d_M_ofKind_45 : decode (yMb m_M_ofKind) 45 = .ok (.iconst 0, 1) := by decide +kernel
theorem d_M_ofKind_46 : decode (yMb m_M_ofKind) 46 = .ok (.ireturn, 1) := by decide +kernel
theorem d_M_ofKind_47 : decode (yMb m_M_ofKind) 47 = .ok (.iload_n 2, 1) := by decide +kernel
theorem d_M_ofKind_48 : decode (yMb m_M_ofKind) 48 = .ok (.iconst 5, 1) := by decide +kernel
theorem d_M_ofKind_49 : decode (yMb m_M_ofKind) 49 = .ok (.bipush 8, 2) := by decide +kernel
theorem d_M_ofKind_51 : decode (yMb m_M_ofKind) 51 = .ok (.invokestatic 84, 3) := by decide +kernel
theorem d_M_ofKind_54 : decode (yMb m_M_ofKind) 54 = .ok (.ireturn, 1) := by decide +kernel
theorem d_M_ofKind_55 : decode (yMb m_M_ofKind) 55 = .ok (.iload_n 2, 1) := by decide +kernel
theorem d_M_ofKind_56 : decode (yMb m_M_ofKind) 56 = .ok (.bipush 9, 2) := by decide +kernel
theorem d_M_ofKind_58 : decode (yMb m_M_ofKind) 58 = .ok (.if_icmp .eq 9, 3) := by decide +kernel
theorem d_M_ofKind_61 : decode (yMb m_M_ofKind) 61 = .ok (.iload_n 2, 1) := by decide +kernel
theorem d_M_ofKind_62 : decode (yMb m_M_ofKind) 62 = .ok (.bipush 10, 2) := by decide +kernel
theorem d_M_ofKind_64 : decode (yMb m_M_ofKind) 64 = .ok (.if_icmp .ne 7, 3) := by decide +kernel
theorem d_M_ofKind_67 : decode (yMb m_M_ofKind) 67 = .ok (.iconst 1, 1) := by decide +kernel
theorem d_M_ofKind_68 : decode (yMb m_M_ofKind) 68 = .ok (.goto 4, 3) := by decide +kernel
theorem d_M_ofKind_71 : decode (yMb m_M_ofKind) 71 = .ok (.iconst 0, 1) := by decide +kernel
theorem d_M_ofKind_72 : decode (yMb m_M_ofKind) 72 = .ok (.ireturn, 1) := by decide +kernel
theorem d_M_ofKind_73 : decode (yMb m_M_ofKind) 73 = .ok (.iload_n 2, 1) := by decide +kernel
theorem d_M_ofKind_74 : decode (yMb m_M_ofKind) 74 = .ok (.bipush 11, 2) := by decide +kernel
theorem d_M_ofKind_76 : decode (yMb m_M_ofKind) 76 = .ok (.if_icmp .eq 9, 3) := by decide +kernel
theorem d_M_ofKind_79 : decode (yMb m_M_ofKind) 79 = .ok (.iload_n 2, 1) := by decide +kernel
theorem d_M_ofKind_80 : decode (yMb m_M_ofKind) 80 = .ok (.bipush 12, 2) := by decide +kernel
theorem d_M_ofKind_82 : decode (yMb m_M_ofKind) 82 = .ok (.if_icmp .ne 7, 3) := by decide +kernel
theorem d_M_ofKind_85 : decode (yMb m_M_ofKind) 85 = .ok (.iconst 1, 1) := by decide +kernel
theorem d_M_ofKind_86 : decode (yMb m_M_ofKind) 86 = .ok (.goto 4, 3) := by decide +kernel
theorem d_M_ofKind_89 : decode (yMb m_M_ofKind) 89 = .ok (.iconst 0, 1) := by decide +kernel
theorem d_M_ofKind_90 : decode (yMb m_M_ofKind) 90 = .ok (.ireturn, 1) := by decide +kernel
theorem d_M_ofKind_91 : decode (yMb m_M_ofKind) 91 = .ok (.iload_n 2, 1) := by decide +kernel
theorem d_M_ofKind_92 : decode (yMb m_M_ofKind) 92 = .ok (.bipush 13, 2) := by decide +kernel
theorem d_M_ofKind_94 : decode (yMb m_M_ofKind) 94 = .ok (.if_icmp .eq 9, 3) := by decide +kernel
theorem d_M_ofKind_97 : decode (yMb m_M_ofKind) 97 = .ok (.iload_n 2, 1) := by decide +kernel
theorem d_M_ofKind_98 : decode (yMb m_M_ofKind) 98 = .ok (.bipush 14, 2) := by decide +kernel
theorem d_M_ofKind_100 : decode (yMb m_M_ofKind) 100 = .ok (.if_icmp .ne 7, 3) := by decide +kernel
theorem d_M_ofKind_103 : decode (yMb m_M_ofKind) 103 = .ok (.iconst 1, 1) := by decide +kernel
theorem d_M_ofKind_104 : decode (yMb m_M_ofKind) 104 = .ok (.goto 4, 3) := by decide +kernel
theorem d_M_ofKind_107 : decode (yMb m_M_ofKind) 107 = .ok (.iconst 0, 1) := by decide +kernel
theorem d_M_ofKind_108 : decode (yMb m_M_ofKind) 108 = .ok (.ireturn, 1) := by decide +kernel
theorem d_M_ofKind_109 : decode (yMb m_M_ofKind) 109 = .ok (.iload_n 2, 1) := by decide +kernel
theorem d_M_ofKind_110 : decode (yMb m_M_ofKind) 110 = .ok (.bipush 14, 2) := by decide +kernel
theorem d_M_ofKind_112 : decode (yMb m_M_ofKind) 112 = .ok (.if_icmp .le 7, 3) := by decide +kernel
theorem d_M_ofKind_115 : decode (yMb m_M_ofKind) 115 = .ok (.iconst 1, 1) := by decide +kernel
theorem d_M_ofKind_116 : decode (yMb m_M_ofKind) 116 = .ok (.goto 4, 3) := by decide +kernel
theorem d_M_ofKind_119 : decode (yMb m_M_ofKind) 119 = .ok (.iconst 0, 1) := by decide +kernel
theorem d_M_ofKind_120 : decode (yMb m_M_ofKind) 120 = .ok (.ireturn, 1) := by decide +kernel
theorem d_M_notNow_0 : decode (yMb m_M_notNow) 0 = .ok (.aload_n 0, 1) := by decide +kernel
theorem d_M_notNow_1 : decode (yMb m_M_notNow) 1 = .ok (.getfield 7, 3) := by decide +kernel
theorem d_M_notNow_4 : decode (yMb m_M_notNow) 4 = .ok (.iload_n 1, 1) := by decide +kernel
theorem d_M_notNow_5 : decode (yMb m_M_notNow) 5 = .ok (.iaload, 1) := by decide +kernel
theorem d_M_notNow_6 : decode (yMb m_M_notNow) 6 = .ok (.ifCond .eq 5, 3) := by decide +kernel
theorem d_M_notNow_9 : decode (yMb m_M_notNow) 9 = .ok (.iconst 1, 1) := by decide +kernel
theorem d_M_notNow_10 : decode (yMb m_M_notNow) 10 = .ok (.ireturn, 1) := by decide +kernel
theorem d_M_notNow_11 : decode (yMb m_M_notNow) 11 = .ok (.iload_n 3, 1) := by decide +kernel
theorem d_M_notNow_12 : decode (yMb m_M_notNow) 12 = .ok (.iconst 1, 1) := by decide +kernel
theorem d_M_notNow_13 : decode (yMb m_M_notNow) 13 = .ok (.iconst 4, 1) := by decide +kernel
theorem d_M_notNow_14 : decode (yMb m_M_notNow) 14 = .ok (.invokestatic 84, 3) := by decide +kernel
theorem d_M_notNow_17 : decode (yMb m_M_notNow) 17 = .ok (.ifCond .ne 9, 3) := by decide +kernel
theorem d_M_notNow_20 : decode (yMb m_M_notNow) 20 = .ok (.iload_n 3, 1) := by decide +kernel
theorem d_M_notNow_21 : decode (yMb m_M_notNow) 21 = .ok (.bipush 8, 2) := by decide +kernel
theorem d_M_notNow_23 : decode (yMb m_M_notNow) 23 = .ok (.if_icmp .ne 19, 3) := by decide +kernel
theorem d_M_notNow_26 : decode (yMb m_M_notNow) 26 = .ok (.aload_n 0, 1) := by decide +kernel
theorem d_M_notNow_27 : decode (yMb m_M_notNow) 27 = .ok (.getfield 53, 3) := by decide +kernel
theorem d_M_notNow_30 : decode (yMb m_M_notNow) 30 = .ok (.iload_n 2, 1) := by decide +kernel
theorem d_M_notNow_31 : decode (yMb m_M_notNow) 31 = .ok (.iaload, 1) := by decide +kernel
theorem d_M_notNow_32 : decode (yMb m_M_notNow) 32 = .ok (.iload_n 1, 1) := by decide +kernel
theorem d_M_notNow_33 : decode (yMb m_M_notNow) 33 = .ok (.if_icmp .eq 7, 3) := by decide +kernel
theorem d_M_notNow_36 : decode (yMb m_M_notNow) 36 = .ok (.iconst 1, 1) := by decide +kernel
theorem d_M_notNow_37 : decode (yMb m_M_notNow) 37 = .ok (.goto 4, 3) := by decide +kernel
theorem d_M_notNow_40 : decode (yMb m_M_notNow) 40 = .ok (.iconst 0, 1) := by decide +kernel
theorem d_M_notNow_41 : decode (yMb m_M_notNow) 41 = .ok (.ireturn, 1) := by decide +kernel
theorem d_M_notNow_42 : decode (yMb m_M_notNow) 42 = .ok (.iload_n 3, 1) := by decide +kernel
theorem d_M_notNow_43 : decode (yMb m_M_notNow) 43 = .ok (.bipush 6, 2) := by decide +kernel
theorem d_M_notNow_45 : decode (yMb m_M_notNow) 45 = .ok (.if_icmp .ne 23, 3) := by decide +kernel
theorem d_M_notNow_48 : decode (yMb m_M_notNow) 48 = .ok (.aload_n 0, 1) := by decide +kernel
theorem d_M_notNow_49 : decode (yMb m_M_notNow) 49 = .ok (.getfield 68, 3) := by decide +kernel
theorem d_M_notNow_52 : decode (yMb m_M_notNow) 52 = .ok (.iload_n 2, 1) := by decide +kernel
theorem d_M_notNow_53 : decode (yMb m_M_notNow) 53 = .ok (.bipush 6, 2) := by decide +kernel
theorem d_M_notNow_55 : decode (yMb m_M_notNow) 55 = .ok (.imul, 1) := by decide +kernel
theorem d_M_notNow_56 : decode (yMb m_M_notNow) 56 = .ok (.iload_n 1, 1) := by decide +kernel
theorem d_M_notNow_57 : decode (yMb m_M_notNow) 57 = .ok (.iadd, 1) := by decide +kernel
theorem d_M_notNow_58 : decode (yMb m_M_notNow) 58 = .ok (.iaload, 1) := by decide +kernel
theorem d_M_notNow_59 : decode (yMb m_M_notNow) 59 = .ok (.ifCond .ne 7, 3) := by decide +kernel
theorem d_M_notNow_62 : decode (yMb m_M_notNow) 62 = .ok (.iconst 1, 1) := by decide +kernel
theorem d_M_notNow_63 : decode (yMb m_M_notNow) 63 = .ok (.goto 4, 3) := by decide +kernel
theorem d_M_notNow_66 : decode (yMb m_M_notNow) 66 = .ok (.iconst 0, 1) := by decide +kernel
theorem d_M_notNow_67 : decode (yMb m_M_notNow) 67 = .ok (.ireturn, 1) := by decide +kernel
theorem d_M_notNow_68 : decode (yMb m_M_notNow) 68 = .ok (.iload_n 3, 1) := by decide +kernel
theorem d_M_notNow_69 : decode (yMb m_M_notNow) 69 = .ok (.bipush 10, 2) := by decide +kernel
theorem d_M_notNow_71 : decode (yMb m_M_notNow) 71 = .ok (.if_icmp .ne 21, 3) := by decide +kernel
theorem d_M_notNow_74 : decode (yMb m_M_notNow) 74 = .ok (.aload_n 0, 1) := by decide +kernel
theorem d_M_notNow_75 : decode (yMb m_M_notNow) 75 = .ok (.getfield 50, 3) := by decide +kernel
theorem d_M_notNow_78 : decode (yMb m_M_notNow) 78 = .ok (.iload_n 2, 1) := by decide +kernel
theorem d_M_notNow_79 : decode (yMb m_M_notNow) 79 = .ok (.iaload, 1) := by decide +kernel
theorem d_M_notNow_80 : decode (yMb m_M_notNow) 80 = .ok (.iload 4, 2) := by decide +kernel
theorem d_M_notNow_82 : decode (yMb m_M_notNow) 82 = .ok (.iadd, 1) := by decide +kernel
theorem d_M_notNow_83 : decode (yMb m_M_notNow) 83 = .ok (.bipush 50, 2) := by decide +kernel
theorem d_M_notNow_85 : decode (yMb m_M_notNow) 85 = .ok (.if_icmp .le 7, 3) := by decide +kernel
theorem d_M_notNow_88 : decode (yMb m_M_notNow) 88 = .ok (.iconst 1, 1) := by decide +kernel
theorem d_M_notNow_89 : decode (yMb m_M_notNow) 89 = .ok (.goto 4, 3) := by decide +kernel
theorem d_M_notNow_92 : decode (yMb m_M_notNow) 92 = .ok (.iconst 0, 1) := by decide +kernel
theorem d_M_notNow_93 : decode (yMb m_M_notNow) 93 = .ok (.ireturn, 1) := by decide +kernel
theorem d_M_breakAll_0 : decode (yMb m_M_breakAll) 0 = .ok (.iconst 0, 1) := by decide +kernel
theorem d_M_breakAll_1 : decode (yMb m_M_breakAll) 1 = .ok (.istore_n 2, 1) := by decide +kernel
theorem d_M_breakAll_2 : decode (yMb m_M_breakAll) 2 = .ok (.iload_n 2, 1) := by decide +kernel
theorem d_M_breakAll_3 : decode (yMb m_M_breakAll) 3 = .ok (.aload_n 0, 1) := by decide +kernel
theorem d_M_breakAll_4 : decode (yMb m_M_breakAll) 4 = .ok (.getfield 56, 3) := by decide +kernel
theorem d_M_breakAll_7 : decode (yMb m_M_breakAll) 7 = .ok (.iload_n 1, 1) := by decide +kernel
theorem d_M_breakAll_8 : decode (yMb m_M_breakAll) 8 = .ok (.iaload, 1) := by decide +kernel
theorem d_M_breakAll_9 : decode (yMb m_M_breakAll) 9 = .ok (.if_icmp .ge 29, 3) := by decide +kernel
theorem d_M_breakAll_12 : decode (yMb m_M_breakAll) 12 = .ok (.aload_n 0, 1) := by decide +kernel
theorem d_M_breakAll_13 : decode (yMb m_M_breakAll) 13 = .ok (.aload_n 0, 1) := by decide +kernel
theorem d_M_breakAll_14 : decode (yMb m_M_breakAll) 14 = .ok (.aload_n 0, 1) := by decide +kernel
theorem d_M_breakAll_15 : decode (yMb m_M_breakAll) 15 = .ok (.getfield 59, 3) := by decide +kernel
theorem d_M_breakAll_18 : decode (yMb m_M_breakAll) 18 = .ok (.iload_n 1, 1) := by decide +kernel
theorem d_M_breakAll_19 : decode (yMb m_M_breakAll) 19 = .ok (.bipush 6, 2) := by decide +kernel
theorem d_M_breakAll_21 : decode (yMb m_M_breakAll) 21 = .ok (.imul, 1) := by decide +kernel
theorem d_M_breakAll_22 : decode (yMb m_M_breakAll) 22 = .ok (.iload_n 2, 1) := by decide +kernel
theorem d_M_breakAll_23 : decode (yMb m_M_breakAll) 23 = .ok (.iadd, 1) := by decide +kernel
theorem d_M_breakAll_24 : decode (yMb m_M_breakAll) 24 = .ok (.iaload, 1) := by decide +kernel
theorem d_M_breakAll_25 : decode (yMb m_M_breakAll) 25 = .ok (.iconst 3, 1) := by decide +kernel
theorem d_M_breakAll_26 : decode (yMb m_M_breakAll) 26 = .ok (.invokevirtual 110, 3) := by decide +kernel
theorem d_M_breakAll_29 : decode (yMb m_M_breakAll) 29 = .ok (.putfield 113, 3) := by decide +kernel
theorem d_M_breakAll_32 : decode (yMb m_M_breakAll) 32 = .ok (.iinc 2 1, 3) := by decide +kernel
theorem d_M_breakAll_35 : decode (yMb m_M_breakAll) 35 = .ok (.goto (-33), 3) := by decide +kernel
theorem d_M_breakAll_38 : decode (yMb m_M_breakAll) 38 = .ok (.aload_n 0, 1) := by decide +kernel
theorem d_M_breakAll_39 : decode (yMb m_M_breakAll) 39 = .ok (.getfield 56, 3) := by decide +kernel
theorem d_M_breakAll_42 : decode (yMb m_M_breakAll) 42 = .ok (.iload_n 1, 1) := by decide +kernel
theorem d_M_breakAll_43 : decode (yMb m_M_breakAll) 43 = .ok (.iconst 0, 1) := by decide +kernel
theorem d_M_breakAll_44 : decode (yMb m_M_breakAll) 44 = .ok (.iastore, 1) := by decide +kernel
theorem d_M_breakAll_45 : decode (yMb m_M_breakAll) 45 = .ok (.return_, 1) := by decide +kernel
theorem d_M_called_0 : decode (yMb m_M_called) 0 = .ok (.aload_n 0, 1) := by decide +kernel
theorem d_M_called_1 : decode (yMb m_M_called) 1 = .ok (.getfield 41, 3) := by decide +kernel
theorem d_M_called_4 : decode (yMb m_M_called) 4 = .ok (.iload_n 1, 1) := by decide +kernel
theorem d_M_called_5 : decode (yMb m_M_called) 5 = .ok (.iconst 1, 1) := by decide +kernel
theorem d_M_called_6 : decode (yMb m_M_called) 6 = .ok (.bastore, 1) := by decide +kernel
theorem d_M_called_7 : decode (yMb m_M_called) 7 = .ok (.aload_n 0, 1) := by decide +kernel
theorem d_M_called_8 : decode (yMb m_M_called) 8 = .ok (.getfield 34, 3) := by decide +kernel
theorem d_M_called_11 : decode (yMb m_M_called) 11 = .ok (.iload_n 1, 1) := by decide +kernel
theorem d_M_called_12 : decode (yMb m_M_called) 12 = .ok (.iload_n 3, 1) := by decide +kernel
theorem d_M_called_13 : decode (yMb m_M_called) 13 = .ok (.iastore, 1) := by decide +kernel
theorem d_M_called_14 : decode (yMb m_M_called) 14 = .ok (.aload_n 0, 1) := by decide +kernel
theorem d_M_called_15 : decode (yMb m_M_called) 15 = .ok (.getfield 22, 3) := by decide +kernel
theorem d_M_called_18 : decode (yMb m_M_called) 18 = .ok (.iload_n 1, 1) := by decide +kernel
theorem d_M_called_19 : decode (yMb m_M_called) 19 = .ok (.iconst (-1), 1) := by decide +kernel
theorem d_M_called_20 : decode (yMb m_M_called) 20 = .ok (.iastore, 1) := by decide +kernel
theorem d_M_called_21 : decode (yMb m_M_called) 21 = .ok (.aload_n 0, 1) := by decide +kernel
theorem d_M_called_22 : decode (yMb m_M_called) 22 = .ok (.getfield 25, 3) := by decide +kernel
theorem d_M_called_25 : decode (yMb m_M_called) 25 = .ok (.iload_n 1, 1) := by decide +kernel
theorem d_M_called_26 : decode (yMb m_M_called) 26 = .ok (.iconst 0, 1) := by decide +kernel
theorem d_M_called_27 : decode (yMb m_M_called) 27 = .ok (.iastore, 1) := by decide +kernel
theorem d_M_called_28 : decode (yMb m_M_called) 28 = .ok (.aload_n 0, 1) := by decide +kernel
theorem d_M_called_29 : decode (yMb m_M_called) 29 = .ok (.iload_n 1, 1) := by decide +kernel
theorem d_M_called_30 : decode (yMb m_M_called) 30 = .ok (.iload_n 2, 1) := by decide +kernel
theorem d_M_called_31 : decode (yMb m_M_called) 31 = .ok (.invokevirtual 116, 3) := by decide +kernel
theorem d_M_called_34 : decode (yMb m_M_called) 34 = .ok (.return_, 1) := by decide +kernel
theorem d_M_call_0 : decode (yMb m_M_call) 0 = .ok (.iload_n 1, 1) := by decide +kernel
theorem d_M_call_1 : decode (yMb m_M_call) 1 = .ok (.iconst 2, 1) := by decide +kernel
theorem d_M_call_2 : decode (yMb m_M_call) 2 = .ok (.imul, 1) := by decide +kernel
theorem d_M_call_3 : decode (yMb m_M_call) 3 = .ok (.iload_n 2, 1) := by decide +kernel
theorem d_M_call_4 : decode (yMb m_M_call) 4 = .ok (.iadd, 1) := by decide +kernel
theorem d_M_call_5 : decode (yMb m_M_call) 5 = .ok (.istore 4, 2) := by decide +kernel
theorem d_M_call_7 : decode (yMb m_M_call) 7 = .ok (.iconst 0, 1) := by decide +kernel
theorem d_M_call_8 : decode (yMb m_M_call) 8 = .ok (.istore 5, 2) := by decide +kernel
theorem d_M_call_10 : decode (yMb m_M_call) 10 = .ok (.iload 5, 2) := by decide +kernel
theorem d_M_call_12 : decode (yMb m_M_call) 12 = .ok (.iload_n 3, 1) := by decide +kernel
theorem d_M_call_13 : decode (yMb m_M_call) 13 = .ok (.if_icmp .ge 60, 3) := by decide +kernel
theorem d_M_call_16 : decode (yMb m_M_call) 16 = .ok (.aload_n 0, 1) := by decide +kernel
theorem d_M_call_17 : decode (yMb m_M_call) 17 = .ok (.getfield 62, 3) := by decide +kernel
theorem d_M_call_20 : decode (yMb m_M_call) 20 = .ok (.iload 4, 2) := by decide +kernel
theorem d_M_call_22 : decode (yMb m_M_call) 22 = .ok (.iaload, 1) := by decide +kernel
theorem d_M_call_23 : decode (yMb m_M_call) 23 = .ok (.ifCond .le 50, 3) := by decide +kernel
theorem d_M_call_26 : decode (yMb m_M_call) 26 = .ok (.aload_n 0, 1) := by decide +kernel
theorem d_M_call_27 : decode (yMb m_M_call) 27 = .ok (.getfield 65, 3) := by decide +kernel
theorem d_M_call_30 : decode (yMb m_M_call) 30 = .ok (.iload 4, 2) := by decide +kernel
theorem d_M_call_32 : decode (yMb m_M_call) 32 = .ok (.bipush 6, 2) := by decide +kernel
theorem d_M_call_34 : decode (yMb m_M_call) 34 = .ok (.imul, 1) := by decide +kernel
theorem d_M_call_35 : decode (yMb m_M_call) 35 = .ok (.iaload, 1) := by decide +kernel
theorem d_M_call_36 : decode (yMb m_M_call) 36 = .ok (.istore 6, 2) := by decide +kernel
theorem d_M_call_38 : decode (yMb m_M_call) 38 = .ok (.aload_n 0, 1) := by decide +kernel
theorem d_M_call_39 : decode (yMb m_M_call) 39 = .ok (.aload_n 0, 1) := by decide +kernel
theorem d_M_call_40 : decode (yMb m_M_call) 40 = .ok (.getfield 65, 3) := by decide +kernel
theorem d_M_call_43 : decode (yMb m_M_call) 43 = .ok (.iload 4, 2) := by decide +kernel
theorem d_M_call_45 : decode (yMb m_M_call) 45 = .ok (.bipush 6, 2) := by decide +kernel
theorem d_M_call_47 : decode (yMb m_M_call) 47 = .ok (.imul, 1) := by decide +kernel
theorem d_M_call_48 : decode (yMb m_M_call) 48 = .ok (.aload_n 0, 1) := by decide +kernel
theorem d_M_call_49 : decode (yMb m_M_call) 49 = .ok (.getfield 62, 3) := by decide +kernel
theorem d_M_call_52 : decode (yMb m_M_call) 52 = .ok (.iload 4, 2) := by decide +kernel
theorem d_M_call_54 : decode (yMb m_M_call) 54 = .ok (.iload 6, 2) := by decide +kernel
theorem d_M_call_56 : decode (yMb m_M_call) 56 = .ok (.invokevirtual 106, 3) := by decide +kernel
theorem d_M_call_59 : decode (yMb m_M_call) 59 = .ok (.aload_n 0, 1) := by decide +kernel
theorem d_M_call_60 : decode (yMb m_M_call) 60 = .ok (.iload 6, 2) := by decide +kernel
theorem d_M_call_62 : decode (yMb m_M_call) 62 = .ok (.iload_n 1, 1) := by decide +kernel
theorem d_M_call_63 : decode (yMb m_M_call) 63 = .ok (.iconst 0, 1) := by decide +kernel
theorem d_M_call_64 : decode (yMb m_M_call) 64 = .ok (.invokevirtual 120, 3) := by decide +kernel
theorem d_M_call_67 : decode (yMb m_M_call) 67 = .ok (.iinc 5 1, 3) := by decide +kernel
theorem d_M_call_70 : decode (yMb m_M_call) 70 = .ok (.goto (-60), 3) := by decide +kernel
theorem d_M_call_73 : decode (yMb m_M_call) 73 = .ok (.return_, 1) := by decide +kernel
theorem d_M_less_0 : decode (yMb m_M_less) 0 = .ok (.aload_n 0, 1) := by decide +kernel
theorem d_M_less_1 : decode (yMb m_M_less) 1 = .ok (.getfield 50, 3) := by decide +kernel
theorem d_M_less_4 : decode (yMb m_M_less) 4 = .ok (.iload_n 1, 1) := by decide +kernel
theorem d_M_less_5 : decode (yMb m_M_less) 5 = .ok (.dup2, 1) := by decide +kernel
theorem d_M_less_6 : decode (yMb m_M_less) 6 = .ok (.iaload, 1) := by decide +kernel
theorem d_M_less_7 : decode (yMb m_M_less) 7 = .ok (.iconst 1, 1) := by decide +kernel
theorem d_M_less_8 : decode (yMb m_M_less) 8 = .ok (.isub, 1) := by decide +kernel
theorem d_M_less_9 : decode (yMb m_M_less) 9 = .ok (.iastore, 1) := by decide +kernel
theorem d_M_less_10 : decode (yMb m_M_less) 10 = .ok (.aload_n 0, 1) := by decide +kernel
theorem d_M_less_11 : decode (yMb m_M_less) 11 = .ok (.getfield 50, 3) := by decide +kernel
theorem d_M_less_14 : decode (yMb m_M_less) 14 = .ok (.iload_n 1, 1) := by decide +kernel
theorem d_M_less_15 : decode (yMb m_M_less) 15 = .ok (.iaload, 1) := by decide +kernel
theorem d_M_less_16 : decode (yMb m_M_less) 16 = .ok (.ifCond .ne 10, 3) := by decide +kernel
theorem d_M_less_19 : decode (yMb m_M_less) 19 = .ok (.aload_n 0, 1) := by decide +kernel
theorem d_M_less_20 : decode (yMb m_M_less) 20 = .ok (.getfield 53, 3) := by decide +kernel
theorem d_M_less_23 : decode (yMb m_M_less) 23 = .ok (.iload_n 1, 1) := by decide +kernel
theorem d_M_less_24 : decode (yMb m_M_less) 24 = .ok (.iconst (-1), 1) := by decide +kernel
theorem d_M_less_25 : decode (yMb m_M_less) 25 = .ok (.iastore, 1) := by decide +kernel
theorem d_M_less_26 : decode (yMb m_M_less) 26 = .ok (.return_, 1) := by decide +kernel
theorem d_M_simple_0 : decode (yMb m_M_simple) 0 = .ok (.iload_n 3, 1) := by decide +kernel
theorem d_M_simple_1 : decode (yMb m_M_simple) 1 = .ok (.iconst 1, 1) := by decide +kernel
theorem d_M_simple_2 : decode (yMb m_M_simple) 2 = .ok (.if_icmp .eq 9, 3) := by decide +kernel
theorem d_M_simple_5 : decode (yMb m_M_simple) 5 = .ok (.iload_n 3, 1) := by decide +kernel
theorem d_M_simple_6 : decode (yMb m_M_simple) 6 = .ok (.bipush 8, 2) := by decide +kernel
theorem d_M_simple_8 : decode (yMb m_M_simple) 8 = .ok (.if_icmp .ne 8, 3) := by decide +kernel
theorem d_M_simple_11 : decode (yMb m_M_simple) 11 = .ok (.aload_n 0, 1) := by decide +kernel
theorem d_M_simple_12 : decode (yMb m_M_simple) 12 = .ok (.iload_n 2, 1) := by decide +kernel
theorem d_M_simple_13 : decode (yMb m_M_simple) 13 = .ok (.invokevirtual 123, 3) := by decide +kernel
theorem d_M_simple_16 : decode (yMb m_M_simple) 16 = .ok (.iload_n 3, 1) := by decide +kernel
theorem d_M_simple_17 : decode (yMb m_M_simple) 17 = .ok (.iconst 3, 1) := by decide +kernel
theorem d_M_simple_18 : decode (yMb m_M_simple) 18 = .ok (.if_icmp .ne 11, 3) := by decide +kernel
theorem d_M_simple_21 : decode (yMb m_M_simple) 21 = .ok (.aload_n 0, 1) := by decide +kernel
theorem d_M_simple_22 : decode (yMb m_M_simple) 22 = .ok (.iload_n 2, 1) := by decide +kernel
theorem d_M_simple_23 : decode (yMb m_M_simple) 23 = .ok (.iload 4, 2) := by decide +kernel
theorem d_M_simple_25 : decode (yMb m_M_simple) 25 = .ok (.iconst 1, 1) := by decide +kernel
theorem d_M_simple_26 : decode (yMb m_M_simple) 26 = .ok (.invokevirtual 127, 3) := by decide +kernel
theorem d_M_simple_29 : decode (yMb m_M_simple) 29 = .ok (.iload_n 3, 1) := by decide +kernel
theorem d_M_simple_30 : decode (yMb m_M_simple) 30 = .ok (.iconst 4, 1) := by decide +kernel
theorem d_M_simple_31 : decode (yMb m_M_simple) 31 = .ok (.if_icmp .ne 12, 3) := by decide +kernel
theorem d_M_simple_34 : decode (yMb m_M_simple) 34 = .ok (.aload_n 0, 1) := by decide +kernel
theorem d_M_simple_35 : decode (yMb m_M_simple) 35 = .ok (.iload_n 2, 1) := by decide +kernel
theorem d_M_simple_36 : decode (yMb m_M_simple) 36 = .ok (.iload 4, 2) := by decide +kernel
theorem d_M_simple_38 : decode (yMb m_M_simple) 38 = .ok (.bipush 6, 2) := by decide +kernel
theorem d_M_simple_40 : decode (yMb m_M_simple) 40 = .ok (.invokevirtual 127, 3) := by decide +kernel
theorem d_M_simple_43 : decode (yMb m_M_simple) 43 = .ok (.iload_n 3, 1) := by decide +kernel
theorem d_M_simple_44 : decode (yMb m_M_simple) 44 = .ok (.bipush 6, 2) := by decide +kernel
theorem d_M_simple_46 : decode (yMb m_M_simple) 46 = .ok (.if_icmp .ne 18, 3) := by decide +kernel
theorem d_M_simple_49 : decode (yMb m_M_simple) 49 = .ok (.aload_n 0, 1) := by decide +kernel
theorem d_M_simple_50 : decode (yMb m_M_simple) 50 = .ok (.getfield 68, 3) := by decide +kernel
theorem d_M_simple_53 : decode (yMb m_M_simple) 53 = .ok (.iload_n 2, 1) := by decide +kernel
theorem d_M_simple_54 : decode (yMb m_M_simple) 54 = .ok (.bipush 6, 2) := by decide +kernel
theorem d_M_simple_56 : decode (yMb m_M_simple) 56 = .ok (.imul, 1) := by decide +kernel
theorem d_M_simple_57 : decode (yMb m_M_simple) 57 = .ok (.iload_n 1, 1) := by decide +kernel
theorem d_M_simple_58 : decode (yMb m_M_simple) 58 = .ok (.iadd, 1) := by decide +kernel
theorem d_M_simple_59 : decode (yMb m_M_simple) 59 = .ok (.dup2, 1) := by decide +kernel
theorem d_M_simple_60 : decode (yMb m_M_simple) 60 = .ok (.iaload, 1) := by decide +kernel
theorem d_M_simple_61 : decode (yMb m_M_simple) 61 = .ok (.iconst 1, 1) := by decide +kernel
theorem d_M_simple_62 : decode (yMb m_M_simple) 62 = .ok (.isub, 1) := by decide +kernel
theorem d_M_simple_63 : decode (yMb m_M_simple) 63 = .ok (.iastore, 1) := by decide +kernel
theorem d_M_simple_64 : decode (yMb m_M_simple) 64 = .ok (.iload_n 3, 1) := by decide +kernel
theorem d_M_simple_65 : decode (yMb m_M_simple) 65 = .ok (.bipush 10, 2) := by decide +kernel
theorem d_M_simple_67 : decode (yMb m_M_simple) 67 = .ok (.if_icmp .ne 14, 3) := by decide +kernel
theorem d_M_simple_70 : decode (yMb m_M_simple) 70 = .ok (.aload_n 0, 1) := by decide +kernel
theorem d_M_simple_71 : decode (yMb m_M_simple) 71 = .ok (.getfield 50, 3) := by decide +kernel
theorem d_M_simple_74 : decode (yMb m_M_simple) 74 = .ok (.iload_n 2, 1) := by decide +kernel
theorem d_M_simple_75 : decode (yMb m_M_simple) 75 = .ok (.dup2, 1) := by decide +kernel
theorem d_M_simple_76 : decode (yMb m_M_simple) 76 = .ok (.iaload, 1) := by decide +kernel
theorem d_M_simple_77 : decode (yMb m_M_simple) 77 = .ok (.iload 4, 2) := by decide +kernel
theorem d_M_simple_79 : decode (yMb m_M_simple) 79 = .ok (.iadd, 1) := by decide +kernel
theorem d_M_simple_80 : decode (yMb m_M_simple) 80 = .ok (.iastore, 1) := by decide +kernel
theorem d_M_simple_81 : decode (yMb m_M_simple) 81 = .ok (.iload_n 3, 1) := by decide +kernel
theorem d_M_simple_82 : decode (yMb m_M_simple) 82 = .ok (.bipush 12, 2) := by decide +kernel
theorem d_M_simple_84 : decode (yMb m_M_simple) 84 = .ok (.if_icmp .ne 22, 3) := by decide +kernel
theorem d_M_simple_87 : decode (yMb m_M_simple) 87 = .ok (.aload_n 0, 1) := by decide +kernel
theorem d_M_simple_88 : decode (yMb m_M_simple) 88 = .ok (.getfield 50, 3) := by decide +kernel
theorem d_M_simple_91 : decode (yMb m_M_simple) 91 = .ok (.iload_n 2, 1) := by decide +kernel
theorem d_M_simple_92 : decode (yMb m_M_simple) 92 = .ok (.iaload, 1) := by decide +kernel
theorem d_M_simple_93 : decode (yMb m_M_simple) 93 = .ok (.ifCond .le 13, 3) := by decide +kernel
theorem d_M_simple_96 : decode (yMb m_M_simple) 96 = .ok (.aload_n 0, 1) := by decide +kernel
theorem d_M_simple_97 : decode (yMb m_M_simple) 97 = .ok (.getfield 50, 3) := by decide +kernel
theorem d_M_simple_100 : decode (yMb m_M_simple) 100 = .ok (.iload_n 2, 1) := by decide +kernel
theorem d_M_simple_101 : decode (yMb m_M_simple) 101 = .ok (.dup2, 1) := by decide +kernel
theorem d_M_simple_102 : decode (yMb m_M_simple) 102 = .ok (.iaload, 1) := by decide +kernel
theorem d_M_simple_103 : decode (yMb m_M_simple) 103 = .ok (.iconst 1, 1) := by decide +kernel
theorem d_M_simple_104 : decode (yMb m_M_simple) 104 = .ok (.isub, 1) := by decide +kernel
theorem d_M_simple_105 : decode (yMb m_M_simple) 105 = .ok (.iastore, 1) := by decide +kernel
theorem d_M_simple_106 : decode (yMb m_M_simple) 106 = .ok (.iload_n 3, 1) := by decide +kernel
theorem d_M_simple_107 : decode (yMb m_M_simple) 107 = .ok (.bipush 14, 2) := by decide +kernel
theorem d_M_simple_109 : decode (yMb m_M_simple) 109 = .ok (.if_icmp .ne 15, 3) := by decide +kernel
theorem d_M_simple_112 : decode (yMb m_M_simple) 112 = .ok (.aload_n 0, 1) := by decide +kernel
theorem d_M_simple_113 : decode (yMb m_M_simple) 113 = .ok (.iload_n 2, 1) := by decide +kernel
theorem d_M_simple_114 : decode (yMb m_M_simple) 114 = .ok (.invokevirtual 130, 3) := by decide +kernel
theorem d_M_simple_117 : decode (yMb m_M_simple) 117 = .ok (.aload_n 0, 1) := by decide +kernel
theorem d_M_simple_118 : decode (yMb m_M_simple) 118 = .ok (.getfield 77, 3) := by decide +kernel
theorem d_M_simple_121 : decode (yMb m_M_simple) 121 = .ok (.iload_n 2, 1) := by decide +kernel
theorem d_M_simple_122 : decode (yMb m_M_simple) 122 = .ok (.iconst 0, 1) := by decide +kernel
theorem d_M_simple_123 : decode (yMb m_M_simple) 123 = .ok (.bastore, 1) := by decide +kernel
theorem d_M_simple_124 : decode (yMb m_M_simple) 124 = .ok (.aload_n 0, 1) := by decide +kernel
theorem d_M_simple_125 : decode (yMb m_M_simple) 125 = .ok (.iload_n 1, 1) := by decide +kernel
theorem d_M_simple_126 : decode (yMb m_M_simple) 126 = .ok (.iconst 0, 1) := by decide +kernel
theorem d_M_simple_127 : decode (yMb m_M_simple) 127 = .ok (.invokevirtual 110, 3) := by decide +kernel
theorem d_M_simple_130 : decode (yMb m_M_simple) 130 = .ok (.istore 5, 2) := by decide +kernel
theorem d_M_simple_132 : decode (yMb m_M_simple) 132 = .ok (.aload_n 0, 1) := by decide +kernel
theorem d_M_simple_133 : decode (yMb m_M_simple) 133 = .ok (.iload_n 2, 1) := by decide +kernel
theorem d_M_simple_134 : decode (yMb m_M_simple) 134 = .ok (.invokevirtual 133, 3) := by decide +kernel
theorem d_M_simple_137 : decode (yMb m_M_simple) 137 = .ok (.iload 5, 2) := by decide +kernel
theorem d_M_simple_139 : decode (yMb m_M_simple) 139 = .ok (.ireturn, 1) := by decide +kernel
theorem d_M_arrive_0 : decode (yMb m_M_arrive) 0 = .ok (.aload_n 0, 1) := by decide +kernel
theorem d_M_arrive_1 : decode (yMb m_M_arrive) 1 = .ok (.getfield 77, 3) := by decide +kernel
theorem d_M_arrive_4 : decode (yMb m_M_arrive) 4 = .ok (.iload_n 2, 1) := by decide +kernel
theorem d_M_arrive_5 : decode (yMb m_M_arrive) 5 = .ok (.baload, 1) := by decide +kernel
theorem d_M_arrive_6 : decode (yMb m_M_arrive) 6 = .ok (.ifCond .eq 10, 3) := by decide +kernel
theorem d_M_arrive_9 : decode (yMb m_M_arrive) 9 = .ok (.aload_n 0, 1) := by decide +kernel
theorem d_M_arrive_10 : decode (yMb m_M_arrive) 10 = .ok (.iload_n 1, 1) := by decide +kernel
theorem d_M_arrive_11 : decode (yMb m_M_arrive) 11 = .ok (.iconst 3, 1) := by decide +kernel
theorem d_M_arrive_12 : decode (yMb m_M_arrive) 12 = .ok (.invokevirtual 110, 3) := by decide +kernel
theorem d_M_arrive_15 : decode (yMb m_M_arrive) 15 = .ok (.ireturn, 1) := by decide +kernel
theorem d_M_arrive_16 : decode (yMb m_M_arrive) 16 = .ok (.aload_n 0, 1) := by decide +kernel
theorem d_M_arrive_17 : decode (yMb m_M_arrive) 17 = .ok (.getfield 56, 3) := by decide +kernel
theorem d_M_arrive_20 : decode (yMb m_M_arrive) 20 = .ok (.iload_n 2, 1) := by decide +kernel
theorem d_M_arrive_21 : decode (yMb m_M_arrive) 21 = .ok (.iaload, 1) := by decide +kernel
theorem d_M_arrive_22 : decode (yMb m_M_arrive) 22 = .ok (.iconst 1, 1) := by decide +kernel
theorem d_M_arrive_23 : decode (yMb m_M_arrive) 23 = .ok (.iadd, 1) := by decide +kernel
theorem d_M_arrive_24 : decode (yMb m_M_arrive) 24 = .ok (.aload_n 0, 1) := by decide +kernel
theorem d_M_arrive_25 : decode (yMb m_M_arrive) 25 = .ok (.getfield 47, 3) := by decide +kernel
theorem d_M_arrive_28 : decode (yMb m_M_arrive) 28 = .ok (.iload_n 2, 1) := by decide +kernel
theorem d_M_arrive_29 : decode (yMb m_M_arrive) 29 = .ok (.iaload, 1) := by decide +kernel
theorem d_M_arrive_30 : decode (yMb m_M_arrive) 30 = .ok (.if_icmp .ge 5, 3) := by decide +kernel
theorem d_M_arrive_33 : decode (yMb m_M_arrive) 33 = .ok (.iconst (-1), 1) := by decide +kernel
theorem d_M_arrive_34 : decode (yMb m_M_arrive) 34 = .ok (.ireturn, 1) := by decide +kernel
theorem d_M_arrive_35 : decode (yMb m_M_arrive) 35 = .ok (.iconst 0, 1) := by decide +kernel
theorem d_M_arrive_36 : decode (yMb m_M_arrive) 36 = .ok (.istore_n 3, 1) := by decide +kernel
theorem d_M_arrive_37 : decode (yMb m_M_arrive) 37 = .ok (.iload_n 3, 1) := by decide +kernel
theorem d_M_arrive_38 : decode (yMb m_M_arrive) 38 = .ok (.aload_n 0, 1) := by decide +kernel
theorem d_M_arrive_39 : decode (yMb m_M_arrive) 39 = .ok (.getfield 56, 3) := by decide +kernel
theorem d_M_arrive_42 : decode (yMb m_M_arrive) 42 = .ok (.iload_n 2, 1) := by decide +kernel
theorem d_M_arrive_43 : decode (yMb m_M_arrive) 43 = .ok (.iaload, 1) := by decide +kernel
theorem d_M_arrive_44 : decode (yMb m_M_arrive) 44 = .ok (.if_icmp .ge 29, 3) := by decide +kernel
theorem d_M_arrive_47 : decode (yMb m_M_arrive) 47 = .ok (.aload_n 0, 1) := by decide +kernel
theorem d_M_arrive_48 : decode (yMb m_M_arrive) 48 = .ok (.aload_n 0, 1) := by decide +kernel
theorem d_M_arrive_49 : decode (yMb m_M_arrive) 49 = .ok (.aload_n 0, 1) := by decide +kernel
theorem d_M_arrive_50 : decode (yMb m_M_arrive) 50 = .ok (.getfield 59, 3) := by decide +kernel
theorem d_M_arrive_53 : decode (yMb m_M_arrive) 53 = .ok (.iload_n 2, 1) := by decide +kernel
theorem d_M_arrive_54 : decode (yMb m_M_arrive) 54 = .ok (.bipush 6, 2) := by decide +kernel
theorem d_M_arrive_56 : decode (yMb m_M_arrive) 56 = .ok (.imul, 1) := by decide +kernel
theorem d_M_arrive_57 : decode (yMb m_M_arrive) 57 = .ok (.iload_n 3, 1) := by decide +kernel
theorem d_M_arrive_58 : decode (yMb m_M_arrive) 58 = .ok (.iadd, 1) := by decide +kernel
theorem d_M_arrive_59 : decode (yMb m_M_arrive) 59 = .ok (.iaload, 1) := by decide +kernel
theorem d_M_arrive_60 : decode (yMb m_M_arrive) 60 = .ok (.iconst 0, 1) := by decide +kernel
theorem d_M_arrive_61 : decode (yMb m_M_arrive) 61 = .ok (.invokevirtual 110, 3) := by decide +kernel
theorem d_M_arrive_64 : decode (yMb m_M_arrive) 64 = .ok (.putfield 113, 3) := by decide +kernel
theorem d_M_arrive_67 : decode (yMb m_M_arrive) 67 = .ok (.iinc 3 1, 3) := by decide +kernel
theorem d_M_arrive_70 : decode (yMb m_M_arrive) 70 = .ok (.goto (-33), 3) := by decide +kernel
theorem d_M_arrive_73 : decode (yMb m_M_arrive) 73 = .ok (.aload_n 0, 1) := by decide +kernel
theorem d_M_arrive_74 : decode (yMb m_M_arrive) 74 = .ok (.getfield 56, 3) := by decide +kernel
theorem d_M_arrive_77 : decode (yMb m_M_arrive) 77 = .ok (.iload_n 2, 1) := by decide +kernel
theorem d_M_arrive_78 : decode (yMb m_M_arrive) 78 = .ok (.iconst 0, 1) := by decide +kernel
theorem d_M_arrive_79 : decode (yMb m_M_arrive) 79 = .ok (.iastore, 1) := by decide +kernel
theorem d_M_arrive_80 : decode (yMb m_M_arrive) 80 = .ok (.aload_n 0, 1) := by decide +kernel
theorem d_M_arrive_81 : decode (yMb m_M_arrive) 81 = .ok (.iload_n 1, 1) := by decide +kernel
theorem d_M_arrive_82 : decode (yMb m_M_arrive) 82 = .ok (.iconst 0, 1) := by decide +kernel
theorem d_M_arrive_83 : decode (yMb m_M_arrive) 83 = .ok (.invokevirtual 110, 3) := by decide +kernel
theorem d_M_arrive_86 : decode (yMb m_M_arrive) 86 = .ok (.ireturn, 1) := by decide +kernel
theorem d_M_waitAt_0 : decode (yMb m_M_waitAt) 0 = .ok (.iload_n 2, 1) := by decide +kernel
theorem d_M_waitAt_1 : decode (yMb m_M_waitAt) 1 = .ok (.iconst 2, 1) := by decide +kernel
theorem d_M_waitAt_2 : decode (yMb m_M_waitAt) 2 = .ok (.imul, 1) := by decide +kernel
theorem d_M_waitAt_3 : decode (yMb m_M_waitAt) 3 = .ok (.iload_n 3, 1) := by decide +kernel
theorem d_M_waitAt_4 : decode (yMb m_M_waitAt) 4 = .ok (.iadd, 1) := by decide +kernel
theorem d_M_waitAt_5 : decode (yMb m_M_waitAt) 5 = .ok (.istore 4, 2) := by decide +kernel
theorem d_M_waitAt_7 : decode (yMb m_M_waitAt) 7 = .ok (.aload_n 0, 1) := by decide +kernel
theorem d_M_waitAt_8 : decode (yMb m_M_waitAt) 8 = .ok (.getfield 31, 3) := by decide +kernel
theorem d_M_waitAt_11 : decode (yMb m_M_waitAt) 11 = .ok (.iload_n 1, 1) := by decide +kernel
theorem d_M_waitAt_12 : decode (yMb m_M_waitAt) 12 = .ok (.aload_n 0, 1) := by decide +kernel
theorem d_M_waitAt_13 : decode (yMb m_M_waitAt) 13 = .ok (.getfield 50, 3) := by decide +kernel
theorem d_M_waitAt_16 : decode (yMb m_M_waitAt) 16 = .ok (.iload_n 2, 1) := by decide +kernel
theorem d_M_waitAt_17 : decode (yMb m_M_waitAt) 17 = .ok (.iaload, 1) := by decide +kernel
theorem d_M_waitAt_18 : decode (yMb m_M_waitAt) 18 = .ok (.iastore, 1) := by decide +kernel
theorem d_M_waitAt_19 : decode (yMb m_M_waitAt) 19 = .ok (.aload_n 0, 1) := by decide +kernel
theorem d_M_waitAt_20 : decode (yMb m_M_waitAt) 20 = .ok (.getfield 50, 3) := by decide +kernel
theorem d_M_waitAt_23 : decode (yMb m_M_waitAt) 23 = .ok (.iload_n 2, 1) := by decide +kernel
theorem d_M_waitAt_24 : decode (yMb m_M_waitAt) 24 = .ok (.iconst 0, 1) := by decide +kernel
theorem d_M_waitAt_25 : decode (yMb m_M_waitAt) 25 = .ok (.iastore, 1) := by decide +kernel
theorem d_M_waitAt_26 : decode (yMb m_M_waitAt) 26 = .ok (.aload_n 0, 1) := by decide +kernel
theorem d_M_waitAt_27 : decode (yMb m_M_waitAt) 27 = .ok (.getfield 53, 3) := by decide +kernel
theorem d_M_waitAt_30 : decode (yMb m_M_waitAt) 30 = .ok (.iload_n 2, 1) := by decide +kernel
theorem d_M_waitAt_31 : decode (yMb m_M_waitAt) 31 = .ok (.iconst (-1), 1) := by decide +kernel
theorem d_M_waitAt_32 : decode (yMb m_M_waitAt) 32 = .ok (.iastore, 1) := by decide +kernel
theorem d_M_waitAt_33 : decode (yMb m_M_waitAt) 33 = .ok (.aload_n 0, 1) := by decide +kernel
theorem d_M_waitAt_34 : decode (yMb m_M_waitAt) 34 = .ok (.getfield 65, 3) := by decide +kernel
theorem d_M_waitAt_37 : decode (yMb m_M_waitAt) 37 = .ok (.iload 4, 2) := by decide +kernel
theorem d_M_waitAt_39 : decode (yMb m_M_waitAt) 39 = .ok (.bipush 6, 2) := by decide +kernel
theorem d_M_waitAt_41 : decode (yMb m_M_waitAt) 41 = .ok (.imul, 1) := by decide +kernel
theorem d_M_waitAt_42 : decode (yMb m_M_waitAt) 42 = .ok (.aload_n 0, 1) := by decide +kernel
theorem d_M_waitAt_43 : decode (yMb m_M_waitAt) 43 = .ok (.getfield 62, 3) := by decide +kernel
theorem d_M_waitAt_46 : decode (yMb m_M_waitAt) 46 = .ok (.iload 4, 2) := by decide +kernel
theorem d_M_waitAt_48 : decode (yMb m_M_waitAt) 48 = .ok (.iaload, 1) := by decide +kernel
theorem d_M_waitAt_49 : decode (yMb m_M_waitAt) 49 = .ok (.iadd, 1) := by decide +kernel
theorem d_M_waitAt_50 : decode (yMb m_M_waitAt) 50 = .ok (.iload_n 1, 1) := by decide +kernel
theorem d_M_waitAt_51 : decode (yMb m_M_waitAt) 51 = .ok (.iastore, 1) := by decide +kernel
theorem d_M_waitAt_52 : decode (yMb m_M_waitAt) 52 = .ok (.aload_n 0, 1) := by decide +kernel
theorem d_M_waitAt_53 : decode (yMb m_M_waitAt) 53 = .ok (.getfield 62, 3) := by decide +kernel
theorem d_M_waitAt_56 : decode (yMb m_M_waitAt) 56 = .ok (.iload 4, 2) := by decide +kernel
theorem d_M_waitAt_58 : decode (yMb m_M_waitAt) 58 = .ok (.dup2, 1) := by decide +kernel
theorem d_M_waitAt_59 : decode (yMb m_M_waitAt) 59 = .ok (.iaload, 1) := by decide +kernel
theorem d_M_waitAt_60 : decode (yMb m_M_waitAt) 60 = .ok (.iconst 1, 1) := by decide +kernel
theorem d_M_waitAt_61 : decode (yMb m_M_waitAt) 61 = .ok (.iadd, 1) := by decide +kernel
theorem d_M_waitAt_62 : decode (yMb m_M_waitAt) 62 = .ok (.iastore, 1) := by decide +kernel
theorem d_M_waitAt_63 : decode (yMb m_M_waitAt) 63 = .ok (.aload_n 0, 1) := by decide +kernel
theorem d_M_waitAt_64 : decode (yMb m_M_waitAt) 64 = .ok (.getfield 7, 3) := by decide +kernel
theorem d_M_waitAt_67 : decode (yMb m_M_waitAt) 67 = .ok (.iload_n 1, 1) := by decide +kernel
theorem d_M_waitAt_68 : decode (yMb m_M_waitAt) 68 = .ok (.iconst 2, 1) := by decide +kernel
theorem d_M_waitAt_69 : decode (yMb m_M_waitAt) 69 = .ok (.iastore, 1) := by decide +kernel
theorem d_M_waitAt_70 : decode (yMb m_M_waitAt) 70 = .ok (.aload_n 0, 1) := by decide +kernel
theorem d_M_waitAt_71 : decode (yMb m_M_waitAt) 71 = .ok (.getfield 16, 3) := by decide +kernel
theorem d_M_waitAt_74 : decode (yMb m_M_waitAt) 74 = .ok (.iload_n 1, 1) := by decide +kernel
theorem d_M_waitAt_75 : decode (yMb m_M_waitAt) 75 = .ok (.iload_n 2, 1) := by decide +kernel
theorem d_M_waitAt_76 : decode (yMb m_M_waitAt) 76 = .ok (.iastore, 1) := by decide +kernel
theorem d_M_waitAt_77 : decode (yMb m_M_waitAt) 77 = .ok (.aload_n 0, 1) := by decide +kernel
theorem d_M_waitAt_78 : decode (yMb m_M_waitAt) 78 = .ok (.iload_n 2, 1) := by decide +kernel
theorem d_M_waitAt_79 : decode (yMb m_M_waitAt) 79 = .ok (.invokevirtual 133, 3) := by decide +kernel
theorem d_M_waitAt_82 : decode (yMb m_M_waitAt) 82 = .ok (.iconst 1, 1) := by decide +kernel
theorem d_M_waitAt_83 : decode (yMb m_M_waitAt) 83 = .ok (.ireturn, 1) := by decide +kernel
theorem d_M_act_0 : decode (yMb m_M_act) 0 = .ok (.iload_n 1, 1) := by decide +kernel
theorem d_M_act_1 : decode (yMb m_M_act) 1 = .ok (.iconst 0, 1) := by decide +kernel
theorem d_M_act_2 : decode (yMb m_M_act) 2 = .ok (.iconst 5, 1) := by decide +kernel
theorem d_M_act_3 : decode (yMb m_M_act) 3 = .ok (.invokestatic 84, 3) := by decide +kernel
theorem d_M_act_6 : decode (yMb m_M_act) 6 = .ok (.ifCond .eq 42, 3) := by decide +kernel
theorem d_M_act_9 : decode (yMb m_M_act) 9 = .ok (.iload_n 2, 1) := by decide +kernel
theorem d_M_act_10 : decode (yMb m_M_act) 10 = .ok (.iconst 0, 1) := by decide +kernel
theorem d_M_act_11 : decode (yMb m_M_act) 11 = .ok (.aload_n 0, 1) := by decide +kernel
theorem d_M_act_12 : decode (yMb m_M_act) 12 = .ok (.getfield 92, 3) := by decide +kernel
theorem d_M_act_15 : decode (yMb m_M_act) 15 = .ok (.iconst 1, 1) := by decide +kernel
theorem d_M_act_16 : decode (yMb m_M_act) 16 = .ok (.isub, 1) := by decide +kernel
theorem d_M_act_17 : decode (yMb m_M_act) 17 = .ok (.invokestatic 84, 3) := by decide +kernel
theorem d_M_act_20 : decode (yMb m_M_act) 20 = .ok (.ifCond .eq 28, 3) := by decide +kernel
theorem d_M_act_23 : decode (yMb m_M_act) 23 = .ok (.iload_n 3, 1) := by decide +kernel
theorem d_M_act_24 : decode (yMb m_M_act) 24 = .ok (.iconst 0, 1) := by decide +kernel
theorem d_M_act_25 : decode (yMb m_M_act) 25 = .ok (.bipush 16, 2) := by decide +kernel
theorem d_M_act_27 : decode (yMb m_M_act) 27 = .ok (.invokestatic 84, 3) := by decide +kernel
theorem d_M_act_30 : decode (yMb m_M_act) 30 = .ok (.ifCond .eq 18, 3) := by decide +kernel
theorem d_M_act_33 : decode (yMb m_M_act) 33 = .ok (.iload 5, 2) := by decide +kernel
theorem d_M_act_35 : decode (yMb m_M_act) 35 = .ok (.iconst (-1), 1) := by decide +kernel
theorem d_M_act_36 : decode (yMb m_M_act) 36 = .ok (.bipush 100, 2) := by decide +kernel
theorem d_M_act_38 : decode (yMb m_M_act) 38 = .ok (.invokestatic 84, 3) := by decide +kernel
theorem d_M_act_41 : decode (yMb m_M_act) 41 = .ok (.ifCond .eq 7, 3) := by decide +kernel
theorem d_M_act_44 : decode (yMb m_M_act) 44 = .ok (.iconst 1, 1) := by decide +kernel
theorem d_M_act_45 : decode (yMb m_M_act) 45 = .ok (.goto 4, 3) := by decide +kernel
theorem d_M_act_48 : decode (yMb m_M_act) 48 = .ok (.iconst 0, 1) := by decide +kernel
theorem d_M_act_49 : decode (yMb m_M_act) 49 = .ok (.istore 6, 2) := by decide +kernel
theorem d_M_act_51 : decode (yMb m_M_act) 51 = .ok (.iload_n 3, 1) := by decide +kernel
theorem d_M_act_52 : decode (yMb m_M_act) 52 = .ok (.iconst 2, 1) := by decide +kernel
theorem d_M_act_53 : decode (yMb m_M_act) 53 = .ok (.iconst 4, 1) := by decide +kernel
theorem d_M_act_54 : decode (yMb m_M_act) 54 = .ok (.invokestatic 84, 3) := by decide +kernel
theorem d_M_act_57 : decode (yMb m_M_act) 57 = .ok (.ifCond .eq 13, 3) := by decide +kernel
theorem d_M_act_60 : decode (yMb m_M_act) 60 = .ok (.iload 4, 2) := by decide +kernel
theorem d_M_act_62 : decode (yMb m_M_act) 62 = .ok (.iconst 0, 1) := by decide +kernel
theorem d_M_act_63 : decode (yMb m_M_act) 63 = .ok (.iconst 1, 1) := by decide +kernel
theorem d_M_act_64 : decode (yMb m_M_act) 64 = .ok (.invokestatic 84, 3) := by decide +kernel
theorem d_M_act_67 : decode (yMb m_M_act) 67 = .ok (.ifCond .eq 25, 3) := by decide +kernel
theorem d_M_act_70 : decode (yMb m_M_act) 70 = .ok (.iload_n 3, 1) := by decide +kernel
theorem d_M_act_71 : decode (yMb m_M_act) 71 = .ok (.bipush 9, 2) := by decide +kernel
theorem d_M_act_73 : decode (yMb m_M_act) 73 = .ok (.if_icmp .eq 9, 3) := by decide +kernel
theorem d_M_act_76 : decode (yMb m_M_act) 76 = .ok (.iload_n 3, 1) := by decide +kernel
theorem d_M_act_77 : decode (yMb m_M_act) 77 = .ok (.bipush 10, 2) := by decide +kernel
theorem d_M_act_79 : decode (yMb m_M_act) 79 = .ok (.if_icmp .ne 16, 3) := by decide +kernel
theorem d_M_act_82 : decode (yMb m_M_act) 82 = .ok (.iload 4, 2) := by decide +kernel
theorem d_M_act_84 : decode (yMb m_M_act) 84 = .ok (.iconst 1, 1) := by decide +kernel
theorem d_M_act_85 : decode (yMb m_M_act) 85 = .ok (.iconst 3, 1) := by decide +kernel
theorem d_M_act_86 : decode (yMb m_M_act) 86 = .ok (.invokestatic 84, 3) := by decide +kernel
theorem d_M_act_89 : decode (yMb m_M_act) 89 = .ok (.ifCond .ne 6, 3) := by decide +kernel
theorem d_M_act_92 : decode (yMb m_M_act) 92 = .ok (.iconst 0, 1) := by decide +kernel
theorem d_M_act_93 : decode (yMb m_M_act) 93 = .ok (.istore 6, 2) := by decide +kernel
theorem d_M_act_95 : decode (yMb m_M_act) 95 = .ok (.aload_n 0, 1) := by decide +kernel
theorem d_M_act_96 : decode (yMb m_M_act) 96 = .ok (.iload 6, 2) := by decide +kernel
theorem d_M_act_98 : decode (yMb m_M_act) 98 = .ok (.invokevirtual 88, 3) := by decide +kernel
theorem d_M_act_101 : decode (yMb m_M_act) 101 = .ok (.ifCond .eq 5, 3) := by decide +kernel
theorem d_M_act_104 : decode (yMb m_M_act) 104 = .ok (.iconst 0, 1) := by decide +kernel
theorem d_M_act_105 : decode (yMb m_M_act) 105 = .ok (.ireturn, 1) := by decide +kernel
theorem d_M_act_106 : decode (yMb m_M_act) 106 = .ok (.aload_n 0, 1) := by decide +kernel
theorem d_M_act_107 : decode (yMb m_M_act) 107 = .ok (.aload_n 0, 1) := by decide +kernel
theorem d_M_act_108 : decode (yMb m_M_act) 108 = .ok (.getfield 44, 3) := by decide +kernel
theorem d_M_act_111 : decode (yMb m_M_act) 111 = .ok (.iload_n 2, 1) := by decide +kernel
theorem d_M_act_112 : decode (yMb m_M_act) 112 = .ok (.iaload, 1) := by decide +kernel
theorem d_M_act_113 : decode (yMb m_M_act) 113 = .ok (.iload_n 3, 1) := by decide +kernel
theorem d_M_act_114 : decode (yMb m_M_act) 114 = .ok (.invokevirtual 136, 3) := by decide +kernel
theorem d_M_act_117 : decode (yMb m_M_act) 117 = .ok (.ifCond .ne 11, 3) := by decide +kernel
theorem d_M_act_120 : decode (yMb m_M_act) 120 = .ok (.aload_n 0, 1) := by decide +kernel
theorem d_M_act_121 : decode (yMb m_M_act) 121 = .ok (.iconst 3, 1) := by decide +kernel
theorem d_M_act_122 : decode (yMb m_M_act) 122 = .ok (.putfield 80, 3) := by decide +kernel
theorem d_M_act_125 : decode (yMb m_M_act) 125 = .ok (.goto 20, 3) := by decide +kernel
theorem d_M_act_128 : decode (yMb m_M_act) 128 = .ok (.aload_n 0, 1) := by decide +kernel
theorem d_M_act_129 : decode (yMb m_M_act) 129 = .ok (.iload_n 1, 1) := by decide +kernel
theorem d_M_act_130 : decode (yMb m_M_act) 130 = .ok (.iload_n 2, 1) := by decide +kernel
theorem d_M_act_131 : decode (yMb m_M_act) 131 = .ok (.iload_n 3, 1) := by decide +kernel
theorem d_M_act_132 : decode (yMb m_M_act) 132 = .ok (.iload 4, 2) := by decide +kernel
theorem d_M_act_134 : decode (yMb m_M_act) 134 = .ok (.invokevirtual 140, 3) := by decide +kernel
theorem d_M_act_137 : decode (yMb m_M_act) 137 = .ok (.ifCond .eq 8, 3) := by decide +kernel
theorem d_M_act_140 : decode (yMb m_M_act) 140 = .ok (.aload_n 0, 1) := by decide +kernel
theorem d_M_act_141 : decode (yMb m_M_act) 141 = .ok (.iconst 2, 1) := by decide +kernel
theorem d_M_act_142 : decode (yMb m_M_act) 142 = .ok (.putfield 80, 3) := by decide +kernel
theorem d_M_act_145 : decode (yMb m_M_act) 145 = .ok (.aload_n 0, 1) := by decide +kernel
theorem d_M_act_146 : decode (yMb m_M_act) 146 = .ok (.getfield 80, 3) := by decide +kernel
theorem d_M_act_149 : decode (yMb m_M_act) 149 = .ok (.ifCond .le 5, 3) := by decide +kernel
theorem d_M_act_152 : decode (yMb m_M_act) 152 = .ok (.iconst 0, 1) := by decide +kernel
theorem d_M_act_153 : decode (yMb m_M_act) 153 = .ok (.ireturn, 1) := by decide +kernel
theorem d_M_act_154 : decode (yMb m_M_act) 154 = .ok (.iload_n 3, 1) := by decide +kernel
theorem d_M_act_155 : decode (yMb m_M_act) 155 = .ok (.iconst 1, 1) := by decide +kernel
theorem d_M_act_156 : decode (yMb m_M_act) 156 = .ok (.if_icmp .eq 43, 3) := by decide +kernel
theorem d_M_act_159 : decode (yMb m_M_act) 159 = .ok (.iload_n 3, 1) := by decide +kernel
theorem d_M_act_160 : decode (yMb m_M_act) 160 = .ok (.iconst 3, 1) := by decide +kernel
theorem d_M_act_161 : decode (yMb m_M_act) 161 = .ok (.if_icmp .eq 38, 3) := by decide +kernel
theorem d_M_act_164 : decode (yMb m_M_act) 164 = .ok (.iload_n 3, 1) := by decide +kernel
theorem d_M_act_165 : decode (yMb m_M_act) 165 = .ok (.iconst 4, 1) := by decide +kernel
theorem d_M_act_166 : decode (yMb m_M_act) 166 = .ok (.if_icmp .eq 33, 3) := by decide +kernel
theorem d_M_act_169 : decode (yMb m_M_act) 169 = .ok (.iload_n 3, 1) := by decide +kernel
theorem d_M_act_170 : decode (yMb m_M_act) 170 = .ok (.bipush 6, 2) := by decide +kernel
theorem d_M_act_172 : decode (yMb m_M_act) 172 = .ok (.if_icmp .eq 27, 3) := by decide +kernel
theorem d_M_act_175 : decode (yMb m_M_act) 175 = .ok (.iload_n 3, 1) := by decide +kernel
theorem d_M_act_176 : decode (yMb m_M_act) 176 = .ok (.bipush 8, 2) := by decide +kernel
theorem d_M_act_178 : decode (yMb m_M_act) 178 = .ok (.if_icmp .eq 21, 3) := by decide +kernel
theorem d_M_act_181 : decode (yMb m_M_act) 181 = .ok (.iload_n 3, 1) := by decide +kernel
theorem d_M_act_182 : decode (yMb m_M_act) 182 = .ok (.bipush 10, 2) := by decide +kernel
theorem d_M_act_184 : decode (yMb m_M_act) 184 = .ok (.if_icmp .eq 15, 3) := by decide +kernel
theorem d_M_act_187 : decode (yMb m_M_act) 187 = .ok (.iload_n 3, 1) := by decide +kernel
theorem d_M_act_188 : decode (yMb m_M_act) 188 = .ok (.bipush 12, 2) := by decide +kernel
theorem d_M_act_190 : decode (yMb m_M_act) 190 = .ok (.if_icmp .eq 9, 3) := by decide +kernel
theorem d_M_act_193 : decode (yMb m_M_act) 193 = .ok (.iload_n 3, 1) := by decide +kernel
theorem d_M_act_194 : decode (yMb m_M_act) 194 = .ok (.bipush 14, 2) := by decide +kernel
theorem d_M_act_196 : decode (yMb m_M_act) 196 = .ok (.if_icmp .ne 13, 3) := by decide +kernel
theorem d_M_act_199 : decode (yMb m_M_act) 199 = .ok (.aload_n 0, 1) := by decide +kernel
theorem d_M_act_200 : decode (yMb m_M_act) 200 = .ok (.iload_n 1, 1) := by decide +kernel
theorem d_M_act_201 : decode (yMb m_M_act) 201 = .ok (.iload_n 2, 1) := by decide +kernel
theorem d_M_act_202 : decode (yMb m_M_act) 202 = .ok (.iload_n 3, 1) := by decide +kernel
theorem d_M_act_203 : decode (yMb m_M_act) 203 = .ok (.iload 4, 2) := by decide +kernel
theorem d_M_act_205 : decode (yMb m_M_act) 205 = .ok (.invokevirtual 144, 3) := by decide +kernel
theorem d_M_act_208 : decode (yMb m_M_act) 208 = .ok (.ireturn, 1) := by decide +kernel
theorem d_M_act_209 : decode (yMb m_M_act) 209 = .ok (.aload_n 0, 1) := by decide +kernel
theorem d_M_act_210 : decode (yMb m_M_act) 210 = .ok (.getfield 25, 3) := by decide +kernel
theorem d_M_act_213 : decode (yMb m_M_act) 213 = .ok (.iload_n 1, 1) := by decide +kernel
theorem d_M_act_214 : decode (yMb m_M_act) 214 = .ok (.iload_n 3, 1) := by decide +kernel
theorem d_M_act_215 : decode (yMb m_M_act) 215 = .ok (.iastore, 1) := by decide +kernel
theorem d_M_act_216 : decode (yMb m_M_act) 216 = .ok (.aload_n 0, 1) := by decide +kernel
theorem d_M_act_217 : decode (yMb m_M_act) 217 = .ok (.getfield 28, 3) := by decide +kernel
theorem d_M_act_220 : decode (yMb m_M_act) 220 = .ok (.iload_n 1, 1) := by decide +kernel
theorem d_M_act_221 : decode (yMb m_M_act) 221 = .ok (.iload 4, 2) := by decide +kernel
theorem d_M_act_223 : decode (yMb m_M_act) 223 = .ok (.iastore, 1) := by decide +kernel
theorem d_M_act_224 : decode (yMb m_M_act) 224 = .ok (.aload_n 0, 1) := by decide +kernel
theorem d_M_act_225 : decode (yMb m_M_act) 225 = .ok (.getfield 41, 3) := by decide +kernel
theorem d_M_act_228 : decode (yMb m_M_act) 228 = .ok (.iload_n 1, 1) := by decide +kernel
theorem d_M_act_229 : decode (yMb m_M_act) 229 = .ok (.iconst 0, 1) := by decide +kernel
theorem d_M_act_230 : decode (yMb m_M_act) 230 = .ok (.bastore, 1) := by decide +kernel
theorem d_M_act_231 : decode (yMb m_M_act) 231 = .ok (.aload_n 0, 1) := by decide +kernel
theorem d_M_act_232 : decode (yMb m_M_act) 232 = .ok (.getfield 44, 3) := by decide +kernel
theorem d_M_act_235 : decode (yMb m_M_act) 235 = .ok (.iload_n 2, 1) := by decide +kernel
theorem d_M_act_236 : decode (yMb m_M_act) 236 = .ok (.iaload, 1) := by decide +kernel
theorem d_M_act_237 : decode (yMb m_M_act) 237 = .ok (.ifCond .eq 13, 3) := by decide +kernel
theorem d_M_act_240 : decode (yMb m_M_act) 240 = .ok (.aload_n 0, 1) := by decide +kernel
theorem d_M_act_241 : decode (yMb m_M_act) 241 = .ok (.getfield 44, 3) := by decide +kernel
theorem d_M_act_244 : decode (yMb m_M_act) 244 = .ok (.iload_n 2, 1) := by decide +kernel
theorem d_M_act_245 : decode (yMb m_M_act) 245 = .ok (.iaload, 1) := by decide +kernel
theorem d_M_act_246 : decode (yMb m_M_act) 246 = .ok (.iconst 1, 1) := by decide +kernel
theorem d_M_act_247 : decode (yMb m_M_act) 247 = .ok (.if_icmp .ne 17, 3) := by decide +kernel
theorem d_M_act_250 : decode (yMb m_M_act) 250 = .ok (.aload_n 0, 1) := by decide +kernel
theorem d_M_act_251 : decode (yMb m_M_act) 251 = .ok (.getfield 53, 3) := by decide +kernel
theorem d_M_act_254 : decode (yMb m_M_act) 254 = .ok (.iload_n 2, 1) := by decide +kernel
theorem d_M_act_255 : decode (yMb m_M_act) 255 = .ok (.iaload, 1) := by decide +kernel
theorem d_M_act_256 : decode (yMb m_M_act) 256 = .ok (.iload_n 1, 1) := by decide +kernel
theorem d_M_act_257 : decode (yMb m_M_act) 257 = .ok (.if_icmp .ne 7, 3) := by decide +kernel
theorem d_M_act_260 : decode (yMb m_M_act) 260 = .ok (.iconst 1, 1) := by decide +kernel
theorem d_M_act_261 : decode (yMb m_M_act) 261 = .ok (.goto 4, 3) := by decide +kernel
theorem d_M_act_264 : decode (yMb m_M_act) 264 = .ok (.iconst 0, 1) := by decide +kernel
theorem d_M_act_265 : decode (yMb m_M_act) 265 = .ok (.istore 7, 2) := by decide +kernel
theorem d_M_act_267 : decode (yMb m_M_act) 267 = .ok (.iload_n 3, 1) := by decide +kernel
theorem d_M_act_268 : decode (yMb m_M_act) 268 = .ok (.iconst 2, 1) := by decide +kernel
theorem d_M_act_269 : decode (yMb m_M_act) 269 = .ok (.if_icmp .eq 56, 3) := by decide +kernel
theorem d_M_act_272 : decode (yMb m_M_act) 272 = .ok (.iload_n 3, 1) := by decide +kernel
theorem d_M_act_273 : decode (yMb m_M_act) 273 = .ok (.bipush 13, 2) := by decide +kernel
theorem d_M_act_275 : decode (yMb m_M_act) 275 = .ok (.if_icmp .eq 50, 3) := by decide +kernel
theorem d_M_act_278 : decode (yMb m_M_act) 278 = .ok (.aload_n 0, 1) := by decide +kernel
theorem d_M_act_279 : decode (yMb m_M_act) 279 = .ok (.iload_n 1, 1) := by decide +kernel
theorem d_M_act_280 : decode (yMb m_M_act) 280 = .ok (.iload_n 2, 1) := by decide +kernel
theorem d_M_act_281 : decode (yMb m_M_act) 281 = .ok (.iload_n 3, 1) := by decide +kernel
theorem d_M_act_282 : decode (yMb m_M_act) 282 = .ok (.invokevirtual 99, 3) := by decide +kernel
theorem d_M_act_285 : decode (yMb m_M_act) 285 = .ok (.ifCond .eq 40, 3) := by decide +kernel
theorem d_M_act_288 : decode (yMb m_M_act) 288 = .ok (.iload 7, 2) := by decide +kernel
theorem d_M_act_290 : decode (yMb m_M_act) 290 = .ok (.ifCond .ne 12, 3) := by decide +kernel
theorem d_M_act_293 : decode (yMb m_M_act) 293 = .ok (.aload_n 0, 1) := by decide +kernel
theorem d_M_act_294 : decode (yMb m_M_act) 294 = .ok (.iload_n 2, 1) := by decide +kernel
theorem d_M_act_295 : decode (yMb m_M_act) 295 = .ok (.iload_n 3, 1) := by decide +kernel
theorem d_M_act_296 : decode (yMb m_M_act) 296 = .ok (.invokevirtual 148, 3) := by decide +kernel
theorem d_M_act_299 : decode (yMb m_M_act) 299 = .ok (.ifCond .ne 26, 3) := by decide +kernel
theorem d_M_act_302 : decode (yMb m_M_act) 302 = .ok (.aload_n 0, 1) := by decide +kernel
theorem d_M_act_303 : decode (yMb m_M_act) 303 = .ok (.iload_n 1, 1) := by decide +kernel
theorem d_M_act_304 : decode (yMb m_M_act) 304 = .ok (.iload_n 2, 1) := by decide +kernel
theorem d_M_act_305 : decode (yMb m_M_act) 305 = .ok (.iload_n 3, 1) := by decide +kernel
theorem d_M_act_306 : decode (yMb m_M_act) 306 = .ok (.invokevirtual 102, 3) := by decide +kernel
theorem d_M_act_309 : decode (yMb m_M_act) 309 = .ok (.aload_n 0, 1) := by decide +kernel
theorem d_M_act_310 : decode (yMb m_M_act) 310 = .ok (.iload_n 1, 1) := by decide +kernel
theorem d_M_act_311 : decode (yMb m_M_act) 311 = .ok (.iconst 0, 1) := by decide +kernel
theorem d_M_act_312 : decode (yMb m_M_act) 312 = .ok (.invokevirtual 110, 3) := by decide +kernel
theorem d_M_act_315 : decode (yMb m_M_act) 315 = .ok (.istore 8, 2) := by decide +kernel
theorem d_M_act_317 : decode (yMb m_M_act) 317 = .ok (.aload_n 0, 1) := by decide +kernel
theorem d_M_act_318 : decode (yMb m_M_act) 318 = .ok (.iload_n 2, 1) := by decide +kernel
theorem d_M_act_319 : decode (yMb m_M_act) 319 = .ok (.invokevirtual 133, 3) := by decide +kernel
theorem d_M_act_322 : decode (yMb m_M_act) 322 = .ok (.iload 8, 2) := by decide +kernel
theorem d_M_act_324 : decode (yMb m_M_act) 324 = .ok (.ireturn, 1) := by decide +kernel
theorem d_M_act_325 : decode (yMb m_M_act) 325 = .ok (.iload_n 3, 1) := by decide +kernel
theorem d_M_act_326 : decode (yMb m_M_act) 326 = .ok (.bipush 13, 2) := by decide +kernel
theorem d_M_act_328 : decode (yMb m_M_act) 328 = .ok (.if_icmp .ne 12, 3) := by decide +kernel
theorem d_M_act_331 : decode (yMb m_M_act) 331 = .ok (.aload_n 0, 1) := by decide +kernel
theorem d_M_act_332 : decode (yMb m_M_act) 332 = .ok (.iload_n 1, 1) := by decide +kernel
theorem d_M_act_333 : decode (yMb m_M_act) 333 = .ok (.iload_n 2, 1) := by decide +kernel
theorem d_M_act_334 : decode (yMb m_M_act) 334 = .ok (.invokevirtual 151, 3) := by decide +kernel
theorem d_M_act_337 : decode (yMb m_M_act) 337 = .ok (.goto 4, 3) := by decide +kernel
theorem d_M_act_340 : decode (yMb m_M_act) 340 = .ok (.iconst (-1), 1) := by decide +kernel
theorem d_M_act_341 : decode (yMb m_M_act) 341 = .ok (.istore 8, 2) := by decide +kernel
theorem d_M_act_343 : decode (yMb m_M_act) 343 = .ok (.iload 8, 2) := by decide +kernel
theorem d_M_act_345 : decode (yMb m_M_act) 345 = .ok (.ifCond .lt 6, 3) := by decide +kernel
theorem d_M_act_348 : decode (yMb m_M_act) 348 = .ok (.iload 8, 2) := by decide +kernel
theorem d_M_act_350 : decode (yMb m_M_act) 350 = .ok (.ireturn, 1) := by decide +kernel
theorem d_M_act_351 : decode (yMb m_M_act) 351 = .ok (.aload_n 0, 1) := by decide +kernel
theorem d_M_act_352 : decode (yMb m_M_act) 352 = .ok (.getfield 37, 3) := by decide +kernel
theorem d_M_act_355 : decode (yMb m_M_act) 355 = .ok (.iload_n 1, 1) := by decide +kernel
theorem d_M_act_356 : decode (yMb m_M_act) 356 = .ok (.baload, 1) := by decide +kernel
theorem d_M_act_357 : decode (yMb m_M_act) 357 = .ok (.ifCond .ne 8, 3) := by decide +kernel
theorem d_M_act_360 : decode (yMb m_M_act) 360 = .ok (.iload 5, 2) := by decide +kernel
theorem d_M_act_362 : decode (yMb m_M_act) 362 = .ok (.ifCond .ne 11, 3) := by decide +kernel
theorem d_M_act_365 : decode (yMb m_M_act) 365 = .ok (.aload_n 0, 1) := by decide +kernel
theorem d_M_act_366 : decode (yMb m_M_act) 366 = .ok (.iload_n 1, 1) := by decide +kernel
theorem d_M_act_367 : decode (yMb m_M_act) 367 = .ok (.iload_n 2, 1) := by decide +kernel
theorem d_M_act_368 : decode (yMb m_M_act) 368 = .ok (.iload_n 3, 1) := by decide +kernel
theorem d_M_act_369 : decode (yMb m_M_act) 369 = .ok (.invokevirtual 154, 3) := by decide +kernel
theorem d_M_act_372 : decode (yMb m_M_act) 372 = .ok (.ireturn, 1) := by decide +kernel
theorem d_M_act_373 : decode (yMb m_M_act) 373 = .ok (.aload_n 0, 1) := by decide +kernel
theorem d_M_act_374 : decode (yMb m_M_act) 374 = .ok (.getfield 13, 3) := by decide +kernel
theorem d_M_act_377 : decode (yMb m_M_act) 377 = .ok (.iload_n 1, 1) := by decide +kernel
theorem d_M_act_378 : decode (yMb m_M_act) 378 = .ok (.iconst 1, 1) := by decide +kernel
theorem d_M_act_379 : decode (yMb m_M_act) 379 = .ok (.iastore, 1) := by decide +kernel
theorem d_M_act_380 : decode (yMb m_M_act) 380 = .ok (.aload_n 0, 1) := by decide +kernel
theorem d_M_act_381 : decode (yMb m_M_act) 381 = .ok (.getfield 22, 3) := by decide +kernel
theorem d_M_act_384 : decode (yMb m_M_act) 384 = .ok (.iload_n 1, 1) := by decide +kernel
theorem d_M_act_385 : decode (yMb m_M_act) 385 = .ok (.iload 5, 2) := by decide +kernel
theorem d_M_act_387 : decode (yMb m_M_act) 387 = .ok (.iastore, 1) := by decide +kernel
theorem d_M_act_388 : decode (yMb m_M_act) 388 = .ok (.iload_n 3, 1) := by decide +kernel
theorem d_M_act_389 : decode (yMb m_M_act) 389 = .ok (.iconst 2, 1) := by decide +kernel
theorem d_M_act_390 : decode (yMb m_M_act) 390 = .ok (.if_icmp .ne 12, 3) := by decide +kernel
theorem d_M_act_393 : decode (yMb m_M_act) 393 = .ok (.aload_n 0, 1) := by decide +kernel
theorem d_M_act_394 : decode (yMb m_M_act) 394 = .ok (.iload_n 1, 1) := by decide +kernel
theorem d_M_act_395 : decode (yMb m_M_act) 395 = .ok (.iload_n 2, 1) := by decide +kernel
theorem d_M_act_396 : decode (yMb m_M_act) 396 = .ok (.iload 4, 2) := by decide +kernel
theorem d_M_act_398 : decode (yMb m_M_act) 398 = .ok (.invokevirtual 158, 3) := by decide +kernel
theorem d_M_act_401 : decode (yMb m_M_act) 401 = .ok (.ireturn, 1) := by decide +kernel
theorem d_M_act_402 : decode (yMb m_M_act) 402 = .ok (.aload_n 0, 1) := by decide +kernel
theorem d_M_act_403 : decode (yMb m_M_act) 403 = .ok (.iload_n 1, 1) := by decide +kernel
theorem d_M_act_404 : decode (yMb m_M_act) 404 = .ok (.iload_n 2, 1) := by decide +kernel
theorem d_M_act_405 : decode (yMb m_M_act) 405 = .ok (.invokevirtual 116, 3) := by decide +kernel
theorem d_M_act_408 : decode (yMb m_M_act) 408 = .ok (.iconst 1, 1) := by decide +kernel
theorem d_M_act_409 : decode (yMb m_M_act) 409 = .ok (.ireturn, 1) := by decide +kernel
end
section
theorem d_M_refused_0 : decode (yMb m_M_refused) 0 = .ok (.aload_n 0, 1) := by decide +kernel
theorem d_M_refused_1 : decode (yMb m_M_refused) 1 = .ok (.getfield 37, 3) := by decide +kernel
theorem d_M_refused_4 : decode (yMb m_M_refused) 4 = .ok (.iload_n 1, 1) := by decide +kernel
theorem d_M_refused_5 : decode (yMb m_M_refused) 5 = .ok (.baload, 1) := by decide +kernel
theorem d_M_refused_6 : decode (yMb m_M_refused) 6 = .ok (.istore 4, 2) := by decide +kernel
theorem d_M_refused_8 : decode (yMb m_M_refused) 8 = .ok (.aload_n 0, 1) := by decide +kernel
theorem d_M_refused_9 : decode (yMb m_M_refused) 9 = .ok (.getfield 37, 3) := by decide +kernel
theorem d_M_refused_12 : decode (yMb m_M_refused) 12 = .ok (.iload_n 1, 1) := by decide +kernel
theorem d_M_refused_13 : decode (yMb m_M_refused) 13 = .ok (.iconst 0, 1) := by decide +kernel
theorem d_M_refused_14 : decode (yMb m_M_refused) 14 = .ok (.bastore, 1) := by decide +kernel
theorem d_M_refused_15 : decode (yMb m_M_refused) 15 = .ok (.iload_n 3, 1) := by decide +kernel
theorem d_M_refused_16 : decode (yMb m_M_refused) 16 = .ok (.bipush 13, 2) := by decide +kernel
theorem d_M_refused_18 : decode (yMb m_M_refused) 18 = .ok (.if_icmp .ne 20, 3) := by decide +kernel
theorem d_M_refused_21 : decode (yMb m_M_refused) 21 = .ok (.iload 4, 2) := by decide +kernel
theorem d_M_refused_23 : decode (yMb m_M_refused) 23 = .ok (.ifCond .eq 15, 3) := by decide +kernel
theorem d_M_refused_26 : decode (yMb m_M_refused) 26 = .ok (.aload_n 0, 1) := by decide +kernel
theorem d_M_refused_27 : decode (yMb m_M_refused) 27 = .ok (.getfield 77, 3) := by decide +kernel
theorem d_M_refused_30 : decode (yMb m_M_refused) 30 = .ok (.iload_n 2, 1) := by decide +kernel
theorem d_M_refused_31 : decode (yMb m_M_refused) 31 = .ok (.iconst 1, 1) := by decide +kernel
theorem d_M_refused_32 : decode (yMb m_M_refused) 32 = .ok (.bastore, 1) := by decide +kernel
theorem d_M_refused_33 : decode (yMb m_M_refused) 33 = .ok (.aload_n 0, 1) := by decide +kernel
theorem d_M_refused_34 : decode (yMb m_M_refused) 34 = .ok (.iload_n 2, 1) := by decide +kernel
theorem d_M_refused_35 : decode (yMb m_M_refused) 35 = .ok (.invokevirtual 130, 3) := by decide +kernel
theorem d_M_refused_38 : decode (yMb m_M_refused) 38 = .ok (.aload_n 0, 1) := by decide +kernel
theorem d_M_refused_39 : decode (yMb m_M_refused) 39 = .ok (.iload_n 1, 1) := by decide +kernel
theorem d_M_refused_40 : decode (yMb m_M_refused) 40 = .ok (.iload 4, 2) := by decide +kernel
theorem d_M_refused_42 : decode (yMb m_M_refused) 42 = .ok (.ifCond .eq 7, 3) := by decide +kernel
theorem d_M_refused_45 : decode (yMb m_M_refused) 45 = .ok (.iconst 4, 1) := by decide +kernel
theorem d_M_refused_46 : decode (yMb m_M_refused) 46 = .ok (.goto 4, 3) := by decide +kernel
theorem d_M_refused_49 : decode (yMb m_M_refused) 49 = .ok (.iconst 2, 1) := by decide +kernel
theorem d_M_refused_50 : decode (yMb m_M_refused) 50 = .ok (.invokevirtual 110, 3) := by decide +kernel
theorem d_M_refused_53 : decode (yMb m_M_refused) 53 = .ok (.ireturn, 1) := by decide +kernel
theorem d_M_leave_0 : decode (yMb m_M_leave) 0 = .ok (.aload_n 0, 1) := by decide +kernel
theorem d_M_leave_1 : decode (yMb m_M_leave) 1 = .ok (.getfield 16, 3) := by decide +kernel
theorem d_M_leave_4 : decode (yMb m_M_leave) 4 = .ok (.iload_n 1, 1) := by decide +kernel
theorem d_M_leave_5 : decode (yMb m_M_leave) 5 = .ok (.iaload, 1) := by decide +kernel
theorem d_M_leave_6 : decode (yMb m_M_leave) 6 = .ok (.istore_n 3, 1) := by decide +kernel
theorem d_M_leave_7 : decode (yMb m_M_leave) 7 = .ok (.aload_n 0, 1) := by decide +kernel
theorem d_M_leave_8 : decode (yMb m_M_leave) 8 = .ok (.getfield 7, 3) := by decide +kernel
theorem d_M_leave_11 : decode (yMb m_M_leave) 11 = .ok (.iload_n 1, 1) := by decide +kernel
theorem d_M_leave_12 : decode (yMb m_M_leave) 12 = .ok (.iaload, 1) := by decide +kernel
theorem d_M_leave_13 : decode (yMb m_M_leave) 13 = .ok (.iconst 2, 1) := by decide +kernel
theorem d_M_leave_14 : decode (yMb m_M_leave) 14 = .ok (.if_icmp .ne 103, 3) := by decide +kernel
theorem d_M_leave_17 : decode (yMb m_M_leave) 17 = .ok (.iload_n 3, 1) := by decide +kernel
theorem d_M_leave_18 : decode (yMb m_M_leave) 18 = .ok (.iconst 2, 1) := by decide +kernel
theorem d_M_leave_19 : decode (yMb m_M_leave) 19 = .ok (.imul, 1) := by decide +kernel
theorem d_M_leave_20 : decode (yMb m_M_leave) 20 = .ok (.istore 4, 2) := by decide +kernel
theorem d_M_leave_22 : decode (yMb m_M_leave) 22 = .ok (.iload 4, 2) := by decide +kernel
theorem d_M_leave_24 : decode (yMb m_M_leave) 24 = .ok (.iload_n 3, 1) := by decide +kernel
theorem d_M_leave_25 : decode (yMb m_M_leave) 25 = .ok (.iconst 2, 1) := by decide +kernel
theorem d_M_leave_26 : decode (yMb m_M_leave) 26 = .ok (.imul, 1) := by decide +kernel
theorem d_M_leave_27 : decode (yMb m_M_leave) 27 = .ok (.iconst 2, 1) := by decide +kernel
theorem d_M_leave_28 : decode (yMb m_M_leave) 28 = .ok (.iadd, 1) := by decide +kernel
theorem d_M_leave_29 : decode (yMb m_M_leave) 29 = .ok (.if_icmp .ge 78, 3) := by decide +kernel
theorem d_M_leave_32 : decode (yMb m_M_leave) 32 = .ok (.iconst 0, 1) := by decide +kernel
theorem d_M_leave_33 : decode (yMb m_M_leave) 33 = .ok (.istore 5, 2) := by decide +kernel
theorem d_M_leave_35 : decode (yMb m_M_leave) 35 = .ok (.iconst 0, 1) := by decide +kernel
theorem d_M_leave_36 : decode (yMb m_M_leave) 36 = .ok (.istore 6, 2) := by decide +kernel
theorem d_M_leave_38 : decode (yMb m_M_leave) 38 = .ok (.iload 6, 2) := by decide +kernel
theorem d_M_leave_40 : decode (yMb m_M_leave) 40 = .ok (.aload_n 0, 1) := by decide +kernel
theorem d_M_leave_41 : decode (yMb m_M_leave) 41 = .ok (.getfield 62, 3) := by decide +kernel
theorem d_M_leave_44 : decode (yMb m_M_leave) 44 = .ok (.iload 4, 2) := by decide +kernel
theorem d_M_leave_46 : decode (yMb m_M_leave) 46 = .ok (.iaload, 1) := by decide +kernel
theorem d_M_leave_47 : decode (yMb m_M_leave) 47 = .ok (.if_icmp .ge 29, 3) := by decide +kernel
theorem d_M_leave_50 : decode (yMb m_M_leave) 50 = .ok (.aload_n 0, 1) := by decide +kernel
theorem d_M_leave_51 : decode (yMb m_M_leave) 51 = .ok (.getfield 65, 3) := by decide +kernel
theorem d_M_leave_54 : decode (yMb m_M_leave) 54 = .ok (.iload 4, 2) := by decide +kernel
theorem d_M_leave_56 : decode (yMb m_M_leave) 56 = .ok (.bipush 6, 2) := by decide +kernel
theorem d_M_leave_58 : decode (yMb m_M_leave) 58 = .ok (.imul, 1) := by decide +kernel
theorem d_M_leave_59 : decode (yMb m_M_leave) 59 = .ok (.iload 6, 2) := by decide +kernel
theorem d_M_leave_61 : decode (yMb m_M_leave) 61 = .ok (.iadd, 1) := by decide +kernel
theorem d_M_leave_62 : decode (yMb m_M_leave) 62 = .ok (.iaload, 1) := by decide +kernel
theorem d_M_leave_63 : decode (yMb m_M_leave) 63 = .ok (.iload_n 1, 1) := by decide +kernel
theorem d_M_leave_64 : decode (yMb m_M_leave) 64 = .ok (.if_icmp .ne 6, 3) := by decide +kernel
theorem d_M_leave_67 : decode (yMb m_M_leave) 67 = .ok (.iconst 1, 1) := by decide +kernel
theorem d_M_leave_68 : decode (yMb m_M_leave) 68 = .ok (.istore 5, 2) := by decide +kernel
theorem d_M_leave_70 : decode (yMb m_M_leave) 70 = .ok (.iinc 6 1, 3) := by decide +kernel
theorem d_M_leave_73 : decode (yMb m_M_leave) 73 = .ok (.goto (-35), 3) := by decide +kernel
theorem d_M_leave_76 : decode (yMb m_M_leave) 76 = .ok (.iload 5, 2) := by decide +kernel
theorem d_M_leave_78 : decode (yMb m_M_leave) 78 = .ok (.ifCond .eq 23, 3) := by decide +kernel
theorem d_M_leave_81 : decode (yMb m_M_leave) 81 = .ok (.aload_n 0, 1) := by decide +kernel
theorem d_M_leave_82 : decode (yMb m_M_leave) 82 = .ok (.aload_n 0, 1) := by decide +kernel
theorem d_M_leave_83 : decode (yMb m_M_leave) 83 = .ok (.getfield 65, 3) := by decide +kernel
theorem d_M_leave_86 : decode (yMb m_M_leave) 86 = .ok (.iload 4, 2) := by decide +kernel
theorem d_M_leave_88 : decode (yMb m_M_leave) 88 = .ok (.bipush 6, 2) := by decide +kernel
theorem d_M_leave_90 : decode (yMb m_M_leave) 90 = .ok (.imul, 1) := by decide +kernel
theorem d_M_leave_91 : decode (yMb m_M_leave) 91 = .ok (.aload_n 0, 1) := by decide +kernel
theorem d_M_leave_92 : decode (yMb m_M_leave) 92 = .ok (.getfield 62, 3) := by decide +kernel
theorem d_M_leave_95 : decode (yMb m_M_leave) 95 = .ok (.iload 4, 2) := by decide +kernel
theorem d_M_leave_97 : decode (yMb m_M_leave) 97 = .ok (.iload_n 1, 1) := by decide +kernel
theorem d_M_leave_98 : decode (yMb m_M_leave) 98 = .ok (.invokevirtual 106, 3) := by decide +kernel
theorem d_M_leave_101 : decode (yMb m_M_leave) 101 = .ok (.iinc 4 1, 3) := by decide +kernel
theorem d_M_leave_104 : decode (yMb m_M_leave) 104 = .ok (.goto (-82), 3) := by decide +kernel
theorem d_M_leave_107 : decode (yMb m_M_leave) 107 = .ok (.aload_n 0, 1) := by decide +kernel
theorem d_M_leave_108 : decode (yMb m_M_leave) 108 = .ok (.iload_n 1, 1) := by decide +kernel
theorem d_M_leave_109 : decode (yMb m_M_leave) 109 = .ok (.iload_n 3, 1) := by decide +kernel
theorem d_M_leave_110 : decode (yMb m_M_leave) 110 = .ok (.iload_n 2, 1) := by decide +kernel
theorem d_M_leave_111 : decode (yMb m_M_leave) 111 = .ok (.invokevirtual 120, 3) := by decide +kernel
theorem d_M_leave_114 : decode (yMb m_M_leave) 114 = .ok (.goto 53, 3) := by decide +kernel
theorem d_M_leave_117 : decode (yMb m_M_leave) 117 = .ok (.aload_n 0, 1) := by decide +kernel
theorem d_M_leave_118 : decode (yMb m_M_leave) 118 = .ok (.aload_n 0, 1) := by decide +kernel
theorem d_M_leave_119 : decode (yMb m_M_leave) 119 = .ok (.getfield 59, 3) := by decide +kernel
theorem d_M_leave_122 : decode (yMb m_M_leave) 122 = .ok (.iload_n 3, 1) := by decide +kernel
theorem d_M_leave_123 : decode (yMb m_M_leave) 123 = .ok (.bipush 6, 2) := by decide +kernel
theorem d_M_leave_125 : decode (yMb m_M_leave) 125 = .ok (.imul, 1) := by decide +kernel
theorem d_M_leave_126 : decode (yMb m_M_leave) 126 = .ok (.aload_n 0, 1) := by decide +kernel
theorem d_M_leave_127 : decode (yMb m_M_leave) 127 = .ok (.getfield 56, 3) := by decide +kernel
theorem d_M_leave_130 : decode (yMb m_M_leave) 130 = .ok (.iload_n 3, 1) := by decide +kernel
theorem d_M_leave_131 : decode (yMb m_M_leave) 131 = .ok (.iload_n 1, 1) := by decide +kernel
theorem d_M_leave_132 : decode (yMb m_M_leave) 132 = .ok (.invokevirtual 106, 3) := by decide +kernel
theorem d_M_leave_135 : decode (yMb m_M_leave) 135 = .ok (.aload_n 0, 1) := by decide +kernel
theorem d_M_leave_136 : decode (yMb m_M_leave) 136 = .ok (.aload_n 0, 1) := by decide +kernel
theorem d_M_leave_137 : decode (yMb m_M_leave) 137 = .ok (.iload_n 1, 1) := by decide +kernel
theorem d_M_leave_138 : decode (yMb m_M_leave) 138 = .ok (.iload_n 2, 1) := by decide +kernel
theorem d_M_leave_139 : decode (yMb m_M_leave) 139 = .ok (.invokevirtual 110, 3) := by decide +kernel
theorem d_M_leave_142 : decode (yMb m_M_leave) 142 = .ok (.putfield 113, 3) := by decide +kernel
theorem d_M_leave_145 : decode (yMb m_M_leave) 145 = .ok (.aload_n 0, 1) := by decide +kernel
theorem d_M_leave_146 : decode (yMb m_M_leave) 146 = .ok (.getfield 44, 3) := by decide +kernel
theorem d_M_leave_149 : decode (yMb m_M_leave) 149 = .ok (.iload_n 3, 1) := by decide +kernel
theorem d_M_leave_150 : decode (yMb m_M_leave) 150 = .ok (.iaload, 1) := by decide +kernel
theorem d_M_leave_151 : decode (yMb m_M_leave) 151 = .ok (.iconst 4, 1) := by decide +kernel
theorem d_M_leave_152 : decode (yMb m_M_leave) 152 = .ok (.if_icmp .ne 15, 3) := by decide +kernel
theorem d_M_leave_155 : decode (yMb m_M_leave) 155 = .ok (.aload_n 0, 1) := by decide +kernel
theorem d_M_leave_156 : decode (yMb m_M_leave) 156 = .ok (.getfield 77, 3) := by decide +kernel
theorem d_M_leave_159 : decode (yMb m_M_leave) 159 = .ok (.iload_n 3, 1) := by decide +kernel
theorem d_M_leave_160 : decode (yMb m_M_leave) 160 = .ok (.iconst 1, 1) := by decide +kernel
theorem d_M_leave_161 : decode (yMb m_M_leave) 161 = .ok (.bastore, 1) := by decide +kernel
theorem d_M_leave_162 : decode (yMb m_M_leave) 162 = .ok (.aload_n 0, 1) := by decide +kernel
theorem d_M_leave_163 : decode (yMb m_M_leave) 163 = .ok (.iload_n 3, 1) := by decide +kernel
theorem d_M_leave_164 : decode (yMb m_M_leave) 164 = .ok (.invokevirtual 130, 3) := by decide +kernel
theorem d_M_leave_167 : decode (yMb m_M_leave) 167 = .ok (.aload_n 0, 1) := by decide +kernel
theorem d_M_leave_168 : decode (yMb m_M_leave) 168 = .ok (.iload_n 3, 1) := by decide +kernel
theorem d_M_leave_169 : decode (yMb m_M_leave) 169 = .ok (.invokevirtual 133, 3) := by decide +kernel
theorem d_M_leave_172 : decode (yMb m_M_leave) 172 = .ok (.return_, 1) := by decide +kernel
theorem d_M_tick_0 : decode (yMb m_M_tick) 0 = .ok (.aload_n 0, 1) := by decide +kernel
theorem d_M_tick_1 : decode (yMb m_M_tick) 1 = .ok (.iload_n 1, 1) := by decide +kernel
theorem d_M_tick_2 : decode (yMb m_M_tick) 2 = .ok (.iconst 1, 1) := by decide +kernel
theorem d_M_tick_3 : decode (yMb m_M_tick) 3 = .ok (.bipush 50, 2) := by decide +kernel
theorem d_M_tick_5 : decode (yMb m_M_tick) 5 = .ok (.invokestatic 84, 3) := by decide +kernel
theorem d_M_tick_8 : decode (yMb m_M_tick) 8 = .ok (.invokevirtual 88, 3) := by decide +kernel
theorem d_M_tick_11 : decode (yMb m_M_tick) 11 = .ok (.ifCond .eq 5, 3) := by decide +kernel
theorem d_M_tick_14 : decode (yMb m_M_tick) 14 = .ok (.iconst 0, 1) := by decide +kernel
theorem d_M_tick_15 : decode (yMb m_M_tick) 15 = .ok (.ireturn, 1) := by decide +kernel
theorem d_M_tick_16 : decode (yMb m_M_tick) 16 = .ok (.iconst 0, 1) := by decide +kernel
theorem d_M_tick_17 : decode (yMb m_M_tick) 17 = .ok (.istore_n 2, 1) := by decide +kernel
theorem d_M_tick_18 : decode (yMb m_M_tick) 18 = .ok (.iconst 0, 1) := by decide +kernel
theorem d_M_tick_19 : decode (yMb m_M_tick) 19 = .ok (.istore_n 3, 1) := by decide +kernel
theorem d_M_tick_20 : decode (yMb m_M_tick) 20 = .ok (.iload_n 3, 1) := by decide +kernel
theorem d_M_tick_21 : decode (yMb m_M_tick) 21 = .ok (.iload_n 1, 1) := by decide +kernel
theorem d_M_tick_22 : decode (yMb m_M_tick) 22 = .ok (.if_icmp .ge 82, 3) := by decide +kernel
theorem d_M_tick_25 : decode (yMb m_M_tick) 25 = .ok (.aload_n 0, 1) := by decide +kernel
theorem d_M_tick_26 : decode (yMb m_M_tick) 26 = .ok (.dup, 1) := by decide +kernel
theorem d_M_tick_27 : decode (yMb m_M_tick) 27 = .ok (.getfield 161, 3) := by decide +kernel
theorem d_M_tick_30 : decode (yMb m_M_tick) 30 = .ok (.iconst 1, 1) := by decide +kernel
theorem d_M_tick_31 : decode (yMb m_M_tick) 31 = .ok (.iadd, 1) := by decide +kernel
theorem d_M_tick_32 : decode (yMb m_M_tick) 32 = .ok (.putfield 161, 3) := by decide +kernel
theorem d_M_tick_35 : decode (yMb m_M_tick) 35 = .ok (.iconst 0, 1) := by decide +kernel
theorem d_M_tick_36 : decode (yMb m_M_tick) 36 = .ok (.istore 4, 2) := by decide +kernel
theorem d_M_tick_38 : decode (yMb m_M_tick) 38 = .ok (.iload 4, 2) := by decide +kernel
theorem d_M_tick_40 : decode (yMb m_M_tick) 40 = .ok (.bipush 6, 2) := by decide +kernel
theorem d_M_tick_42 : decode (yMb m_M_tick) 42 = .ok (.if_icmp .ge 56, 3) := by decide +kernel
theorem d_M_tick_45 : decode (yMb m_M_tick) 45 = .ok (.aload_n 0, 1) := by decide +kernel
theorem d_M_tick_46 : decode (yMb m_M_tick) 46 = .ok (.getfield 22, 3) := by decide +kernel
theorem d_M_tick_49 : decode (yMb m_M_tick) 49 = .ok (.iload 4, 2) := by decide +kernel
theorem d_M_tick_51 : decode (yMb m_M_tick) 51 = .ok (.iaload, 1) := by decide +kernel
theorem d_M_tick_52 : decode (yMb m_M_tick) 52 = .ok (.ifCond .gt 6, 3) := by decide +kernel
theorem d_M_tick_55 : decode (yMb m_M_tick) 55 = .ok (.goto 37, 3) := by decide +kernel
theorem d_M_tick_58 : decode (yMb m_M_tick) 58 = .ok (.aload_n 0, 1) := by decide +kernel
theorem d_M_tick_59 : decode (yMb m_M_tick) 59 = .ok (.getfield 22, 3) := by decide +kernel
theorem d_M_tick_62 : decode (yMb m_M_tick) 62 = .ok (.iload 4, 2) := by decide +kernel
theorem d_M_tick_64 : decode (yMb m_M_tick) 64 = .ok (.dup2, 1) := by decide +kernel
theorem d_M_tick_65 : decode (yMb m_M_tick) 65 = .ok (.iaload, 1) := by decide +kernel
theorem d_M_tick_66 : decode (yMb m_M_tick) 66 = .ok (.iconst 1, 1) := by decide +kernel
theorem d_M_tick_67 : decode (yMb m_M_tick) 67 = .ok (.isub, 1) := by decide +kernel
theorem d_M_tick_68 : decode (yMb m_M_tick) 68 = .ok (.iastore, 1) := by decide +kernel
theorem d_M_tick_69 : decode (yMb m_M_tick) 69 = .ok (.aload_n 0, 1) := by decide +kernel
theorem d_M_tick_70 : decode (yMb m_M_tick) 70 = .ok (.getfield 22, 3) := by decide +kernel
theorem d_M_tick_73 : decode (yMb m_M_tick) 73 = .ok (.iload 4, 2) := by decide +kernel
theorem d_M_tick_75 : decode (yMb m_M_tick) 75 = .ok (.iaload, 1) := by decide +kernel
theorem d_M_tick_76 : decode (yMb m_M_tick) 76 = .ok (.ifCond .le 6, 3) := by decide +kernel
theorem d_M_tick_79 : decode (yMb m_M_tick) 79 = .ok (.goto 13, 3) := by decide +kernel
theorem d_M_tick_82 : decode (yMb m_M_tick) 82 = .ok (.iinc 2 1, 3) := by decide +kernel
theorem d_M_tick_85 : decode (yMb m_M_tick) 85 = .ok (.aload_n 0, 1) := by decide +kernel
theorem d_M_tick_86 : decode (yMb m_M_tick) 86 = .ok (.iload 4, 2) := by decide +kernel
theorem d_M_tick_88 : decode (yMb m_M_tick) 88 = .ok (.iconst 2, 1) := by decide +kernel
theorem d_M_tick_89 : decode (yMb m_M_tick) 89 = .ok (.invokevirtual 164, 3) := by decide +kernel
theorem d_M_tick_92 : decode (yMb m_M_tick) 92 = .ok (.iinc 4 1, 3) := by decide +kernel
theorem d_M_tick_95 : decode (yMb m_M_tick) 95 = .ok (.goto (-57), 3) := by decide +kernel
theorem d_M_tick_98 : decode (yMb m_M_tick) 98 = .ok (.iinc 3 1, 3) := by decide +kernel
theorem d_M_tick_101 : decode (yMb m_M_tick) 101 = .ok (.goto (-81), 3) := by decide +kernel
theorem d_M_tick_104 : decode (yMb m_M_tick) 104 = .ok (.iload_n 2, 1) := by decide +kernel
theorem d_M_tick_105 : decode (yMb m_M_tick) 105 = .ok (.ireturn, 1) := by decide +kernel
theorem d_M_interrupt_0 : decode (yMb m_M_interrupt) 0 = .ok (.aload_n 0, 1) := by decide +kernel
theorem d_M_interrupt_1 : decode (yMb m_M_interrupt) 1 = .ok (.iload_n 1, 1) := by decide +kernel
theorem d_M_interrupt_2 : decode (yMb m_M_interrupt) 2 = .ok (.iconst 0, 1) := by decide +kernel
theorem d_M_interrupt_3 : decode (yMb m_M_interrupt) 3 = .ok (.iconst 5, 1) := by decide +kernel
theorem d_M_interrupt_4 : decode (yMb m_M_interrupt) 4 = .ok (.invokestatic 84, 3) := by decide +kernel
theorem d_M_interrupt_7 : decode (yMb m_M_interrupt) 7 = .ok (.invokevirtual 88, 3) := by decide +kernel
theorem d_M_interrupt_10 : decode (yMb m_M_interrupt) 10 = .ok (.ifCond .eq 4, 3) := by decide +kernel
theorem d_M_interrupt_13 : decode (yMb m_M_interrupt) 13 = .ok (.return_, 1) := by decide +kernel
theorem d_M_interrupt_14 : decode (yMb m_M_interrupt) 14 = .ok (.aload_n 0, 1) := by decide +kernel
theorem d_M_interrupt_15 : decode (yMb m_M_interrupt) 15 = .ok (.getfield 7, 3) := by decide +kernel
theorem d_M_interrupt_18 : decode (yMb m_M_interrupt) 18 = .ok (.iload_n 1, 1) := by decide +kernel
theorem d_M_interrupt_19 : decode (yMb m_M_interrupt) 19 = .ok (.iaload, 1) := by decide +kernel
theorem d_M_interrupt_20 : decode (yMb m_M_interrupt) 20 = .ok (.ifCond .eq 12, 3) := by decide +kernel
theorem d_M_interrupt_23 : decode (yMb m_M_interrupt) 23 = .ok (.aload_n 0, 1) := by decide +kernel
theorem d_M_interrupt_24 : decode (yMb m_M_interrupt) 24 = .ok (.getfield 41, 3) := by decide +kernel
theorem d_M_interrupt_27 : decode (yMb m_M_interrupt) 27 = .ok (.iload_n 1, 1) := by decide +kernel
theorem d_M_interrupt_28 : decode (yMb m_M_interrupt) 28 = .ok (.baload, 1) := by decide +kernel
theorem d_M_interrupt_29 : decode (yMb m_M_interrupt) 29 = .ok (.ifCond .eq 13, 3) := by decide +kernel
theorem d_M_interrupt_32 : decode (yMb m_M_interrupt) 32 = .ok (.aload_n 0, 1) := by decide +kernel
theorem d_M_interrupt_33 : decode (yMb m_M_interrupt) 33 = .ok (.getfield 37, 3) := by decide +kernel
theorem d_M_interrupt_36 : decode (yMb m_M_interrupt) 36 = .ok (.iload_n 1, 1) := by decide +kernel
theorem d_M_interrupt_37 : decode (yMb m_M_interrupt) 37 = .ok (.iconst 1, 1) := by decide +kernel
theorem d_M_interrupt_38 : decode (yMb m_M_interrupt) 38 = .ok (.bastore, 1) := by decide +kernel
theorem d_M_interrupt_39 : decode (yMb m_M_interrupt) 39 = .ok (.goto 9, 3) := by decide +kernel
theorem d_M_interrupt_42 : decode (yMb m_M_interrupt) 42 = .ok (.aload_n 0, 1) := by decide +kernel
theorem d_M_interrupt_43 : decode (yMb m_M_interrupt) 43 = .ok (.iload_n 1, 1) := by decide +kernel
theorem d_M_interrupt_44 : decode (yMb m_M_interrupt) 44 = .ok (.iconst 4, 1) := by decide +kernel
theorem d_M_interrupt_45 : decode (yMb m_M_interrupt) 45 = .ok (.invokevirtual 164, 3) := by decide +kernel
theorem d_M_interrupt_48 : decode (yMb m_M_interrupt) 48 = .ok (.return_, 1) := by decide +kernel
theorem d_M_told_0 : decode (yMb m_M_told) 0 = .ok (.aload_n 0, 1) := by decide +kernel
theorem d_M_told_1 : decode (yMb m_M_told) 1 = .ok (.iload_n 1, 1) := by decide +kernel
theorem d_M_told_2 : decode (yMb m_M_told) 2 = .ok (.iconst 0, 1) := by decide +kernel
theorem d_M_told_3 : decode (yMb m_M_told) 3 = .ok (.iconst 5, 1) := by decide +kernel
theorem d_M_told_4 : decode (yMb m_M_told) 4 = .ok (.invokestatic 84, 3) := by decide +kernel
theorem d_M_told_7 : decode (yMb m_M_told) 7 = .ok (.ifCond .eq 16, 3) := by decide +kernel
theorem d_M_told_10 : decode (yMb m_M_told) 10 = .ok (.iload_n 2, 1) := by decide +kernel
theorem d_M_told_11 : decode (yMb m_M_told) 11 = .ok (.iconst 0, 1) := by decide +kernel
theorem d_M_told_12 : decode (yMb m_M_told) 12 = .ok (.iconst 5, 1) := by decide +kernel
theorem d_M_told_13 : decode (yMb m_M_told) 13 = .ok (.invokestatic 84, 3) := by decide +kernel
theorem d_M_told_16 : decode (yMb m_M_told) 16 = .ok (.ifCond .eq 7, 3) := by decide +kernel
theorem d_M_told_19 : decode (yMb m_M_told) 19 = .ok (.iconst 1, 1) := by decide +kernel
theorem d_M_told_20 : decode (yMb m_M_told) 20 = .ok (.goto 4, 3) := by decide +kernel
theorem d_M_told_23 : decode (yMb m_M_told) 23 = .ok (.iconst 0, 1) := by decide +kernel
theorem d_M_told_24 : decode (yMb m_M_told) 24 = .ok (.invokevirtual 88, 3) := by decide +kernel
theorem d_M_told_27 : decode (yMb m_M_told) 27 = .ok (.ifCond .eq 5, 3) := by decide +kernel
theorem d_M_told_30 : decode (yMb m_M_told) 30 = .ok (.iconst 0, 1) := by decide +kernel
theorem d_M_told_31 : decode (yMb m_M_told) 31 = .ok (.ireturn, 1) := by decide +kernel
theorem d_M_told_32 : decode (yMb m_M_told) 32 = .ok (.iload_n 2, 1) := by decide +kernel
theorem d_M_told_33 : decode (yMb m_M_told) 33 = .ok (.tableswitch 78 0 4 #[35, 42, 49, 56, 63], 35) := by decide +kernel
theorem d_M_told_68 : decode (yMb m_M_told) 68 = .ok (.aload_n 0, 1) := by decide +kernel
theorem d_M_told_69 : decode (yMb m_M_told) 69 = .ok (.getfield 7, 3) := by decide +kernel
theorem d_M_told_72 : decode (yMb m_M_told) 72 = .ok (.iload_n 1, 1) := by decide +kernel
theorem d_M_told_73 : decode (yMb m_M_told) 73 = .ok (.iaload, 1) := by decide +kernel
theorem d_M_told_74 : decode (yMb m_M_told) 74 = .ok (.ireturn, 1) := by decide +kernel
theorem d_M_told_75 : decode (yMb m_M_told) 75 = .ok (.aload_n 0, 1) := by decide +kernel
theorem d_M_told_76 : decode (yMb m_M_told) 76 = .ok (.getfield 13, 3) := by decide +kernel
theorem d_M_told_79 : decode (yMb m_M_told) 79 = .ok (.iload_n 1, 1) := by decide +kernel
theorem d_M_told_80 : decode (yMb m_M_told) 80 = .ok (.iaload, 1) := by decide +kernel
theorem d_M_told_81 : decode (yMb m_M_told) 81 = .ok (.ireturn, 1) := by decide +kernel
theorem d_M_told_82 : decode (yMb m_M_told) 82 = .ok (.aload_n 0, 1) := by decide +kernel
theorem d_M_told_83 : decode (yMb m_M_told) 83 = .ok (.getfield 16, 3) := by decide +kernel
theorem d_M_told_86 : decode (yMb m_M_told) 86 = .ok (.iload_n 1, 1) := by decide +kernel
theorem d_M_told_87 : decode (yMb m_M_told) 87 = .ok (.iaload, 1) := by decide +kernel
theorem d_M_told_88 : decode (yMb m_M_told) 88 = .ok (.ireturn, 1) := by decide +kernel
theorem d_M_told_89 : decode (yMb m_M_told) 89 = .ok (.aload_n 0, 1) := by decide +kernel
theorem d_M_told_90 : decode (yMb m_M_told) 90 = .ok (.getfield 19, 3) := by decide +kernel
theorem d_M_told_93 : decode (yMb m_M_told) 93 = .ok (.iload_n 1, 1) := by decide +kernel
theorem d_M_told_94 : decode (yMb m_M_told) 94 = .ok (.iaload, 1) := by decide +kernel
theorem d_M_told_95 : decode (yMb m_M_told) 95 = .ok (.ireturn, 1) := by decide +kernel
theorem d_M_told_96 : decode (yMb m_M_told) 96 = .ok (.aload_n 0, 1) := by decide +kernel
theorem d_M_told_97 : decode (yMb m_M_told) 97 = .ok (.getfield 37, 3) := by decide +kernel
theorem d_M_told_100 : decode (yMb m_M_told) 100 = .ok (.iload_n 1, 1) := by decide +kernel
theorem d_M_told_101 : decode (yMb m_M_told) 101 = .ok (.baload, 1) := by decide +kernel
theorem d_M_told_102 : decode (yMb m_M_told) 102 = .ok (.ifCond .eq 7, 3) := by decide +kernel
theorem d_M_told_105 : decode (yMb m_M_told) 105 = .ok (.iconst 1, 1) := by decide +kernel
theorem d_M_told_106 : decode (yMb m_M_told) 106 = .ok (.goto 4, 3) := by decide +kernel
theorem d_M_told_109 : decode (yMb m_M_told) 109 = .ok (.iconst 0, 1) := by decide +kernel
theorem d_M_told_110 : decode (yMb m_M_told) 110 = .ok (.ireturn, 1) := by decide +kernel
theorem d_M_told_111 : decode (yMb m_M_told) 111 = .ok (.aload_n 0, 1) := by decide +kernel
theorem d_M_told_112 : decode (yMb m_M_told) 112 = .ok (.getfield 22, 3) := by decide +kernel
theorem d_M_told_115 : decode (yMb m_M_told) 115 = .ok (.iload_n 1, 1) := by decide +kernel
theorem d_M_told_116 : decode (yMb m_M_told) 116 = .ok (.iaload, 1) := by decide +kernel
theorem d_M_told_117 : decode (yMb m_M_told) 117 = .ok (.ireturn, 1) := by decide +kernel
theorem d_M_object_0 : decode (yMb m_M_object) 0 = .ok (.aload_n 0, 1) := by decide +kernel
theorem d_M_object_1 : decode (yMb m_M_object) 1 = .ok (.iload_n 1, 1) := by decide +kernel
theorem d_M_object_2 : decode (yMb m_M_object) 2 = .ok (.iconst 0, 1) := by decide +kernel
theorem d_M_object_3 : decode (yMb m_M_object) 3 = .ok (.aload_n 0, 1) := by decide +kernel
theorem d_M_object_4 : decode (yMb m_M_object) 4 = .ok (.getfield 92, 3) := by decide +kernel
theorem d_M_object_7 : decode (yMb m_M_object) 7 = .ok (.iconst 1, 1) := by decide +kernel
theorem d_M_object_8 : decode (yMb m_M_object) 8 = .ok (.isub, 1) := by decide +kernel
theorem d_M_object_9 : decode (yMb m_M_object) 9 = .ok (.invokestatic 84, 3) := by decide +kernel
theorem d_M_object_12 : decode (yMb m_M_object) 12 = .ok (.ifCond .eq 17, 3) := by decide +kernel
theorem d_M_object_15 : decode (yMb m_M_object) 15 = .ok (.iload_n 2, 1) := by decide +kernel
theorem d_M_object_16 : decode (yMb m_M_object) 16 = .ok (.iconst 0, 1) := by decide +kernel
theorem d_M_object_17 : decode (yMb m_M_object) 17 = .ok (.bipush 7, 2) := by decide +kernel
theorem d_M_object_19 : decode (yMb m_M_object) 19 = .ok (.invokestatic 84, 3) := by decide +kernel
theorem d_M_object_22 : decode (yMb m_M_object) 22 = .ok (.ifCond .eq 7, 3) := by decide +kernel
theorem d_M_object_25 : decode (yMb m_M_object) 25 = .ok (.iconst 1, 1) := by decide +kernel
theorem d_M_object_26 : decode (yMb m_M_object) 26 = .ok (.goto 4, 3) := by decide +kernel
theorem d_M_object_29 : decode (yMb m_M_object) 29 = .ok (.iconst 0, 1) := by decide +kernel
theorem d_M_object_30 : decode (yMb m_M_object) 30 = .ok (.invokevirtual 88, 3) := by decide +kernel
theorem d_M_object_33 : decode (yMb m_M_object) 33 = .ok (.ifCond .eq 5, 3) := by decide +kernel
theorem d_M_object_36 : decode (yMb m_M_object) 36 = .ok (.iconst 0, 1) := by decide +kernel
theorem d_M_object_37 : decode (yMb m_M_object) 37 = .ok (.ireturn, 1) := by decide +kernel
theorem d_M_object_38 : decode (yMb m_M_object) 38 = .ok (.aload_n 0, 1) := by decide +kernel
theorem d_M_object_39 : decode (yMb m_M_object) 39 = .ok (.getfield 44, 3) := by decide +kernel
theorem d_M_object_42 : decode (yMb m_M_object) 42 = .ok (.iload_n 1, 1) := by decide +kernel
theorem d_M_object_43 : decode (yMb m_M_object) 43 = .ok (.iaload, 1) := by decide +kernel
theorem d_M_object_44 : decode (yMb m_M_object) 44 = .ok (.istore_n 3, 1) := by decide +kernel
theorem d_M_object_45 : decode (yMb m_M_object) 45 = .ok (.iload_n 2, 1) := by decide +kernel
theorem d_M_object_46 : decode (yMb m_M_object) 46 = .ok (.tableswitch 108 0 6 #[42, 44, 65, 81, 88, 88, 101], 42) := by decide +kernel
theorem d_M_object_88 : decode (yMb m_M_object) 88 = .ok (.iload_n 3, 1) := by decide +kernel
theorem d_M_object_89 : decode (yMb m_M_object) 89 = .ok (.ireturn, 1) := by decide +kernel
theorem d_M_object_90 : decode (yMb m_M_object) 90 = .ok (.iload_n 3, 1) := by decide +kernel
theorem d_M_object_91 : decode (yMb m_M_object) 91 = .ok (.iconst 4, 1) := by decide +kernel
theorem d_M_object_92 : decode (yMb m_M_object) 92 = .ok (.if_icmp .ne 12, 3) := by decide +kernel
theorem d_M_object_95 : decode (yMb m_M_object) 95 = .ok (.aload_n 0, 1) := by decide +kernel
theorem d_M_object_96 : decode (yMb m_M_object) 96 = .ok (.getfield 56, 3) := by decide +kernel
theorem d_M_object_99 : decode (yMb m_M_object) 99 = .ok (.iload_n 1, 1) := by decide +kernel
theorem d_M_object_100 : decode (yMb m_M_object) 100 = .ok (.iaload, 1) := by decide +kernel
theorem d_M_object_101 : decode (yMb m_M_object) 101 = .ok (.goto 9, 3) := by decide +kernel
theorem d_M_object_104 : decode (yMb m_M_object) 104 = .ok (.aload_n 0, 1) := by decide +kernel
theorem d_M_object_105 : decode (yMb m_M_object) 105 = .ok (.getfield 50, 3) := by decide +kernel
theorem d_M_object_108 : decode (yMb m_M_object) 108 = .ok (.iload_n 1, 1) := by decide +kernel
theorem d_M_object_109 : decode (yMb m_M_object) 109 = .ok (.iaload, 1) := by decide +kernel
theorem d_M_object_110 : decode (yMb m_M_object) 110 = .ok (.ireturn, 1) := by decide +kernel
theorem d_M_object_111 : decode (yMb m_M_object) 111 = .ok (.iload_n 3, 1) := by decide +kernel
theorem d_M_object_112 : decode (yMb m_M_object) 112 = .ok (.iconst 2, 1) := by decide +kernel
theorem d_M_object_113 : decode (yMb m_M_object) 113 = .ok (.if_icmp .ge 12, 3) := by decide +kernel
theorem d_M_object_116 : decode (yMb m_M_object) 116 = .ok (.aload_n 0, 1) := by decide +kernel
theorem d_M_object_117 : decode (yMb m_M_object) 117 = .ok (.getfield 53, 3) := by decide +kernel
theorem d_M_object_120 : decode (yMb m_M_object) 120 = .ok (.iload_n 1, 1) := by decide +kernel
theorem d_M_object_121 : decode (yMb m_M_object) 121 = .ok (.iaload, 1) := by decide +kernel
theorem d_M_object_122 : decode (yMb m_M_object) 122 = .ok (.goto 4, 3) := by decide +kernel
theorem d_M_object_125 : decode (yMb m_M_object) 125 = .ok (.iconst 0, 1) := by decide +kernel
theorem d_M_object_126 : decode (yMb m_M_object) 126 = .ok (.ireturn, 1) := by decide +kernel
theorem d_M_object_127 : decode (yMb m_M_object) 127 = .ok (.aload_n 0, 1) := by decide +kernel
theorem d_M_object_128 : decode (yMb m_M_object) 128 = .ok (.getfield 56, 3) := by decide +kernel
theorem d_M_object_131 : decode (yMb m_M_object) 131 = .ok (.iload_n 1, 1) := by decide +kernel
theorem d_M_object_132 : decode (yMb m_M_object) 132 = .ok (.iaload, 1) := by decide +kernel
theorem d_M_object_133 : decode (yMb m_M_object) 133 = .ok (.ireturn, 1) := by decide +kernel
theorem d_M_object_134 : decode (yMb m_M_object) 134 = .ok (.aload_n 0, 1) := by decide +kernel
theorem d_M_object_135 : decode (yMb m_M_object) 135 = .ok (.getfield 62, 3) := by decide +kernel
theorem d_M_object_138 : decode (yMb m_M_object) 138 = .ok (.iload_n 1, 1) := by decide +kernel
theorem d_M_object_139 : decode (yMb m_M_object) 139 = .ok (.iconst 2, 1) := by decide +kernel
theorem d_M_object_140 : decode (yMb m_M_object) 140 = .ok (.imul, 1) := by decide +kernel
theorem d_M_object_141 : decode (yMb m_M_object) 141 = .ok (.iload_n 2, 1) := by decide +kernel
theorem d_M_object_142 : decode (yMb m_M_object) 142 = .ok (.iadd, 1) := by decide +kernel
theorem d_M_object_143 : decode (yMb m_M_object) 143 = .ok (.iconst 4, 1) := by decide +kernel
theorem d_M_object_144 : decode (yMb m_M_object) 144 = .ok (.isub, 1) := by decide +kernel
theorem d_M_object_145 : decode (yMb m_M_object) 145 = .ok (.iaload, 1) := by decide +kernel
theorem d_M_object_146 : decode (yMb m_M_object) 146 = .ok (.ireturn, 1) := by decide +kernel
theorem d_M_object_147 : decode (yMb m_M_object) 147 = .ok (.aload_n 0, 1) := by decide +kernel
theorem d_M_object_148 : decode (yMb m_M_object) 148 = .ok (.iload_n 1, 1) := by decide +kernel
theorem d_M_object_149 : decode (yMb m_M_object) 149 = .ok (.iconst (-1), 1) := by decide +kernel
theorem d_M_object_150 : decode (yMb m_M_object) 150 = .ok (.invokevirtual 95, 3) := by decide +kernel
theorem d_M_object_153 : decode (yMb m_M_object) 153 = .ok (.ireturn, 1) := by decide +kernel
theorem d_M_object_154 : decode (yMb m_M_object) 154 = .ok (.aload_n 0, 1) := by decide +kernel
theorem d_M_object_155 : decode (yMb m_M_object) 155 = .ok (.getfield 77, 3) := by decide +kernel
theorem d_M_object_158 : decode (yMb m_M_object) 158 = .ok (.iload_n 1, 1) := by decide +kernel
theorem d_M_object_159 : decode (yMb m_M_object) 159 = .ok (.baload, 1) := by decide +kernel
theorem d_M_object_160 : decode (yMb m_M_object) 160 = .ok (.ifCond .eq 7, 3) := by decide +kernel
theorem d_M_object_163 : decode (yMb m_M_object) 163 = .ok (.iconst 1, 1) := by decide +kernel
theorem d_M_object_164 : decode (yMb m_M_object) 164 = .ok (.goto 4, 3) := by decide +kernel
theorem d_M_object_167 : decode (yMb m_M_object) 167 = .ok (.iconst 0, 1) := by decide +kernel
theorem d_M_object_168 : decode (yMb m_M_object) 168 = .ok (.ireturn, 1) := by decide +kernel
theorem d_M_waiter_0 : decode (yMb m_M_waiter) 0 = .ok (.aload_n 0, 1) := by decide +kernel
theorem d_M_waiter_1 : decode (yMb m_M_waiter) 1 = .ok (.iload_n 1, 1) := by decide +kernel
theorem d_M_waiter_2 : decode (yMb m_M_waiter) 2 = .ok (.iconst 0, 1) := by decide +kernel
theorem d_M_waiter_3 : decode (yMb m_M_waiter) 3 = .ok (.aload_n 0, 1) := by decide +kernel
theorem d_M_waiter_4 : decode (yMb m_M_waiter) 4 = .ok (.getfield 92, 3) := by decide +kernel
theorem d_M_waiter_7 : decode (yMb m_M_waiter) 7 = .ok (.iconst 1, 1) := by decide +kernel
theorem d_M_waiter_8 : decode (yMb m_M_waiter) 8 = .ok (.isub, 1) := by decide +kernel
theorem d_M_waiter_9 : decode (yMb m_M_waiter) 9 = .ok (.invokestatic 84, 3) := by decide +kernel
theorem d_M_waiter_12 : decode (yMb m_M_waiter) 12 = .ok (.invokevirtual 88, 3) := by decide +kernel
theorem d_M_waiter_15 : decode (yMb m_M_waiter) 15 = .ok (.ifCond .eq 5, 3) := by decide +kernel
theorem d_M_waiter_18 : decode (yMb m_M_waiter) 18 = .ok (.iconst 0, 1) := by decide +kernel
theorem d_M_waiter_19 : decode (yMb m_M_waiter) 19 = .ok (.ireturn, 1) := by decide +kernel
theorem d_M_waiter_20 : decode (yMb m_M_waiter) 20 = .ok (.iload_n 2, 1) := by decide +kernel
theorem d_M_waiter_21 : decode (yMb m_M_waiter) 21 = .ok (.iconst 0, 1) := by decide +kernel
theorem d_M_waiter_22 : decode (yMb m_M_waiter) 22 = .ok (.aload_n 0, 1) := by decide +kernel
theorem d_M_waiter_23 : decode (yMb m_M_waiter) 23 = .ok (.getfield 56, 3) := by decide +kernel
theorem d_M_waiter_26 : decode (yMb m_M_waiter) 26 = .ok (.iload_n 1, 1) := by decide +kernel
theorem d_M_waiter_27 : decode (yMb m_M_waiter) 27 = .ok (.iaload, 1) := by decide +kernel
theorem d_M_waiter_28 : decode (yMb m_M_waiter) 28 = .ok (.iconst 1, 1) := by decide +kernel
theorem d_M_waiter_29 : decode (yMb m_M_waiter) 29 = .ok (.isub, 1) := by decide +kernel
theorem d_M_waiter_30 : decode (yMb m_M_waiter) 30 = .ok (.invokestatic 84, 3) := by decide +kernel
theorem d_M_waiter_33 : decode (yMb m_M_waiter) 33 = .ok (.ifCond .ne 10, 3) := by decide +kernel
theorem d_M_waiter_36 : decode (yMb m_M_waiter) 36 = .ok (.aload_n 0, 1) := by decide +kernel
theorem d_M_waiter_37 : decode (yMb m_M_waiter) 37 = .ok (.iconst 2, 1) := by decide +kernel
theorem d_M_waiter_38 : decode (yMb m_M_waiter) 38 = .ok (.putfield 80, 3) := by decide +kernel
theorem d_M_waiter_41 : decode (yMb m_M_waiter) 41 = .ok (.iconst 0, 1) := by decide +kernel
theorem d_M_waiter_42 : decode (yMb m_M_waiter) 42 = .ok (.ireturn, 1) := by decide +kernel
theorem d_M_waiter_43 : decode (yMb m_M_waiter) 43 = .ok (.aload_n 0, 1) := by decide +kernel
theorem d_M_waiter_44 : decode (yMb m_M_waiter) 44 = .ok (.getfield 59, 3) := by decide +kernel
theorem d_M_waiter_47 : decode (yMb m_M_waiter) 47 = .ok (.iload_n 1, 1) := by decide +kernel
theorem d_M_waiter_48 : decode (yMb m_M_waiter) 48 = .ok (.bipush 6, 2) := by decide +kernel
theorem d_M_waiter_50 : decode (yMb m_M_waiter) 50 = .ok (.imul, 1) := by decide +kernel
theorem d_M_waiter_51 : decode (yMb m_M_waiter) 51 = .ok (.iload_n 2, 1) := by decide +kernel
theorem d_M_waiter_52 : decode (yMb m_M_waiter) 52 = .ok (.iadd, 1) := by decide +kernel
theorem d_M_waiter_53 : decode (yMb m_M_waiter) 53 = .ok (.iaload, 1) := by decide +kernel
theorem d_M_waiter_54 : decode (yMb m_M_waiter) 54 = .ok (.ireturn, 1) := by decide +kernel
theorem d_M_leans_0 : decode (yMb m_M_leans) 0 = .ok (.aload_n 0, 1) := by decide +kernel
theorem d_M_leans_1 : decode (yMb m_M_leans) 1 = .ok (.getfield 7, 3) := by decide +kernel
theorem d_M_leans_4 : decode (yMb m_M_leans) 4 = .ok (.iload_n 1, 1) := by decide +kernel
theorem d_M_leans_5 : decode (yMb m_M_leans) 5 = .ok (.iaload, 1) := by decide +kernel
theorem d_M_leans_6 : decode (yMb m_M_leans) 6 = .ok (.iconst 1, 1) := by decide +kernel
theorem d_M_leans_7 : decode (yMb m_M_leans) 7 = .ok (.if_icmp .ne 31, 3) := by decide +kernel
theorem d_M_leans_10 : decode (yMb m_M_leans) 10 = .ok (.aload_n 0, 1) := by decide +kernel
theorem d_M_leans_11 : decode (yMb m_M_leans) 11 = .ok (.getfield 44, 3) := by decide +kernel
theorem d_M_leans_14 : decode (yMb m_M_leans) 14 = .ok (.aload_n 0, 1) := by decide +kernel
theorem d_M_leans_15 : decode (yMb m_M_leans) 15 = .ok (.getfield 16, 3) := by decide +kernel
theorem d_M_leans_18 : decode (yMb m_M_leans) 18 = .ok (.iload_n 1, 1) := by decide +kernel
theorem d_M_leans_19 : decode (yMb m_M_leans) 19 = .ok (.iaload, 1) := by decide +kernel
theorem d_M_leans_20 : decode (yMb m_M_leans) 20 = .ok (.iaload, 1) := by decide +kernel
theorem d_M_leans_21 : decode (yMb m_M_leans) 21 = .ok (.ifCond .ne 17, 3) := by decide +kernel
theorem d_M_leans_24 : decode (yMb m_M_leans) 24 = .ok (.aload_n 0, 1) := by decide +kernel
theorem d_M_leans_25 : decode (yMb m_M_leans) 25 = .ok (.getfield 53, 3) := by decide +kernel
theorem d_M_leans_28 : decode (yMb m_M_leans) 28 = .ok (.aload_n 0, 1) := by decide +kernel
theorem d_M_leans_29 : decode (yMb m_M_leans) 29 = .ok (.getfield 16, 3) := by decide +kernel
theorem d_M_leans_32 : decode (yMb m_M_leans) 32 = .ok (.iload_n 1, 1) := by decide +kernel
theorem d_M_leans_33 : decode (yMb m_M_leans) 33 = .ok (.iaload, 1) := by decide +kernel
theorem d_M_leans_34 : decode (yMb m_M_leans) 34 = .ok (.iaload, 1) := by decide +kernel
theorem d_M_leans_35 : decode (yMb m_M_leans) 35 = .ok (.goto 4, 3) := by decide +kernel
theorem d_M_leans_38 : decode (yMb m_M_leans) 38 = .ok (.iconst (-1), 1) := by decide +kernel
theorem d_M_leans_39 : decode (yMb m_M_leans) 39 = .ok (.ireturn, 1) := by decide +kernel
theorem d_M_stuck_0 : decode (yMb m_M_stuck) 0 = .ok (.aload_n 0, 1) := by decide +kernel
theorem d_M_stuck_1 : decode (yMb m_M_stuck) 1 = .ok (.iconst 0, 1) := by decide +kernel
theorem d_M_stuck_2 : decode (yMb m_M_stuck) 2 = .ok (.putfield 80, 3) := by decide +kernel
theorem d_M_stuck_5 : decode (yMb m_M_stuck) 5 = .ok (.iconst 0, 1) := by decide +kernel
theorem d_M_stuck_6 : decode (yMb m_M_stuck) 6 = .ok (.istore_n 1, 1) := by decide +kernel
theorem d_M_stuck_7 : decode (yMb m_M_stuck) 7 = .ok (.iconst 0, 1) := by decide +kernel
theorem d_M_stuck_8 : decode (yMb m_M_stuck) 8 = .ok (.istore_n 2, 1) := by decide +kernel
theorem d_M_stuck_9 : decode (yMb m_M_stuck) 9 = .ok (.iload_n 2, 1) := by decide +kernel
theorem d_M_stuck_10 : decode (yMb m_M_stuck) 10 = .ok (.bipush 6, 2) := by decide +kernel
theorem d_M_stuck_12 : decode (yMb m_M_stuck) 12 = .ok (.if_icmp .ge 54, 3) := by decide +kernel
theorem d_M_stuck_15 : decode (yMb m_M_stuck) 15 = .ok (.aload_n 0, 1) := by decide +kernel
theorem d_M_stuck_16 : decode (yMb m_M_stuck) 16 = .ok (.iload_n 2, 1) := by decide +kernel
theorem d_M_stuck_17 : decode (yMb m_M_stuck) 17 = .ok (.invokevirtual 167, 3) := by decide +kernel
theorem d_M_stuck_20 : decode (yMb m_M_stuck) 20 = .ok (.istore_n 3, 1) := by decide +kernel
theorem d_M_stuck_21 : decode (yMb m_M_stuck) 21 = .ok (.iconst 0, 1) := by decide +kernel
theorem d_M_stuck_22 : decode (yMb m_M_stuck) 22 = .ok (.istore 4, 2) := by decide +kernel
theorem d_M_stuck_24 : decode (yMb m_M_stuck) 24 = .ok (.iload 4, 2) := by decide +kernel
theorem d_M_stuck_26 : decode (yMb m_M_stuck) 26 = .ok (.bipush 6, 2) := by decide +kernel
theorem d_M_stuck_28 : decode (yMb m_M_stuck) 28 = .ok (.if_icmp .ge 24, 3) := by decide +kernel
theorem d_M_stuck_31 : decode (yMb m_M_stuck) 31 = .ok (.iload_n 3, 1) := by decide +kernel
theorem d_M_stuck_32 : decode (yMb m_M_stuck) 32 = .ok (.ifCond .lt 20, 3) := by decide +kernel
theorem d_M_stuck_35 : decode (yMb m_M_stuck) 35 = .ok (.iload_n 3, 1) := by decide +kernel
theorem d_M_stuck_36 : decode (yMb m_M_stuck) 36 = .ok (.iload_n 2, 1) := by decide +kernel
theorem d_M_stuck_37 : decode (yMb m_M_stuck) 37 = .ok (.if_icmp .eq 15, 3) := by decide +kernel
theorem d_M_stuck_40 : decode (yMb m_M_stuck) 40 = .ok (.aload_n 0, 1) := by decide +kernel
theorem d_M_stuck_41 : decode (yMb m_M_stuck) 41 = .ok (.iload_n 3, 1) := by decide +kernel
theorem d_M_stuck_42 : decode (yMb m_M_stuck) 42 = .ok (.invokevirtual 167, 3) := by decide +kernel
theorem d_M_stuck_45 : decode (yMb m_M_stuck) 45 = .ok (.istore_n 3, 1) := by decide +kernel
theorem d_M_stuck_46 : decode (yMb m_M_stuck) 46 = .ok (.iinc 4 1, 3) := by decide +kernel
theorem d_M_stuck_49 : decode (yMb m_M_stuck) 49 = .ok (.goto (-25), 3) := by decide +kernel
theorem d_M_stuck_52 : decode (yMb m_M_stuck) 52 = .ok (.iload_n 3, 1) := by decide +kernel
theorem d_M_stuck_53 : decode (yMb m_M_stuck) 53 = .ok (.iload_n 2, 1) := by decide +kernel
theorem d_M_stuck_54 : decode (yMb m_M_stuck) 54 = .ok (.if_icmp .ne 6, 3) := by decide +kernel
theorem d_M_stuck_57 : decode (yMb m_M_stuck) 57 = .ok (.iinc 1 1, 3) := by decide +kernel
theorem d_M_stuck_60 : decode (yMb m_M_stuck) 60 = .ok (.iinc 2 1, 3) := by decide +kernel
theorem d_M_stuck_63 : decode (yMb m_M_stuck) 63 = .ok (.goto (-54), 3) := by decide +kernel
theorem d_M_stuck_66 : decode (yMb m_M_stuck) 66 = .ok (.iload_n 1, 1) := by decide +kernel
theorem d_M_stuck_67 : decode (yMb m_M_stuck) 67 = .ok (.ireturn, 1) := by decide +kernel
theorem d_M_count_0 : decode (yMb m_M_count) 0 = .ok (.aload_n 0, 1) := by decide +kernel
theorem d_M_count_1 : decode (yMb m_M_count) 1 = .ok (.iconst 0, 1) := by decide +kernel
theorem d_M_count_2 : decode (yMb m_M_count) 2 = .ok (.putfield 80, 3) := by decide +kernel
theorem d_M_count_5 : decode (yMb m_M_count) 5 = .ok (.iconst 0, 1) := by decide +kernel
theorem d_M_count_6 : decode (yMb m_M_count) 6 = .ok (.istore_n 2, 1) := by decide +kernel
theorem d_M_count_7 : decode (yMb m_M_count) 7 = .ok (.iconst 0, 1) := by decide +kernel
theorem d_M_count_8 : decode (yMb m_M_count) 8 = .ok (.istore_n 3, 1) := by decide +kernel
theorem d_M_count_9 : decode (yMb m_M_count) 9 = .ok (.iload_n 3, 1) := by decide +kernel
theorem d_M_count_10 : decode (yMb m_M_count) 10 = .ok (.bipush 6, 2) := by decide +kernel
theorem d_M_count_12 : decode (yMb m_M_count) 12 = .ok (.if_icmp .ge 21, 3) := by decide +kernel
theorem d_M_count_15 : decode (yMb m_M_count) 15 = .ok (.aload_n 0, 1) := by decide +kernel
theorem d_M_count_16 : decode (yMb m_M_count) 16 = .ok (.getfield 7, 3) := by decide +kernel
theorem d_M_count_19 : decode (yMb m_M_count) 19 = .ok (.iload_n 3, 1) := by decide +kernel
theorem d_M_count_20 : decode (yMb m_M_count) 20 = .ok (.iaload, 1) := by decide +kernel
theorem d_M_count_21 : decode (yMb m_M_count) 21 = .ok (.ifCond .ne 6, 3) := by decide +kernel
theorem d_M_count_24 : decode (yMb m_M_count) 24 = .ok (.iinc 2 1, 3) := by decide +kernel
theorem d_M_count_27 : decode (yMb m_M_count) 27 = .ok (.iinc 3 1, 3) := by decide +kernel
theorem d_M_count_30 : decode (yMb m_M_count) 30 = .ok (.goto (-21), 3) := by decide +kernel
theorem d_M_count_33 : decode (yMb m_M_count) 33 = .ok (.iload_n 1, 1) := by decide +kernel
theorem d_M_count_34 : decode (yMb m_M_count) 34 = .ok (.tableswitch 82 0 6 #[42, 47, 54, 61, 68, 75, 80], 42) := by decide +kernel
theorem d_M_count_76 : decode (yMb m_M_count) 76 = .ok (.aload_n 0, 1) := by decide +kernel
theorem d_M_count_77 : decode (yMb m_M_count) 77 = .ok (.getfield 92, 3) := by decide +kernel
theorem d_M_count_80 : decode (yMb m_M_count) 80 = .ok (.ireturn, 1) := by decide +kernel
theorem d_M_count_81 : decode (yMb m_M_count) 81 = .ok (.aload_n 0, 1) := by decide +kernel
theorem d_M_count_82 : decode (yMb m_M_count) 82 = .ok (.getfield 74, 3) := by decide +kernel
theorem d_M_count_85 : decode (yMb m_M_count) 85 = .ok (.iconst 0, 1) := by decide +kernel
theorem d_M_count_86 : decode (yMb m_M_count) 86 = .ok (.iaload, 1) := by decide +kernel
theorem d_M_count_87 : decode (yMb m_M_count) 87 = .ok (.ireturn, 1) := by decide +kernel
theorem d_M_count_88 : decode (yMb m_M_count) 88 = .ok (.aload_n 0, 1) := by decide +kernel
theorem d_M_count_89 : decode (yMb m_M_count) 89 = .ok (.getfield 74, 3) := by decide +kernel
theorem d_M_count_92 : decode (yMb m_M_count) 92 = .ok (.iconst 2, 1) := by decide +kernel
theorem d_M_count_93 : decode (yMb m_M_count) 93 = .ok (.iaload, 1) := by decide +kernel
theorem d_M_count_94 : decode (yMb m_M_count) 94 = .ok (.ireturn, 1) := by decide +kernel
theorem d_M_count_95 : decode (yMb m_M_count) 95 = .ok (.aload_n 0, 1) := by decide +kernel
theorem d_M_count_96 : decode (yMb m_M_count) 96 = .ok (.getfield 74, 3) := by decide +kernel
theorem d_M_count_99 : decode (yMb m_M_count) 99 = .ok (.iconst 3, 1) := by decide +kernel
theorem d_M_count_100 : decode (yMb m_M_count) 100 = .ok (.iaload, 1) := by decide +kernel
theorem d_M_count_101 : decode (yMb m_M_count) 101 = .ok (.ireturn, 1) := by decide +kernel
theorem d_M_count_102 : decode (yMb m_M_count) 102 = .ok (.aload_n 0, 1) := by decide +kernel
theorem d_M_count_103 : decode (yMb m_M_count) 103 = .ok (.getfield 74, 3) := by decide +kernel
theorem d_M_count_106 : decode (yMb m_M_count) 106 = .ok (.iconst 4, 1) := by decide +kernel
theorem d_M_count_107 : decode (yMb m_M_count) 107 = .ok (.iaload, 1) := by decide +kernel
theorem d_M_count_108 : decode (yMb m_M_count) 108 = .ok (.ireturn, 1) := by decide +kernel
theorem d_M_count_109 : decode (yMb m_M_count) 109 = .ok (.aload_n 0, 1) := by decide +kernel
theorem d_M_count_110 : decode (yMb m_M_count) 110 = .ok (.getfield 161, 3) := by decide +kernel
theorem d_M_count_113 : decode (yMb m_M_count) 113 = .ok (.ireturn, 1) := by decide +kernel
theorem d_M_count_114 : decode (yMb m_M_count) 114 = .ok (.iload_n 2, 1) := by decide +kernel
theorem d_M_count_115 : decode (yMb m_M_count) 115 = .ok (.ireturn, 1) := by decide +kernel
theorem d_M_count_116 : decode (yMb m_M_count) 116 = .ok (.iconst (-1), 1) := by decide +kernel
theorem d_M_count_117 : decode (yMb m_M_count) 117 = .ok (.ireturn, 1) := by decide +kernel
theorem d_P_init_0 : decode (yMb m_P_init) 0 = .ok (.aload_n 0, 1) := by decide +kernel
theorem d_P_init_1 : decode (yMb m_P_init) 1 = .ok (.invokespecial 3, 3) := by decide +kernel
theorem d_P_init_4 : decode (yMb m_P_init) 4 = .ok (.aload_n 0, 1) := by decide +kernel
theorem d_P_init_5 : decode (yMb m_P_init) 5 = .ok (.new 9, 3) := by decide +kernel
theorem d_P_init_8 : decode (yMb m_P_init) 8 = .ok (.dup, 1) := by decide +kernel
theorem d_P_init_9 : decode (yMb m_P_init) 9 = .ok (.invokespecial 11, 3) := by decide +kernel
theorem d_P_init_12 : decode (yMb m_P_init) 12 = .ok (.putfield 12, 3) := by decide +kernel
theorem d_P_init_15 : decode (yMb m_P_init) 15 = .ok (.aload_n 0, 1) := by decide +kernel
theorem d_P_init_16 : decode (yMb m_P_init) 16 = .ok (.iload_n 1, 1) := by decide +kernel
theorem d_P_init_17 : decode (yMb m_P_init) 17 = .ok (.putfield 18, 3) := by decide +kernel
theorem d_P_init_20 : decode (yMb m_P_init) 20 = .ok (.aload_n 0, 1) := by decide +kernel
theorem d_P_init_21 : decode (yMb m_P_init) 21 = .ok (.iload_n 2, 1) := by decide +kernel
theorem d_P_init_22 : decode (yMb m_P_init) 22 = .ok (.putfield 22, 3) := by decide +kernel
theorem d_P_init_25 : decode (yMb m_P_init) 25 = .ok (.return_, 1) := by decide +kernel
theorem d_P_allows_0 : decode (yMb m_P_allows) 0 = .ok (.iconst 1, 1) := by decide +kernel
theorem d_P_allows_1 : decode (yMb m_P_allows) 1 = .ok (.ireturn, 1) := by decide +kernel
theorem d_P_refuses_0 : decode (yMb m_P_refuses) 0 = .ok (.iconst 0, 1) := by decide +kernel
theorem d_P_refuses_1 : decode (yMb m_P_refuses) 1 = .ok (.ireturn, 1) := by decide +kernel
theorem d_P_whenOneGaveUp_0 : decode (yMb m_P_whenOneGaveUp) 0 = .ok (.return_, 1) := by decide +kernel
theorem d_P_sortOf_0 : decode (yMb m_P_sortOf) 0 = .ok (.iconst 0, 1) := by decide +kernel
theorem d_P_sortOf_1 : decode (yMb m_P_sortOf) 1 = .ok (.ireturn, 1) := by decide +kernel
theorem d_P_owner_0 : decode (yMb m_P_owner) 0 = .ok (.iconst 0, 1) := by decide +kernel
theorem d_P_owner_1 : decode (yMb m_P_owner) 1 = .ok (.ireturn, 1) := by decide +kernel
theorem d_P_waitersAt_0 : decode (yMb m_P_waitersAt) 0 = .ok (.iconst 0, 1) := by decide +kernel
theorem d_P_waitersAt_1 : decode (yMb m_P_waitersAt) 1 = .ok (.ireturn, 1) := by decide +kernel
theorem d_P_timesRead_0 : decode (yMb m_P_timesRead) 0 = .ok (.iconst 0, 1) := by decide +kernel
theorem d_P_timesRead_1 : decode (yMb m_P_timesRead) 1 = .ok (.ireturn, 1) := by decide +kernel
theorem d_P_isBroken_0 : decode (yMb m_P_isBroken) 0 = .ok (.iconst 0, 1) := by decide +kernel
theorem d_P_isBroken_1 : decode (yMb m_P_isBroken) 1 = .ok (.ireturn, 1) := by decide +kernel
theorem d_P_leanedOn_0 : decode (yMb m_P_leanedOn) 0 = .ok (.aconst_null, 1) := by decide +kernel
theorem d_P_leanedOn_1 : decode (yMb m_P_leanedOn) 1 = .ok (.areturn, 1) := by decide +kernel
theorem d_P_perform_0 : decode (yMb m_P_perform) 0 = .ok (.aload_n 0, 1) := by decide +kernel
theorem d_P_perform_1 : decode (yMb m_P_perform) 1 = .ok (.aload_n 1, 1) := by decide +kernel
theorem d_P_perform_2 : decode (yMb m_P_perform) 2 = .ok (.invokevirtual 25, 3) := by decide +kernel
theorem d_P_perform_5 : decode (yMb m_P_perform) 5 = .ok (.ifCond .eq 11, 3) := by decide +kernel
theorem d_P_perform_8 : decode (yMb m_P_perform) 8 = .ok (.aload_n 1, 1) := by decide +kernel
theorem d_P_perform_9 : decode (yMb m_P_perform) 9 = .ok (.iconst 3, 1) := by decide +kernel
theorem d_P_perform_10 : decode (yMb m_P_perform) 10 = .ok (.invokevirtual 29, 3) := by decide +kernel
theorem d_P_perform_13 : decode (yMb m_P_perform) 13 = .ok (.goto 66, 3) := by decide +kernel
theorem d_P_perform_16 : decode (yMb m_P_perform) 16 = .ok (.aload_n 0, 1) := by decide +kernel
theorem d_P_perform_17 : decode (yMb m_P_perform) 17 = .ok (.aload_n 1, 1) := by decide +kernel
theorem d_P_perform_18 : decode (yMb m_P_perform) 18 = .ok (.invokevirtual 35, 3) := by decide +kernel
theorem d_P_perform_21 : decode (yMb m_P_perform) 21 = .ok (.ifCond .eq 16, 3) := by decide +kernel
theorem d_P_perform_24 : decode (yMb m_P_perform) 24 = .ok (.aload_n 0, 1) := by decide +kernel
theorem d_P_perform_25 : decode (yMb m_P_perform) 25 = .ok (.aload_n 1, 1) := by decide +kernel
theorem d_P_perform_26 : decode (yMb m_P_perform) 26 = .ok (.invokevirtual 38, 3) := by decide +kernel
theorem d_P_perform_29 : decode (yMb m_P_perform) 29 = .ok (.aload_n 1, 1) := by decide +kernel
theorem d_P_perform_30 : decode (yMb m_P_perform) 30 = .ok (.iconst 0, 1) := by decide +kernel
theorem d_P_perform_31 : decode (yMb m_P_perform) 31 = .ok (.invokevirtual 29, 3) := by decide +kernel
theorem d_P_perform_34 : decode (yMb m_P_perform) 34 = .ok (.goto 45, 3) := by decide +kernel
theorem d_P_perform_37 : decode (yMb m_P_perform) 37 = .ok (.aload_n 1, 1) := by decide +kernel
theorem d_P_perform_38 : decode (yMb m_P_perform) 38 = .ok (.getfield 42, 3) := by decide +kernel
theorem d_P_perform_41 : decode (yMb m_P_perform) 41 = .ok (.ifCond .eq 20, 3) := by decide +kernel
theorem d_P_perform_44 : decode (yMb m_P_perform) 44 = .ok (.aload_n 1, 1) := by decide +kernel
theorem d_P_perform_45 : decode (yMb m_P_perform) 45 = .ok (.iconst 0, 1) := by decide +kernel
theorem d_P_perform_46 : decode (yMb m_P_perform) 46 = .ok (.putfield 42, 3) := by decide +kernel
theorem d_P_perform_49 : decode (yMb m_P_perform) 49 = .ok (.aload_n 1, 1) := by decide +kernel
theorem d_P_perform_50 : decode (yMb m_P_perform) 50 = .ok (.iconst 4, 1) := by decide +kernel
theorem d_P_perform_51 : decode (yMb m_P_perform) 51 = .ok (.invokevirtual 29, 3) := by decide +kernel
theorem d_P_perform_54 : decode (yMb m_P_perform) 54 = .ok (.aload_n 0, 1) := by decide +kernel
theorem d_P_perform_55 : decode (yMb m_P_perform) 55 = .ok (.invokevirtual 46, 3) := by decide +kernel
theorem d_P_perform_58 : decode (yMb m_P_perform) 58 = .ok (.goto 21, 3) := by decide +kernel
theorem d_P_perform_61 : decode (yMb m_P_perform) 61 = .ok (.iload_n 2, 1) := by decide +kernel
theorem d_P_perform_62 : decode (yMb m_P_perform) 62 = .ok (.ifCond .ne 11, 3) := by decide +kernel
theorem d_P_perform_65 : decode (yMb m_P_perform) 65 = .ok (.aload_n 1, 1) := by decide +kernel
theorem d_P_perform_66 : decode (yMb m_P_perform) 66 = .ok (.iconst 2, 1) := by decide +kernel
theorem d_P_perform_67 : decode (yMb m_P_perform) 67 = .ok (.invokevirtual 29, 3) := by decide +kernel
theorem d_P_perform_70 : decode (yMb m_P_perform) 70 = .ok (.goto 9, 3) := by decide +kernel
theorem d_P_perform_73 : decode (yMb m_P_perform) 73 = .ok (.aload_n 0, 1) := by decide +kernel
theorem d_P_perform_74 : decode (yMb m_P_perform) 74 = .ok (.aload_n 1, 1) := by decide +kernel
theorem d_P_perform_75 : decode (yMb m_P_perform) 75 = .ok (.iload_n 2, 1) := by decide +kernel
theorem d_P_perform_76 : decode (yMb m_P_perform) 76 = .ok (.invokevirtual 49, 3) := by decide +kernel
theorem d_P_perform_79 : decode (yMb m_P_perform) 79 = .ok (.return_, 1) := by decide +kernel
theorem d_P_holdBack_0 : decode (yMb m_P_holdBack) 0 = .ok (.aload_n 0, 1) := by decide +kernel
theorem d_P_holdBack_1 : decode (yMb m_P_holdBack) 1 = .ok (.aload_n 1, 1) := by decide +kernel
theorem d_P_holdBack_2 : decode (yMb m_P_holdBack) 2 = .ok (.iload_n 2, 1) := by decide +kernel
theorem d_P_holdBack_3 : decode (yMb m_P_holdBack) 3 = .ok (.invokevirtual 53, 3) := by decide +kernel
theorem d_P_holdBack_6 : decode (yMb m_P_holdBack) 6 = .ok (.return_, 1) := by decide +kernel
theorem d_P_giveUp_0 : decode (yMb m_P_giveUp) 0 = .ok (.aload_n 0, 1) := by decide +kernel
theorem d_P_giveUp_1 : decode (yMb m_P_giveUp) 1 = .ok (.aload_n 1, 1) := by decide +kernel
theorem d_P_giveUp_2 : decode (yMb m_P_giveUp) 2 = .ok (.iload_n 2, 1) := by decide +kernel
theorem d_P_giveUp_3 : decode (yMb m_P_giveUp) 3 = .ok (.invokevirtual 56, 3) := by decide +kernel
theorem d_P_giveUp_6 : decode (yMb m_P_giveUp) 6 = .ok (.return_, 1) := by decide +kernel
theorem d_P_joinRow_0 : decode (yMb m_P_joinRow) 0 = .ok (.aload_n 0, 1) := by decide +kernel
theorem d_P_joinRow_1 : decode (yMb m_P_joinRow) 1 = .ok (.getfield 12, 3) := by decide +kernel
theorem d_P_joinRow_4 : decode (yMb m_P_joinRow) 4 = .ok (.aload_n 1, 1) := by decide +kernel
theorem d_P_joinRow_5 : decode (yMb m_P_joinRow) 5 = .ok (.invokevirtual 59, 3) := by decide +kernel
theorem d_P_joinRow_8 : decode (yMb m_P_joinRow) 8 = .ok (.aload_n 1, 1) := by decide +kernel
theorem d_P_joinRow_9 : decode (yMb m_P_joinRow) 9 = .ok (.aload_n 0, 1) := by decide +kernel
theorem d_P_joinRow_10 : decode (yMb m_P_joinRow) 10 = .ok (.iconst 1, 1) := by decide +kernel
theorem d_P_joinRow_11 : decode (yMb m_P_joinRow) 11 = .ok (.iload_n 2, 1) := by decide +kernel
theorem d_P_joinRow_12 : decode (yMb m_P_joinRow) 12 = .ok (.invokevirtual 62, 3) := by decide +kernel
theorem d_P_joinRow_15 : decode (yMb m_P_joinRow) 15 = .ok (.return_, 1) := by decide +kernel
theorem d_P_leaveRow_0 : decode (yMb m_P_leaveRow) 0 = .ok (.aload_n 0, 1) := by decide +kernel
theorem d_P_leaveRow_1 : decode (yMb m_P_leaveRow) 1 = .ok (.getfield 12, 3) := by decide +kernel
theorem d_P_leaveRow_4 : decode (yMb m_P_leaveRow) 4 = .ok (.aload_n 1, 1) := by decide +kernel
theorem d_P_leaveRow_5 : decode (yMb m_P_leaveRow) 5 = .ok (.invokevirtual 66, 3) := by decide +kernel
theorem d_P_leaveRow_8 : decode (yMb m_P_leaveRow) 8 = .ok (.aload_n 1, 1) := by decide +kernel
theorem d_P_leaveRow_9 : decode (yMb m_P_leaveRow) 9 = .ok (.iload_n 2, 1) := by decide +kernel
theorem d_P_leaveRow_10 : decode (yMb m_P_leaveRow) 10 = .ok (.invokevirtual 29, 3) := by decide +kernel
theorem d_P_leaveRow_13 : decode (yMb m_P_leaveRow) 13 = .ok (.aload_n 0, 1) := by decide +kernel
theorem d_P_leaveRow_14 : decode (yMb m_P_leaveRow) 14 = .ok (.invokevirtual 46, 3) := by decide +kernel
theorem d_P_leaveRow_17 : decode (yMb m_P_leaveRow) 17 = .ok (.return_, 1) := by decide +kernel
theorem d_P_endAllInRow_0 : decode (yMb m_P_endAllInRow) 0 = .ok (.aload_n 0, 1) := by decide +kernel
theorem d_P_endAllInRow_1 : decode (yMb m_P_endAllInRow) 1 = .ok (.getfield 12, 3) := by decide +kernel
theorem d_P_endAllInRow_4 : decode (yMb m_P_endAllInRow) 4 = .ok (.getfield 69, 3) := by decide +kernel
theorem d_P_endAllInRow_7 : decode (yMb m_P_endAllInRow) 7 = .ok (.istore_n 2, 1) := by decide +kernel
theorem d_P_endAllInRow_8 : decode (yMb m_P_endAllInRow) 8 = .ok (.iload_n 2, 1) := by decide +kernel
theorem d_P_endAllInRow_9 : decode (yMb m_P_endAllInRow) 9 = .ok (.ifCond .le 26, 3) := by decide +kernel
theorem d_P_endAllInRow_12 : decode (yMb m_P_endAllInRow) 12 = .ok (.aload_n 0, 1) := by decide +kernel
theorem d_P_endAllInRow_13 : decode (yMb m_P_endAllInRow) 13 = .ok (.getfield 12, 3) := by decide +kernel
theorem d_P_endAllInRow_16 : decode (yMb m_P_endAllInRow) 16 = .ok (.invokevirtual 72, 3) := by decide +kernel
theorem d_P_endAllInRow_19 : decode (yMb m_P_endAllInRow) 19 = .ok (.astore_n 3, 1) := by decide +kernel
theorem d_P_endAllInRow_20 : decode (yMb m_P_endAllInRow) 20 = .ok (.aload_n 3, 1) := by decide +kernel
theorem d_P_endAllInRow_21 : decode (yMb m_P_endAllInRow) 21 = .ok (.ifnull 8, 3) := by decide +kernel
theorem d_P_endAllInRow_24 : decode (yMb m_P_endAllInRow) 24 = .ok (.aload_n 3, 1) := by decide +kernel
theorem d_P_endAllInRow_25 : decode (yMb m_P_endAllInRow) 25 = .ok (.iload_n 1, 1) := by decide +kernel
theorem d_P_endAllInRow_26 : decode (yMb m_P_endAllInRow) 26 = .ok (.invokevirtual 29, 3) := by decide +kernel
theorem d_P_endAllInRow_29 : decode (yMb m_P_endAllInRow) 29 = .ok (.iinc 2 (-1), 3) := by decide +kernel
theorem d_P_endAllInRow_32 : decode (yMb m_P_endAllInRow) 32 = .ok (.goto (-24), 3) := by decide +kernel
theorem d_P_endAllInRow_35 : decode (yMb m_P_endAllInRow) 35 = .ok (.return_, 1) := by decide +kernel
theorem d_P_settle_0 : decode (yMb m_P_settle) 0 = .ok (.iconst 1, 1) := by decide +kernel
theorem d_P_settle_1 : decode (yMb m_P_settle) 1 = .ok (.istore_n 1, 1) := by decide +kernel
theorem d_P_settle_2 : decode (yMb m_P_settle) 2 = .ok (.iconst 0, 1) := by decide +kernel
theorem d_P_settle_3 : decode (yMb m_P_settle) 3 = .ok (.istore_n 2, 1) := by decide +kernel
theorem d_P_settle_4 : decode (yMb m_P_settle) 4 = .ok (.iload_n 1, 1) := by decide +kernel
theorem d_P_settle_5 : decode (yMb m_P_settle) 5 = .ok (.ifCond .eq 20, 3) := by decide +kernel
theorem d_P_settle_8 : decode (yMb m_P_settle) 8 = .ok (.iload_n 2, 1) := by decide +kernel
theorem d_P_settle_9 : decode (yMb m_P_settle) 9 = .ok (.bipush 6, 2) := by decide +kernel
theorem d_P_settle_11 : decode (yMb m_P_settle) 11 = .ok (.if_icmp .gt 14, 3) := by decide +kernel
theorem d_P_settle_14 : decode (yMb m_P_settle) 14 = .ok (.aload_n 0, 1) := by decide +kernel
theorem d_P_settle_15 : decode (yMb m_P_settle) 15 = .ok (.invokevirtual 76, 3) := by decide +kernel
theorem d_P_settle_18 : decode (yMb m_P_settle) 18 = .ok (.istore_n 1, 1) := by decide +kernel
theorem d_P_settle_19 : decode (yMb m_P_settle) 19 = .ok (.iinc 2 1, 3) := by decide +kernel
theorem d_P_settle_22 : decode (yMb m_P_settle) 22 = .ok (.goto (-18), 3) := by decide +kernel
theorem d_P_settle_25 : decode (yMb m_P_settle) 25 = .ok (.return_, 1) := by decide +kernel
theorem d_P_canBeAtOnce_0 : decode (yMb m_P_canBeAtOnce) 0 = .ok (.aload_n 0, 1) := by decide +kernel
theorem d_P_canBeAtOnce_1 : decode (yMb m_P_canBeAtOnce) 1 = .ok (.aload_n 1, 1) := by decide +kernel
theorem d_P_canBeAtOnce_2 : decode (yMb m_P_canBeAtOnce) 2 = .ok (.invokevirtual 80, 3) := by decide +kernel
theorem d_P_canBeAtOnce_5 : decode (yMb m_P_canBeAtOnce) 5 = .ok (.ifCond .ne 26, 3) := by decide +kernel
theorem d_P_canBeAtOnce_8 : decode (yMb m_P_canBeAtOnce) 8 = .ok (.aload_n 0, 1) := by decide +kernel
theorem d_P_canBeAtOnce_9 : decode (yMb m_P_canBeAtOnce) 9 = .ok (.aload_n 1, 1) := by decide +kernel
theorem d_P_canBeAtOnce_10 : decode (yMb m_P_canBeAtOnce) 10 = .ok (.invokevirtual 83, 3) := by decide +kernel
theorem d_P_canBeAtOnce_13 : decode (yMb m_P_canBeAtOnce) 13 = .ok (.ifCond .eq 22, 3) := by decide +kernel
theorem d_P_canBeAtOnce_16 : decode (yMb m_P_canBeAtOnce) 16 = .ok (.aload_n 0, 1) := by decide +kernel
theorem d_P_canBeAtOnce_17 : decode (yMb m_P_canBeAtOnce) 17 = .ok (.aload_n 0, 1) := by decide +kernel
theorem d_P_canBeAtOnce_18 : decode (yMb m_P_canBeAtOnce) 18 = .ok (.aload_n 1, 1) := by decide +kernel
theorem d_P_canBeAtOnce_19 : decode (yMb m_P_canBeAtOnce) 19 = .ok (.getfield 86, 3) := by decide +kernel
theorem d_P_canBeAtOnce_22 : decode (yMb m_P_canBeAtOnce) 22 = .ok (.invokevirtual 89, 3) := by decide +kernel
theorem d_P_canBeAtOnce_25 : decode (yMb m_P_canBeAtOnce) 25 = .ok (.invokevirtual 93, 3) := by decide +kernel
theorem d_P_canBeAtOnce_28 : decode (yMb m_P_canBeAtOnce) 28 = .ok (.ifCond .ne 7, 3) := by decide +kernel
theorem d_P_canBeAtOnce_31 : decode (yMb m_P_canBeAtOnce) 31 = .ok (.iconst 1, 1) := by decide +kernel
theorem d_P_canBeAtOnce_32 : decode (yMb m_P_canBeAtOnce) 32 = .ok (.goto 4, 3) := by decide +kernel
theorem d_P_canBeAtOnce_35 : decode (yMb m_P_canBeAtOnce) 35 = .ok (.iconst 0, 1) := by decide +kernel
theorem d_P_canBeAtOnce_36 : decode (yMb m_P_canBeAtOnce) 36 = .ok (.ireturn, 1) := by decide +kernel
theorem d_P_hasInRow_0 : decode (yMb m_P_hasInRow) 0 = .ok (.iconst 0, 1) := by decide +kernel
theorem d_P_hasInRow_1 : decode (yMb m_P_hasInRow) 1 = .ok (.istore_n 2, 1) := by decide +kernel
theorem d_P_hasInRow_2 : decode (yMb m_P_hasInRow) 2 = .ok (.iload_n 2, 1) := by decide +kernel
theorem d_P_hasInRow_3 : decode (yMb m_P_hasInRow) 3 = .ok (.aload_n 0, 1) := by decide +kernel
theorem d_P_hasInRow_4 : decode (yMb m_P_hasInRow) 4 = .ok (.getfield 12, 3) := by decide +kernel
theorem d_P_hasInRow_7 : decode (yMb m_P_hasInRow) 7 = .ok (.getfield 69, 3) := by decide +kernel
theorem d_P_hasInRow_10 : decode (yMb m_P_hasInRow) 10 = .ok (.if_icmp .ge 36, 3) := by decide +kernel
theorem d_P_hasInRow_13 : decode (yMb m_P_hasInRow) 13 = .ok (.aload_n 0, 1) := by decide +kernel
theorem d_P_hasInRow_14 : decode (yMb m_P_hasInRow) 14 = .ok (.getfield 12, 3) := by decide +kernel
theorem d_P_hasInRow_17 : decode (yMb m_P_hasInRow) 17 = .ok (.iload_n 2, 1) := by decide +kernel
theorem d_P_hasInRow_18 : decode (yMb m_P_hasInRow) 18 = .ok (.invokevirtual 97, 3) := by decide +kernel
theorem d_P_hasInRow_21 : decode (yMb m_P_hasInRow) 21 = .ok (.astore_n 3, 1) := by decide +kernel
theorem d_P_hasInRow_22 : decode (yMb m_P_hasInRow) 22 = .ok (.aload_n 3, 1) := by decide +kernel
theorem d_P_hasInRow_23 : decode (yMb m_P_hasInRow) 23 = .ok (.ifnull 17, 3) := by decide +kernel
theorem d_P_hasInRow_26 : decode (yMb m_P_hasInRow) 26 = .ok (.aload_n 0, 1) := by decide +kernel
theorem d_P_hasInRow_27 : decode (yMb m_P_hasInRow) 27 = .ok (.aload_n 3, 1) := by decide +kernel
theorem d_P_hasInRow_28 : decode (yMb m_P_hasInRow) 28 = .ok (.getfield 86, 3) := by decide +kernel
theorem d_P_hasInRow_31 : decode (yMb m_P_hasInRow) 31 = .ok (.invokevirtual 89, 3) := by decide +kernel
theorem d_P_hasInRow_34 : decode (yMb m_P_hasInRow) 34 = .ok (.iload_n 1, 1) := by decide +kernel
theorem d_P_hasInRow_35 : decode (yMb m_P_hasInRow) 35 = .ok (.if_icmp .ne 5, 3) := by decide +kernel
theorem d_P_hasInRow_38 : decode (yMb m_P_hasInRow) 38 = .ok (.iconst 1, 1) := by decide +kernel
theorem d_P_hasInRow_39 : decode (yMb m_P_hasInRow) 39 = .ok (.ireturn, 1) := by decide +kernel
theorem d_P_hasInRow_40 : decode (yMb m_P_hasInRow) 40 = .ok (.iinc 2 1, 3) := by decide +kernel
theorem d_P_hasInRow_43 : decode (yMb m_P_hasInRow) 43 = .ok (.goto (-41), 3) := by decide +kernel
theorem d_P_hasInRow_46 : decode (yMb m_P_hasInRow) 46 = .ok (.iconst 0, 1) := by decide +kernel
theorem d_P_hasInRow_47 : decode (yMb m_P_hasInRow) 47 = .ok (.ireturn, 1) := by decide +kernel
end
section
theorem d_P_goThroughRow_0 : decode (yMb m_P_goThroughRow) 0 = .ok (.aload_n 0, 1) := by decide +kernel
theorem d_P_goThroughRow_1 : decode (yMb m_P_goThroughRow) 1 = .ok (.getfield 12, 3) := by decide +kernel
theorem d_P_goThroughRow_4 : decode (yMb m_P_goThroughRow) 4 = .ok (.getfield 69, 3) := by decide +kernel
theorem d_P_goThroughRow_7 : decode (yMb m_P_goThroughRow) 7 = .ok (.istore_n 1, 1) := by decide +kernel
theorem d_P_goThroughRow_8 : decode (yMb m_P_goThroughRow) 8 = .ok (.iconst 0, 1) := by decide +kernel
theorem d_P_goThroughRow_9 : decode (yMb m_P_goThroughRow) 9 = .ok (.istore_n 2, 1) := by decide +kernel
theorem d_P_goThroughRow_10 : decode (yMb m_P_goThroughRow) 10 = .ok (.iconst 0, 1) := by decide +kernel
theorem d_P_goThroughRow_11 : decode (yMb m_P_goThroughRow) 11 = .ok (.istore_n 3, 1) := by decide +kernel
theorem d_P_goThroughRow_12 : decode (yMb m_P_goThroughRow) 12 = .ok (.iconst 0, 1) := by decide +kernel
theorem d_P_goThroughRow_13 : decode (yMb m_P_goThroughRow) 13 = .ok (.istore 4, 2) := by decide +kernel
theorem d_P_goThroughRow_15 : decode (yMb m_P_goThroughRow) 15 = .ok (.iload 4, 2) := by decide +kernel
theorem d_P_goThroughRow_17 : decode (yMb m_P_goThroughRow) 17 = .ok (.iload_n 1, 1) := by decide +kernel
theorem d_P_goThroughRow_18 : decode (yMb m_P_goThroughRow) 18 = .ok (.if_icmp .ge 92, 3) := by decide +kernel
theorem d_P_goThroughRow_21 : decode (yMb m_P_goThroughRow) 21 = .ok (.aload_n 0, 1) := by decide +kernel
theorem d_P_goThroughRow_22 : decode (yMb m_P_goThroughRow) 22 = .ok (.getfield 12, 3) := by decide +kernel
theorem d_P_goThroughRow_25 : decode (yMb m_P_goThroughRow) 25 = .ok (.iload_n 3, 1) := by decide +kernel
theorem d_P_goThroughRow_26 : decode (yMb m_P_goThroughRow) 26 = .ok (.invokevirtual 97, 3) := by decide +kernel
theorem d_P_goThroughRow_29 : decode (yMb m_P_goThroughRow) 29 = .ok (.astore 5, 2) := by decide +kernel
theorem d_P_goThroughRow_31 : decode (yMb m_P_goThroughRow) 31 = .ok (.aload 5, 2) := by decide +kernel
theorem d_P_goThroughRow_33 : decode (yMb m_P_goThroughRow) 33 = .ok (.ifnonnull 6, 3) := by decide +kernel
theorem d_P_goThroughRow_36 : decode (yMb m_P_goThroughRow) 36 = .ok (.goto 74, 3) := by decide +kernel
theorem d_P_goThroughRow_39 : decode (yMb m_P_goThroughRow) 39 = .ok (.iconst 1, 1) := by decide +kernel
theorem d_P_goThroughRow_40 : decode (yMb m_P_goThroughRow) 40 = .ok (.aload_n 0, 1) := by decide +kernel
theorem d_P_goThroughRow_41 : decode (yMb m_P_goThroughRow) 41 = .ok (.aload 5, 2) := by decide +kernel
theorem d_P_goThroughRow_43 : decode (yMb m_P_goThroughRow) 43 = .ok (.getfield 86, 3) := by decide +kernel
theorem d_P_goThroughRow_46 : decode (yMb m_P_goThroughRow) 46 = .ok (.invokevirtual 89, 3) := by decide +kernel
theorem d_P_goThroughRow_49 : decode (yMb m_P_goThroughRow) 49 = .ok (.ishl, 1) := by decide +kernel
theorem d_P_goThroughRow_50 : decode (yMb m_P_goThroughRow) 50 = .ok (.istore 6, 2) := by decide +kernel
theorem d_P_goThroughRow_52 : decode (yMb m_P_goThroughRow) 52 = .ok (.iload_n 2, 1) := by decide +kernel
theorem d_P_goThroughRow_53 : decode (yMb m_P_goThroughRow) 53 = .ok (.iload 6, 2) := by decide +kernel
theorem d_P_goThroughRow_55 : decode (yMb m_P_goThroughRow) 55 = .ok (.iand, 1) := by decide +kernel
theorem d_P_goThroughRow_56 : decode (yMb m_P_goThroughRow) 56 = .ok (.ifCond .ne 40, 3) := by decide +kernel
theorem d_P_goThroughRow_59 : decode (yMb m_P_goThroughRow) 59 = .ok (.aload_n 0, 1) := by decide +kernel
theorem d_P_goThroughRow_60 : decode (yMb m_P_goThroughRow) 60 = .ok (.aload 5, 2) := by decide +kernel
theorem d_P_goThroughRow_62 : decode (yMb m_P_goThroughRow) 62 = .ok (.invokevirtual 83, 3) := by decide +kernel
theorem d_P_goThroughRow_65 : decode (yMb m_P_goThroughRow) 65 = .ok (.ifCond .eq 31, 3) := by decide +kernel
theorem d_P_goThroughRow_68 : decode (yMb m_P_goThroughRow) 68 = .ok (.aload_n 0, 1) := by decide +kernel
theorem d_P_goThroughRow_69 : decode (yMb m_P_goThroughRow) 69 = .ok (.getfield 12, 3) := by decide +kernel
theorem d_P_goThroughRow_72 : decode (yMb m_P_goThroughRow) 72 = .ok (.aload 5, 2) := by decide +kernel
theorem d_P_goThroughRow_74 : decode (yMb m_P_goThroughRow) 74 = .ok (.invokevirtual 66, 3) := by decide +kernel
theorem d_P_goThroughRow_77 : decode (yMb m_P_goThroughRow) 77 = .ok (.aload_n 0, 1) := by decide +kernel
theorem d_P_goThroughRow_78 : decode (yMb m_P_goThroughRow) 78 = .ok (.aload 5, 2) := by decide +kernel
theorem d_P_goThroughRow_80 : decode (yMb m_P_goThroughRow) 80 = .ok (.invokevirtual 38, 3) := by decide +kernel
theorem d_P_goThroughRow_83 : decode (yMb m_P_goThroughRow) 83 = .ok (.aload 5, 2) := by decide +kernel
theorem d_P_goThroughRow_85 : decode (yMb m_P_goThroughRow) 85 = .ok (.aload 5, 2) := by decide +kernel
theorem d_P_goThroughRow_87 : decode (yMb m_P_goThroughRow) 87 = .ok (.getfield 101, 3) := by decide +kernel
theorem d_P_goThroughRow_90 : decode (yMb m_P_goThroughRow) 90 = .ok (.invokevirtual 29, 3) := by decide +kernel
theorem d_P_goThroughRow_93 : decode (yMb m_P_goThroughRow) 93 = .ok (.goto 11, 3) := by decide +kernel
theorem d_P_goThroughRow_96 : decode (yMb m_P_goThroughRow) 96 = .ok (.iload_n 2, 1) := by decide +kernel
theorem d_P_goThroughRow_97 : decode (yMb m_P_goThroughRow) 97 = .ok (.iload 6, 2) := by decide +kernel
theorem d_P_goThroughRow_99 : decode (yMb m_P_goThroughRow) 99 = .ok (.ior, 1) := by decide +kernel
theorem d_P_goThroughRow_100 : decode (yMb m_P_goThroughRow) 100 = .ok (.istore_n 2, 1) := by decide +kernel
theorem d_P_goThroughRow_101 : decode (yMb m_P_goThroughRow) 101 = .ok (.iinc 3 1, 3) := by decide +kernel
theorem d_P_goThroughRow_104 : decode (yMb m_P_goThroughRow) 104 = .ok (.iinc 4 1, 3) := by decide +kernel
theorem d_P_goThroughRow_107 : decode (yMb m_P_goThroughRow) 107 = .ok (.goto (-92), 3) := by decide +kernel
theorem d_P_goThroughRow_110 : decode (yMb m_P_goThroughRow) 110 = .ok (.iload_n 3, 1) := by decide +kernel
theorem d_P_goThroughRow_111 : decode (yMb m_P_goThroughRow) 111 = .ok (.iload_n 1, 1) := by decide +kernel
theorem d_P_goThroughRow_112 : decode (yMb m_P_goThroughRow) 112 = .ok (.if_icmp .ge 7, 3) := by decide +kernel
theorem d_P_goThroughRow_115 : decode (yMb m_P_goThroughRow) 115 = .ok (.iconst 1, 1) := by decide +kernel
theorem d_P_goThroughRow_116 : decode (yMb m_P_goThroughRow) 116 = .ok (.goto 4, 3) := by decide +kernel
theorem d_P_goThroughRow_119 : decode (yMb m_P_goThroughRow) 119 = .ok (.iconst 0, 1) := by decide +kernel
theorem d_P_goThroughRow_120 : decode (yMb m_P_goThroughRow) 120 = .ok (.ireturn, 1) := by decide +kernel
theorem d_W_make_0 : decode (yMb m_W_make) 0 = .ok (.aload_n 3, 1) := by decide +kernel
theorem d_W_make_1 : decode (yMb m_W_make) 1 = .ok (.iconst 0, 1) := by decide +kernel
theorem d_W_make_2 : decode (yMb m_W_make) 2 = .ok (.aload_n 0, 1) := by decide +kernel
theorem d_W_make_3 : decode (yMb m_W_make) 3 = .ok (.iload_n 1, 1) := by decide +kernel
theorem d_W_make_4 : decode (yMb m_W_make) 4 = .ok (.iload_n 2, 1) := by decide +kernel
theorem d_W_make_5 : decode (yMb m_W_make) 5 = .ok (.invokevirtual 7, 3) := by decide +kernel
theorem d_W_make_8 : decode (yMb m_W_make) 8 = .ok (.i2l, 1) := by decide +kernel
theorem d_W_make_9 : decode (yMb m_W_make) 9 = .ok (.lastore, 1) := by decide +kernel
theorem d_W_make_10 : decode (yMb m_W_make) 10 = .ok (.goto 11, 3) := by decide +kernel
theorem d_W_make_13 : decode (yMb m_W_make) 13 = .ok (.astore 4, 2) := by decide +kernel
theorem d_W_make_15 : decode (yMb m_W_make) 15 = .ok (.iconst 1, 1) := by decide +kernel
theorem d_W_make_16 : decode (yMb m_W_make) 16 = .ok (.ireturn, 1) := by decide +kernel
theorem d_W_make_17 : decode (yMb m_W_make) 17 = .ok (.astore 4, 2) := by decide +kernel
theorem d_W_make_19 : decode (yMb m_W_make) 19 = .ok (.iconst 2, 1) := by decide +kernel
theorem d_W_make_20 : decode (yMb m_W_make) 20 = .ok (.ireturn, 1) := by decide +kernel
theorem d_W_make_21 : decode (yMb m_W_make) 21 = .ok (.iconst 0, 1) := by decide +kernel
theorem d_W_make_22 : decode (yMb m_W_make) 22 = .ok (.ireturn, 1) := by decide +kernel
theorem d_W_act_0 : decode (yMb m_W_act) 0 = .ok (.aload 6, 2) := by decide +kernel
theorem d_W_act_2 : decode (yMb m_W_act) 2 = .ok (.iconst 0, 1) := by decide +kernel
theorem d_W_act_3 : decode (yMb m_W_act) 3 = .ok (.aload_n 0, 1) := by decide +kernel
theorem d_W_act_4 : decode (yMb m_W_act) 4 = .ok (.iload_n 1, 1) := by decide +kernel
theorem d_W_act_5 : decode (yMb m_W_act) 5 = .ok (.iload_n 2, 1) := by decide +kernel
theorem d_W_act_6 : decode (yMb m_W_act) 6 = .ok (.iload_n 3, 1) := by decide +kernel
theorem d_W_act_7 : decode (yMb m_W_act) 7 = .ok (.iload 4, 2) := by decide +kernel
theorem d_W_act_9 : decode (yMb m_W_act) 9 = .ok (.iload 5, 2) := by decide +kernel
theorem d_W_act_11 : decode (yMb m_W_act) 11 = .ok (.invokevirtual 17, 3) := by decide +kernel
theorem d_W_act_14 : decode (yMb m_W_act) 14 = .ok (.i2l, 1) := by decide +kernel
theorem d_W_act_15 : decode (yMb m_W_act) 15 = .ok (.lastore, 1) := by decide +kernel
theorem d_W_act_16 : decode (yMb m_W_act) 16 = .ok (.goto 15, 3) := by decide +kernel
theorem d_W_act_19 : decode (yMb m_W_act) 19 = .ok (.astore 7, 2) := by decide +kernel
theorem d_W_act_21 : decode (yMb m_W_act) 21 = .ok (.iconst 1, 1) := by decide +kernel
theorem d_W_act_22 : decode (yMb m_W_act) 22 = .ok (.ireturn, 1) := by decide +kernel
theorem d_W_act_23 : decode (yMb m_W_act) 23 = .ok (.astore 7, 2) := by decide +kernel
theorem d_W_act_25 : decode (yMb m_W_act) 25 = .ok (.iconst 2, 1) := by decide +kernel
theorem d_W_act_26 : decode (yMb m_W_act) 26 = .ok (.ireturn, 1) := by decide +kernel
theorem d_W_act_27 : decode (yMb m_W_act) 27 = .ok (.astore 7, 2) := by decide +kernel
theorem d_W_act_29 : decode (yMb m_W_act) 29 = .ok (.iconst 3, 1) := by decide +kernel
theorem d_W_act_30 : decode (yMb m_W_act) 30 = .ok (.ireturn, 1) := by decide +kernel
theorem d_W_act_31 : decode (yMb m_W_act) 31 = .ok (.iconst 0, 1) := by decide +kernel
theorem d_W_act_32 : decode (yMb m_W_act) 32 = .ok (.ireturn, 1) := by decide +kernel
theorem d_W_tick_0 : decode (yMb m_W_tick) 0 = .ok (.aload_n 2, 1) := by decide +kernel
theorem d_W_tick_1 : decode (yMb m_W_tick) 1 = .ok (.iconst 0, 1) := by decide +kernel
theorem d_W_tick_2 : decode (yMb m_W_tick) 2 = .ok (.aload_n 0, 1) := by decide +kernel
theorem d_W_tick_3 : decode (yMb m_W_tick) 3 = .ok (.iload_n 1, 1) := by decide +kernel
theorem d_W_tick_4 : decode (yMb m_W_tick) 4 = .ok (.invokevirtual 23, 3) := by decide +kernel
theorem d_W_tick_7 : decode (yMb m_W_tick) 7 = .ok (.i2l, 1) := by decide +kernel
theorem d_W_tick_8 : decode (yMb m_W_tick) 8 = .ok (.lastore, 1) := by decide +kernel
theorem d_W_tick_9 : decode (yMb m_W_tick) 9 = .ok (.goto 6, 3) := by decide +kernel
theorem d_W_tick_12 : decode (yMb m_W_tick) 12 = .ok (.astore_n 3, 1) := by decide +kernel
theorem d_W_tick_13 : decode (yMb m_W_tick) 13 = .ok (.iconst 1, 1) := by decide +kernel
theorem d_W_tick_14 : decode (yMb m_W_tick) 14 = .ok (.ireturn, 1) := by decide +kernel
theorem d_W_tick_15 : decode (yMb m_W_tick) 15 = .ok (.iconst 0, 1) := by decide +kernel
theorem d_W_tick_16 : decode (yMb m_W_tick) 16 = .ok (.ireturn, 1) := by decide +kernel
theorem d_W_interrupt_0 : decode (yMb m_W_interrupt) 0 = .ok (.aload_n 0, 1) := by decide +kernel
theorem d_W_interrupt_1 : decode (yMb m_W_interrupt) 1 = .ok (.iload_n 1, 1) := by decide +kernel
theorem d_W_interrupt_2 : decode (yMb m_W_interrupt) 2 = .ok (.invokevirtual 27, 3) := by decide +kernel
theorem d_W_interrupt_5 : decode (yMb m_W_interrupt) 5 = .ok (.goto 6, 3) := by decide +kernel
theorem d_W_interrupt_8 : decode (yMb m_W_interrupt) 8 = .ok (.astore_n 2, 1) := by decide +kernel
theorem d_W_interrupt_9 : decode (yMb m_W_interrupt) 9 = .ok (.iconst 1, 1) := by decide +kernel
theorem d_W_interrupt_10 : decode (yMb m_W_interrupt) 10 = .ok (.ireturn, 1) := by decide +kernel
theorem d_W_interrupt_11 : decode (yMb m_W_interrupt) 11 = .ok (.iconst 0, 1) := by decide +kernel
theorem d_W_interrupt_12 : decode (yMb m_W_interrupt) 12 = .ok (.ireturn, 1) := by decide +kernel
theorem d_W_told_0 : decode (yMb m_W_told) 0 = .ok (.aload_n 3, 1) := by decide +kernel
theorem d_W_told_1 : decode (yMb m_W_told) 1 = .ok (.iconst 0, 1) := by decide +kernel
theorem d_W_told_2 : decode (yMb m_W_told) 2 = .ok (.aload_n 0, 1) := by decide +kernel
theorem d_W_told_3 : decode (yMb m_W_told) 3 = .ok (.iload_n 1, 1) := by decide +kernel
theorem d_W_told_4 : decode (yMb m_W_told) 4 = .ok (.iload_n 2, 1) := by decide +kernel
theorem d_W_told_5 : decode (yMb m_W_told) 5 = .ok (.invokevirtual 31, 3) := by decide +kernel
theorem d_W_told_8 : decode (yMb m_W_told) 8 = .ok (.i2l, 1) := by decide +kernel
theorem d_W_told_9 : decode (yMb m_W_told) 9 = .ok (.lastore, 1) := by decide +kernel
theorem d_W_told_10 : decode (yMb m_W_told) 10 = .ok (.goto 7, 3) := by decide +kernel
theorem d_W_told_13 : decode (yMb m_W_told) 13 = .ok (.astore 4, 2) := by decide +kernel
theorem d_W_told_15 : decode (yMb m_W_told) 15 = .ok (.iconst 1, 1) := by decide +kernel
theorem d_W_told_16 : decode (yMb m_W_told) 16 = .ok (.ireturn, 1) := by decide +kernel
theorem d_W_told_17 : decode (yMb m_W_told) 17 = .ok (.iconst 0, 1) := by decide +kernel
theorem d_W_told_18 : decode (yMb m_W_told) 18 = .ok (.ireturn, 1) := by decide +kernel
theorem d_W_object_0 : decode (yMb m_W_object) 0 = .ok (.aload_n 3, 1) := by decide +kernel
theorem d_W_object_1 : decode (yMb m_W_object) 1 = .ok (.iconst 0, 1) := by decide +kernel
theorem d_W_object_2 : decode (yMb m_W_object) 2 = .ok (.aload_n 0, 1) := by decide +kernel
theorem d_W_object_3 : decode (yMb m_W_object) 3 = .ok (.iload_n 1, 1) := by decide +kernel
theorem d_W_object_4 : decode (yMb m_W_object) 4 = .ok (.iload_n 2, 1) := by decide +kernel
theorem d_W_object_5 : decode (yMb m_W_object) 5 = .ok (.invokevirtual 34, 3) := by decide +kernel
theorem d_W_object_8 : decode (yMb m_W_object) 8 = .ok (.i2l, 1) := by decide +kernel
theorem d_W_object_9 : decode (yMb m_W_object) 9 = .ok (.lastore, 1) := by decide +kernel
theorem d_W_object_10 : decode (yMb m_W_object) 10 = .ok (.goto 7, 3) := by decide +kernel
theorem d_W_object_13 : decode (yMb m_W_object) 13 = .ok (.astore 4, 2) := by decide +kernel
theorem d_W_object_15 : decode (yMb m_W_object) 15 = .ok (.iconst 1, 1) := by decide +kernel
theorem d_W_object_16 : decode (yMb m_W_object) 16 = .ok (.ireturn, 1) := by decide +kernel
theorem d_W_object_17 : decode (yMb m_W_object) 17 = .ok (.iconst 0, 1) := by decide +kernel
theorem d_W_object_18 : decode (yMb m_W_object) 18 = .ok (.ireturn, 1) := by decide +kernel
theorem d_W_waiter_0 : decode (yMb m_W_waiter) 0 = .ok (.aload_n 3, 1) := by decide +kernel
theorem d_W_waiter_1 : decode (yMb m_W_waiter) 1 = .ok (.iconst 0, 1) := by decide +kernel
theorem d_W_waiter_2 : decode (yMb m_W_waiter) 2 = .ok (.aload_n 0, 1) := by decide +kernel
theorem d_W_waiter_3 : decode (yMb m_W_waiter) 3 = .ok (.iload_n 1, 1) := by decide +kernel
theorem d_W_waiter_4 : decode (yMb m_W_waiter) 4 = .ok (.iload_n 2, 1) := by decide +kernel
theorem d_W_waiter_5 : decode (yMb m_W_waiter) 5 = .ok (.invokevirtual 37, 3) := by decide +kernel
theorem d_W_waiter_8 : decode (yMb m_W_waiter) 8 = .ok (.i2l, 1) := by decide +kernel
theorem d_W_waiter_9 : decode (yMb m_W_waiter) 9 = .ok (.lastore, 1) := by decide +kernel
theorem d_W_waiter_10 : decode (yMb m_W_waiter) 10 = .ok (.goto 11, 3) := by decide +kernel
theorem d_W_waiter_13 : decode (yMb m_W_waiter) 13 = .ok (.astore 4, 2) := by decide +kernel
theorem d_W_waiter_15 : decode (yMb m_W_waiter) 15 = .ok (.iconst 1, 1) := by decide +kernel
theorem d_W_waiter_16 : decode (yMb m_W_waiter) 16 = .ok (.ireturn, 1) := by decide +kernel
theorem d_W_waiter_17 : decode (yMb m_W_waiter) 17 = .ok (.astore 4, 2) := by decide +kernel
theorem d_W_waiter_19 : decode (yMb m_W_waiter) 19 = .ok (.iconst 2, 1) := by decide +kernel
theorem d_W_waiter_20 : decode (yMb m_W_waiter) 20 = .ok (.ireturn, 1) := by decide +kernel
theorem d_W_waiter_21 : decode (yMb m_W_waiter) 21 = .ok (.iconst 0, 1) := by decide +kernel
theorem d_W_waiter_22 : decode (yMb m_W_waiter) 22 = .ok (.ireturn, 1) := by decide +kernel
end
section
def ySup : List String := ["java/lang/RuntimeException", "java/lang/Exception"]
section YX
variable {G : yG} {i : yM} {Qf : yQT} {sh0 : Nat → Option ySh} {pc : Nat} {ls : List (Option yV)} {st : List yV} {ω : yW} {cs sl : Nat} {P : Option yV → yW → Prop} {X : String → yW → Prop}
theorem yH_kept {ad : Nat → Nat} {H H1 : Heap} (h : yH G ad ω H) (hq : ∀ q : Nat, q < H.size → H1[q]? = H[q]?) : yH G ad ω H1 := ⟨h.1, fun k sp hk => ⟨(h.2 k sp hk).1, (h.2 k sp hk).2.kept (hq _ (h.2 k sp hk).2.lt)⟩⟩
/-- 'throw new E()' -/
theorem yr_throw {E : String} {ik ic : Nat} (hT : (yGl G).stackTraces = false) (hh : yMh i = []) (d0 : decode (yMb i) pc = .ok (.new ik, 3)) (d3 : decode (yMb i) (pc + 3) = .ok (.dup, 1)) (d4 : decode (yMb i) (pc + 4) = .ok (.invokespecial ic, 3)) (d7 : decode (yMb i) (pc + 7) = .ok (.athrow, 1)) (hcls : Bundle.fit E = true)
    (hk : Cond.classLink (yMy i).cls ik E ∈ lw_tbl) (hini : Cond.initialized E ∈ lw_tbl) (hat : ∀ w ∈ vx_at0 (yMy i).cls ic E ySup, w ∈ lw_tbl ∧ ynw w = true ∧ vx_ot w = true) (hf : 6 ≤ (yMm i).frames) (hlo : st.length + 81 ≤ (yMm i).locals) (hcat : ∀ v ∈ st, ∀ ad, (ycv ad v).category = 1) (hc : cs + 1 ≤ (yMm i).cells) (hs : sl + 6 ≤ (yMm i).slots) (hX : X E ω) :
    yWW G i (yQf G i sh0 P X) sh0 pc ls st ω cs sl := by
  intro p e s m args below meth c ad0 ad H locs lsA C hE hS hH hL
  have hg := C.2.2.2.2.2.2.2.1
  have hst := C.2.2.2.2.2.2.2.2.2.1
  have hex := C.2.2.2.2.2.2.2.2.2.2.2
  rw [hh] at hex
  refine vx_throw0 (names := ySup) C.1 C.2.1 hT C.2.2.2.2.1 hcls (by decide +kernel) (hg _ hk rfl args) (hg _ hini rfl args) (fun w hw => hg w (hat w hw).1 (hat w hw).2.1 args) ?_ hst.1 hst.2.1 hS (by rw [C.2.2.2.1]; exact hL.size) d0 d3 d4 d7 (fun x hx => by rw [hex] at hx; cases hx) (show 2 + 3 < _ by omega) ?_ hc hs C.2.2.2.2.2.1 ?_ hS.2.2 hc hs
  · intro w hw
    rcases List.mem_cons.mp hw with rfl | hw
    · rfl
    · rcases List.mem_cons.mp hw with rfl | hw
      · rfl
      · exact (hat w hw).2.2
  · have := ycat_le (ad := ad) st (Nat.le_refl _) hcat
    show _ + (13 * (2 + 1) + 42) ≤ _
    omega
  · intro t h1 h2 h3
    exact ⟨ad, ω, hX, hE, yH_kept hH h3, Nat.le_trans hS.1 h2, fun q a1 a2 => (h3 q (Nat.lt_of_lt_of_le a1 hS.1)).trans (hS.2.1 q a1 a2)⟩
/-- the static table of kinds: a place of it; its length -/
theorem yr_gsld {ix : Nat} {j : Fin 4} {x : Int32} (d0 : decode (yMb i) pc = .ok (.getstatic ix, 3)) (d3 : decode (yMb i) (pc + 3) = .ok (.iload_n j, 1)) (d4 : decode (yMb i) (pc + 3 + 1) = .ok (.iaload, 1)) (hl : ls[j.val]? = some (some (yi x))) (hlk : Cond.fieldLink (yMy i).cls ix ysC ysn "[I" ∈ lw_tbl) (hin : vp_in x ysN) (kk : yWW G i Qf sh0 (pc + 3 + 1 + 1) ls (yi (yst x.toNatClampNeg) :: st) ω cs sl) : yWW G i Qf sh0 pc ls st ω cs sl := by
  intro p e s m args below meth c ad0 ad H locs lsA C hE hS hH hL
  have hg := C.2.2.2.2.2.2.2.1
  have hst := C.2.2.2.2.2.2.2.2.2.1
  refine va_gets C.1 C.2.1 hst.2.2.1 hS C.2.2.2.2.1 (hg _ hlk rfl args) (fun _ h => h) d0 ?_
  refine lv_iload_n C.1 C.2.1 d3 rfl (hL.get hl) ?_
  exact va_ti C.1 C.2.1 hst.2.2.2 hS hin rfl d4 (kk p e s m args below meth c ad0 ad H locs lsA C hE hS hH hL)
theorem yr_gslen {ix : Nat} (d0 : decode (yMb i) pc = .ok (.getstatic ix, 3)) (d3 : decode (yMb i) (pc + 3) = .ok (.arraylength, 1)) (hlk : Cond.fieldLink (yMy i).cls ix ysC ysn "[I" ∈ lw_tbl) (kk : yWW G i Qf sh0 (pc + 3 + 1) ls (yi 17 :: st) ω cs sl) : yWW G i Qf sh0 pc ls st ω cs sl := by
  intro p e s m args below meth c ad0 ad H locs lsA C hE hS hH hL
  have hg := C.2.2.2.2.2.2.2.1
  have hst := C.2.2.2.2.2.2.2.2.2.1
  refine va_gets C.1 C.2.1 hst.2.2.1 hS C.2.2.2.2.1 (hg _ hlk rfl args) (fun _ h => h) d0 ?_
  exact va_tlen C.1 C.2.1 hst.2.2.2 hS (v := 17) (by decide) d3 (kk p e s m args below meth c ad0 ad H locs lsA C hE hS hH hL)
/-- switches -/
theorem yr_tcase {dflt lo hi : Int} {offs : Array Int} {len : Nat} {x : Int32} {off : Int} {tgt : Nat} (hd : decode (yMb i) pc = .ok (.tableswitch dflt lo hi offs, len)) (v : Int32) (hx : x = v) (h1 : ¬ v.toInt < lo) (h2 : ¬ hi < v.toInt) (ho : offs[(v.toInt - lo).toNat]? = some off) (ht : (pc : Int) + off = (tgt : Int)) (kk : yWW G i Qf sh0 tgt ls st ω cs sl) : yWW G i Qf sh0 pc ls (yi x :: st) ω cs sl := by
  intro p e s m args below meth c ad0 ad H locs lsA C hE hS hH hL
  subst hx
  exact lv_tableIn C.1 C.2.1 hd h1 h2 ho ht (kk p e s m args below meth c ad0 ad H locs lsA C hE hS hH hL)
theorem yr_tdef {dflt lo hi : Int} {offs : Array Int} {len : Nat} {x : Int32} {tgt : Nat} (hd : decode (yMb i) pc = .ok (.tableswitch dflt lo hi offs, len)) (h : x.toInt < lo ∨ hi < x.toInt) (ht : (pc : Int) + dflt = (tgt : Int)) (kk : yWW G i Qf sh0 tgt ls st ω cs sl) : yWW G i Qf sh0 pc ls (yi x :: st) ω cs sl := by
  intro p e s m args below meth c ad0 ad H locs lsA C hE hS hH hL
  exact lv_tableOut C.1 C.2.1 hd h ht (kk p e s m args below meth c ad0 ad H locs lsA C hE hS hH hL)
theorem yr_look {dflt : Int} {ps : Array (Int × Int)} {len : Nat} {x : Int32} {off : Int} {tgt : Nat} (hd : decode (yMb i) pc = .ok (.lookupswitch dflt ps, len)) (hp : (ps.toList.zip (ps.toList.drop 1)).all (fun (a, next) => a.1 < next.1) = true) (ho : Op.lookupswitch.offset ps.toList dflt x.toInt = off) (ht : (pc : Int) + off = (tgt : Int)) (kk : yWW G i Qf sh0 tgt ls st ω cs sl) : yWW G i Qf sh0 pc ls (yi x :: st) ω cs sl := by
  intro p e s m args below meth c ad0 ad H locs lsA C hE hS hH hL
  exact lv_lookup C.1 C.2.1 hd hp ho ht (kk p e s m args below meth c ad0 ad H locs lsA C hE hS hH hL)
/-- fewer promises -/
theorem yCT.mono {As : List yV} {P' : Option yV → yW → Prop} (h : yCT G i As ω P yNX) (hP : ∀ r ω', P r ω' → P' r ω') : yCT G i As ω P' yNX := by
  intro ad0
  intro p e a1 a2 a3 s m args below b1 b2 b3 b4
  obtain ⟨n, o, c1, c2, c3, c4⟩ := h ad0 p e a1 a2 a3 s m args below b1 b2 b3 b4
  refine ⟨n, o, c1, c2, c3, ?_⟩
  rcases c4 with ⟨⟨r, ad, ω', q1, q2, q3⟩, c5⟩ | ⟨q, -, E, ce, L, ⟨_, _, hx, _⟩, -⟩
  · exact Or.inl ⟨⟨r, ad, ω', q1, hP r ω' q2, q3⟩, c5⟩
  · exact absurd hx id
end YX
end
section
theorem sf_Y_init_10 : ySF "MonitorYard" 11 "MonitorYard" "" 0 0 = true := by decide +kernel
theorem sf_Y_init_19 : ySF "MonitorYard" 17 "MonitorYard" "" 0 1 = true := by decide +kernel
theorem sf_Y_init_31 : ySF "MonitorYard" 11 "MonitorYard" "" 0 0 = true := by decide +kernel
theorem sf_Y_make_28 : ySF "MonitorYard" 27 "MonitorYard" "" 0 2 = true := by decide +kernel
theorem sf_Y_make_45 : ySF "MonitorYard" 27 "MonitorYard" "" 0 2 = true := by decide +kernel
theorem sf_Y_make_50 : ySF "MonitorYard" 17 "MonitorYard" "" 0 1 = true := by decide +kernel
theorem sf_Y_make_63 : ySF "MonitorYard" 27 "MonitorYard" "" 0 2 = true := by decide +kernel
theorem sf_Y_make_68 : ySF "MonitorYard" 27 "MonitorYard" "" 0 2 = true := by decide +kernel
theorem sf_Y_act_56 : ∀ c, c < 6 → ySF "MonitorYard" 58 "MonitorYard$Place" "" (3 + c) 0 = true := by decide +kernel
theorem sf_Y_act_72 : ySF "MonitorYard" 64 "MonitorYard$YardThread" "" 1 2 = true := by decide +kernel
theorem sf_Y_act_123 : ySF "MonitorYard" 82 "MonitorYard$YardThread" "" 1 3 = true := by decide +kernel
theorem sf_Y_interrupt_19 : ySF "MonitorYard" 89 "MonitorYard$YardThread" "" 1 4 = true := by decide +kernel
theorem sf_Y_interrupt_36 : ySF "MonitorYard" 97 "MonitorYard$YardThread" "" 1 6 = true := by decide +kernel
theorem sf_Y_told_65 : ySF "MonitorYard" 64 "MonitorYard$YardThread" "" 1 2 = true := by decide +kernel
theorem sf_Y_told_70 : ySF "MonitorYard" 82 "MonitorYard$YardThread" "" 1 3 = true := by decide +kernel
theorem sf_Y_told_75 : ySF "MonitorYard" 89 "MonitorYard$YardThread" "" 1 4 = true := by decide +kernel
theorem sf_Y_told_86 : ySF "MonitorYard" 89 "MonitorYard$YardThread" "" 1 4 = true := by decide +kernel
theorem sf_Y_told_89 : ∀ c, c < 6 → ySF "MonitorYard" 104 "MonitorYard$Place" "" (3 + c) 1 = true := by decide +kernel
theorem sf_Y_told_94 : ySF "MonitorYard" 107 "MonitorYard$YardThread" "" 1 5 = true := by decide +kernel
theorem sf_Y_told_99 : ySF "MonitorYard" 97 "MonitorYard$YardThread" "" 1 6 = true := by decide +kernel
theorem sf_Y_told_112 : ySF "MonitorYard" 110 "MonitorYard$YardThread" "" 1 7 = true := by decide +kernel
theorem sf_Y_object_73 : ∀ c, c < 6 → ySF "MonitorYard" 58 "MonitorYard$Place" "" (3 + c) 0 = true := by decide +kernel
theorem sf_Y_object_88 : ∀ c, c < 6 → ySF "MonitorYard" 119 "MonitorYard$Place" "" (3 + c) 2 = true := by decide +kernel
theorem sf_Y_object_91 : ySF "MonitorYard" 123 "MonitorYard$Row" "MonitorYard" 2 1 = true := by decide +kernel
theorem sf_Y_waiter_19 : ∀ c, c < 6 → ySF "MonitorYard" 119 "MonitorYard$Place" "" (3 + c) 2 = true := by decide +kernel
theorem sf_Y_waiter_43 : ySF "MonitorYard" 144 "MonitorYard$YardThread" "" 1 0 = true := by decide +kernel
theorem sf_Y_stuck_3 : ySF "MonitorYard" 11 "MonitorYard" "" 0 0 = true := by decide +kernel
theorem sf_Y_count_45 : ySF "MonitorYard" 27 "MonitorYard" "" 0 2 = true := by decide +kernel
theorem sf_Y_count_74 : ySF "MonitorYard" 152 "MonitorYard" "" 0 3 = true := by decide +kernel
theorem sf_Y_threadAt_15 : ySF "MonitorYard" 11 "MonitorYard" "" 0 0 = true := by decide +kernel
theorem sf_Y_placeAt_6 : ySF "MonitorYard" 27 "MonitorYard" "" 0 2 = true := by decide +kernel
theorem sf_Y_placeAt_17 : ySF "MonitorYard" 17 "MonitorYard" "" 0 1 = true := by decide +kernel
theorem sf_Y_passOneTick_2 : ySF "MonitorYard" 152 "MonitorYard" "" 0 3 = true := by decide +kernel
theorem sf_Y_passOneTick_7 : ySF "MonitorYard" 152 "MonitorYard" "" 0 3 = true := by decide +kernel
theorem sf_Y_passOneTick_13 : ySF "MonitorYard" 11 "MonitorYard" "" 0 0 = true := by decide +kernel
theorem sf_Y_passOneTick_37 : ySF "MonitorYard" 89 "MonitorYard$YardThread" "" 1 4 = true := by decide +kernel
theorem sf_Y_actsEnded_3 : ySF "MonitorYard" 11 "MonitorYard" "" 0 0 = true := by decide +kernel
theorem sf_Y_actsEnded_30 : ySF "MonitorYard" 184 "MonitorYard$YardThread" "" 1 1 = true := by decide +kernel
theorem sf_Y_runningThreads_3 : ySF "MonitorYard" 11 "MonitorYard" "" 0 0 = true := by decide +kernel
theorem sf_Y_runningThreads_27 : ySF "MonitorYard" 64 "MonitorYard$YardThread" "" 1 2 = true := by decide +kernel
theorem sf_Y_numberOf_9 : ySF "MonitorYard" 144 "MonitorYard$YardThread" "" 1 0 = true := by decide +kernel
theorem sf_T_init_8 : ySF "MonitorYard$YardThread" 9 "MonitorYard$YardThread" "" 1 1 = true := by decide +kernel
theorem sf_T_init_13 : ySF "MonitorYard$YardThread" 15 "MonitorYard$YardThread" "" 1 2 = true := by decide +kernel
theorem sf_T_init_18 : ySF "MonitorYard$YardThread" 19 "MonitorYard$YardThread" "" 1 3 = true := by decide +kernel
theorem sf_T_init_23 : ySF "MonitorYard$YardThread" 22 "MonitorYard$YardThread" "" 1 7 = true := by decide +kernel
theorem sf_T_init_28 : ySF "MonitorYard$YardThread" 25 "MonitorYard$YardThread" "" 1 0 = true := by decide +kernel
theorem sf_T_begin_2 : ySF "MonitorYard$YardThread" 28 "MonitorYard$YardThread" "" 1 8 = true := by decide +kernel
theorem sf_T_begin_7 : ySF "MonitorYard$YardThread" 31 "MonitorYard$YardThread" "" 1 9 = true := by decide +kernel
theorem sf_T_begin_12 : ySF "MonitorYard$YardThread" 19 "MonitorYard$YardThread" "" 1 3 = true := by decide +kernel
theorem sf_T_begin_17 : ySF "MonitorYard$YardThread" 34 "MonitorYard$YardThread" "" 1 11 = true := by decide +kernel
theorem sf_T_stay_2 : ySF "MonitorYard$YardThread" 37 "MonitorYard$YardThread" "" 1 4 = true := by decide +kernel
theorem sf_T_stay_7 : ySF "MonitorYard$YardThread" 15 "MonitorYard$YardThread" "" 1 2 = true := by decide +kernel
theorem sf_T_stay_12 : ySF "MonitorYard$YardThread" 22 "MonitorYard$YardThread" "" 1 7 = true := by decide +kernel
theorem sf_T_end_2 : ySF "MonitorYard$YardThread" 37 "MonitorYard$YardThread" "" 1 4 = true := by decide +kernel
theorem sf_T_end_7 : ySF "MonitorYard$YardThread" 15 "MonitorYard$YardThread" "" 1 2 = true := by decide +kernel
theorem sf_T_end_12 : ySF "MonitorYard$YardThread" 22 "MonitorYard$YardThread" "" 1 7 = true := by decide +kernel
theorem sf_T_end_17 : ySF "MonitorYard$YardThread" 19 "MonitorYard$YardThread" "" 1 3 = true := by decide +kernel
theorem sf_T_end_21 : ySF "MonitorYard$YardThread" 9 "MonitorYard$YardThread" "" 1 1 = true := by decide +kernel
theorem sf_T_losesPatience_1 : ySF "MonitorYard$YardThread" 22 "MonitorYard$YardThread" "" 1 7 = true := by decide +kernel
theorem sf_T_losesPatience_11 : ySF "MonitorYard$YardThread" 22 "MonitorYard$YardThread" "" 1 7 = true := by decide +kernel
theorem sf_T_losesPatience_16 : ySF "MonitorYard$YardThread" 22 "MonitorYard$YardThread" "" 1 7 = true := by decide +kernel
theorem sf_T_losesPatience_20 : ySF "MonitorYard$YardThread" 22 "MonitorYard$YardThread" "" 1 7 = true := by decide +kernel
theorem sf_T_takesAgain_1 : ySF "MonitorYard$YardThread" 15 "MonitorYard$YardThread" "" 1 2 = true := by decide +kernel
theorem sf_T_takesAgain_9 : ySF "MonitorYard$YardThread" 28 "MonitorYard$YardThread" "" 1 8 = true := by decide +kernel
theorem sf_T_leansOn_1 : ySF "MonitorYard$YardThread" 15 "MonitorYard$YardThread" "" 1 2 = true := by decide +kernel
theorem sf_T_leansOn_9 : ySF "MonitorYard$YardThread" 37 "MonitorYard$YardThread" "" 1 4 = true := by decide +kernel
theorem sf_T_leansOn_16 : ySF "MonitorYard$YardThread" 37 "MonitorYard$YardThread" "" 1 4 = true := by decide +kernel
theorem sf_R_init_10 : ySF "MonitorYard$Row" 11 "MonitorYard$Row" "" 2 0 = true := by decide +kernel
theorem sf_R_at_6 : ySF "MonitorYard$Row" 17 "MonitorYard$Row" "" 2 1 = true := by decide +kernel
theorem sf_R_at_17 : ySF "MonitorYard$Row" 11 "MonitorYard$Row" "" 2 0 = true := by decide +kernel
theorem sf_R_add_1 : ySF "MonitorYard$Row" 17 "MonitorYard$Row" "" 2 1 = true := by decide +kernel
theorem sf_R_add_10 : ySF "MonitorYard$Row" 11 "MonitorYard$Row" "" 2 0 = true := by decide +kernel
theorem sf_R_add_14 : ySF "MonitorYard$Row" 17 "MonitorYard$Row" "" 2 1 = true := by decide +kernel
theorem sf_R_add_21 : ySF "MonitorYard$Row" 17 "MonitorYard$Row" "" 2 1 = true := by decide +kernel
theorem sf_R_add_26 : ySF "MonitorYard$Row" 17 "MonitorYard$Row" "" 2 1 = true := by decide +kernel
theorem sf_R_remove_6 : ySF "MonitorYard$Row" 17 "MonitorYard$Row" "" 2 1 = true := by decide +kernel
theorem sf_R_remove_13 : ySF "MonitorYard$Row" 11 "MonitorYard$Row" "" 2 0 = true := by decide +kernel
theorem sf_R_remove_23 : ySF "MonitorYard$Row" 11 "MonitorYard$Row" "" 2 0 = true := by decide +kernel
theorem sf_R_remove_28 : ySF "MonitorYard$Row" 11 "MonitorYard$Row" "" 2 0 = true := by decide +kernel
theorem sf_R_remove_45 : ySF "MonitorYard$Row" 17 "MonitorYard$Row" "" 2 1 = true := by decide +kernel
theorem sf_K_init_14 : ySF "MonitorYard$Lock" 14 "MonitorYard$Lock" "" 3 3 = true := by decide +kernel
theorem sf_K_init_25 : ySF "MonitorYard$Lock" 20 "MonitorYard$Lock" "" 3 4 = true := by decide +kernel
theorem sf_K_allows_5 : ySF "MonitorYard$Lock" 23 "MonitorYard$Lock" "" 3 5 = true := by decide +kernel
theorem sf_K_canBe_1 : ySF "MonitorYard$Lock" 23 "MonitorYard$Lock" "" 3 5 = true := by decide +kernel
theorem sf_K_passesRow_1 : ySF "MonitorYard$Lock" 23 "MonitorYard$Lock" "" 3 5 = true := by decide +kernel
theorem sf_K_passesRow_9 : ySF "MonitorYard$Lock" 27 "MonitorYard$YardThread" "" 1 8 = true := by decide +kernel
theorem sf_K_grant_1 : ySF "MonitorYard$Lock" 27 "MonitorYard$YardThread" "" 1 8 = true := by decide +kernel
theorem sf_K_grant_38 : ySF "MonitorYard$Lock" 23 "MonitorYard$Lock" "" 3 5 = true := by decide +kernel
theorem sf_K_grant_43 : ySF "MonitorYard$Lock" 33 "MonitorYard$Lock" "" 3 6 = true := by decide +kernel
theorem sf_K_grant_48 : ySF "MonitorYard$Lock" 33 "MonitorYard$Lock" "" 3 6 = true := by decide +kernel
theorem sf_K_grant_56 : ySF "MonitorYard$Lock" 23 "MonitorYard$Lock" "" 3 5 = true := by decide +kernel
theorem sf_K_grant_61 : ySF "MonitorYard$Lock" 36 "MonitorYard$YardThread" "" 1 10 = true := by decide +kernel
theorem sf_K_grant_64 : ySF "MonitorYard$Lock" 33 "MonitorYard$Lock" "" 3 6 = true := by decide +kernel
theorem sf_K_grant_79 : ySF "MonitorYard$Lock" 40 "MonitorYard$YardThread" "" 1 9 = true := by decide +kernel
theorem sf_K_grant_91 : ySF "MonitorYard$Lock" 40 "MonitorYard$YardThread" "" 1 9 = true := by decide +kernel
theorem sf_K_grant_96 : ySF "MonitorYard$Lock" 40 "MonitorYard$YardThread" "" 1 9 = true := by decide +kernel
theorem sf_K_holdBack_1 : ySF "MonitorYard$Lock" 27 "MonitorYard$YardThread" "" 1 8 = true := by decide +kernel
theorem sf_K_giveUp_1 : ySF "MonitorYard$Lock" 57 "MonitorYard$YardThread" "" 1 2 = true := by decide +kernel
theorem sf_K_giveUp_10 : ySF "MonitorYard$Lock" 40 "MonitorYard$YardThread" "" 1 9 = true := by decide +kernel
theorem sf_K_level_1 : ySF "MonitorYard$Lock" 33 "MonitorYard$Lock" "" 3 6 = true := by decide +kernel
theorem sf_K_owner_1 : ySF "MonitorYard$Lock" 23 "MonitorYard$Lock" "" 3 5 = true := by decide +kernel
theorem sf_K_waitersAt_5 : ySF "MonitorYard$Lock" 78 "MonitorYard$Row" "MonitorYard" 2 1 = true := by decide +kernel
theorem sf_K_leanedOn_1 : ySF "MonitorYard$Lock" 23 "MonitorYard$Lock" "" 3 5 = true := by decide +kernel
theorem sf_K_condition_5 : ySF "MonitorYard$Lock" 14 "MonitorYard$Lock" "" 3 3 = true := by decide +kernel
theorem sf_K_condition_12 : ySF "MonitorYard$Lock" 20 "MonitorYard$Lock" "" 3 4 = true := by decide +kernel
theorem sf_K_joinCondition_2 : ySF "MonitorYard$Lock" 33 "MonitorYard$Lock" "" 3 6 = true := by decide +kernel
theorem sf_K_joinCondition_5 : ySF "MonitorYard$Lock" 36 "MonitorYard$YardThread" "" 1 10 = true := by decide +kernel
theorem sf_K_joinCondition_10 : ySF "MonitorYard$Lock" 33 "MonitorYard$Lock" "" 3 6 = true := by decide +kernel
theorem sf_K_joinCondition_15 : ySF "MonitorYard$Lock" 23 "MonitorYard$Lock" "" 3 5 = true := by decide +kernel
theorem sf_K_joinCondition_20 : ySF "MonitorYard$Lock" 40 "MonitorYard$YardThread" "" 1 9 = true := by decide +kernel
theorem sf_K_leaveOnce_2 : ySF "MonitorYard$Lock" 33 "MonitorYard$Lock" "" 3 6 = true := by decide +kernel
theorem sf_K_leaveOnce_7 : ySF "MonitorYard$Lock" 33 "MonitorYard$Lock" "" 3 6 = true := by decide +kernel
theorem sf_K_leaveOnce_11 : ySF "MonitorYard$Lock" 33 "MonitorYard$Lock" "" 3 6 = true := by decide +kernel
theorem sf_K_leaveOnce_19 : ySF "MonitorYard$Lock" 23 "MonitorYard$Lock" "" 3 5 = true := by decide +kernel
theorem sf_K_takeAgain_2 : ySF "MonitorYard$Lock" 92 "MonitorYard$YardThread" "" 1 11 = true := by decide +kernel
theorem sf_K_takeAgain_6 : ySF "MonitorYard$Lock" 95 "MonitorYard$Lock" "" 3 2 = true := by decide +kernel
theorem sf_B_init_11 : ySF "MonitorYard$Book" 9 "MonitorYard$Book" "" 4 3 = true := by decide +kernel
theorem sf_B_allows_29 : ySF "MonitorYard$Book" 9 "MonitorYard$Book" "" 4 3 = true := by decide +kernel
theorem sf_B_allows_33 : ySF "MonitorYard$Book" 15 "MonitorYard$YardThread" "" 1 0 = true := by decide +kernel
theorem sf_B_allows_47 : ySF "MonitorYard$Book" 21 "MonitorYard$Book" "" 4 5 = true := by decide +kernel
theorem sf_B_canBe_1 : ySF "MonitorYard$Book" 21 "MonitorYard$Book" "" 4 5 = true := by decide +kernel
theorem sf_B_canBe_8 : ySF "MonitorYard$Book" 21 "MonitorYard$Book" "" 4 5 = true := by decide +kernel
theorem sf_B_canBe_22 : ySF "MonitorYard$Book" 25 "MonitorYard$Book" "" 4 4 = true := by decide +kernel
theorem sf_B_canBe_26 : ySF "MonitorYard$Book" 9 "MonitorYard$Book" "" 4 3 = true := by decide +kernel
theorem sf_B_canBe_30 : ySF "MonitorYard$Book" 15 "MonitorYard$YardThread" "" 1 0 = true := by decide +kernel
theorem sf_B_canBe_48 : ySF "MonitorYard$Book" 28 "MonitorYard$YardThread" "" 1 8 = true := by decide +kernel
theorem sf_B_passesRow_1 : ySF "MonitorYard$Book" 21 "MonitorYard$Book" "" 4 5 = true := by decide +kernel
theorem sf_B_passesRow_9 : ySF "MonitorYard$Book" 28 "MonitorYard$YardThread" "" 1 8 = true := by decide +kernel
theorem sf_B_grant_1 : ySF "MonitorYard$Book" 28 "MonitorYard$YardThread" "" 1 8 = true := by decide +kernel
theorem sf_B_grant_52 : ySF "MonitorYard$Book" 21 "MonitorYard$Book" "" 4 5 = true := by decide +kernel
theorem sf_B_grant_57 : ySF "MonitorYard$Book" 35 "MonitorYard$Book" "" 4 6 = true := by decide +kernel
theorem sf_B_grant_62 : ySF "MonitorYard$Book" 35 "MonitorYard$Book" "" 4 6 = true := by decide +kernel
theorem sf_B_level_1 : ySF "MonitorYard$Book" 35 "MonitorYard$Book" "" 4 6 = true := by decide +kernel
theorem sf_B_owner_1 : ySF "MonitorYard$Book" 21 "MonitorYard$Book" "" 4 5 = true := by decide +kernel
theorem sf_B_timesRead_1 : ySF "MonitorYard$Book" 25 "MonitorYard$Book" "" 4 4 = true := by decide +kernel
theorem sf_B_countReads_1 : ySF "MonitorYard$Book" 9 "MonitorYard$Book" "" 4 3 = true := by decide +kernel
theorem sf_B_countReads_5 : ySF "MonitorYard$Book" 15 "MonitorYard$YardThread" "" 1 0 = true := by decide +kernel
theorem sf_B_countReads_15 : ySF "MonitorYard$Book" 25 "MonitorYard$Book" "" 4 4 = true := by decide +kernel
theorem sf_B_countReads_20 : ySF "MonitorYard$Book" 25 "MonitorYard$Book" "" 4 4 = true := by decide +kernel
theorem sf_B_closeWritingOnce_2 : ySF "MonitorYard$Book" 35 "MonitorYard$Book" "" 4 6 = true := by decide +kernel
theorem sf_B_closeWritingOnce_7 : ySF "MonitorYard$Book" 35 "MonitorYard$Book" "" 4 6 = true := by decide +kernel
theorem sf_B_closeWritingOnce_11 : ySF "MonitorYard$Book" 35 "MonitorYard$Book" "" 4 6 = true := by decide +kernel
theorem sf_B_closeWritingOnce_19 : ySF "MonitorYard$Book" 21 "MonitorYard$Book" "" 4 5 = true := by decide +kernel
theorem sf_S_init_8 : ySF "MonitorYard$Semaphore" 9 "MonitorYard$Semaphore" "" 5 3 = true := by decide +kernel
theorem sf_S_allows_7 : ySF "MonitorYard$Semaphore" 9 "MonitorYard$Semaphore" "" 5 3 = true := by decide +kernel
theorem sf_S_canBe_1 : ySF "MonitorYard$Semaphore" 9 "MonitorYard$Semaphore" "" 5 3 = true := by decide +kernel
theorem sf_S_canBe_5 : ySF "MonitorYard$Semaphore" 15 "MonitorYard$YardThread" "" 1 9 = true := by decide +kernel
theorem sf_S_passesRow_1 : ySF "MonitorYard$Semaphore" 20 "MonitorYard$YardThread" "" 1 8 = true := by decide +kernel
theorem sf_S_grant_2 : ySF "MonitorYard$Semaphore" 9 "MonitorYard$Semaphore" "" 5 3 = true := by decide +kernel
theorem sf_S_grant_6 : ySF "MonitorYard$Semaphore" 20 "MonitorYard$YardThread" "" 1 8 = true := by decide +kernel
theorem sf_S_grant_15 : ySF "MonitorYard$Semaphore" 15 "MonitorYard$YardThread" "" 1 9 = true := by decide +kernel
theorem sf_S_grant_22 : ySF "MonitorYard$Semaphore" 15 "MonitorYard$YardThread" "" 1 9 = true := by decide +kernel
theorem sf_S_grant_27 : ySF "MonitorYard$Semaphore" 9 "MonitorYard$Semaphore" "" 5 3 = true := by decide +kernel
theorem sf_S_level_1 : ySF "MonitorYard$Semaphore" 9 "MonitorYard$Semaphore" "" 5 3 = true := by decide +kernel
theorem sf_L_init_8 : ySF "MonitorYard$Latch" 9 "MonitorYard$Latch" "" 6 3 = true := by decide +kernel
theorem sf_L_canBe_1 : ySF "MonitorYard$Latch" 9 "MonitorYard$Latch" "" 6 3 = true := by decide +kernel
theorem sf_L_passesRow_1 : ySF "MonitorYard$Latch" 15 "MonitorYard$YardThread" "" 1 8 = true := by decide +kernel
theorem sf_L_grant_1 : ySF "MonitorYard$Latch" 15 "MonitorYard$YardThread" "" 1 8 = true := by decide +kernel
theorem sf_L_grant_10 : ySF "MonitorYard$Latch" 9 "MonitorYard$Latch" "" 6 3 = true := by decide +kernel
theorem sf_L_grant_18 : ySF "MonitorYard$Latch" 9 "MonitorYard$Latch" "" 6 3 = true := by decide +kernel
theorem sf_L_grant_23 : ySF "MonitorYard$Latch" 9 "MonitorYard$Latch" "" 6 3 = true := by decide +kernel
theorem sf_L_level_1 : ySF "MonitorYard$Latch" 9 "MonitorYard$Latch" "" 6 3 = true := by decide +kernel
theorem sf_A_init_8 : ySF "MonitorYard$Barrier" 9 "MonitorYard$Barrier" "" 7 3 = true := by decide +kernel
theorem sf_A_refuses_1 : ySF "MonitorYard$Barrier" 15 "MonitorYard$YardThread" "" 1 8 = true := by decide +kernel
theorem sf_A_refuses_10 : ySF "MonitorYard$Barrier" 20 "MonitorYard$Barrier" "" 7 4 = true := by decide +kernel
theorem sf_A_passesRow_1 : ySF "MonitorYard$Barrier" 15 "MonitorYard$YardThread" "" 1 8 = true := by decide +kernel
theorem sf_A_passesRow_10 : ySF "MonitorYard$Barrier" 24 "MonitorYard$Barrier" "" 7 2 = true := by decide +kernel
theorem sf_A_passesRow_13 : ySF "MonitorYard$Barrier" 28 "MonitorYard$Row" "MonitorYard" 2 1 = true := by decide +kernel
theorem sf_A_passesRow_19 : ySF "MonitorYard$Barrier" 9 "MonitorYard$Barrier" "" 7 3 = true := by decide +kernel
theorem sf_A_grant_1 : ySF "MonitorYard$Barrier" 15 "MonitorYard$YardThread" "" 1 8 = true := by decide +kernel
theorem sf_A_grant_11 : ySF "MonitorYard$Barrier" 20 "MonitorYard$Barrier" "" 7 4 = true := by decide +kernel
theorem sf_A_whenOneGaveUp_2 : ySF "MonitorYard$Barrier" 20 "MonitorYard$Barrier" "" 7 4 = true := by decide +kernel
theorem sf_A_level_1 : ySF "MonitorYard$Barrier" 24 "MonitorYard$Barrier" "" 7 2 = true := by decide +kernel
theorem sf_A_level_4 : ySF "MonitorYard$Barrier" 28 "MonitorYard$Row" "MonitorYard" 2 1 = true := by decide +kernel
theorem sf_A_isBroken_1 : ySF "MonitorYard$Barrier" 20 "MonitorYard$Barrier" "" 7 4 = true := by decide +kernel
theorem sf_Q_init_10 : ySF "MonitorYard$Queue" 9 "MonitorYard$Queue" "" 8 3 = true := by decide +kernel
theorem sf_Q_canBe_1 : ySF "MonitorYard$Queue" 15 "MonitorYard$YardThread" "" 1 8 = true := by decide +kernel
theorem sf_Q_canBe_10 : ySF "MonitorYard$Queue" 21 "MonitorYard$Queue" "" 8 4 = true := by decide +kernel
theorem sf_Q_canBe_14 : ySF "MonitorYard$Queue" 9 "MonitorYard$Queue" "" 8 3 = true := by decide +kernel
theorem sf_Q_canBe_30 : ySF "MonitorYard$Queue" 21 "MonitorYard$Queue" "" 8 4 = true := by decide +kernel
theorem sf_Q_grant_1 : ySF "MonitorYard$Queue" 15 "MonitorYard$YardThread" "" 1 8 = true := by decide +kernel
theorem sf_Q_grant_11 : ySF "MonitorYard$Queue" 24 "MonitorYard$YardThread" "" 1 9 = true := by decide +kernel
theorem sf_Q_grant_25 : ySF "MonitorYard$Queue" 35 "MonitorYard$YardThread" "" 1 5 = true := by decide +kernel
theorem sf_Q_level_1 : ySF "MonitorYard$Queue" 21 "MonitorYard$Queue" "" 8 4 = true := by decide +kernel
theorem sf_Q_putLast_1 : ySF "MonitorYard$Queue" 21 "MonitorYard$Queue" "" 8 4 = true := by decide +kernel
theorem sf_Q_putLast_5 : ySF "MonitorYard$Queue" 9 "MonitorYard$Queue" "" 8 3 = true := by decide +kernel
theorem sf_Q_putLast_13 : ySF "MonitorYard$Queue" 9 "MonitorYard$Queue" "" 8 3 = true := by decide +kernel
theorem sf_Q_putLast_17 : ySF "MonitorYard$Queue" 21 "MonitorYard$Queue" "" 8 4 = true := by decide +kernel
theorem sf_Q_putLast_24 : ySF "MonitorYard$Queue" 21 "MonitorYard$Queue" "" 8 4 = true := by decide +kernel
theorem sf_Q_putLast_29 : ySF "MonitorYard$Queue" 21 "MonitorYard$Queue" "" 8 4 = true := by decide +kernel
theorem sf_Q_takeFirst_1 : ySF "MonitorYard$Queue" 9 "MonitorYard$Queue" "" 8 3 = true := by decide +kernel
theorem sf_Q_takeFirst_9 : ySF "MonitorYard$Queue" 21 "MonitorYard$Queue" "" 8 4 = true := by decide +kernel
theorem sf_Q_takeFirst_14 : ySF "MonitorYard$Queue" 21 "MonitorYard$Queue" "" 8 4 = true := by decide +kernel
theorem sf_Q_takeFirst_21 : ySF "MonitorYard$Queue" 21 "MonitorYard$Queue" "" 8 4 = true := by decide +kernel
theorem sf_Q_takeFirst_28 : ySF "MonitorYard$Queue" 9 "MonitorYard$Queue" "" 8 3 = true := by decide +kernel
theorem sf_Q_takeFirst_33 : ySF "MonitorYard$Queue" 9 "MonitorYard$Queue" "" 8 3 = true := by decide +kernel
theorem sf_M_init_9 : ySF "MonitorYardModel" 7 "MonitorYardModel" "" 9 0 = true := by decide +kernel
theorem sf_M_init_17 : ySF "MonitorYardModel" 13 "MonitorYardModel" "" 9 1 = true := by decide +kernel
theorem sf_M_init_25 : ySF "MonitorYardModel" 16 "MonitorYardModel" "" 9 2 = true := by decide +kernel
theorem sf_M_init_33 : ySF "MonitorYardModel" 19 "MonitorYardModel" "" 9 3 = true := by decide +kernel
theorem sf_M_init_41 : ySF "MonitorYardModel" 22 "MonitorYardModel" "" 9 4 = true := by decide +kernel
theorem sf_M_init_49 : ySF "MonitorYardModel" 25 "MonitorYardModel" "" 9 5 = true := by decide +kernel
theorem sf_M_init_57 : ySF "MonitorYardModel" 28 "MonitorYardModel" "" 9 6 = true := by decide +kernel
theorem sf_M_init_65 : ySF "MonitorYardModel" 31 "MonitorYardModel" "" 9 7 = true := by decide +kernel
theorem sf_M_init_73 : ySF "MonitorYardModel" 34 "MonitorYardModel" "" 9 8 = true := by decide +kernel
theorem sf_M_init_81 : ySF "MonitorYardModel" 37 "MonitorYardModel" "" 9 9 = true := by decide +kernel
theorem sf_M_init_89 : ySF "MonitorYardModel" 41 "MonitorYardModel" "" 9 10 = true := by decide +kernel
theorem sf_M_init_97 : ySF "MonitorYardModel" 44 "MonitorYardModel" "" 9 11 = true := by decide +kernel
theorem sf_M_init_105 : ySF "MonitorYardModel" 47 "MonitorYardModel" "" 9 12 = true := by decide +kernel
theorem sf_M_init_113 : ySF "MonitorYardModel" 50 "MonitorYardModel" "" 9 13 = true := by decide +kernel
theorem sf_M_init_121 : ySF "MonitorYardModel" 53 "MonitorYardModel" "" 9 14 = true := by decide +kernel
theorem sf_M_init_129 : ySF "MonitorYardModel" 56 "MonitorYardModel" "" 9 15 = true := by decide +kernel
theorem sf_M_init_137 : ySF "MonitorYardModel" 59 "MonitorYardModel" "" 9 16 = true := by decide +kernel
theorem sf_M_init_145 : ySF "MonitorYardModel" 62 "MonitorYardModel" "" 9 17 = true := by decide +kernel
theorem sf_M_init_153 : ySF "MonitorYardModel" 65 "MonitorYardModel" "" 9 18 = true := by decide +kernel
theorem sf_M_init_161 : ySF "MonitorYardModel" 68 "MonitorYardModel" "" 9 19 = true := by decide +kernel
theorem sf_M_init_169 : ySF "MonitorYardModel" 71 "MonitorYardModel" "" 9 20 = true := by decide +kernel
theorem sf_M_init_176 : ySF "MonitorYardModel" 74 "MonitorYardModel" "" 9 21 = true := by decide +kernel
theorem sf_M_init_184 : ySF "MonitorYardModel" 77 "MonitorYardModel" "" 9 22 = true := by decide +kernel
theorem sf_M_init_196 : ySF "MonitorYardModel" 16 "MonitorYardModel" "" 9 2 = true := by decide +kernel
end
section
theorem sf_M_init_203 : ySF "MonitorYardModel" 22 "MonitorYardModel" "" 9 4 = true := by decide +kernel
theorem sf_M_thrown_1 : ySF "MonitorYardModel" 80 "MonitorYardModel" "" 9 26 = true := by decide +kernel
theorem sf_M_bad_10 : ySF "MonitorYardModel" 80 "MonitorYardModel" "" 9 26 = true := by decide +kernel
theorem sf_M_make_33 : ySF "MonitorYardModel" 92 "MonitorYardModel" "" 9 23 = true := by decide +kernel
theorem sf_M_make_43 : ySF "MonitorYardModel" 80 "MonitorYardModel" "" 9 26 = true := by decide +kernel
theorem sf_M_make_49 : ySF "MonitorYardModel" 44 "MonitorYardModel" "" 9 11 = true := by decide +kernel
theorem sf_M_make_53 : ySF "MonitorYardModel" 92 "MonitorYardModel" "" 9 23 = true := by decide +kernel
theorem sf_M_make_59 : ySF "MonitorYardModel" 47 "MonitorYardModel" "" 9 12 = true := by decide +kernel
theorem sf_M_make_63 : ySF "MonitorYardModel" 92 "MonitorYardModel" "" 9 23 = true := by decide +kernel
theorem sf_M_make_69 : ySF "MonitorYardModel" 50 "MonitorYardModel" "" 9 13 = true := by decide +kernel
theorem sf_M_make_73 : ySF "MonitorYardModel" 92 "MonitorYardModel" "" 9 23 = true := by decide +kernel
theorem sf_M_make_93 : ySF "MonitorYardModel" 53 "MonitorYardModel" "" 9 14 = true := by decide +kernel
theorem sf_M_make_97 : ySF "MonitorYardModel" 92 "MonitorYardModel" "" 9 23 = true := by decide +kernel
theorem sf_M_make_104 : ySF "MonitorYardModel" 92 "MonitorYardModel" "" 9 23 = true := by decide +kernel
theorem sf_M_make_109 : ySF "MonitorYardModel" 92 "MonitorYardModel" "" 9 23 = true := by decide +kernel
theorem sf_M_make_113 : ySF "MonitorYardModel" 92 "MonitorYardModel" "" 9 23 = true := by decide +kernel
theorem sf_M_end_1 : ySF "MonitorYardModel" 7 "MonitorYardModel" "" 9 0 = true := by decide +kernel
theorem sf_M_end_8 : ySF "MonitorYardModel" 13 "MonitorYardModel" "" 9 1 = true := by decide +kernel
theorem sf_M_end_15 : ySF "MonitorYardModel" 16 "MonitorYardModel" "" 9 2 = true := by decide +kernel
theorem sf_M_end_22 : ySF "MonitorYardModel" 22 "MonitorYardModel" "" 9 4 = true := by decide +kernel
theorem sf_M_end_29 : ySF "MonitorYardModel" 41 "MonitorYardModel" "" 9 10 = true := by decide +kernel
theorem sf_M_end_36 : ySF "MonitorYardModel" 74 "MonitorYardModel" "" 9 21 = true := by decide +kernel
theorem sf_M_enter_1 : ySF "MonitorYardModel" 59 "MonitorYardModel" "" 9 16 = true := by decide +kernel
theorem sf_M_enter_9 : ySF "MonitorYardModel" 56 "MonitorYardModel" "" 9 15 = true := by decide +kernel
theorem sf_M_enter_18 : ySF "MonitorYardModel" 56 "MonitorYardModel" "" 9 15 = true := by decide +kernel
theorem sf_M_enter_28 : ySF "MonitorYardModel" 7 "MonitorYardModel" "" 9 0 = true := by decide +kernel
theorem sf_M_enter_35 : ySF "MonitorYardModel" 16 "MonitorYardModel" "" 9 2 = true := by decide +kernel
theorem sf_M_readers_20 : ySF "MonitorYardModel" 68 "MonitorYardModel" "" 9 19 = true := by decide +kernel
theorem sf_M_can_85 : ySF "MonitorYardModel" 53 "MonitorYardModel" "" 9 14 = true := by decide +kernel
theorem sf_M_can_94 : ySF "MonitorYardModel" 53 "MonitorYardModel" "" 9 14 = true := by decide +kernel
theorem sf_M_can_110 : ySF "MonitorYardModel" 53 "MonitorYardModel" "" 9 14 = true := by decide +kernel
theorem sf_M_can_119 : ySF "MonitorYardModel" 53 "MonitorYardModel" "" 9 14 = true := by decide +kernel
theorem sf_M_can_135 : ySF "MonitorYardModel" 53 "MonitorYardModel" "" 9 14 = true := by decide +kernel
theorem sf_M_can_144 : ySF "MonitorYardModel" 53 "MonitorYardModel" "" 9 14 = true := by decide +kernel
theorem sf_M_can_169 : ySF "MonitorYardModel" 50 "MonitorYardModel" "" 9 13 = true := by decide +kernel
theorem sf_M_can_175 : ySF "MonitorYardModel" 28 "MonitorYardModel" "" 9 6 = true := by decide +kernel
theorem sf_M_can_190 : ySF "MonitorYardModel" 50 "MonitorYardModel" "" 9 13 = true := by decide +kernel
theorem sf_M_can_205 : ySF "MonitorYardModel" 50 "MonitorYardModel" "" 9 13 = true := by decide +kernel
theorem sf_M_can_211 : ySF "MonitorYardModel" 47 "MonitorYardModel" "" 9 12 = true := by decide +kernel
theorem sf_M_can_226 : ySF "MonitorYardModel" 50 "MonitorYardModel" "" 9 13 = true := by decide +kernel
theorem sf_M_grant_11 : ySF "MonitorYardModel" 53 "MonitorYardModel" "" 9 14 = true := by decide +kernel
theorem sf_M_grant_18 : ySF "MonitorYardModel" 50 "MonitorYardModel" "" 9 13 = true := by decide +kernel
theorem sf_M_grant_25 : ySF "MonitorYardModel" 41 "MonitorYardModel" "" 9 10 = true := by decide +kernel
theorem sf_M_grant_34 : ySF "MonitorYardModel" 31 "MonitorYardModel" "" 9 7 = true := by decide +kernel
theorem sf_M_grant_51 : ySF "MonitorYardModel" 68 "MonitorYardModel" "" 9 19 = true := by decide +kernel
theorem sf_M_grant_72 : ySF "MonitorYardModel" 50 "MonitorYardModel" "" 9 13 = true := by decide +kernel
theorem sf_M_grant_79 : ySF "MonitorYardModel" 28 "MonitorYardModel" "" 9 6 = true := by decide +kernel
theorem sf_M_grant_93 : ySF "MonitorYardModel" 71 "MonitorYardModel" "" 9 20 = true := by decide +kernel
theorem sf_M_grant_100 : ySF "MonitorYardModel" 50 "MonitorYardModel" "" 9 13 = true := by decide +kernel
theorem sf_M_grant_107 : ySF "MonitorYardModel" 28 "MonitorYardModel" "" 9 6 = true := by decide +kernel
theorem sf_M_grant_114 : ySF "MonitorYardModel" 50 "MonitorYardModel" "" 9 13 = true := by decide +kernel
theorem sf_M_grant_130 : ySF "MonitorYardModel" 19 "MonitorYardModel" "" 9 3 = true := by decide +kernel
theorem sf_M_grant_135 : ySF "MonitorYardModel" 71 "MonitorYardModel" "" 9 20 = true := by decide +kernel
theorem sf_M_grant_144 : ySF "MonitorYardModel" 50 "MonitorYardModel" "" 9 13 = true := by decide +kernel
theorem sf_M_grant_159 : ySF "MonitorYardModel" 50 "MonitorYardModel" "" 9 13 = true := by decide +kernel
theorem sf_M_grant_168 : ySF "MonitorYardModel" 71 "MonitorYardModel" "" 9 20 = true := by decide +kernel
theorem sf_M_grant_178 : ySF "MonitorYardModel" 71 "MonitorYardModel" "" 9 20 = true := by decide +kernel
theorem sf_M_pass_19 : ySF "MonitorYardModel" 56 "MonitorYardModel" "" 9 15 = true := by decide +kernel
theorem sf_M_pass_37 : ySF "MonitorYardModel" 59 "MonitorYardModel" "" 9 16 = true := by decide +kernel
theorem sf_M_pass_51 : ySF "MonitorYardModel" 25 "MonitorYardModel" "" 9 5 = true := by decide +kernel
theorem sf_M_pass_116 : ySF "MonitorYardModel" 59 "MonitorYardModel" "" 9 16 = true := by decide +kernel
theorem sf_M_pass_124 : ySF "MonitorYardModel" 56 "MonitorYardModel" "" 9 15 = true := by decide +kernel
theorem sf_M_pass_138 : ySF "MonitorYardModel" 41 "MonitorYardModel" "" 9 10 = true := by decide +kernel
theorem sf_M_pass_148 : ySF "MonitorYardModel" 34 "MonitorYardModel" "" 9 8 = true := by decide +kernel
theorem sf_M_pass_161 : ySF "MonitorYardModel" 113 "MonitorYardModel" "" 9 25 = true := by decide +kernel
theorem sf_M_sameSort_4 : ySF "MonitorYardModel" 56 "MonitorYardModel" "" 9 15 = true := by decide +kernel
theorem sf_M_sameSort_13 : ySF "MonitorYardModel" 25 "MonitorYardModel" "" 9 5 = true := by decide +kernel
theorem sf_M_sameSort_17 : ySF "MonitorYardModel" 59 "MonitorYardModel" "" 9 16 = true := by decide +kernel
theorem sf_M_notNow_1 : ySF "MonitorYardModel" 7 "MonitorYardModel" "" 9 0 = true := by decide +kernel
theorem sf_M_notNow_27 : ySF "MonitorYardModel" 53 "MonitorYardModel" "" 9 14 = true := by decide +kernel
theorem sf_M_notNow_49 : ySF "MonitorYardModel" 68 "MonitorYardModel" "" 9 19 = true := by decide +kernel
theorem sf_M_notNow_75 : ySF "MonitorYardModel" 50 "MonitorYardModel" "" 9 13 = true := by decide +kernel
theorem sf_M_breakAll_4 : ySF "MonitorYardModel" 56 "MonitorYardModel" "" 9 15 = true := by decide +kernel
theorem sf_M_breakAll_15 : ySF "MonitorYardModel" 59 "MonitorYardModel" "" 9 16 = true := by decide +kernel
theorem sf_M_breakAll_29 : ySF "MonitorYardModel" 113 "MonitorYardModel" "" 9 25 = true := by decide +kernel
theorem sf_M_breakAll_39 : ySF "MonitorYardModel" 56 "MonitorYardModel" "" 9 15 = true := by decide +kernel
theorem sf_M_called_1 : ySF "MonitorYardModel" 41 "MonitorYardModel" "" 9 10 = true := by decide +kernel
theorem sf_M_called_8 : ySF "MonitorYardModel" 34 "MonitorYardModel" "" 9 8 = true := by decide +kernel
theorem sf_M_called_15 : ySF "MonitorYardModel" 22 "MonitorYardModel" "" 9 4 = true := by decide +kernel
theorem sf_M_called_22 : ySF "MonitorYardModel" 25 "MonitorYardModel" "" 9 5 = true := by decide +kernel
theorem sf_M_call_17 : ySF "MonitorYardModel" 62 "MonitorYardModel" "" 9 17 = true := by decide +kernel
theorem sf_M_call_27 : ySF "MonitorYardModel" 65 "MonitorYardModel" "" 9 18 = true := by decide +kernel
theorem sf_M_call_40 : ySF "MonitorYardModel" 65 "MonitorYardModel" "" 9 18 = true := by decide +kernel
theorem sf_M_call_49 : ySF "MonitorYardModel" 62 "MonitorYardModel" "" 9 17 = true := by decide +kernel
theorem sf_M_less_1 : ySF "MonitorYardModel" 50 "MonitorYardModel" "" 9 13 = true := by decide +kernel
theorem sf_M_less_11 : ySF "MonitorYardModel" 50 "MonitorYardModel" "" 9 13 = true := by decide +kernel
theorem sf_M_less_20 : ySF "MonitorYardModel" 53 "MonitorYardModel" "" 9 14 = true := by decide +kernel
theorem sf_M_simple_50 : ySF "MonitorYardModel" 68 "MonitorYardModel" "" 9 19 = true := by decide +kernel
theorem sf_M_simple_71 : ySF "MonitorYardModel" 50 "MonitorYardModel" "" 9 13 = true := by decide +kernel
theorem sf_M_simple_88 : ySF "MonitorYardModel" 50 "MonitorYardModel" "" 9 13 = true := by decide +kernel
theorem sf_M_simple_97 : ySF "MonitorYardModel" 50 "MonitorYardModel" "" 9 13 = true := by decide +kernel
theorem sf_M_simple_118 : ySF "MonitorYardModel" 77 "MonitorYardModel" "" 9 22 = true := by decide +kernel
theorem sf_M_arrive_1 : ySF "MonitorYardModel" 77 "MonitorYardModel" "" 9 22 = true := by decide +kernel
theorem sf_M_arrive_17 : ySF "MonitorYardModel" 56 "MonitorYardModel" "" 9 15 = true := by decide +kernel
theorem sf_M_arrive_25 : ySF "MonitorYardModel" 47 "MonitorYardModel" "" 9 12 = true := by decide +kernel
theorem sf_M_arrive_39 : ySF "MonitorYardModel" 56 "MonitorYardModel" "" 9 15 = true := by decide +kernel
theorem sf_M_arrive_50 : ySF "MonitorYardModel" 59 "MonitorYardModel" "" 9 16 = true := by decide +kernel
theorem sf_M_arrive_64 : ySF "MonitorYardModel" 113 "MonitorYardModel" "" 9 25 = true := by decide +kernel
theorem sf_M_arrive_74 : ySF "MonitorYardModel" 56 "MonitorYardModel" "" 9 15 = true := by decide +kernel
theorem sf_M_waitAt_8 : ySF "MonitorYardModel" 31 "MonitorYardModel" "" 9 7 = true := by decide +kernel
theorem sf_M_waitAt_13 : ySF "MonitorYardModel" 50 "MonitorYardModel" "" 9 13 = true := by decide +kernel
theorem sf_M_waitAt_20 : ySF "MonitorYardModel" 50 "MonitorYardModel" "" 9 13 = true := by decide +kernel
theorem sf_M_waitAt_27 : ySF "MonitorYardModel" 53 "MonitorYardModel" "" 9 14 = true := by decide +kernel
theorem sf_M_waitAt_34 : ySF "MonitorYardModel" 65 "MonitorYardModel" "" 9 18 = true := by decide +kernel
theorem sf_M_waitAt_43 : ySF "MonitorYardModel" 62 "MonitorYardModel" "" 9 17 = true := by decide +kernel
theorem sf_M_waitAt_53 : ySF "MonitorYardModel" 62 "MonitorYardModel" "" 9 17 = true := by decide +kernel
theorem sf_M_waitAt_64 : ySF "MonitorYardModel" 7 "MonitorYardModel" "" 9 0 = true := by decide +kernel
theorem sf_M_waitAt_71 : ySF "MonitorYardModel" 16 "MonitorYardModel" "" 9 2 = true := by decide +kernel
theorem sf_M_act_12 : ySF "MonitorYardModel" 92 "MonitorYardModel" "" 9 23 = true := by decide +kernel
theorem sf_M_act_108 : ySF "MonitorYardModel" 44 "MonitorYardModel" "" 9 11 = true := by decide +kernel
theorem sf_M_act_122 : ySF "MonitorYardModel" 80 "MonitorYardModel" "" 9 26 = true := by decide +kernel
theorem sf_M_act_142 : ySF "MonitorYardModel" 80 "MonitorYardModel" "" 9 26 = true := by decide +kernel
theorem sf_M_act_146 : ySF "MonitorYardModel" 80 "MonitorYardModel" "" 9 26 = true := by decide +kernel
theorem sf_M_act_210 : ySF "MonitorYardModel" 25 "MonitorYardModel" "" 9 5 = true := by decide +kernel
theorem sf_M_act_217 : ySF "MonitorYardModel" 28 "MonitorYardModel" "" 9 6 = true := by decide +kernel
theorem sf_M_act_225 : ySF "MonitorYardModel" 41 "MonitorYardModel" "" 9 10 = true := by decide +kernel
theorem sf_M_act_232 : ySF "MonitorYardModel" 44 "MonitorYardModel" "" 9 11 = true := by decide +kernel
theorem sf_M_act_241 : ySF "MonitorYardModel" 44 "MonitorYardModel" "" 9 11 = true := by decide +kernel
theorem sf_M_act_251 : ySF "MonitorYardModel" 53 "MonitorYardModel" "" 9 14 = true := by decide +kernel
theorem sf_M_act_352 : ySF "MonitorYardModel" 37 "MonitorYardModel" "" 9 9 = true := by decide +kernel
theorem sf_M_act_374 : ySF "MonitorYardModel" 13 "MonitorYardModel" "" 9 1 = true := by decide +kernel
theorem sf_M_act_381 : ySF "MonitorYardModel" 22 "MonitorYardModel" "" 9 4 = true := by decide +kernel
theorem sf_M_refused_1 : ySF "MonitorYardModel" 37 "MonitorYardModel" "" 9 9 = true := by decide +kernel
theorem sf_M_refused_9 : ySF "MonitorYardModel" 37 "MonitorYardModel" "" 9 9 = true := by decide +kernel
theorem sf_M_refused_27 : ySF "MonitorYardModel" 77 "MonitorYardModel" "" 9 22 = true := by decide +kernel
theorem sf_M_leave_1 : ySF "MonitorYardModel" 16 "MonitorYardModel" "" 9 2 = true := by decide +kernel
theorem sf_M_leave_8 : ySF "MonitorYardModel" 7 "MonitorYardModel" "" 9 0 = true := by decide +kernel
theorem sf_M_leave_41 : ySF "MonitorYardModel" 62 "MonitorYardModel" "" 9 17 = true := by decide +kernel
theorem sf_M_leave_51 : ySF "MonitorYardModel" 65 "MonitorYardModel" "" 9 18 = true := by decide +kernel
theorem sf_M_leave_83 : ySF "MonitorYardModel" 65 "MonitorYardModel" "" 9 18 = true := by decide +kernel
theorem sf_M_leave_92 : ySF "MonitorYardModel" 62 "MonitorYardModel" "" 9 17 = true := by decide +kernel
theorem sf_M_leave_119 : ySF "MonitorYardModel" 59 "MonitorYardModel" "" 9 16 = true := by decide +kernel
theorem sf_M_leave_127 : ySF "MonitorYardModel" 56 "MonitorYardModel" "" 9 15 = true := by decide +kernel
theorem sf_M_leave_142 : ySF "MonitorYardModel" 113 "MonitorYardModel" "" 9 25 = true := by decide +kernel
theorem sf_M_leave_146 : ySF "MonitorYardModel" 44 "MonitorYardModel" "" 9 11 = true := by decide +kernel
theorem sf_M_leave_156 : ySF "MonitorYardModel" 77 "MonitorYardModel" "" 9 22 = true := by decide +kernel
theorem sf_M_tick_27 : ySF "MonitorYardModel" 161 "MonitorYardModel" "" 9 24 = true := by decide +kernel
theorem sf_M_tick_32 : ySF "MonitorYardModel" 161 "MonitorYardModel" "" 9 24 = true := by decide +kernel
theorem sf_M_tick_46 : ySF "MonitorYardModel" 22 "MonitorYardModel" "" 9 4 = true := by decide +kernel
theorem sf_M_tick_59 : ySF "MonitorYardModel" 22 "MonitorYardModel" "" 9 4 = true := by decide +kernel
theorem sf_M_tick_70 : ySF "MonitorYardModel" 22 "MonitorYardModel" "" 9 4 = true := by decide +kernel
theorem sf_M_interrupt_15 : ySF "MonitorYardModel" 7 "MonitorYardModel" "" 9 0 = true := by decide +kernel
theorem sf_M_interrupt_24 : ySF "MonitorYardModel" 41 "MonitorYardModel" "" 9 10 = true := by decide +kernel
theorem sf_M_interrupt_33 : ySF "MonitorYardModel" 37 "MonitorYardModel" "" 9 9 = true := by decide +kernel
theorem sf_M_told_69 : ySF "MonitorYardModel" 7 "MonitorYardModel" "" 9 0 = true := by decide +kernel
theorem sf_M_told_76 : ySF "MonitorYardModel" 13 "MonitorYardModel" "" 9 1 = true := by decide +kernel
theorem sf_M_told_83 : ySF "MonitorYardModel" 16 "MonitorYardModel" "" 9 2 = true := by decide +kernel
theorem sf_M_told_90 : ySF "MonitorYardModel" 19 "MonitorYardModel" "" 9 3 = true := by decide +kernel
theorem sf_M_told_97 : ySF "MonitorYardModel" 37 "MonitorYardModel" "" 9 9 = true := by decide +kernel
theorem sf_M_told_112 : ySF "MonitorYardModel" 22 "MonitorYardModel" "" 9 4 = true := by decide +kernel
theorem sf_M_object_4 : ySF "MonitorYardModel" 92 "MonitorYardModel" "" 9 23 = true := by decide +kernel
theorem sf_M_object_39 : ySF "MonitorYardModel" 44 "MonitorYardModel" "" 9 11 = true := by decide +kernel
theorem sf_M_object_96 : ySF "MonitorYardModel" 56 "MonitorYardModel" "" 9 15 = true := by decide +kernel
theorem sf_M_object_105 : ySF "MonitorYardModel" 50 "MonitorYardModel" "" 9 13 = true := by decide +kernel
theorem sf_M_object_117 : ySF "MonitorYardModel" 53 "MonitorYardModel" "" 9 14 = true := by decide +kernel
theorem sf_M_object_128 : ySF "MonitorYardModel" 56 "MonitorYardModel" "" 9 15 = true := by decide +kernel
theorem sf_M_object_135 : ySF "MonitorYardModel" 62 "MonitorYardModel" "" 9 17 = true := by decide +kernel
theorem sf_M_object_155 : ySF "MonitorYardModel" 77 "MonitorYardModel" "" 9 22 = true := by decide +kernel
theorem sf_M_waiter_4 : ySF "MonitorYardModel" 92 "MonitorYardModel" "" 9 23 = true := by decide +kernel
theorem sf_M_waiter_23 : ySF "MonitorYardModel" 56 "MonitorYardModel" "" 9 15 = true := by decide +kernel
theorem sf_M_waiter_38 : ySF "MonitorYardModel" 80 "MonitorYardModel" "" 9 26 = true := by decide +kernel
theorem sf_M_waiter_44 : ySF "MonitorYardModel" 59 "MonitorYardModel" "" 9 16 = true := by decide +kernel
theorem sf_M_leans_1 : ySF "MonitorYardModel" 7 "MonitorYardModel" "" 9 0 = true := by decide +kernel
theorem sf_M_leans_11 : ySF "MonitorYardModel" 44 "MonitorYardModel" "" 9 11 = true := by decide +kernel
theorem sf_M_leans_15 : ySF "MonitorYardModel" 16 "MonitorYardModel" "" 9 2 = true := by decide +kernel
theorem sf_M_leans_25 : ySF "MonitorYardModel" 53 "MonitorYardModel" "" 9 14 = true := by decide +kernel
theorem sf_M_leans_29 : ySF "MonitorYardModel" 16 "MonitorYardModel" "" 9 2 = true := by decide +kernel
theorem sf_M_stuck_2 : ySF "MonitorYardModel" 80 "MonitorYardModel" "" 9 26 = true := by decide +kernel
theorem sf_M_count_2 : ySF "MonitorYardModel" 80 "MonitorYardModel" "" 9 26 = true := by decide +kernel
theorem sf_M_count_16 : ySF "MonitorYardModel" 7 "MonitorYardModel" "" 9 0 = true := by decide +kernel
theorem sf_M_count_77 : ySF "MonitorYardModel" 92 "MonitorYardModel" "" 9 23 = true := by decide +kernel
theorem sf_M_count_82 : ySF "MonitorYardModel" 74 "MonitorYardModel" "" 9 21 = true := by decide +kernel
theorem sf_M_count_89 : ySF "MonitorYardModel" 74 "MonitorYardModel" "" 9 21 = true := by decide +kernel
theorem sf_M_count_96 : ySF "MonitorYardModel" 74 "MonitorYardModel" "" 9 21 = true := by decide +kernel
theorem sf_M_count_103 : ySF "MonitorYardModel" 74 "MonitorYardModel" "" 9 21 = true := by decide +kernel
theorem sf_M_count_110 : ySF "MonitorYardModel" 161 "MonitorYardModel" "" 9 24 = true := by decide +kernel
theorem sf_P_init_12 : ∀ c, c < 6 → ySF "MonitorYard$Place" 12 "MonitorYard$Place" "" (3 + c) 2 = true := by decide +kernel
theorem sf_P_init_17 : ∀ c, c < 6 → ySF "MonitorYard$Place" 18 "MonitorYard$Place" "" (3 + c) 0 = true := by decide +kernel
theorem sf_P_init_22 : ∀ c, c < 6 → ySF "MonitorYard$Place" 22 "MonitorYard$Place" "" (3 + c) 1 = true := by decide +kernel
theorem sf_P_perform_38 : ySF "MonitorYard$Place" 42 "MonitorYard$YardThread" "" 1 6 = true := by decide +kernel
theorem sf_P_perform_46 : ySF "MonitorYard$Place" 42 "MonitorYard$YardThread" "" 1 6 = true := by decide +kernel
theorem sf_P_joinRow_1 : ∀ c, c < 6 → ySF "MonitorYard$Place" 12 "MonitorYard$Place" "" (3 + c) 2 = true := by decide +kernel
theorem sf_P_leaveRow_1 : ∀ c, c < 6 → ySF "MonitorYard$Place" 12 "MonitorYard$Place" "" (3 + c) 2 = true := by decide +kernel
theorem sf_P_endAllInRow_1 : ∀ c, c < 6 → ySF "MonitorYard$Place" 12 "MonitorYard$Place" "" (3 + c) 2 = true := by decide +kernel
theorem sf_P_endAllInRow_4 : ySF "MonitorYard$Place" 69 "MonitorYard$Row" "MonitorYard" 2 1 = true := by decide +kernel
theorem sf_P_endAllInRow_13 : ∀ c, c < 6 → ySF "MonitorYard$Place" 12 "MonitorYard$Place" "" (3 + c) 2 = true := by decide +kernel
theorem sf_P_canBeAtOnce_19 : ySF "MonitorYard$Place" 86 "MonitorYard$YardThread" "" 1 8 = true := by decide +kernel
theorem sf_P_hasInRow_4 : ∀ c, c < 6 → ySF "MonitorYard$Place" 12 "MonitorYard$Place" "" (3 + c) 2 = true := by decide +kernel
theorem sf_P_hasInRow_7 : ySF "MonitorYard$Place" 69 "MonitorYard$Row" "MonitorYard" 2 1 = true := by decide +kernel
theorem sf_P_hasInRow_14 : ∀ c, c < 6 → ySF "MonitorYard$Place" 12 "MonitorYard$Place" "" (3 + c) 2 = true := by decide +kernel
theorem sf_P_hasInRow_28 : ySF "MonitorYard$Place" 86 "MonitorYard$YardThread" "" 1 8 = true := by decide +kernel
theorem sf_P_goThroughRow_1 : ∀ c, c < 6 → ySF "MonitorYard$Place" 12 "MonitorYard$Place" "" (3 + c) 2 = true := by decide +kernel
theorem sf_P_goThroughRow_4 : ySF "MonitorYard$Place" 69 "MonitorYard$Row" "MonitorYard" 2 1 = true := by decide +kernel
theorem sf_P_goThroughRow_22 : ∀ c, c < 6 → ySF "MonitorYard$Place" 12 "MonitorYard$Place" "" (3 + c) 2 = true := by decide +kernel
theorem sf_P_goThroughRow_43 : ySF "MonitorYard$Place" 86 "MonitorYard$YardThread" "" 1 8 = true := by decide +kernel
theorem sf_P_goThroughRow_69 : ∀ c, c < 6 → ySF "MonitorYard$Place" 12 "MonitorYard$Place" "" (3 + c) 2 = true := by decide +kernel
theorem sf_P_goThroughRow_87 : ySF "MonitorYard$Place" 101 "MonitorYard$YardThread" "" 1 11 = true := by decide +kernel
end
section
/-! the state of the system, in words: what both sides hold -/
/-- th: a thread's ints by slot; pl: a place's ints by slot; wh: where a thread is; ho: who holds or writes; rw: rows (0 the row, 1, 2 the conditions); en: acts ended; rd: times read; qu: a queue's ints; n, kd, cp: places, their kinds and sizes; tk: ticks -/
abbrev zS : Type := (Nat → Nat → Int32) × (Nat → Nat → Int32) × (Nat → Option Nat) × (Nat → Option Nat) × (Nat → Nat → List Nat) × (Nat → Nat → Int32) × (Nat → Nat → Int32) × (Nat → List Int32) × Nat × (Nat → Nat) × (Nat → Nat) × Int32
def zth (σ : zS) : Nat → Nat → Int32 := σ.1
def zpl (σ : zS) : Nat → Nat → Int32 := σ.2.1
def zwh (σ : zS) : Nat → Option Nat := σ.2.2.1
def zho (σ : zS) : Nat → Option Nat := σ.2.2.2.1
def zrw (σ : zS) : Nat → Nat → List Nat := σ.2.2.2.2.1
def zen (σ : zS) : Nat → Nat → Int32 := σ.2.2.2.2.2.1
def zrd (σ : zS) : Nat → Nat → Int32 := σ.2.2.2.2.2.2.1
def zqu (σ : zS) : Nat → List Int32 := σ.2.2.2.2.2.2.2.1
def zn (σ : zS) : Nat := σ.2.2.2.2.2.2.2.2.1
def zkd (σ : zS) : Nat → Nat := σ.2.2.2.2.2.2.2.2.2.1
def zcp (σ : zS) : Nat → Nat := σ.2.2.2.2.2.2.2.2.2.2.1
def ztk (σ : zS) : Int32 := σ.2.2.2.2.2.2.2.2.2.2.2
def zsth (σ : zS) (f t : Nat) (x : Int32) : zS := (yu (zth σ) f t x, σ.2)
def zspl (σ : zS) (f o : Nat) (x : Int32) : zS := (zth σ, yu (zpl σ) f o x, σ.2.2)
def zswh (σ : zS) (t : Nat) (x : Option Nat) : zS := (zth σ, zpl σ, va_up (zwh σ) t x, σ.2.2.2)
def zsho (σ : zS) (o : Nat) (x : Option Nat) : zS := (zth σ, zpl σ, zwh σ, va_up (zho σ) o x, σ.2.2.2.2)
def zsrw (σ : zS) (j o : Nat) (x : List Nat) : zS := (zth σ, zpl σ, zwh σ, zho σ, yu (zrw σ) j o x, σ.2.2.2.2.2)
def zsen (σ : zS) (t h : Nat) (x : Int32) : zS := (zth σ, zpl σ, zwh σ, zho σ, zrw σ, yu (zen σ) t h x, σ.2.2.2.2.2.2)
def zsrd (σ : zS) (o t : Nat) (x : Int32) : zS := (zth σ, zpl σ, zwh σ, zho σ, zrw σ, zen σ, yu (zrd σ) o t x, σ.2.2.2.2.2.2.2)
def zsqu (σ : zS) (o : Nat) (x : List Int32) : zS := (zth σ, zpl σ, zwh σ, zho σ, zrw σ, zen σ, zrd σ, va_up (zqu σ) o x, σ.2.2.2.2.2.2.2.2)
def zstk (σ : zS) (x : Int32) : zS := (zth σ, zpl σ, zwh σ, zho σ, zrw σ, zen σ, zrd σ, zqu σ, zn σ, zkd σ, zcp σ, x)
/-- the shapes of the class's cells -/
abbrev kP (o : Nat) : Nat := 100 + 10 * o
def zShp (σ : zS) (sh : Nat → Option ySh) : Prop :=
  sh 0 = some (.inl 0) ∧ sh 1 = some (.inr (3, 6)) ∧ sh 2 = some (.inr (4, 6)) ∧ (∀ t, t < 6 → sh (10 + t) = some (.inl 1) ∧ sh (20 + t) = some (.inr (0, 5))) ∧
  zn σ ≤ 6 ∧ (∀ o, o < zn σ → zkd σ o < 6 ∧ 1 ≤ zcp σ o ∧ zcp σ o ≤ 3 ∧ sh (kP o) = some (.inl (3 + zkd σ o)) ∧ sh (kP o + 1) = some (.inl 2) ∧ sh (kP o + 2) = some (.inr (3, 6)) ∧
    (zkd σ o = 0 → sh (kP o + 3) = some (.inl 2) ∧ sh (kP o + 4) = some (.inr (3, 6)) ∧ sh (kP o + 5) = some (.inl 2) ∧ sh (kP o + 6) = some (.inr (3, 6))) ∧
    (zkd σ o = 1 → sh (kP o + 7) = some (.inr (0, 6))) ∧ (zkd σ o = 5 → sh (kP o + 7) = some (.inr (0, zcp σ o))))
/-- a row at the cells k, k + 1 -/
def zR (l : List Nat) (ω : yW) (k : Nat) : Prop := l.length ≤ 6 ∧ (∀ t ∈ l, t < 6) ∧ ω.2.1 k 1 = nI l.length ∧ ω.2.2 k 0 = some (k + 1) ∧ ∀ j (h : j < l.length), ω.2.2 (k + 1) j = some (10 + l[j])
def zT (σ : zS) (ω : yW) (t : Nat) : Prop := ω.2.1 (10 + t) 0 = nI t ∧ ω.2.2 (10 + t) 1 = some (20 + t) ∧ ω.2.2 (10 + t) 4 = (zwh σ t).map kP ∧ (∀ f, 2 ≤ f → f < 12 → f ≠ 4 → ω.2.1 (10 + t) f = zth σ f t) ∧ (∀ h, h < 5 → ω.2.1 (20 + t) h = zen σ t h) ∧ (∀ o, zwh σ t = some o → o < zn σ)
def zPl (σ : zS) (ω : yW) (o : Nat) : Prop := ω.2.1 (kP o) 0 = nI (zkd σ o) ∧ ω.2.1 (kP o) 1 = nI o ∧ ω.2.2 (kP o) 2 = some (kP o + 1) ∧ zR (zrw σ 0 o) ω (kP o + 1) ∧
  (zkd σ o = 0 → ω.2.2 (kP o) 3 = some (kP o + 3) ∧ ω.2.2 (kP o) 4 = some (kP o + 5) ∧ ω.2.2 (kP o) 5 = (zho σ o).map (10 + ·) ∧ ω.2.1 (kP o) 6 = zpl σ 6 o ∧ zR (zrw σ 1 o) ω (kP o + 3) ∧ zR (zrw σ 2 o) ω (kP o + 5)) ∧
  (zkd σ o = 1 → ω.2.2 (kP o) 3 = some (kP o + 7) ∧ ω.2.1 (kP o) 4 = zpl σ 4 o ∧ ω.2.2 (kP o) 5 = (zho σ o).map (10 + ·) ∧ ω.2.1 (kP o) 6 = zpl σ 6 o ∧ ∀ t, t < 6 → ω.2.1 (kP o + 7) t = zrd σ o t) ∧
  (zkd σ o = 2 → ω.2.1 (kP o) 3 = zpl σ 3 o) ∧ (zkd σ o = 3 → ω.2.1 (kP o) 3 = zpl σ 3 o) ∧ (zkd σ o = 4 → ω.2.1 (kP o) 3 = nI (zcp σ o) ∧ ω.2.1 (kP o) 4 = zpl σ 4 o) ∧
  (zkd σ o = 5 → ω.2.2 (kP o) 3 = some (kP o + 7) ∧ ω.2.1 (kP o) 4 = nI (zqu σ o).length ∧ (zqu σ o).length ≤ zcp σ o ∧ ∀ j (h : j < (zqu σ o).length), ω.2.1 (kP o + 7) j = (zqu σ o)[j]) ∧ (∀ t, zho σ o = some t → t < 6)
/-- the class's cells hold σ; the cells from 200 on are those of μ -/
def zC (σ : zS) (μ ω : yW) : Prop := zShp σ ω.1 ∧ ω.1 = μ.1 ∧ (∀ k, 200 ≤ k → ω.2.1 k = μ.2.1 k ∧ ω.2.2 k = μ.2.2 k) ∧ ω.2.2 0 0 = some 1 ∧ ω.2.2 0 1 = some 2 ∧ ω.2.1 0 2 = nI (zn σ) ∧ ω.2.1 0 3 = ztk σ ∧ (∀ t, t < 6 → ω.2.2 1 t = some (10 + t)) ∧ (∀ o, o < 6 → ω.2.2 2 o = if o < zn σ then some (kP o) else none) ∧
  (∀ t, t < 6 → zT σ ω t) ∧ ∀ o, o < zn σ → zPl σ ω o
end
section
/-- the judgement over all worlds with a property -/
def yWP (G : yG) (i : yM) (Qf : yQT) (sh0 : Nat → Option ySh) (pc : Nat) (ls : List (Option yV)) (st : List yV) (Φ : yW → Prop) (cs sl : Nat) : Prop := ∀ ω, Φ ω → yWW G i Qf sh0 pc ls st ω cs sl
section YLIFT
variable {G : yG} {i : yM} {Qf : yQT} {sh0 : Nat → Option ySh} {pc : Nat} {ls : List (Option yV)} {st : List yV} {Φ : yW → Prop} {cs sl : Nat}
theorem zr_iconst {n : Int} {v : Int32} (hd : decode (yMb i) pc = .ok (.iconst n, 1)) (hv : Int32.ofInt n = v) (k : yWP G i Qf sh0 (pc + 1) ls (yi v :: st) Φ cs sl) : yWP G i Qf sh0 pc ls (st) Φ cs sl := fun ω hω => yr_iconst hd hv (k ω hω)
theorem zr_bipush {n : Int} {v : Int32} (hd : decode (yMb i) pc = .ok (.bipush n, 2)) (hv : (Int8.ofInt n).toInt32 = v) (k : yWP G i Qf sh0 (pc + 2) ls (yi v :: st) Φ cs sl) : yWP G i Qf sh0 pc ls (st) Φ cs sl := fun ω hω => yr_bipush hd hv (k ω hω)
theorem zr_null (hd : decode (yMb i) pc = .ok (.aconst_null, 1)) (k : yWP G i Qf sh0 (pc + 1) ls (yn :: st) Φ cs sl) : yWP G i Qf sh0 pc ls (st) Φ cs sl := fun ω hω => yr_null hd (k ω hω)
theorem zr_iload_n {j : Fin 4} {x : Int32} (hd : decode (yMb i) pc = .ok (.iload_n j, 1)) (hl : ls[j.val]? = some (some (yi x))) (k : yWP G i Qf sh0 (pc + 1) ls (yi x :: st) Φ cs sl) : yWP G i Qf sh0 pc ls (st) Φ cs sl := fun ω hω => yr_iload_n hd hl (k ω hω)
theorem zr_iload {j : Nat} {x : Int32} (hd : decode (yMb i) pc = .ok (.iload j, 2)) (hl : ls[j]? = some (some (yi x))) (k : yWP G i Qf sh0 (pc + 2) ls (yi x :: st) Φ cs sl) : yWP G i Qf sh0 pc ls (st) Φ cs sl := fun ω hω => yr_iload hd hl (k ω hω)
theorem zr_aload_n {j : Fin 4} {o : Option Nat} (hd : decode (yMb i) pc = .ok (.aload_n j, 1)) (hl : ls[j.val]? = some (some (yo o))) (k : yWP G i Qf sh0 (pc + 1) ls (yo o :: st) Φ cs sl) : yWP G i Qf sh0 pc ls st Φ cs sl := fun ω hω => yr_aload_n hd hl (k ω hω)
theorem zr_aload {j : Nat} {o : Option Nat} (hd : decode (yMb i) pc = .ok (.aload j, 2)) (hl : ls[j]? = some (some (yo o))) (k : yWP G i Qf sh0 (pc + 2) ls (yo o :: st) Φ cs sl) : yWP G i Qf sh0 pc ls st Φ cs sl := fun ω hω => yr_aload hd hl (k ω hω)
theorem zr_istore_n {j : Fin 4} {x : Int32} {ls' : List (Option yV)} (hd : decode (yMb i) pc = .ok (.istore_n j, 1)) (hj : j.val < yMl i) (hs : ls.set j.val (some (yi x)) = ls') (k : yWP G i Qf sh0 (pc + 1) ls' st Φ cs sl) : yWP G i Qf sh0 pc ls (yi x :: st) Φ cs sl := fun ω hω => yr_istore_n hd hj hs (k ω hω)
theorem zr_istore {j : Nat} {x : Int32} {ls' : List (Option yV)} (hd : decode (yMb i) pc = .ok (.istore j, 2)) (hj : j < yMl i) (hs : ls.set j (some (yi x)) = ls') (k : yWP G i Qf sh0 (pc + 2) ls' st Φ cs sl) : yWP G i Qf sh0 pc ls (yi x :: st) Φ cs sl := fun ω hω => yr_istore hd hj hs (k ω hω)
theorem zr_astore_n {j : Fin 4} {o : Option Nat} {ls' : List (Option yV)} (hd : decode (yMb i) pc = .ok (.astore_n j, 1)) (hj : j.val < yMl i) (hs : ls.set j.val (some (yo o)) = ls') (k : yWP G i Qf sh0 (pc + 1) ls' st Φ cs sl) : yWP G i Qf sh0 pc ls (yo o :: st) Φ cs sl := fun ω hω => yr_astore_n hd hj hs (k ω hω)
theorem zr_astore {j : Nat} {o : Option Nat} {ls' : List (Option yV)} (hd : decode (yMb i) pc = .ok (.astore j, 2)) (hj : j < yMl i) (hs : ls.set j (some (yo o)) = ls') (k : yWP G i Qf sh0 (pc + 2) ls' st Φ cs sl) : yWP G i Qf sh0 pc ls (yo o :: st) Φ cs sl := fun ω hω => yr_astore hd hj hs (k ω hω)
theorem zr_iinc {j : Nat} {n : Int} {x v : Int32} {ls' : List (Option yV)} (hd : decode (yMb i) pc = .ok (.iinc j n, 3)) (hl : ls[j]? = some (some (yi x))) (hv : x + Int32.ofInt n = v) (hj : j < yMl i) (hs : ls.set j (some (yi v)) = ls') (k : yWP G i Qf sh0 (pc + 3) ls' st Φ cs sl) : yWP G i Qf sh0 pc ls st Φ cs sl := fun ω hω => yr_iinc hd hl hv hj hs (k ω hω)
theorem zr_iadd {x y : Int32} (hd : decode (yMb i) pc = .ok (.iadd, 1)) (k : yWP G i Qf sh0 (pc + 1) ls (yi (x + y) :: st) Φ cs sl) : yWP G i Qf sh0 pc ls (yi y :: yi x :: st) Φ cs sl := fun ω hω => yr_iadd hd (k ω hω)
theorem zr_isub {x y : Int32} (hd : decode (yMb i) pc = .ok (.isub, 1)) (k : yWP G i Qf sh0 (pc + 1) ls (yi (x - y) :: st) Φ cs sl) : yWP G i Qf sh0 pc ls (yi y :: yi x :: st) Φ cs sl := fun ω hω => yr_isub hd (k ω hω)
theorem zr_imul {x y : Int32} (hd : decode (yMb i) pc = .ok (.imul, 1)) (k : yWP G i Qf sh0 (pc + 1) ls (yi (x * y) :: st) Φ cs sl) : yWP G i Qf sh0 pc ls (yi y :: yi x :: st) Φ cs sl := fun ω hω => yr_imul hd (k ω hω)
theorem zr_iand {x y : Int32} (hd : decode (yMb i) pc = .ok (.iand, 1)) (k : yWP G i Qf sh0 (pc + 1) ls (yi (x &&& y) :: st) Φ cs sl) : yWP G i Qf sh0 pc ls (yi y :: yi x :: st) Φ cs sl := fun ω hω => yr_iand hd (k ω hω)
theorem zr_ior {x y : Int32} (hd : decode (yMb i) pc = .ok (.ior, 1)) (k : yWP G i Qf sh0 (pc + 1) ls (yi (x ||| y) :: st) Φ cs sl) : yWP G i Qf sh0 pc ls (yi y :: yi x :: st) Φ cs sl := fun ω hω => yr_ior hd (k ω hω)
theorem zr_ishl {x y : Int32} (hd : decode (yMb i) pc = .ok (.ishl, 1)) (k : yWP G i Qf sh0 (pc + 1) ls (yi (x <<< (y &&& 31)) :: st) Φ cs sl) : yWP G i Qf sh0 pc ls (yi y :: yi x :: st) Φ cs sl := fun ω hω => yr_ishl hd (k ω hω)
theorem zr_ineg {x : Int32} (hd : decode (yMb i) pc = .ok (.ineg, 1)) (k : yWP G i Qf sh0 (pc + 1) ls (yi (-x) :: st) Φ cs sl) : yWP G i Qf sh0 pc ls (yi x :: st) Φ cs sl := fun ω hω => yr_ineg hd (k ω hω)
theorem zr_i2l {x : Int32} (hd : decode (yMb i) pc = .ok (.i2l, 1)) (k : yWP G i Qf sh0 (pc + 1) ls (yl x.toInt64 :: st) Φ cs sl) : yWP G i Qf sh0 pc ls (yi x :: st) Φ cs sl := fun ω hω => yr_i2l hd (k ω hω)
theorem zr_dup {v : yV} (hd : decode (yMb i) pc = .ok (.dup, 1)) (hv : ∀ ad, (ycv ad v).category = 1) (k : yWP G i Qf sh0 (pc + 1) ls (v :: v :: st) Φ cs sl) : yWP G i Qf sh0 pc ls (v :: st) Φ cs sl := fun ω hω => yr_dup hd hv (k ω hω)
theorem zr_pop {v : yV} (hd : decode (yMb i) pc = .ok (.pop, 1)) (hv : ∀ ad, (ycv ad v).category = 1) (k : yWP G i Qf sh0 (pc + 1) ls (st) Φ cs sl) : yWP G i Qf sh0 pc ls (v :: st) Φ cs sl := fun ω hω => yr_pop hd hv (k ω hω)
theorem zr_dup_x1 {v u : yV} (hd : decode (yMb i) pc = .ok (.dup_x1, 1)) (hv : ∀ ad, (ycv ad v).category = 1) (hu : ∀ ad, (ycv ad u).category = 1) (k : yWP G i Qf sh0 (pc + 1) ls (v :: u :: v :: st) Φ cs sl) : yWP G i Qf sh0 pc ls (v :: u :: st) Φ cs sl := fun ω hω => yr_dup_x1 hd hv hu (k ω hω)
theorem zr_dup2 {v u : yV} (hd : decode (yMb i) pc = .ok (.dup2, 1)) (hv : ∀ ad, (ycv ad v).category = 1) (hu : ∀ ad, (ycv ad u).category = 1) (k : yWP G i Qf sh0 (pc + 1) ls (v :: u :: v :: u :: st) Φ cs sl) : yWP G i Qf sh0 pc ls (v :: u :: st) Φ cs sl := fun ω hω => yr_dup2 hd hv hu (k ω hω)
theorem zr_if_eq {x : Int32} {off : Int} {tgt : Nat} (hd : decode (yMb i) pc = .ok (.ifCond .eq off, 3)) (ht : (pc : Int) + off = (tgt : Int)) (kt : x = 0 → yWP G i Qf sh0 tgt ls st Φ cs sl) (kf : ¬ x = 0 → yWP G i Qf sh0 (pc + 3) ls st Φ cs sl) : yWP G i Qf sh0 pc ls (yi x :: st) Φ cs sl := fun ω hω => yr_if_eq hd ht (fun q => kt q ω hω) (fun q => kf q ω hω)
theorem zr_icmp_eq {x y : Int32} {off : Int} {tgt : Nat} (hd : decode (yMb i) pc = .ok (.if_icmp .eq off, 3)) (ht : (pc : Int) + off = (tgt : Int)) (kt : x = y → yWP G i Qf sh0 tgt ls st Φ cs sl) (kf : ¬ x = y → yWP G i Qf sh0 (pc + 3) ls st Φ cs sl) : yWP G i Qf sh0 pc ls (yi y :: yi x :: st) Φ cs sl := fun ω hω => yr_icmp_eq hd ht (fun q => kt q ω hω) (fun q => kf q ω hω)
theorem zr_if_ne {x : Int32} {off : Int} {tgt : Nat} (hd : decode (yMb i) pc = .ok (.ifCond .ne off, 3)) (ht : (pc : Int) + off = (tgt : Int)) (kt : ¬ x = 0 → yWP G i Qf sh0 tgt ls st Φ cs sl) (kf : x = 0 → yWP G i Qf sh0 (pc + 3) ls st Φ cs sl) : yWP G i Qf sh0 pc ls (yi x :: st) Φ cs sl := fun ω hω => yr_if_ne hd ht (fun q => kt q ω hω) (fun q => kf q ω hω)
theorem zr_icmp_ne {x y : Int32} {off : Int} {tgt : Nat} (hd : decode (yMb i) pc = .ok (.if_icmp .ne off, 3)) (ht : (pc : Int) + off = (tgt : Int)) (kt : ¬ x = y → yWP G i Qf sh0 tgt ls st Φ cs sl) (kf : x = y → yWP G i Qf sh0 (pc + 3) ls st Φ cs sl) : yWP G i Qf sh0 pc ls (yi y :: yi x :: st) Φ cs sl := fun ω hω => yr_icmp_ne hd ht (fun q => kt q ω hω) (fun q => kf q ω hω)
theorem zr_if_lt {x : Int32} {off : Int} {tgt : Nat} (hd : decode (yMb i) pc = .ok (.ifCond .lt off, 3)) (ht : (pc : Int) + off = (tgt : Int)) (kt : x < 0 → yWP G i Qf sh0 tgt ls st Φ cs sl) (kf : ¬ x < 0 → yWP G i Qf sh0 (pc + 3) ls st Φ cs sl) : yWP G i Qf sh0 pc ls (yi x :: st) Φ cs sl := fun ω hω => yr_if_lt hd ht (fun q => kt q ω hω) (fun q => kf q ω hω)
theorem zr_icmp_lt {x y : Int32} {off : Int} {tgt : Nat} (hd : decode (yMb i) pc = .ok (.if_icmp .lt off, 3)) (ht : (pc : Int) + off = (tgt : Int)) (kt : x < y → yWP G i Qf sh0 tgt ls st Φ cs sl) (kf : ¬ x < y → yWP G i Qf sh0 (pc + 3) ls st Φ cs sl) : yWP G i Qf sh0 pc ls (yi y :: yi x :: st) Φ cs sl := fun ω hω => yr_icmp_lt hd ht (fun q => kt q ω hω) (fun q => kf q ω hω)
theorem zr_if_ge {x : Int32} {off : Int} {tgt : Nat} (hd : decode (yMb i) pc = .ok (.ifCond .ge off, 3)) (ht : (pc : Int) + off = (tgt : Int)) (kt : 0 ≤ x → yWP G i Qf sh0 tgt ls st Φ cs sl) (kf : ¬ 0 ≤ x → yWP G i Qf sh0 (pc + 3) ls st Φ cs sl) : yWP G i Qf sh0 pc ls (yi x :: st) Φ cs sl := fun ω hω => yr_if_ge hd ht (fun q => kt q ω hω) (fun q => kf q ω hω)
theorem zr_icmp_ge {x y : Int32} {off : Int} {tgt : Nat} (hd : decode (yMb i) pc = .ok (.if_icmp .ge off, 3)) (ht : (pc : Int) + off = (tgt : Int)) (kt : y ≤ x → yWP G i Qf sh0 tgt ls st Φ cs sl) (kf : ¬ y ≤ x → yWP G i Qf sh0 (pc + 3) ls st Φ cs sl) : yWP G i Qf sh0 pc ls (yi y :: yi x :: st) Φ cs sl := fun ω hω => yr_icmp_ge hd ht (fun q => kt q ω hω) (fun q => kf q ω hω)
theorem zr_if_gt {x : Int32} {off : Int} {tgt : Nat} (hd : decode (yMb i) pc = .ok (.ifCond .gt off, 3)) (ht : (pc : Int) + off = (tgt : Int)) (kt : 0 < x → yWP G i Qf sh0 tgt ls st Φ cs sl) (kf : ¬ 0 < x → yWP G i Qf sh0 (pc + 3) ls st Φ cs sl) : yWP G i Qf sh0 pc ls (yi x :: st) Φ cs sl := fun ω hω => yr_if_gt hd ht (fun q => kt q ω hω) (fun q => kf q ω hω)
theorem zr_icmp_gt {x y : Int32} {off : Int} {tgt : Nat} (hd : decode (yMb i) pc = .ok (.if_icmp .gt off, 3)) (ht : (pc : Int) + off = (tgt : Int)) (kt : y < x → yWP G i Qf sh0 tgt ls st Φ cs sl) (kf : ¬ y < x → yWP G i Qf sh0 (pc + 3) ls st Φ cs sl) : yWP G i Qf sh0 pc ls (yi y :: yi x :: st) Φ cs sl := fun ω hω => yr_icmp_gt hd ht (fun q => kt q ω hω) (fun q => kf q ω hω)
theorem zr_if_le {x : Int32} {off : Int} {tgt : Nat} (hd : decode (yMb i) pc = .ok (.ifCond .le off, 3)) (ht : (pc : Int) + off = (tgt : Int)) (kt : x ≤ 0 → yWP G i Qf sh0 tgt ls st Φ cs sl) (kf : ¬ x ≤ 0 → yWP G i Qf sh0 (pc + 3) ls st Φ cs sl) : yWP G i Qf sh0 pc ls (yi x :: st) Φ cs sl := fun ω hω => yr_if_le hd ht (fun q => kt q ω hω) (fun q => kf q ω hω)
theorem zr_icmp_le {x y : Int32} {off : Int} {tgt : Nat} (hd : decode (yMb i) pc = .ok (.if_icmp .le off, 3)) (ht : (pc : Int) + off = (tgt : Int)) (kt : x ≤ y → yWP G i Qf sh0 tgt ls st Φ cs sl) (kf : ¬ x ≤ y → yWP G i Qf sh0 (pc + 3) ls st Φ cs sl) : yWP G i Qf sh0 pc ls (yi y :: yi x :: st) Φ cs sl := fun ω hω => yr_icmp_le hd ht (fun q => kt q ω hω) (fun q => kf q ω hω)
theorem zr_goto {off : Int} {tgt : Nat} (hd : decode (yMb i) pc = .ok (.goto off, 3)) (ht : (pc : Int) + off = (tgt : Int)) (k : yWP G i Qf sh0 tgt ls st Φ cs sl) : yWP G i Qf sh0 pc ls st Φ cs sl := fun ω hω => yr_goto hd ht (k ω hω)
theorem zr_ifnull {o : Option Nat} {off : Int} {tgt : Nat} (hd : decode (yMb i) pc = .ok (.ifnull off, 3)) (ht : (pc : Int) + off = (tgt : Int)) (kt : o = none → yWP G i Qf sh0 tgt ls st Φ cs sl) (kf : ∀ a, o = some a → yWP G i Qf sh0 (pc + 3) ls st Φ cs sl) : yWP G i Qf sh0 pc ls (yo o :: st) Φ cs sl := fun ω hω => yr_ifnull hd ht (fun q => kt q ω hω) (fun a q => kf a q ω hω)
theorem zr_ifnonnull {o : Option Nat} {off : Int} {tgt : Nat} (hd : decode (yMb i) pc = .ok (.ifnonnull off, 3)) (ht : (pc : Int) + off = (tgt : Int)) (kt : ∀ a, o = some a → yWP G i Qf sh0 tgt ls st Φ cs sl) (kf : o = none → yWP G i Qf sh0 (pc + 3) ls st Φ cs sl) : yWP G i Qf sh0 pc ls (yo o :: st) Φ cs sl := fun ω hω => yr_ifnonnull hd ht (fun a q => kt a q ω hω) (fun q => kf q ω hω)
theorem zr_acmp_eq {o o' : Option Nat} {off : Int} {tgt : Nat} (hd : decode (yMb i) pc = .ok (.if_acmp .eq off, 3)) (ht : (pc : Int) + off = (tgt : Int)) (hl : ∀ ω, Φ ω → ∀ a, o = some a ∨ o' = some a → ω.1 a ≠ none) (kt : o = o' → yWP G i Qf sh0 tgt ls st Φ cs sl) (kf : ¬ o = o' → yWP G i Qf sh0 (pc + 3) ls st Φ cs sl) : yWP G i Qf sh0 pc ls (yo o' :: yo o :: st) Φ cs sl := fun ω hω => yr_acmp_eq hd ht (hl ω hω) (fun q => kt q ω hω) (fun q => kf q ω hω)
theorem zr_acmp_ne {o o' : Option Nat} {off : Int} {tgt : Nat} (hd : decode (yMb i) pc = .ok (.if_acmp .ne off, 3)) (ht : (pc : Int) + off = (tgt : Int)) (hl : ∀ ω, Φ ω → ∀ a, o = some a ∨ o' = some a → ω.1 a ≠ none) (kt : ¬ o = o' → yWP G i Qf sh0 tgt ls st Φ cs sl) (kf : o = o' → yWP G i Qf sh0 (pc + 3) ls st Φ cs sl) : yWP G i Qf sh0 pc ls (yo o' :: yo o :: st) Φ cs sl := fun ω hω => yr_acmp_ne hd ht (hl ω hω) (fun q => kt q ω hω) (fun q => kf q ω hω)
theorem zr_gsld {ix : Nat} {j : Fin 4} {x : Int32} (d0 : decode (yMb i) pc = .ok (.getstatic ix, 3)) (d3 : decode (yMb i) (pc + 3) = .ok (.iload_n j, 1)) (d4 : decode (yMb i) (pc + 3 + 1) = .ok (.iaload, 1)) (hl : ls[j.val]? = some (some (yi x))) (hlk : Cond.fieldLink (yMy i).cls ix ysC ysn "[I" ∈ lw_tbl) (hin : vp_in x ysN) (kk : yWP G i Qf sh0 (pc + 3 + 1 + 1) ls (yi (yst x.toNatClampNeg) :: st) Φ cs sl) : yWP G i Qf sh0 pc ls st Φ cs sl := fun ω hω => yr_gsld d0 d3 d4 hl hlk hin (kk ω hω)
theorem zr_gslen {ix : Nat} (d0 : decode (yMb i) pc = .ok (.getstatic ix, 3)) (d3 : decode (yMb i) (pc + 3) = .ok (.arraylength, 1)) (hlk : Cond.fieldLink (yMy i).cls ix ysC ysn "[I" ∈ lw_tbl) (kk : yWP G i Qf sh0 (pc + 3 + 1) ls (yi 17 :: st) Φ cs sl) : yWP G i Qf sh0 pc ls st Φ cs sl := fun ω hω => yr_gslen d0 d3 hlk (kk ω hω)
theorem zr_tcase {dflt lo hi : Int} {offs : Array Int} {len : Nat} {x : Int32} {off : Int} {tgt : Nat} (hd : decode (yMb i) pc = .ok (.tableswitch dflt lo hi offs, len)) (v : Int32) (hx : x = v) (h1 : ¬ v.toInt < lo) (h2 : ¬ hi < v.toInt) (ho : offs[(v.toInt - lo).toNat]? = some off) (ht : (pc : Int) + off = (tgt : Int)) (kk : yWP G i Qf sh0 tgt ls st Φ cs sl) : yWP G i Qf sh0 pc ls (yi x :: st) Φ cs sl := fun ω hω => yr_tcase hd v hx h1 h2 ho ht (kk ω hω)
theorem zr_tdef {dflt lo hi : Int} {offs : Array Int} {len : Nat} {x : Int32} {tgt : Nat} (hd : decode (yMb i) pc = .ok (.tableswitch dflt lo hi offs, len)) (h : x.toInt < lo ∨ hi < x.toInt) (ht : (pc : Int) + dflt = (tgt : Int)) (kk : yWP G i Qf sh0 tgt ls st Φ cs sl) : yWP G i Qf sh0 pc ls (yi x :: st) Φ cs sl := fun ω hω => yr_tdef hd h ht (kk ω hω)
theorem zr_look {dflt : Int} {ps : Array (Int × Int)} {len : Nat} {x : Int32} {off : Int} {tgt : Nat} (hd : decode (yMb i) pc = .ok (.lookupswitch dflt ps, len)) (hp : (ps.toList.zip (ps.toList.drop 1)).all (fun (a, next) => a.1 < next.1) = true) (ho : Op.lookupswitch.offset ps.toList dflt x.toInt = off) (ht : (pc : Int) + off = (tgt : Int)) (kk : yWP G i Qf sh0 tgt ls st Φ cs sl) : yWP G i Qf sh0 pc ls (yi x :: st) Φ cs sl := fun ω hω => yr_look hd hp ho ht (kk ω hω)
end YLIFT
end
section
/-! what a change of one thread's, or one place's, cells leaves -/
def zAg (ω ω' : yW) (k : Nat) : Prop := ω'.2.1 k = ω.2.1 k ∧ ω'.2.2 k = ω.2.2 k
theorem zR.kept {l : List Nat} {ω ω' : yW} {k : Nat} (h : zR l ω k) (h1 : zAg ω ω' k) (h2 : zAg ω ω' (k + 1)) : zR l ω' k := by
  obtain ⟨a1, a2, a3, a4, a5⟩ := h
  exact ⟨a1, a2, by rw [h1.1]; exact a3, by rw [h1.2]; exact a4, fun j hj => by rw [h2.2]; exact a5 j hj⟩
/-- the two states have the same of thread t -/
def zSt (σ σ' : zS) (t : Nat) : Prop := zwh σ' t = zwh σ t ∧ (∀ f, zth σ' f t = zth σ f t) ∧ (∀ h, zen σ' t h = zen σ t h)
/-- .. of place o -/
def zSp (σ σ' : zS) (o : Nat) : Prop := zkd σ' o = zkd σ o ∧ zcp σ' o = zcp σ o ∧ (∀ j, zrw σ' j o = zrw σ j o) ∧ zho σ' o = zho σ o ∧ (∀ f, zpl σ' f o = zpl σ f o) ∧ (∀ t, zrd σ' o t = zrd σ o t) ∧ zqu σ' o = zqu σ o
theorem zT.kept {σ σ' : zS} {ω ω' : yW} {t : Nat} (h : zT σ ω t) (hs : zSt σ σ' t) (hn : zn σ' = zn σ) (h1 : zAg ω ω' (10 + t)) (h2 : zAg ω ω' (20 + t)) : zT σ' ω' t := by
  obtain ⟨a1, a2, a3, a4, a5, a6⟩ := h
  obtain ⟨s1, s2, s3⟩ := hs
  exact ⟨by rw [h1.1]; exact a1, by rw [h1.2]; exact a2, by rw [h1.2, s1]; exact a3, fun f b1 b2 b3 => by rw [h1.1, s2]; exact a4 f b1 b2 b3, fun q hq => by rw [h2.1, s3]; exact a5 q hq, fun o ho => by rw [hn]; rw [s1] at ho; exact a6 o ho⟩
theorem zPl.kept {σ σ' : zS} {ω ω' : yW} {o : Nat} (h : zPl σ ω o) (hs : zSp σ σ' o) (ha : ∀ d, d < 8 → zAg ω ω' (kP o + d)) : zPl σ' ω' o := by
  obtain ⟨a1, a2, a3, a4, a5, a6, a7, a8, a9, a10, a11⟩ := h
  obtain ⟨s1, s2, s3, s4, s5, s6, s7⟩ := hs
  have h0 := ha 0 (by omega)
  rw [Nat.add_zero] at h0
  refine ⟨by rw [h0.1, s1]; exact a1, by rw [h0.1]; exact a2, by rw [h0.2]; exact a3, by rw [s3]; exact a4.kept (ha 1 (by omega)) (ha 2 (by omega)), ?_, ?_, ?_, ?_, ?_, ?_, fun t ht => a11 t (by rw [s4] at ht; exact ht)⟩
  · intro hk
    rw [s1] at hk
    obtain ⟨b1, b2, b3, b4, b5, b6⟩ := a5 hk
    rw [h0.1, h0.2, s3, s3, s4, s5]
    exact ⟨b1, b2, b3, b4, b5.kept (ha 3 (by omega)) (ha 4 (by omega)), b6.kept (ha 5 (by omega)) (ha 6 (by omega))⟩
  · intro hk
    rw [s1] at hk
    obtain ⟨b1, b2, b3, b4, b5⟩ := a6 hk
    rw [h0.1, h0.2, s4, s5, s5]
    exact ⟨b1, b2, b3, b4, fun t ht => by rw [(ha 7 (by omega)).1, s6]; exact b5 t ht⟩
  · intro hk
    rw [s1] at hk
    rw [h0.1, s5]; exact a7 hk
  · intro hk
    rw [s1] at hk
    rw [h0.1, s5]; exact a8 hk
  · intro hk
    rw [s1] at hk
    rw [h0.1, s5, s2]; exact a9 hk
  · intro hk
    rw [s1] at hk
    obtain ⟨b1, b2, b3, b4⟩ := a10 hk
    rw [h0.1, h0.2, s2]
    refine ⟨b1, by rw [s7]; exact b2, by rw [s7]; exact b3, fun j hj => ?_⟩
    rw [(ha 7 (by omega)).1]
    have hj' : j < (zqu σ o).length := by rw [s7] at hj; exact hj
    rw [b4 j hj']
    congr 1
    rw [s7]
theorem zShp.kept {σ σ' : zS} {sh : Nat → Option ySh} (h : zShp σ sh) (hn : zn σ' = zn σ) (hk : ∀ o, zkd σ' o = zkd σ o) (hc : ∀ o, zcp σ' o = zcp σ o) : zShp σ' sh := by
  obtain ⟨a1, a2, a3, a4, a5, a6⟩ := h
  exact ⟨a1, a2, a3, a4, by rw [hn]; exact a5, fun o ho => by rw [hk, hc]; rw [hn] at ho; exact a6 o ho⟩
/-- only thread t's cells change -/
theorem zC_thread {σ σ' : zS} {μ ω ω' : yW} {t : Nat} (h : zC σ μ ω) (ht : t < 6) (hsh : ω'.1 = ω.1) (ha : ∀ k, k ≠ 10 + t → k ≠ 20 + t → zAg ω ω' k) (hn : zn σ' = zn σ) (htk : ztk σ' = ztk σ) (hp : ∀ o, zSp σ σ' o) (hs : ∀ u, u ≠ t → zSt σ σ' u) (hT : zT σ' ω' t) : zC σ' μ ω' := by
  obtain ⟨a1, a2, a3, a4, a5, a6, a7, a8, a9, a10, a11⟩ := h
  have g0 := ha 0 (by omega) (by omega)
  have g1 := ha 1 (by omega) (by omega)
  have g2 := ha 2 (by omega) (by omega)
  refine ⟨by rw [hsh]; exact a1.kept hn (fun o => (hp o).1) (fun o => (hp o).2.1), hsh.trans a2, fun k hk => ?_, by rw [g0.2]; exact a4, by rw [g0.2]; exact a5, by rw [g0.1, hn]; exact a6, by rw [g0.1, htk]; exact a7, fun u hu => by rw [g1.2]; exact a8 u hu, fun o ho => by rw [g2.2, hn]; exact a9 o ho, fun u hu => ?_, fun o ho => ?_⟩
  · have g := ha k (by omega) (by omega)
    rw [g.1, g.2]; exact a3 k hk
  · by_cases e : u = t
    · rw [e]; exact hT
    · exact (a10 u hu).kept (hs u e) hn (ha _ (by omega) (by omega)) (ha _ (by omega) (by omega))
  · rw [hn] at ho
    exact (a11 o ho).kept (hp o) (fun d hd => ha _ (by unfold kP; omega) (by unfold kP; omega))
/-- only place o's cells change -/
theorem zC_place {σ σ' : zS} {μ ω ω' : yW} {o : Nat} (h : zC σ μ ω) (ho : o < zn σ) (hsh : ω'.1 = ω.1) (ha : ∀ k, (k < kP o ∨ kP o + 8 ≤ k) → zAg ω ω' k) (hn : zn σ' = zn σ) (htk : ztk σ' = ztk σ) (hkd : zkd σ' o = zkd σ o) (hcp : zcp σ' o = zcp σ o) (hp : ∀ u, u ≠ o → zSp σ σ' u) (hs : ∀ u, zSt σ σ' u) (hP : zPl σ' ω' o) : zC σ' μ ω' := by
  obtain ⟨a1, a2, a3, a4, a5, a6, a7, a8, a9, a10, a11⟩ := h
  have h6 := a1.2.2.2.2.1
  have g0 := ha 0 (Or.inl (by unfold kP; omega))
  have g1 := ha 1 (Or.inl (by unfold kP; omega))
  have g2 := ha 2 (Or.inl (by unfold kP; omega))
  refine ⟨by
      rw [hsh]
      refine a1.kept hn (fun u => ?_) (fun u => ?_)
      · by_cases e : u = o
        · rw [e]; exact hkd
        · exact (hp u e).1
      · by_cases e : u = o
        · rw [e]; exact hcp
        · exact (hp u e).2.1, hsh.trans a2, fun k hk => ?_, by rw [g0.2]; exact a4, by rw [g0.2]; exact a5, by rw [g0.1, hn]; exact a6, by rw [g0.1, htk]; exact a7, fun u hu => by rw [g1.2]; exact a8 u hu, fun u hu => by rw [g2.2, hn]; exact a9 u hu, fun u hu => ?_, fun u hu => ?_⟩
  · have g := ha k (Or.inr (by unfold kP; omega))
    rw [g.1, g.2]; exact a3 k hk
  · exact (a10 u hu).kept (hs u) hn (ha _ (Or.inl (by unfold kP; omega))) (ha _ (Or.inl (by unfold kP; omega)))
  · rw [hn] at hu
    by_cases e : u = o
    · rw [e]; exact hP
    · exact (a11 u hu).kept (hp u e) (fun d hd => ha _ (by unfold kP; omega))
theorem zAg_si (ω : yW) (k i : Nat) (x : Int32) {j : Nat} (h : j ≠ k) : zAg ω (ysi ω k i x) j := ⟨funext fun _ => yu_ne _ _ (Or.inl h), rfl⟩
theorem zAg_sf (ω : yW) (k i : Nat) (x : Option Nat) {j : Nat} (h : j ≠ k) : zAg ω (ysf ω k i x) j := ⟨rfl, funext fun _ => yu_ne _ _ (Or.inl h)⟩
theorem zSp.rf (σ : zS) (o : Nat) : zSp σ σ o := ⟨rfl, rfl, fun _ => rfl, rfl, fun _ => rfl, fun _ => rfl, rfl⟩
theorem zSt.rf (σ : zS) (t : Nat) : zSt σ σ t := ⟨rfl, fun _ => rfl, fun _ => rfl⟩
/-- setters: a thread's int, its place, its ended acts -/
theorem zC_sth {σ : zS} {μ ω : yW} {t f : Nat} {x : Int32} (h : zC σ μ ω) (ht : t < 6) (h1 : 2 ≤ f) (h3 : f ≠ 4) : zC (zsth σ f t x) μ (ysi ω (10 + t) f x) := by
  refine zC_thread h ht rfl (fun k hk _ => zAg_si ω _ f x hk) rfl rfl (fun o => zSp.rf σ o) (fun u hu => ⟨rfl, fun g => yu_ne _ _ (Or.inr hu), fun _ => rfl⟩) ?_
  obtain ⟨a1, a2, a3, a4, a5, a6⟩ := h.2.2.2.2.2.2.2.2.2.1 t ht
  refine ⟨(yu_ne _ _ (Or.inr (by omega))).trans a1, a2, a3, fun g b1 b2 b3 => ?_, fun q hq => (yu_ne _ _ (Or.inl (by omega))).trans (a5 q hq), a6⟩
  show yu _ _ _ _ _ _ = yu _ _ _ _ _ _
  by_cases e : g = f
  · rw [e, yu_same, yu_same]
  · rw [yu_ne _ _ (Or.inr e), yu_ne _ _ (Or.inl e)]; exact a4 g b1 b2 b3
theorem zC_swh {σ : zS} {μ ω : yW} {t : Nat} {x : Option Nat} (h : zC σ μ ω) (ht : t < 6) (hx : ∀ o, x = some o → o < zn σ) : zC (zswh σ t x) μ (ysf ω (10 + t) 4 (x.map kP)) := by
  refine zC_thread h ht rfl (fun k hk _ => zAg_sf ω _ 4 _ hk) rfl rfl (fun o => zSp.rf σ o) (fun u hu => ⟨va_up_ne _ _ hu, fun g => rfl, fun _ => rfl⟩) ?_
  obtain ⟨a1, a2, a3, a4, a5, a6⟩ := h.2.2.2.2.2.2.2.2.2.1 t ht
  refine ⟨a1, (yu_ne _ _ (Or.inr (by omega))).trans a2, ?_, a4, a5, fun o ho => hx o ?_⟩
  · show yu _ _ _ _ _ _ = _
    rw [yu_same]
    show _ = (va_up (zwh σ) t x t).map kP
    rw [va_up_self]
  · have : zwh (zswh σ t x) t = x := va_up_self _ _ _
    rw [this] at ho; exact ho
theorem zC_sen {σ : zS} {μ ω : yW} {t q : Nat} {x : Int32} (h : zC σ μ ω) (ht : t < 6) : zC (zsen σ t q x) μ (ysi ω (20 + t) q x) := by
  refine zC_thread h ht rfl (fun k _ hk => zAg_si ω _ q x hk) rfl rfl (fun o => zSp.rf σ o) (fun u hu => ⟨rfl, fun g => rfl, fun g => yu_ne _ _ (Or.inl hu)⟩) ?_
  obtain ⟨a1, a2, a3, a4, a5, a6⟩ := h.2.2.2.2.2.2.2.2.2.1 t ht
  refine ⟨(yu_ne _ _ (Or.inl (by omega))).trans a1, a2, a3, fun g b1 b2 b3 => (yu_ne _ _ (Or.inl (by omega))).trans (a4 g b1 b2 b3), fun g hg => ?_, a6⟩
  show yu _ _ _ _ _ _ = yu _ _ _ _ _ _
  by_cases e : g = q
  · rw [e, yu_same, yu_same]
  · rw [yu_ne _ _ (Or.inr e), yu_ne _ _ (Or.inr e)]; exact a5 g hg
end
section
/-! contracts and rows in the words of the state: threads -/
def zP (μ : yW) (P : Option yV → zS → Prop) : Option yV → yW → Prop := fun r ω' => ∃ σ', zC σ' μ ω' ∧ P r σ'
def zCT (G : yG) (i : yM) (As : List yV) (σ : zS) (μ : yW) (P : Option yV → zS → Prop) : Prop := ∀ ω, zC σ μ ω → yCT G i As ω (zP μ P) yNX
abbrev zQ (G : yG) (i : yM) (μ : yW) (P : Option yV → zS → Prop) : yQT := yQf G i μ.1 (zP μ P) yNX
theorem zC.th {σ : zS} {μ ω : yW} (h : zC σ μ ω) {t : Nat} (ht : t < 6) : zT σ ω t := h.2.2.2.2.2.2.2.2.2.1 t ht
theorem zC.pl {σ : zS} {μ ω : yW} (h : zC σ μ ω) {o : Nat} (ho : o < zn σ) : zPl σ ω o := h.2.2.2.2.2.2.2.2.2.2 o ho
theorem zC.sT {σ : zS} {μ ω : yW} (h : zC σ μ ω) {t : Nat} (ht : t < 6) : ω.1 (10 + t) = some (.inl 1) := (h.1.2.2.2.1 t ht).1
theorem zC.sE {σ : zS} {μ ω : yW} (h : zC σ μ ω) {t : Nat} (ht : t < 6) : ω.1 (20 + t) = some (.inr (0, 5)) := (h.1.2.2.2.1 t ht).2
theorem zC.sP {σ : zS} {μ ω : yW} (h : zC σ μ ω) {o : Nat} (ho : o < zn σ) : ω.1 (kP o) = some (.inl (3 + zkd σ o)) := (h.1.2.2.2.2.2 o ho).2.2.2.1
theorem zC.sR {σ : zS} {μ ω : yW} (h : zC σ μ ω) {o : Nat} (ho : o < zn σ) : ω.1 (kP o + 1) = some (.inl 2) := (h.1.2.2.2.2.2 o ho).2.2.2.2.1
theorem zC.sRa {σ : zS} {μ ω : yW} (h : zC σ μ ω) {o : Nat} (ho : o < zn σ) : ω.1 (kP o + 2) = some (.inr (3, 6)) := (h.1.2.2.2.2.2 o ho).2.2.2.2.2.1
section ZT
variable {G : yG} {i : yM} {Qf : yQT} {pc : Nat} {ls : List (Option yV)} {st : List yV} {σ : zS} {μ : yW} {cs sl : Nat} {P : Option yV → zS → Prop}
theorem zCT_of {As : List yV} (hpl : plainName (yMy i).cls = true) (hh : yMh i = []) (hcat : ∀ v ∈ As, ∀ ad, (ycv ad v).category = 1) (hlen : As.length ≤ yMl i) (k : yWP G i (zQ G i μ P) μ.1 0 (As.map some ++ List.replicate (yMl i - As.length) none) [] (zC σ μ) 0 0) : zCT G i As σ μ P := by
  intro ω h
  have k1 : yWW G i (yQf G i μ.1 (zP μ P) yNX) μ.1 0 (As.map some ++ List.replicate (yMl i - As.length) none) [] ω 0 0 := k ω h
  rw [← h.2.1] at k1
  exact yCT_of hpl hh hcat hlen k1
theorem zr_call {i' : yM} {stk rest As : List yV} {P' : Option yV → zS → Prop} (hr : ∀ ω, zC σ μ ω → yRun G i i' pc ls stk rest As ω cs sl (zP μ P') yNX) (kk : ∀ r σ', P' r σ' → yWP G i Qf μ.1 (pc + 3) ls (r.toList ++ rest) (zC σ' μ) (cs + (yMm i').cells) (sl + (yMm i').slots)) : yWP G i Qf μ.1 pc ls stk (zC σ μ) cs sl :=
  fun ω h => yr_call (hr ω h) (fun _ _ ⟨_, h', _⟩ => h'.2.1.trans h.2.1.symm) (fun r ω' ⟨σ', h', hp⟩ => kk r σ' hp ω' h')
theorem zr_reti {x : Int32} (hd : decode (yMb i) pc = .ok (.ireturn, 1)) (hr : yMr i = some .int) (hc : cs ≤ (yMm i).cells) (hs : sl ≤ (yMm i).slots) (hP : P (some (yi x)) σ) : yWP G i (zQ G i μ P) μ.1 pc ls [yi x] (zC σ μ) cs sl := fun ω h => yr_reti hd hr hc hs ⟨σ, h, hP⟩
theorem zr_retz {x : Int32} (hd : decode (yMb i) pc = .ok (.ireturn, 1)) (hr : yMr i = some .boolean) (hx : narrow .boolean (.int x) = .int x) (hc : cs ≤ (yMm i).cells) (hs : sl ≤ (yMm i).slots) (hP : P (some (yi x)) σ) : yWP G i (zQ G i μ P) μ.1 pc ls [yi x] (zC σ μ) cs sl := fun ω h => yr_retz hd hr hx hc hs ⟨σ, h, hP⟩
theorem zr_reta {o : Option Nat} {rt : FieldType} (hd : decode (yMb i) pc = .ok (.areturn, 1)) (hr : yMr i = some rt) (hrt : (∃ n, rt = .object n) ∨ ∃ t, rt = .array t) (hc : cs ≤ (yMm i).cells) (hs : sl ≤ (yMm i).slots) (hP : P (some (yo o)) σ) : yWP G i (zQ G i μ P) μ.1 pc ls [yo o] (zC σ μ) cs sl := fun ω h => yr_reta hd hr hrt hc hs ⟨σ, h, hP⟩
theorem zr_retv (hd : decode (yMb i) pc = .ok (.return_, 1)) (hr : yMr i = none) (hc : cs ≤ (yMm i).cells) (hs : sl ≤ (yMm i).slots) (hP : P none σ) : yWP G i (zQ G i μ P) μ.1 pc ls [] (zC σ μ) cs sl := fun ω h => yr_retv hd hr hc hs ⟨σ, h, hP⟩
variable {sh0 : Nat → Option ySh}
theorem zr_tgeti {t f ix : Nat} {ref host : String} (hd : decode (yMb i) pc = .ok (.getfield ix, 3)) (ht : t < 6) (site : ySF (yMy i).cls ix ref host 1 f = true) (hf : (decide (2 ≤ f) && decide (f < 12) && decide (f ≠ 4)) = true) (hk : yfk 1 f = false) (k : yWP G i Qf sh0 (pc + 3) ls (yi (zth σ f t) :: st) (zC σ μ) cs sl) : yWP G i Qf sh0 pc ls (yr (10 + t) :: st) (zC σ μ) cs sl := by
  intro ω h
  simp only [Bool.and_eq_true, decide_eq_true_eq] at hf
  refine yr_geti hd (h.sT ht) site hk ?_
  rw [(h.th ht).2.2.2.1 f hf.1.1 hf.1.2 hf.2]
  exact k ω h
theorem zr_tnum {t ix : Nat} {ref host : String} (hd : decode (yMb i) pc = .ok (.getfield ix, 3)) (ht : t < 6) (site : ySF (yMy i).cls ix ref host 1 0 = true) (k : yWP G i Qf sh0 (pc + 3) ls (yi (nI t) :: st) (zC σ μ) cs sl) : yWP G i Qf sh0 pc ls (yr (10 + t) :: st) (zC σ μ) cs sl := by
  intro ω h
  refine yr_geti hd (h.sT ht) site rfl ?_
  rw [(h.th ht).1]
  exact k ω h
theorem zr_tended {t ix : Nat} {ref host : String} (hd : decode (yMb i) pc = .ok (.getfield ix, 3)) (ht : t < 6) (site : ySF (yMy i).cls ix ref host 1 1 = true) (k : yWP G i Qf sh0 (pc + 3) ls (yr (20 + t) :: st) (zC σ μ) cs sl) : yWP G i Qf sh0 pc ls (yr (10 + t) :: st) (zC σ μ) cs sl := by
  intro ω h
  refine yr_getr hd (h.sT ht) site rfl ?_
  rw [(h.th ht).2.1]
  exact k ω h
theorem zr_tplace {t ix : Nat} {ref host : String} (hd : decode (yMb i) pc = .ok (.getfield ix, 3)) (ht : t < 6) (site : ySF (yMy i).cls ix ref host 1 4 = true) (k : yWP G i Qf sh0 (pc + 3) ls (yo ((zwh σ t).map kP) :: st) (zC σ μ) cs sl) : yWP G i Qf sh0 pc ls (yr (10 + t) :: st) (zC σ μ) cs sl := by
  intro ω h
  refine yr_getr hd (h.sT ht) site rfl ?_
  rw [(h.th ht).2.2.1]
  exact k ω h
theorem zr_tputi {t f ix : Nat} {ref host : String} {x : Int32} (hd : decode (yMb i) pc = .ok (.putfield ix, 3)) (ht : t < 6) (site : ySF (yMy i).cls ix ref host 1 f = true) (hf : (decide (2 ≤ f) && decide (f ≠ 4) && decide ((yT1 f).2.2.2 = false)) = true) (hk : yfk 1 f = false) (hn : narrow (yft 1 f) (.int x) = .int x ∧ fits (yft 1 f) (.int x) = true) (k : yWP G i Qf sh0 (pc + 3) ls st (zC (zsth σ f t x) μ) cs sl) : yWP G i Qf sh0 pc ls (yi x :: yr (10 + t) :: st) (zC σ μ) cs sl := by
  intro ω h
  simp only [Bool.and_eq_true, decide_eq_true_eq] at hf
  exact yr_puti hd (h.sT ht) site rfl hf.2 hk hn (k _ (zC_sth h ht hf.1.1 hf.1.2))
theorem zr_tputp {t ix : Nat} {ref host : String} {x : Option Nat} (hd : decode (yMb i) pc = .ok (.putfield ix, 3)) (ht : t < 6) (site : ySF (yMy i).cls ix ref host 1 4 = true) (hx : ∀ o, x = some o → o < zn σ) (k : yWP G i Qf sh0 (pc + 3) ls st (zC (zswh σ t x) μ) cs sl) : yWP G i Qf sh0 pc ls (yo (x.map kP) :: yr (10 + t) :: st) (zC σ μ) cs sl := by
  intro ω h
  refine yr_putr hd (h.sT ht) site rfl rfl rfl (fun ad => ?_) (k _ (zC_swh h ht hx))
  cases x with
  | none => exact ⟨rfl, rfl⟩
  | some o => exact ⟨rfl, rfl⟩
theorem zr_eld {t q : Nat} {x : Int32} (hd : decode (yMb i) pc = .ok (.iaload, 1)) (ht : t < 6) (hx : x = nI q) (hq : q < 5) (k : yWP G i Qf sh0 (pc + 1) ls (yi (zen σ t q) :: st) (zC σ μ) cs sl) : yWP G i Qf sh0 pc ls (yi x :: yr (20 + t) :: st) (zC σ μ) cs sl := by
  intro ω h
  refine yr_iald (n := 5) (j := q) hd (h.sE ht) (by rw [hx]; exact nI_pos (by omega)) (by rw [hx]; exact nI_clamp (by omega)) hq ?_
  rw [(h.th ht).2.2.2.2.1 q hq]
  exact k ω h
theorem zr_est {t q : Nat} {x z : Int32} (hd : decode (yMb i) pc = .ok (.iastore, 1)) (ht : t < 6) (hx : x = nI q) (hq : q < 5) (k : yWP G i Qf sh0 (pc + 1) ls st (zC (zsen σ t q z) μ) cs sl) : yWP G i Qf sh0 pc ls (yi z :: yi x :: yr (20 + t) :: st) (zC σ μ) cs sl := by
  intro ω h
  exact yr_iast (n := 5) (j := q) hd (h.sE ht) (by rw [hx]; exact nI_pos (by omega)) (by rw [hx]; exact nI_clamp (by omega)) hq (k _ (zC_sen h ht))
end ZT
end
section
/-! calls in the words of the state -/
theorem ysel_priv {C : String} {y : MethodName} {s : State} {args : Array Value} {c : ClassId} (hc : s.vm.findClass C = some c) (hpriv : (Cond.privateMethod y).before args s = true) (hinst : (Cond.instanceMethod y).before args s = true) (hsame : (Cond.sameMethod y.cls y.cls y.name y.desc).before args s = true) : (Cond.selects C y y).before args s = true := by
  obtain ⟨cn, ck, r1, hcn, hck, hni, hf, hn1⟩ := Cond.sameMethod_found hsame
  obtain ⟨mk, methM, hnamed, hmethM, -, -⟩ := Cond.instanceMethod_spec hinst
  cases Option.some.inj (hn1.symm.trans hnamed)
  have hcls : r1.cls = cn := Option.some.inj ((findClass_of_methodNamed hnamed).symm.trans hcn)
  have hsel : selectMethod {} s.vm c r1 = .method r1 := selectMethod_private hmethM (Cond.privateMethod_at hpriv r1 methM hnamed hmethM)
  have hnamed' : s.methodNamed? y = some r1 := hnamed
  simp only [Cond.before, Cond.holds, Cond.value, hc, hf, hnamed', hsel, hcls, hck]
  simp; exact hni
section YU
variable {G : yG} {i : yM} {pc : Nat} {ls : List (Option yV)} {ω : yW} {cs sl : Nat} {P : Option yV → yW → Prop}
theorem yrunU2 {i' : yM} {k ci : Nat} {As rest : List yV} {ix : Nat} {r : vw_C} {x : MethodName} {owner : String} (hd : decode (yMb i) pc = .ok (.invokevirtual ix, 3)) (hct : yCT G i' (yr k :: As) ω P yNX) (hsh : ω.1 k = some (.inl ci)) (hr : ycl[ci]? = some r) (hck : yck (yMm i) i' As.length = true) (hno : owner ≠ "java/lang/invoke/MethodHandle" ∧ owner ≠ "java/lang/invoke/VarHandle") (hpx : (parseMethodDescriptor x.desc).map (fun d => d.parameters.length) = some As.length) (hcode : ycode i' ∈ lw_tbl) (hini : Cond.initialized (yMy i').cls ∈ lw_tbl) (hl : Cond.methodLink (yMy i).cls ix x ∈ lw_tbl) (hsame : Cond.sameMethod x.cls owner x.name x.desc ∈ lw_tbl) (hdecl : ∀ s : State, yGx s → va_Decl s ⟨owner, x.name, x.desc⟩) (hin : Cond.instanceMethod (yMy i') ∈ lw_tbl) (hsel : ∀ (s : State) (args : Array Value) (c : ClassId), yGx s → s.vm.findClass r.1 = some c → (Cond.selects r.1 x (yMy i')).before args s = true) (hrest : rest.length ≤ 8) (hcat : ∀ v ∈ rest, ∀ ad, (ycv ad v).category = 1) (hc : cs + (yMm i').cells ≤ (yMm i).cells) (hs : sl + (yMm i').slots ≤ (yMm i).slots) : yRun G i i' pc ls (As.reverse ++ yr k :: rest) rest (yr k :: As) ω cs sl P yNX := by
  intro p e s m args below meth c ad H locs lsA C hS hH hL
  have hg := C.2.2.2.2.2.2.2.1
  unfold yck at hck
  simp only [Bool.and_eq_true, decide_eq_true_eq] at hck
  obtain ⟨⟨⟨⟨h1, h2⟩, -⟩, -⟩, -⟩ := hck
  refine yRunN (va_runU (Ts := yTs) (C := r.1) (As := As.map (ycv ad)) ⟨C.1, C.2.1, C.2.2.2.1, C.2.2.2.2.1, hg.hts args⟩ (yMetN hct ad) ⟨⟨rfl, rfl, h1, h2, yws hg hcode, List.mem_singleton_self _⟩, hg _ hcode rfl args, hg _ hini rfl args, hno, fun sig h => by rw [h] at hpx; exact (Option.some.inj hpx).symm, hg _ hl rfl args, hg _ hsame rfl args, hdecl s hg, hsel s args _ hg (C.2.2.2.2.2.2.2.2.1.1 ci r hr).2.1, hg _ hin rfl args⟩ ⟨yPc_blind, yrecv C hH hsh hr, fun U hU hW => yPc_at (As := yr k :: As) C hS hH hU hW⟩ rfl (by rw [List.length_map]) hL.size (by rw [List.map_append, List.map_reverse, List.map_cons]; rfl) (by show 2 * 0 + _ ≤ 8; have := ycat_le (ad := ad) rest hrest hcat; omega) hd ⟨hc, hs⟩)
end YU
/-- the class of a place by its kind -/
def zcl (c : Nat) : vw_C := match c with
  | 0 => (yC3, yT3, 7)
  | 1 => (yC4, yT4, 7)
  | 2 => (yC5, yT5, 4)
  | 3 => (yC6, yT6, 4)
  | 4 => (yC7, yT7, 5)
  | _ => (yC8, yT8, 5)
theorem zcl_ok : ∀ c, c < 6 → ycl[3 + c]? = some (zcl c) := by
  intro c hc
  rcases (show c = 0 ∨ c = 1 ∨ c = 2 ∨ c = 3 ∨ c = 4 ∨ c = 5 by omega) with rfl | rfl | rfl | rfl | rfl | rfl <;> rfl
/-- a word of calls on a place: what the tables must say -/
def zUF (i i' : yM) (ix n : Nat) (x : MethodName) (owner C : String) (priv : Bool) : Bool := yck (yMm i) i' n && decide (owner ≠ "java/lang/invoke/MethodHandle") && decide (owner ≠ "java/lang/invoke/VarHandle") && decide ((parseMethodDescriptor x.desc).map (fun d => d.parameters.length) = some n) && decide (Cond.initialized (yMy i').cls ∈ lw_tbl) && decide (Cond.methodLink (yMy i).cls ix x ∈ lw_tbl) && decide (Cond.sameMethod x.cls owner x.name x.desc ∈ lw_tbl) && decide (Cond.instanceMethod (yMy i') ∈ lw_tbl) && (if priv = true then decide (x = yMy i') && decide (Cond.privateMethod x ∈ lw_tbl) && decide (x.cls = owner) else decide (Cond.selects C x (yMy i') ∈ lw_tbl))
section ZU
variable {G : yG} {i : yM} {pc : Nat} {ls : List (Option yV)} {σ : zS} {μ : yW} {cs sl : Nat} {P : Option yV → zS → Prop}
/-- a method of a place, by what its kind selects -/
theorem zrunP {sel : Nat → yM} {o : Nat} {As rest : List yV} {ix : Nat} {x : MethodName} {owner : String} {priv : Bool} (hd : decode (yMb i) pc = .ok (.invokevirtual ix, 3)) (ho : o < zn σ) (hct : zCT G (sel (zkd σ o)) (yr (kP o) :: As) σ μ P) (n : Nat) (hn : As.length = n) (hf : ∀ c, c < 6 → zUF i (sel c) ix n x owner (zcl c).1 priv = true) (hcode : ∀ c, c < 6 → ycode (sel c) ∈ lw_tbl) (hdecl : ∀ s : State, yGx s → va_Decl s ⟨owner, x.name, x.desc⟩) (hcell : ∀ c, c < 6 → (yMm (sel c)).cells = 0 ∧ (yMm (sel c)).slots = 0) (hrest : rest.length ≤ 8) (hcat : ∀ v ∈ rest, ∀ ad, (ycv ad v).category = 1) (hc : cs ≤ (yMm i).cells) (hs : sl ≤ (yMm i).slots) :
    ∀ ω, zC σ μ ω → yRun G i (sel (zkd σ o)) pc ls (As.reverse ++ yr (kP o) :: rest) rest (yr (kP o) :: As) ω cs sl (zP μ P) yNX := by
  intro ω h
  subst hn
  have hk := (h.1.2.2.2.2.2 o ho).1
  have h9 := hf _ hk
  unfold zUF at h9
  simp only [Bool.and_eq_true, decide_eq_true_eq] at h9
  obtain ⟨⟨⟨⟨⟨⟨⟨⟨g1, g2⟩, g3⟩, g4⟩, g5⟩, g6⟩, g7⟩, g8⟩, g9⟩ := h9
  refine yrunU2 (x := x) (owner := owner) hd (hct ω h) (h.sP ho) (zcl_ok _ hk) g1 ⟨g2, g3⟩ g4 (hcode _ hk) g5 g6 g7 hdecl g8 ?_ hrest hcat (by rw [(hcell _ hk).1]; exact hc) (by rw [(hcell _ hk).2]; exact hs)
  intro s args c hg hfc
  cases priv with
  | false =>
    simp only [Bool.false_eq_true, if_false, decide_eq_true_eq] at g9
    exact hg _ g9 rfl args
  | true =>
    simp only [if_true, Bool.and_eq_true, decide_eq_true_eq] at g9
    obtain ⟨⟨e1, e2⟩, e3⟩ := g9
    rw [← e1]
    rw [← e3] at g7
    exact ysel_priv hfc (hg _ e2 rfl args) (by rw [e1]; exact hg _ g8 rfl args) (hg _ g7 rfl args)
/-- a method of an object of a class of its own (threads, rows, the yard) -/
def zVF (i i' : yM) (ix n : Nat) (C : String) : Bool := yck (yMm i) i' n && decide (Cond.initialized (yMy i').cls ∈ lw_tbl) && decide (Cond.methodLink (yMy i).cls ix (yMy i') ∈ lw_tbl) && decide (Cond.instanceMethod (yMy i') ∈ lw_tbl) && decide (Cond.selects C (yMy i') (yMy i') ∈ lw_tbl)
theorem zrunV {i' : yM} {k ci : Nat} {r : vw_C} {As rest : List yV} {ix : Nat} (hd : decode (yMb i) pc = .ok (.invokevirtual ix, 3)) (hsh : ∀ ω, zC σ μ ω → ω.1 k = some (.inl ci)) (hr : ycl[ci]? = some r) (hct : zCT G i' (yr k :: As) σ μ P) (n : Nat) (hn : As.length = n) (hf : zVF i i' ix n r.1 = true) (hcode : ycode i' ∈ lw_tbl) (hrest : rest.length ≤ 8) (hcat : ∀ v ∈ rest, ∀ ad, (ycv ad v).category = 1) (hc : cs + (yMm i').cells ≤ (yMm i).cells) (hs : sl + (yMm i').slots ≤ (yMm i).slots) :
    ∀ ω, zC σ μ ω → yRun G i i' pc ls (As.reverse ++ yr k :: rest) rest (yr k :: As) ω cs sl (zP μ P) yNX := by
  intro ω h
  subst hn
  unfold zVF at hf
  simp only [Bool.and_eq_true, decide_eq_true_eq] at hf
  obtain ⟨⟨⟨⟨g1, g2⟩, g3⟩, g4⟩, g5⟩ := hf
  exact yrunV hd (hct ω h) (hsh ω h) hr g1 hcode g2 g3 g4 g5 hrest hcat hc hs
/-- a static method -/
def zSF (i i' : yM) (ix n : Nat) : Bool := yck (yMm i) i' n && decide (Cond.initialized (yMy i').cls ∈ lw_tbl) && decide (Cond.methodLink (yMy i).cls ix (yMy i') ∈ lw_tbl) && decide (Cond.static (yMy i') ∈ lw_tbl)
theorem zrunS {i' : yM} {As rest : List yV} {ix : Nat} (hd : decode (yMb i) pc = .ok (.invokestatic ix, 3)) (hct : zCT G i' As σ μ P) (n : Nat) (hn : As.length = n) (hf : zSF i i' ix n = true) (hcode : ycode i' ∈ lw_tbl) (hrest : rest.length ≤ 8) (hcat : ∀ v ∈ rest, ∀ ad, (ycv ad v).category = 1) (hc : cs + (yMm i').cells ≤ (yMm i).cells) (hs : sl + (yMm i').slots ≤ (yMm i).slots) :
    ∀ ω, zC σ μ ω → yRun G i i' pc ls (As.reverse ++ rest) rest As ω cs sl (zP μ P) yNX := by
  intro ω h
  subst hn
  unfold zSF at hf
  simp only [Bool.and_eq_true, decide_eq_true_eq] at hf
  obtain ⟨⟨⟨g1, g2⟩, g3⟩, g4⟩ := hf
  exact yrunS hd (hct ω h) g1 hcode g2 g3 g4 hrest hcat hc hs
theorem zrunSN {i' : yM} {As rest : List yV} {ix : Nat} {host : String} (hd : decode (yMb i) pc = .ok (.invokestatic ix, 3)) (hct : zCT G i' As σ μ P) (n : Nat) (hn : As.length = n) (hf : (yck (yMm i) i' n && decide (Cond.initialized (yMy i').cls ∈ lw_tbl) && decide (Cond.methodLinkNest (yMy i).cls ix (yMy i') host ∈ lw_tbl) && decide (Cond.static (yMy i') ∈ lw_tbl)) = true) (hcode : ycode i' ∈ lw_tbl) (hrest : rest.length ≤ 8) (hcat : ∀ v ∈ rest, ∀ ad, (ycv ad v).category = 1) (hc : cs + (yMm i').cells ≤ (yMm i).cells) (hs : sl + (yMm i').slots ≤ (yMm i).slots) :
    ∀ ω, zC σ μ ω → yRun G i i' pc ls (As.reverse ++ rest) rest As ω cs sl (zP μ P) yNX := by
  intro ω h
  subst hn
  simp only [Bool.and_eq_true, decide_eq_true_eq] at hf
  obtain ⟨⟨⟨g1, g2⟩, g3⟩, g4⟩ := hf
  exact yrunSN hd (hct ω h) g1 hcode g2 g3 g4 hrest hcat hc hs
end ZU
end
section
/-! threads: their methods -/
def ync (v : yV) : Bool := match v with
  | .inr (.inr _) => false
  | _ => true
theorem ycat_of {l : List yV} (h : l.all ync = true) : ∀ v ∈ l, ∀ ad, (ycv ad v).category = 1 := by
  intro v hv ad
  have h1 := List.all_eq_true.mp h v hv
  rcases v with x | (o | z)
  · rfl
  · cases o with
    | none => rfl
    | some a => rfl
  · cases h1
def zbegin (σ : zS) (t : Nat) (a g : Int32) : zS := zsth (zsth (zsth (zsth σ 8 t a) 9 t g) 3 t 1) 11 t 0
def zstay (σ : zS) (t : Nat) (x : Option Nat) (s p : Int32) : zS := zsth (zsth (zswh σ t x) 2 t s) 7 t p
def zend (σ : zS) (t h : Nat) : zS := zsen (zsth (zsth (zsth (zswh σ t none) 2 t 0) 7 t (-1)) 3 t (nI h)) t h (zen σ t h + 1)
def zlose (σ : zS) (t : Nat) : zS := if zth σ 7 t ≤ 0 then σ else zsth σ 7 t (zth σ 7 t - 1)

set_option maxHeartbeats 4000000 in
set_option maxRecDepth 20000 in
theorem c_T_begin {G : yG} {μ : yW} {σ : zS} {t : Nat} {a g : Int32} (ht : t < 6) : zCT G m_T_begin [yr (10 + t), yi a, yi g] σ μ (fun r σ' => r = none ∧ σ' = zbegin σ t a g) := by
  refine zCT_of (by decide) rfl (ycat_of rfl) (Nat.le_of_ble_eq_true rfl) ?_
  refine zr_aload_n d_T_begin_0 rfl ?_
  refine zr_iload_n d_T_begin_1 rfl ?_
  refine zr_tputi d_T_begin_2 (by first | assumption | omega) sf_T_begin_2 rfl rfl ⟨rfl, rfl⟩ ?_
  refine zr_aload_n d_T_begin_5 rfl ?_
  refine zr_iload_n d_T_begin_6 rfl ?_
  refine zr_tputi d_T_begin_7 (by first | assumption | omega) sf_T_begin_7 rfl rfl ⟨rfl, rfl⟩ ?_
  refine zr_aload_n d_T_begin_10 rfl ?_
  refine zr_iconst (v := 1) d_T_begin_11 (by decide) ?_
  refine zr_tputi d_T_begin_12 (by first | assumption | omega) sf_T_begin_12 rfl rfl ⟨rfl, rfl⟩ ?_
  refine zr_aload_n d_T_begin_15 rfl ?_
  refine zr_iconst (v := 0) d_T_begin_16 (by decide) ?_
  refine zr_tputi d_T_begin_17 (by first | assumption | omega) sf_T_begin_17 rfl rfl ⟨rfl, rfl⟩ ?_
  exact zr_retv d_T_begin_20 rfl (by decide) (by decide) ⟨rfl, rfl⟩

set_option maxHeartbeats 4000000 in
set_option maxRecDepth 20000 in
theorem c_T_stay {G : yG} {μ : yW} {σ : zS} {t o : Nat} {s p : Int32} (ht : t < 6) (ho : o < zn σ) : zCT G m_T_stay [yr (10 + t), yr (kP o), yi s, yi p] σ μ (fun r σ' => r = none ∧ σ' = zstay σ t (some o) s p) := by
  refine zCT_of (by decide) rfl (ycat_of rfl) (Nat.le_of_ble_eq_true rfl) ?_
  refine zr_aload_n d_T_stay_0 rfl ?_
  refine zr_aload_n d_T_stay_1 rfl ?_
  refine zr_tputp (x := some o) d_T_stay_2 (by first | assumption | omega) sf_T_stay_2 (fun _ h => by cases h; exact ho) ?_
  refine zr_aload_n d_T_stay_5 rfl ?_
  refine zr_iload_n d_T_stay_6 rfl ?_
  refine zr_tputi d_T_stay_7 (by first | assumption | omega) sf_T_stay_7 rfl rfl ⟨rfl, rfl⟩ ?_
  refine zr_aload_n d_T_stay_10 rfl ?_
  refine zr_iload_n d_T_stay_11 rfl ?_
  refine zr_tputi d_T_stay_12 (by first | assumption | omega) sf_T_stay_12 rfl rfl ⟨rfl, rfl⟩ ?_
  exact zr_retv d_T_stay_15 rfl (by decide) (by decide) ⟨rfl, rfl⟩

set_option maxHeartbeats 4000000 in
set_option maxRecDepth 20000 in
theorem c_T_end {G : yG} {μ : yW} {σ : zS} {t h : Nat} (ht : t < 6) (hh : h < 5) : zCT G m_T_end [yr (10 + t), yi (nI h)] σ μ (fun r σ' => r = none ∧ σ' = zend σ t h) := by
  refine zCT_of (by decide) rfl (ycat_of rfl) (Nat.le_of_ble_eq_true rfl) ?_
  refine zr_aload_n d_T_end_0 rfl ?_
  refine zr_null d_T_end_1 ?_
  refine zr_tputp (x := none) d_T_end_2 (by first | assumption | omega) sf_T_end_2 (fun _ h => nomatch h) ?_
  refine zr_aload_n d_T_end_5 rfl ?_
  refine zr_iconst (v := 0) d_T_end_6 (by decide) ?_
  refine zr_tputi d_T_end_7 (by first | assumption | omega) sf_T_end_7 rfl rfl ⟨rfl, rfl⟩ ?_
  refine zr_aload_n d_T_end_10 rfl ?_
  refine zr_iconst (v := -1) d_T_end_11 (by decide) ?_
  refine zr_tputi d_T_end_12 (by first | assumption | omega) sf_T_end_12 rfl rfl ⟨rfl, rfl⟩ ?_
  refine zr_aload_n d_T_end_15 rfl ?_
  refine zr_iload_n d_T_end_16 rfl ?_
  refine zr_tputi d_T_end_17 (by first | assumption | omega) sf_T_end_17 rfl rfl ⟨rfl, rfl⟩ ?_
  refine zr_aload_n d_T_end_20 rfl ?_
  refine zr_tended d_T_end_21 (by first | assumption | omega) sf_T_end_21 ?_
  refine zr_iload_n d_T_end_24 rfl ?_
  refine zr_dup2 d_T_end_25 (fun _ => rfl) (fun _ => rfl) ?_
  refine zr_eld d_T_end_26 ht rfl hh ?_
  refine zr_iconst (v := 1) d_T_end_27 (by decide) ?_
  refine zr_iadd d_T_end_28 ?_
  refine zr_est d_T_end_29 ht rfl hh ?_
  exact zr_retv d_T_end_30 rfl (by decide) (by decide) ⟨rfl, rfl⟩

theorem zth_same {σ : zS} {f t : Nat} {x : Int32} : zth (zsth σ f t x) f t = x := yu_same _ _ _ _
theorem zth_ne {σ : zS} {f t g u : Nat} {x : Int32} (h : g ≠ f ∨ u ≠ t) : zth (zsth σ f t x) g u = zth σ g u := yu_ne _ _ h

set_option maxHeartbeats 4000000 in
set_option maxRecDepth 20000 in
theorem c_T_losesPatience {G : yG} {μ : yW} {σ : zS} {t : Nat} (ht : t < 6) : zCT G m_T_losesPatience [yr (10 + t)] σ μ (fun r σ' => (¬ 0 < zth σ 7 t ∧ r = some (yi 0) ∧ σ' = σ) ∨ (0 < zth σ 7 t ∧ σ' = zsth σ 7 t (zth σ 7 t - 1) ∧ r = some (yi (if zth σ 7 t - 1 = 0 then 1 else 0)))) := by
  refine zCT_of (by decide) rfl (ycat_of rfl) (Nat.le_of_ble_eq_true rfl) ?_
  refine zr_aload_n d_T_losesPatience_0 rfl ?_
  refine zr_tgeti d_T_losesPatience_1 (by first | assumption | omega) sf_T_losesPatience_1 rfl rfl ?_
  refine zr_if_gt (tgt := 9) d_T_losesPatience_4 (by decide) (fun c4 => ?_) (fun c4 => ?_)
  · skip
    refine zr_aload_n d_T_losesPatience_9 rfl ?_
    refine zr_dup d_T_losesPatience_10 (fun _ => rfl) ?_
    refine zr_tgeti d_T_losesPatience_11 (by first | assumption | omega) sf_T_losesPatience_11 rfl rfl ?_
    refine zr_iconst (v := 1) d_T_losesPatience_14 (by decide) ?_
    refine zr_isub d_T_losesPatience_15 ?_
    refine zr_tputi d_T_losesPatience_16 (by first | assumption | omega) sf_T_losesPatience_16 rfl rfl ⟨rfl, rfl⟩ ?_
    refine zr_aload_n d_T_losesPatience_19 rfl ?_
    refine zr_tgeti d_T_losesPatience_20 (by first | assumption | omega) sf_T_losesPatience_20 rfl rfl ?_
    refine zr_if_ne (tgt := 30) d_T_losesPatience_23 (by decide) (fun c23 => ?_) (fun c23 => ?_)
    · skip
      refine zr_iconst (v := 0) d_T_losesPatience_30 (by decide) ?_
      refine zr_retz d_T_losesPatience_31 rfl rfl (by decide) (by decide) ?_
      first | exact Or.inl ⟨c4, rfl, rfl⟩ | (rw [zth_same] at c23; exact Or.inr ⟨c4, rfl, by simp [c23]⟩)
    · skip
      refine zr_iconst (v := 1) d_T_losesPatience_26 (by decide) ?_
      refine zr_goto (tgt := 31) d_T_losesPatience_27 (by decide) ?_
      refine zr_retz d_T_losesPatience_31 rfl rfl (by decide) (by decide) ?_
      first | exact Or.inl ⟨c4, rfl, rfl⟩ | (rw [zth_same] at c23; exact Or.inr ⟨c4, rfl, by simp [c23]⟩)
  · skip
    refine zr_iconst (v := 0) d_T_losesPatience_7 (by decide) ?_
    refine zr_retz d_T_losesPatience_8 rfl rfl (by decide) (by decide) ?_
    first | exact Or.inl ⟨c4, rfl, rfl⟩ | (rw [zth_same] at c23; exact Or.inr ⟨c4, rfl, by simp [c23]⟩)

set_option maxHeartbeats 4000000 in
set_option maxRecDepth 20000 in
theorem c_T_takesAgain {G : yG} {μ : yW} {σ : zS} {t : Nat} (ht : t < 6) : zCT G m_T_takesAgain [yr (10 + t)] σ μ (fun r σ' => r = some (yi (if zth σ 2 t = 1 ∧ zth σ 8 t = 2 then 1 else 0)) ∧ σ' = σ) := by
  refine zCT_of (by decide) rfl (ycat_of rfl) (Nat.le_of_ble_eq_true rfl) ?_
  refine zr_aload_n d_T_takesAgain_0 rfl ?_
  refine zr_tgeti d_T_takesAgain_1 (by first | assumption | omega) sf_T_takesAgain_1 rfl rfl ?_
  refine zr_iconst (v := 1) d_T_takesAgain_4 (by decide) ?_
  refine zr_icmp_ne (tgt := 20) d_T_takesAgain_5 (by decide) (fun c5 => ?_) (fun c5 => ?_)
  · skip
    refine zr_iconst (v := 0) d_T_takesAgain_20 (by decide) ?_
    refine zr_retz d_T_takesAgain_21 rfl rfl (by decide) (by decide) ?_
    simp [*]
  · skip
    refine zr_aload_n d_T_takesAgain_8 rfl ?_
    refine zr_tgeti d_T_takesAgain_9 (by first | assumption | omega) sf_T_takesAgain_9 rfl rfl ?_
    refine zr_iconst (v := 2) d_T_takesAgain_12 (by decide) ?_
    refine zr_icmp_ne (tgt := 20) d_T_takesAgain_13 (by decide) (fun c13 => ?_) (fun c13 => ?_)
    · skip
      refine zr_iconst (v := 0) d_T_takesAgain_20 (by decide) ?_
      refine zr_retz d_T_takesAgain_21 rfl rfl (by decide) (by decide) ?_
      simp [*]
    · skip
      refine zr_iconst (v := 1) d_T_takesAgain_16 (by decide) ?_
      refine zr_goto (tgt := 21) d_T_takesAgain_17 (by decide) ?_
      refine zr_retz d_T_takesAgain_21 rfl rfl (by decide) (by decide) ?_
      simp [*]
end
section
/-! rows of threads -/
abbrev kR (j o : Nat) : Nat := kP o + 1 + 2 * j
def zrv (σ : zS) (j o : Nat) : Prop := o < zn σ ∧ (j = 0 ∨ (zkd σ o = 0 ∧ j < 3))
theorem zC.row {σ : zS} {μ ω : yW} {j o : Nat} (h : zC σ μ ω) (hv : zrv σ j o) : zR (zrw σ j o) ω (kR j o) ∧ ω.1 (kR j o) = some (.inl 2) ∧ ω.1 (kR j o + 1) = some (.inr (3, 6)) := by
  obtain ⟨ho, hj⟩ := hv
  have hp := h.pl ho
  have hs := h.1.2.2.2.2.2 o ho
  rcases hj with rfl | ⟨hk, hj⟩
  · exact ⟨hp.2.2.2.1, hs.2.2.2.2.1, hs.2.2.2.2.2.1⟩
  · have h0 := hp.2.2.2.2.1 hk
    have h1 := hs.2.2.2.2.2.2.1 hk
    rcases (show j = 0 ∨ j = 1 ∨ j = 2 by omega) with rfl | rfl | rfl
    · exact ⟨hp.2.2.2.1, hs.2.2.2.2.1, hs.2.2.2.2.2.1⟩
    · exact ⟨h0.2.2.2.2.1, h1.1, h1.2.1⟩
    · exact ⟨h0.2.2.2.2.2, h1.2.2.1, h1.2.2.2⟩
theorem zC_srw {σ : zS} {μ ω ω' : yW} {j o : Nat} {l : List Nat} (h : zC σ μ ω) (hv : zrv σ j o) (hsh : ω'.1 = ω.1) (ha : ∀ k, k ≠ kR j o → k ≠ kR j o + 1 → zAg ω ω' k) (hl : zR l ω' (kR j o)) : zC (zsrw σ j o l) μ ω' := by
  obtain ⟨ho, hj⟩ := hv
  have hj3 : j < 3 := by omega
  refine zC_place h ho hsh (fun k hk => ha k (by unfold kR kP at *; omega) (by unfold kR kP at *; omega)) rfl rfl rfl rfl (fun u hu => ⟨rfl, rfl, fun q => yu_ne _ _ (Or.inr hu), rfl, fun _ => rfl, fun _ => rfl, rfl⟩) (fun u => zSt.rf σ u) ?_
  obtain ⟨a1, a2, a3, a4, a5, a6, a7, a8, a9, a10, a11⟩ := h.pl ho
  have g0 := ha (kP o) (by unfold kR kP; omega) (by unfold kR kP; omega)
  have g7 := ha (kP o + 7) (by unfold kR kP; omega) (by unfold kR kP; omega)
  have hrw : ∀ q, q ≠ j → zrw (zsrw σ j o l) q o = zrw σ q o := fun q hq => yu_ne _ _ (Or.inl hq)
  have hrj : zrw (zsrw σ j o l) j o = l := yu_same _ _ _ _
  have hrow : ∀ q, q < 3 → zR (zrw σ q o) ω (kR q o) → zR (zrw (zsrw σ j o l) q o) ω' (kR q o) := by
    intro q hq hz
    by_cases e : q = j
    · rw [e, hrj]; exact hl
    · rw [hrw q e]
      exact hz.kept (ha _ (by unfold kR kP; omega) (by unfold kR kP; omega)) (ha _ (by unfold kR kP; omega) (by unfold kR kP; omega))
  refine ⟨by rw [g0.1]; exact a1, by rw [g0.1]; exact a2, by rw [g0.2]; exact a3, hrow 0 (by omega) a4, fun hk => ?_, fun hk => ?_, fun hk => by rw [g0.1]; exact a7 hk, fun hk => by rw [g0.1]; exact a8 hk, fun hk => by rw [g0.1]; exact a9 hk, fun hk => ?_, a11⟩
  · obtain ⟨b1, b2, b3, b4, b5, b6⟩ := a5 hk
    rw [g0.1, g0.2]
    exact ⟨b1, b2, b3, b4, hrow 1 (by omega) b5, hrow 2 (by omega) b6⟩
  · obtain ⟨b1, b2, b3, b4, b5⟩ := a6 hk
    rw [g0.1, g0.2, g7.1]
    exact ⟨b1, b2, b3, b4, b5⟩
  · obtain ⟨b1, b2, b3, b4⟩ := a10 hk
    rw [g0.1, g0.2, g7.1]
    exact ⟨b1, b2, b3, b4⟩
section ZRW
variable {G : yG} {i : yM} {Qf : yQT} {pc : Nat} {ls : List (Option yV)} {st : List yV} {σ : zS} {μ : yW} {cs sl : Nat} {sh0 : Nat → Option ySh} {j o : Nat}
theorem zr_rlen {ix : Nat} {ref host : String} (hd : decode (yMb i) pc = .ok (.getfield ix, 3)) (hv : zrv σ j o) (site : ySF (yMy i).cls ix ref host 2 1 = true) (k : yWP G i Qf sh0 (pc + 3) ls (yi (nI (zrw σ j o).length) :: st) (zC σ μ) cs sl) : yWP G i Qf sh0 pc ls (yr (kR j o) :: st) (zC σ μ) cs sl := by
  intro ω h
  refine yr_geti hd (h.row hv).2.1 site rfl ?_
  rw [(h.row hv).1.2.2.1]
  exact k ω h
theorem zr_rthr {ix : Nat} {ref host : String} (hd : decode (yMb i) pc = .ok (.getfield ix, 3)) (hv : zrv σ j o) (site : ySF (yMy i).cls ix ref host 2 0 = true) (k : yWP G i Qf sh0 (pc + 3) ls (yr (kR j o + 1) :: st) (zC σ μ) cs sl) : yWP G i Qf sh0 pc ls (yr (kR j o) :: st) (zC σ μ) cs sl := by
  intro ω h
  refine yr_getr hd (h.row hv).2.1 site rfl ?_
  rw [(h.row hv).1.2.2.2.1]
  exact k ω h
theorem zr_rld {q u : Nat} {x : Int32} (hd : decode (yMb i) pc = .ok (.aaload, 1)) (hv : zrv σ j o) (hx : x = nI q) (hu : (zrw σ j o)[q]? = some u) (k : yWP G i Qf sh0 (pc + 1) ls (yr (10 + u) :: st) (zC σ μ) cs sl) : yWP G i Qf sh0 pc ls (yi x :: yr (kR j o + 1) :: st) (zC σ μ) cs sl := by
  intro ω h
  have hr := (h.row hv).1
  obtain ⟨hq, hu⟩ := List.getElem?_eq_some_iff.mp hu
  refine yr_aald3 (n := 6) (j := q) hd (h.row hv).2.2 (by rw [hx]; exact nI_pos (by have := hr.1; omega)) (by rw [hx]; exact nI_clamp (by have := hr.1; omega)) (by have := hr.1; omega) ?_
  rw [hr.2.2.2.2 q hq, hu]
  exact k ω h
theorem zr_rst {q t : Nat} {x : Int32} (hd : decode (yMb i) pc = .ok (.aastore, 1)) (hv : zrv σ j o) (ht : t < 6) (hx : x = nI q) (hq : q < (zrw σ j o).length) (k : yWP G i Qf sh0 (pc + 1) ls st (zC (zsrw σ j o ((zrw σ j o).set q t)) μ) cs sl) : yWP G i Qf sh0 pc ls (yr (10 + t) :: yi x :: yr (kR j o + 1) :: st) (zC σ μ) cs sl := by
  intro ω h
  have hr := (h.row hv).1
  refine yr_aast (n := 6) (j := q) (tc := 3) hd (Or.inl rfl) rfl (h.row hv).2.2 (h.sT ht) rfl (Or.inl rfl) (by rw [hx]; exact nI_pos (by have := hr.1; omega)) (by rw [hx]; exact nI_clamp (by have := hr.1; omega)) (by have := hr.1; omega) (k _ ?_)
  refine zC_srw h hv rfl (fun k' _ h2 => zAg_sf ω _ _ _ h2) ⟨by rw [List.length_set]; exact hr.1, fun u hu => ?_, by rw [List.length_set]; exact hr.2.2.1, ?_, fun a ha => ?_⟩
  · rcases List.mem_or_eq_of_mem_set hu with h1 | h1
    · exact hr.2.1 u h1
    · rw [h1]; exact ht
  · exact (yu_ne _ _ (Or.inl (by omega))).trans hr.2.2.2.1
  · show yu _ _ _ _ _ _ = _
    rw [List.length_set] at ha
    by_cases e : a = q
    · subst e
      rw [yu_same, List.getElem_set_self]
    · rw [yu_ne _ _ (Or.inr e), List.getElem_set_ne (Ne.symm e)]
      exact hr.2.2.2.2 a ha
theorem zr_rcut {q ix : Nat} {x : Int32} {ref host : String} (hd : decode (yMb i) pc = .ok (.putfield ix, 3)) (hv : zrv σ j o) (site : ySF (yMy i).cls ix ref host 2 1 = true) (hx : x = nI q) (hq : q ≤ (zrw σ j o).length) (k : yWP G i Qf sh0 (pc + 3) ls st (zC (zsrw σ j o ((zrw σ j o).take q)) μ) cs sl) : yWP G i Qf sh0 pc ls (yi x :: yr (kR j o) :: st) (zC σ μ) cs sl := by
  intro ω h
  have hr := (h.row hv).1
  refine yr_puti hd (h.row hv).2.1 site rfl rfl rfl ⟨rfl, rfl⟩ (k _ ?_)
  refine zC_srw h hv rfl (fun k' h1 _ => zAg_si ω _ _ _ h1) ⟨by rw [List.length_take]; have := hr.1; omega, fun u hu => hr.2.1 u (List.mem_of_mem_take hu), ?_, hr.2.2.2.1, fun a ha => ?_⟩
  · show yu _ _ _ _ _ _ = _
    rw [yu_same, hx, List.length_take, Nat.min_eq_left hq]
  · rw [List.getElem_take]
    rw [List.length_take] at ha
    exact hr.2.2.2.2 a (by omega)
end ZRW
def zat (l : List Nat) (x : Int32) : Option Nat := if x < 0 then none else l[x.toNatClampNeg]?

set_option maxHeartbeats 4000000 in
set_option maxRecDepth 20000 in
theorem c_R_at {G : yG} {μ : yW} {σ : zS} {j o : Nat} {x : Int32} (hv : zrv σ j o) (h6 : (zrw σ j o).length ≤ 6) : zCT G m_R_at [yr (kR j o), yi x] σ μ (fun r σ' => r = some (yo ((zat (zrw σ j o) x).map (10 + ·))) ∧ σ' = σ) := by
  refine zCT_of (by decide) rfl (ycat_of rfl) (Nat.le_of_ble_eq_true rfl) ?_
  refine zr_iload_n d_R_at_0 rfl ?_
  refine zr_if_lt (tgt := 12) d_R_at_1 (by decide) (fun c1 => ?_) (fun c1 => ?_)
  · skip
    refine zr_null d_R_at_12 ?_
    refine zr_goto (tgt := 22) d_R_at_13 (by decide) ?_
    refine zr_reta d_R_at_22 rfl (Or.inl ⟨_, rfl⟩) (by decide) (by decide) ?_
    first
      | (refine ⟨?_, rfl⟩; simp [zat, c1]; done)
      | (refine ⟨?_, rfl⟩
         have hxc : x.toNatClampNeg = q := by rw [hx]; exact nI_clamp (by omega)
         simp [zat, c1, hxc, List.getElem?_eq_getElem hq]; done)
      | (refine ⟨?_, rfl⟩
         obtain ⟨q, hq, hx⟩ := nI_of c1
         rw [hx, nI_ltI hq (by omega)] at c9
         have hxc : x.toNatClampNeg = q := by rw [hx]; exact nI_clamp hq
         simp [zat, c1, hxc, List.getElem?_eq_none (Nat.not_lt.mp c9)]; done)
  · skip
    refine zr_iload_n d_R_at_4 rfl ?_
    refine zr_aload_n d_R_at_5 rfl ?_
    refine zr_rlen d_R_at_6 (by assumption) sf_R_at_6 ?_
    refine zr_icmp_lt (tgt := 16) d_R_at_9 (by decide) (fun c9 => ?_) (fun c9 => ?_)
    · skip
      refine zr_aload_n d_R_at_16 rfl ?_
      refine zr_rthr d_R_at_17 (by assumption) sf_R_at_17 ?_
      refine zr_iload_n d_R_at_20 rfl ?_
      obtain ⟨q, hq, hx⟩ : ∃ q, q < (zrw σ j o).length ∧ x = nI q := by
        obtain ⟨q, hq, hx⟩ := nI_of c1
        refine ⟨q, ?_, hx⟩
        rw [hx, nI_ltI hq (by omega)] at c9
        exact c9
      refine zr_rld d_R_at_21 hv hx (List.getElem?_eq_getElem hq) ?_
      refine zr_reta d_R_at_22 rfl (Or.inl ⟨_, rfl⟩) (by decide) (by decide) ?_
      first
        | (refine ⟨?_, rfl⟩; simp [zat, c1]; done)
        | (refine ⟨?_, rfl⟩
           have hxc : x.toNatClampNeg = q := by rw [hx]; exact nI_clamp (by omega)
           simp [zat, c1, hxc, List.getElem?_eq_getElem hq]; done)
        | (refine ⟨?_, rfl⟩
           obtain ⟨q, hq, hx⟩ := nI_of c1
           rw [hx, nI_ltI hq (by omega)] at c9
           have hxc : x.toNatClampNeg = q := by rw [hx]; exact nI_clamp hq
           simp [zat, c1, hxc, List.getElem?_eq_none (Nat.not_lt.mp c9)]; done)
    · skip
      refine zr_null d_R_at_12 ?_
      refine zr_goto (tgt := 22) d_R_at_13 (by decide) ?_
      refine zr_reta d_R_at_22 rfl (Or.inl ⟨_, rfl⟩) (by decide) (by decide) ?_
      first
        | (refine ⟨?_, rfl⟩; simp [zat, c1]; done)
        | (refine ⟨?_, rfl⟩
           have hxc : x.toNatClampNeg = q := by rw [hx]; exact nI_clamp (by omega)
           simp [zat, c1, hxc, List.getElem?_eq_getElem hq]; done)
        | (refine ⟨?_, rfl⟩
           obtain ⟨q, hq, hx⟩ := nI_of c1
           rw [hx, nI_ltI hq (by omega)] at c9
           have hxc : x.toNatClampNeg = q := by rw [hx]; exact nI_clamp hq
           simp [zat, c1, hxc, List.getElem?_eq_none (Nat.not_lt.mp c9)]; done)

set_option maxHeartbeats 4000000 in
set_option maxRecDepth 20000 in
theorem c_R_add {G : yG} {μ : yW} {σ : zS} {j o t : Nat} (hv : zrv σ j o) (ht : t < 6) (h5 : (zrw σ j o).length < 6) : zCT G m_R_add [yr (kR j o), yr (10 + t)] σ μ (fun r σ' => r = none ∧ σ' = zsrw σ j o (zrw σ j o ++ [t])) := by
  refine zCT_of (by decide) rfl (ycat_of rfl) (Nat.le_of_ble_eq_true rfl) ?_
  refine zr_aload_n d_R_add_0 rfl ?_
  refine zr_rlen d_R_add_1 (by assumption) sf_R_add_1 ?_
  refine zr_bipush (v := 6) d_R_add_4 (by decide) ?_
  refine zr_icmp_ge (tgt := 29) d_R_add_6 (by decide) (fun c6 => ?_) (fun c6 => ?_)
  · skip
    exact absurd c6 (by rw [show (6 : Int32) = nI 6 from rfl, nI_leI (by omega) (by omega)]; omega)
  · skip
    refine zr_aload_n d_R_add_9 rfl ?_
    refine zr_rthr d_R_add_10 (by assumption) sf_R_add_10 ?_
    refine zr_aload_n d_R_add_13 rfl ?_
    refine zr_rlen d_R_add_14 (by assumption) sf_R_add_14 ?_
    refine zr_aload_n d_R_add_17 rfl ?_
    intro ω h
    have hr := (h.row hv).1
    have hsh := (h.row hv).2.1
    refine yr_aast (n := 6) (j := (zrw σ j o).length) (tc := 3) d_R_add_18 (Or.inl rfl) rfl (h.row hv).2.2 (h.sT ht) rfl (Or.inl rfl) (nI_pos (by omega)) (nI_clamp (by omega)) h5 ?_
    refine yr_aload_n d_R_add_19 rfl ?_
    refine yr_dup d_R_add_20 (fun _ => rfl) ?_
    refine yr_geti d_R_add_21 hsh sf_R_add_21 rfl ?_
    refine yr_iconst (v := 1) d_R_add_24 (by decide) ?_
    refine yr_iadd d_R_add_25 ?_
    refine yr_puti d_R_add_26 hsh sf_R_add_26 rfl rfl rfl ⟨rfl, rfl⟩ ?_
    refine yr_retv d_R_add_29 rfl (by decide) (by decide) ⟨_, zC_srw h hv rfl (fun k' h1 h2 => ⟨(zAg_si _ _ _ _ h1).1, (zAg_sf ω _ _ _ h2).2⟩) ⟨by rw [List.length_append]; simp; omega, fun u hu => ?_, ?_, ?_, fun a ha => ?_⟩, rfl, rfl⟩
    · rcases List.mem_append.mp hu with h1 | h1
      · exact hr.2.1 u h1
      · rw [List.mem_singleton.mp h1]; exact ht
    · show yu _ _ _ _ _ _ = _
      rw [yu_same, List.length_append]
      show ω.2.1 (kR j o) 1 + 1 = _
      rw [hr.2.2.1, nI_1]; rfl
    · exact (yu_ne _ _ (Or.inl (by omega))).trans hr.2.2.2.1
    · show yu _ _ _ _ _ _ = _
      rw [List.length_append] at ha
      have ha' : a < (zrw σ j o).length + 1 := ha
      by_cases e : a = (zrw σ j o).length
      · subst e
        rw [yu_same, List.getElem_append_right (Nat.le_refl _)]
        simp
      · rw [yu_ne _ _ (Or.inr e), List.getElem_append_left (by omega)]
        exact hr.2.2.2.2 a (by omega)

theorem zrw_same {σ : zS} {j o : Nat} {l : List Nat} : zrw (zsrw σ j o l) j o = l := yu_same _ _ _ _
theorem yu_yu {α : Type} (S : Nat → Nat → α) (k i : Nat) (v w : α) : yu (yu S k i v) k i w = yu S k i w := by
  funext a b
  unfold yu
  split <;> rfl
theorem yu_self {α : Type} (S : Nat → Nat → α) (k i : Nat) : yu S k i (S k i) = S := by
  funext a b
  unfold yu
  split
  · rename_i h; rw [h.1, h.2]
  · rfl
theorem zsrw_twice {σ : zS} {j o : Nat} {l l' : List Nat} : zsrw (zsrw σ j o l) j o l' = zsrw σ j o l' := by
  show ((zth σ, zpl σ, zwh σ, zho σ, yu (yu (zrw σ) j o l) j o l', σ.2.2.2.2.2) : zS) = (zth σ, zpl σ, zwh σ, zho σ, yu (zrw σ) j o l', σ.2.2.2.2.2)
  rw [yu_yu]
theorem zsrw_self {σ : zS} {j o : Nat} : zsrw σ j o (zrw σ j o) = σ := by
  show ((zth σ, zpl σ, zwh σ, zho σ, yu (zrw σ) j o (zrw σ j o), σ.2.2.2.2.2) : zS) = σ
  rw [yu_self]
  rfl
set_option maxHeartbeats 4000000 in
set_option maxRecDepth 20000 in
theorem c_R_remove_loop {G : yG} {μ : yW} {σ : zS} {j o t : Nat} (hv : zrv σ j o) (ht : t < 6) (h6 : (zrw σ j o).length ≤ 6) (hall : ∀ u ∈ zrw σ j o, u < 6) : ∀ (m q kept : Nat) (cur : List Nat), m + q = (zrw σ j o).length → kept ≤ q → cur.length = (zrw σ j o).length → cur.take kept = ((zrw σ j o).take q).filter (fun u => u ≠ t) → cur.drop q = (zrw σ j o).drop q → (∀ u ∈ cur, u < 6) →
    yWP G m_R_remove (zQ G m_R_remove μ (fun r σ' => r = none ∧ σ' = zsrw σ j o ((zrw σ j o).filter (fun u => u ≠ t)))) μ.1 4 [some (yr (kR j o)), some (yr (10 + t)), some (yi (nI kept)), some (yi (nI q))] [] (zC (zsrw σ j o cur) μ) 0 0 := by
  intro m
  induction m with
  | zero =>
    intro q kept cur hm hkq hcl htk hdr hall2
    have hv2 : zrv (zsrw σ j o cur) j o := hv
    have hq : q = (zrw σ j o).length := by omega
    refine zr_iload_n d_R_remove_4 rfl ?_
    refine zr_aload_n d_R_remove_5 rfl ?_
    refine zr_rlen d_R_remove_6 (by assumption) sf_R_remove_6 ?_
    refine zr_icmp_ge (tgt := 43) d_R_remove_9 (by decide) (fun c9 => ?_) (fun c9 => ?_)
    · skip
      refine zr_aload_n d_R_remove_43 rfl ?_
      refine zr_iload_n d_R_remove_44 rfl ?_
      refine zr_rcut (q := kept) d_R_remove_45 hv2 sf_R_remove_45 rfl (by rw [zrw_same]; omega) ?_
      exact zr_retv d_R_remove_48 rfl (by decide) (by decide) ⟨rfl, by rw [zrw_same, zsrw_twice, htk, hq, List.take_length]⟩
    · exact absurd c9 (by rw [zrw_same, hcl, ← hq]; exact fun z => z (nI_le (Nat.le_refl _) (by omega)))
  | succ m ih =>
    intro q kept cur hm hkq hcl htk hdr hall2
    have hv2 : zrv (zsrw σ j o cur) j o := hv
    have hq : q < (zrw σ j o).length := by omega
    have hqc : q < cur.length := by omega
    have hcq : cur[q] = (zrw σ j o)[q] := by
      have h1 : (cur.drop q)[0]? = ((zrw σ j o).drop q)[0]? := by rw [hdr]
      rw [List.getElem?_drop, List.getElem?_drop, Nat.add_zero, List.getElem?_eq_getElem hqc, List.getElem?_eq_getElem hq] at h1
      exact Option.some.inj h1
    have hdr2 : cur.drop (q + 1) = (zrw σ j o).drop (q + 1) := by
      rw [← List.drop_drop, ← List.drop_drop, hdr]
    have htq : (zrw σ j o).take (q + 1) = (zrw σ j o).take q ++ [(zrw σ j o)[q]] := by rw [List.take_add_one, List.getElem?_eq_getElem hq]; rfl
    obtain ⟨u, hcu⟩ : ∃ u, cur[q]? = some u := ⟨_, List.getElem?_eq_getElem hqc⟩
    have hcu2 : cur[q] = u := by rw [List.getElem?_eq_getElem hqc] at hcu; exact Option.some.inj hcu
    have hu6 : u < 6 := by rw [← hcu2]; exact hall2 _ (List.getElem_mem hqc)
    rw [hcu2] at hcq
    refine zr_iload_n d_R_remove_4 rfl ?_
    refine zr_aload_n d_R_remove_5 rfl ?_
    refine zr_rlen d_R_remove_6 (by assumption) sf_R_remove_6 ?_
    refine zr_icmp_ge (tgt := 43) d_R_remove_9 (by decide) (fun c9 => absurd c9 (by rw [zrw_same, hcl]; exact nI_ge hq (by omega))) (fun c9 => ?_)
    refine zr_aload_n d_R_remove_12 rfl ?_
    refine zr_rthr d_R_remove_13 (by assumption) sf_R_remove_13 ?_
    refine zr_iload_n d_R_remove_16 rfl ?_
    refine zr_rld (q := q) (u := u) d_R_remove_17 hv2 rfl (by rw [zrw_same]; exact hcu) ?_
    refine zr_aload_n d_R_remove_18 rfl ?_
    refine zr_acmp_eq (tgt := 37) d_R_remove_19 (by decide) (fun ω h a ha => by
      rcases ha with ha | ha
      · cases ha; rw [h.sT hu6]; exact fun z => nomatch z
      · cases ha; rw [h.sT ht]; exact fun z => nomatch z) (fun c19 => ?_) (fun c19 => ?_)
    · skip
      refine zr_iinc (v := nI (q + 1)) d_R_remove_37 rfl (nI_1 q) (by decide) rfl ?_
      refine zr_goto (tgt := 4) d_R_remove_40 (by decide) ?_
      first
        | (refine ih (q + 1) kept cur (by omega) (by omega) hcl ?_ hdr2 hall2
           rw [htq, List.filter_append, htk]
           have e9 : (zrw σ j o)[q] = t := by rw [← hcq]; have := Option.some.inj c19; omega
           simp [e9]; done)
        | (refine ih (q + 1) (kept + 1) (cur.set kept u) (by omega) (by omega) (by rw [List.length_set]; exact hcl) ?_ ?_ (fun w hw => ?_)
           · have e9 : ¬ u = t := fun z => c19 (by rw [z])
             rw [htq, List.filter_append, ← htk, List.take_add_one, List.getElem?_set_self (by omega), List.take_set_of_le (Nat.le_refl _), ← hcq]
             simp [e9]
           · rw [List.drop_set_of_lt (by omega)]; exact hdr2
           · rcases List.mem_or_eq_of_mem_set hw with h1 | h1
             · exact hall2 w h1
             · rw [h1]; exact hu6)
    · skip
      refine zr_aload_n d_R_remove_22 rfl ?_
      refine zr_rthr d_R_remove_23 (by assumption) sf_R_remove_23 ?_
      refine zr_iload_n d_R_remove_26 rfl ?_
      refine zr_aload_n d_R_remove_27 rfl ?_
      refine zr_rthr d_R_remove_28 (by assumption) sf_R_remove_28 ?_
      refine zr_iload_n d_R_remove_31 rfl ?_
      refine zr_rld (q := q) (u := u) d_R_remove_32 hv2 rfl (by rw [zrw_same]; exact hcu) ?_
      refine zr_rst (q := kept) d_R_remove_33 hv2 hu6 rfl (by rw [zrw_same]; omega) ?_
      rw [zrw_same, zsrw_twice]
      refine zr_iinc (v := nI (kept + 1)) d_R_remove_34 rfl (nI_1 kept) (by decide) rfl ?_
      refine zr_iinc (v := nI (q + 1)) d_R_remove_37 rfl (nI_1 q) (by decide) rfl ?_
      refine zr_goto (tgt := 4) d_R_remove_40 (by decide) ?_
      first
        | (refine ih (q + 1) kept cur (by omega) (by omega) hcl ?_ hdr2 hall2
           rw [htq, List.filter_append, htk]
           have e9 : (zrw σ j o)[q] = t := by rw [← hcq]; have := Option.some.inj c19; omega
           simp [e9]; done)
        | (refine ih (q + 1) (kept + 1) (cur.set kept u) (by omega) (by omega) (by rw [List.length_set]; exact hcl) ?_ ?_ (fun w hw => ?_)
           · have e9 : ¬ u = t := fun z => c19 (by rw [z])
             rw [htq, List.filter_append, ← htk, List.take_add_one, List.getElem?_set_self (by omega), List.take_set_of_le (Nat.le_refl _), ← hcq]
             simp [e9]
           · rw [List.drop_set_of_lt (by omega)]; exact hdr2
           · rcases List.mem_or_eq_of_mem_set hw with h1 | h1
             · exact hall2 w h1
             · rw [h1]; exact hu6)

theorem zlist {j o : Nat} {σ : zS} {μ ω : yW} (h : zC σ μ ω) (hv : zrv σ j o) : (zrw σ j o).length ≤ 6 ∧ ∀ u ∈ zrw σ j o, u < 6 := ⟨(h.row hv).1.1, (h.row hv).1.2.1⟩

set_option maxHeartbeats 4000000 in
set_option maxRecDepth 20000 in
theorem c_R_remove {G : yG} {μ : yW} {σ : zS} {j o t : Nat} (hv : zrv σ j o) (ht : t < 6) (h6 : (zrw σ j o).length ≤ 6) (hall : ∀ u ∈ zrw σ j o, u < 6) : zCT G m_R_remove [yr (kR j o), yr (10 + t)] σ μ (fun r σ' => r = none ∧ σ' = zsrw σ j o ((zrw σ j o).filter (fun u => u ≠ t))) := by
  refine zCT_of (by decide) rfl (ycat_of rfl) (Nat.le_of_ble_eq_true rfl) ?_
  refine zr_iconst (v := 0) d_R_remove_0 (by decide) ?_
  refine zr_istore_n d_R_remove_1 (by decide) rfl ?_
  refine zr_iconst (v := 0) d_R_remove_2 (by decide) ?_
  refine zr_istore_n d_R_remove_3 (by decide) rfl ?_
  have k := c_R_remove_loop (G := G) (μ := μ) hv ht h6 hall (zrw σ j o).length 0 0 (zrw σ j o) rfl (Nat.le_refl _) rfl rfl rfl hall
  rw [zsrw_self] at k
  exact k

set_option maxHeartbeats 4000000 in
set_option maxRecDepth 20000 in
theorem c_R_removeFirst {G : yG} {μ : yW} {σ : zS} {j o : Nat} (hv : zrv σ j o) (h6 : (zrw σ j o).length ≤ 6) (hall : ∀ u ∈ zrw σ j o, u < 6) : zCT G m_R_removeFirst [yr (kR j o)] σ μ (fun r σ' => r = some (yo (((zrw σ j o)[0]?).map (10 + ·))) ∧ σ' = (match zrw σ j o with | [] => σ | t :: _ => zsrw σ j o ((zrw σ j o).filter (fun u => u ≠ t)))) := by
  refine zCT_of (by decide) rfl (ycat_of rfl) (Nat.le_of_ble_eq_true rfl) ?_
  refine zr_aload_n d_R_removeFirst_0 rfl ?_
  refine zr_iconst (v := 0) d_R_removeFirst_1 (by decide) ?_
  refine zr_call (zrunV (As := [yi 0]) (rest := []) d_R_removeFirst_2 (fun ω h => (h.row hv).2.1) rfl (c_R_at hv h6) 1 rfl (by decide +kernel) cw_R_at (Nat.le_of_ble_eq_true rfl) (ycat_of rfl) (by decide) (by decide)) (fun r σ9 hp => ?_)
  obtain ⟨rfl, rfl⟩ := hp
  rw [show zat (zrw σ9 j o) 0 = (zrw σ9 j o)[0]? from rfl]
  obtain ⟨w, hw⟩ : ∃ w, w = (zrw σ9 j o)[0]? := ⟨_, rfl⟩
  rw [← hw]
  refine zr_astore_n d_R_removeFirst_5 (by decide) rfl ?_
  refine zr_aload_n d_R_removeFirst_6 rfl ?_
  refine zr_ifnull (tgt := 15) d_R_removeFirst_7 (by decide) (fun c7 => ?_) (fun a7 c7 => ?_)
  · cases w with
    | some t => cases c7
    | none =>
      have hn : zrw σ9 j o = [] := by
        cases hl : zrw σ9 j o with
        | nil => rfl
        | cons a b => rw [hl] at hw; cases hw
      rw [hn]
      refine zr_aload_n d_R_removeFirst_15 rfl ?_
      exact zr_reta d_R_removeFirst_16 rfl (Or.inl ⟨_, rfl⟩) (by decide) (by decide) ⟨rfl, rfl⟩
  · cases w with
    | none => cases c7
    | some t =>
      obtain ⟨b, hl⟩ : ∃ b, zrw σ9 j o = t :: b := by
        cases hl : zrw σ9 j o with
        | nil => rw [hl] at hw; cases hw
        | cons a b => rw [hl] at hw; cases hw; exact ⟨b, rfl⟩
      have ht : t < 6 := hall t (by rw [hl]; exact List.mem_cons_self)
      refine zr_aload_n d_R_removeFirst_10 rfl ?_
      refine zr_aload_n d_R_removeFirst_11 rfl ?_
      refine zr_call (zrunV (As := [yr (10 + t)]) (rest := []) d_R_removeFirst_12 (fun ω h => (h.row hv).2.1) rfl (c_R_remove hv ht h6 hall) 1 rfl (by decide +kernel) cw_R_remove (Nat.le_of_ble_eq_true rfl) (ycat_of rfl) (by decide) (by decide)) (fun r σ8 hp => ?_)
      obtain ⟨rfl, rfl⟩ := hp
      refine zr_aload_n d_R_removeFirst_15 rfl ?_
      refine zr_reta d_R_removeFirst_16 rfl (Or.inl ⟨_, rfl⟩) (by decide) (by decide) ⟨rfl, ?_⟩
      rw [hl]
end
section
/-! places: setters and rows -/
/-- the int slots of a place that are plain numbers, by kind -/
def zpv (kd f : Nat) : Bool := match kd with
  | 0 => f == 6
  | 1 => f == 4 || f == 6
  | 2 => f == 3
  | 3 => f == 3
  | 4 => f == 4
  | _ => false
theorem zpl_same {σ : zS} {f o : Nat} {x : Int32} : zpl (zspl σ f o x) f o = x := yu_same _ _ _ _
theorem zpl_ne {σ : zS} {f o g u : Nat} {x : Int32} (h : g ≠ f ∨ u ≠ o) : zpl (zspl σ f o x) g u = zpl σ g u := yu_ne _ _ h
theorem zho_same {σ : zS} {o : Nat} {x : Option Nat} : zho (zsho σ o x) o = x := va_up_self _ _ _
theorem zC.kd {σ : zS} {μ ω : yW} (h : zC σ μ ω) {o : Nat} (ho : o < zn σ) : zkd σ o < 6 := (h.1.2.2.2.2.2 o ho).1
theorem zC.pv {σ : zS} {μ ω : yW} {o f : Nat} (h : zC σ μ ω) (ho : o < zn σ) (hf : zpv (zkd σ o) f = true) : ω.2.1 (kP o) f = zpl σ f o := by
  obtain ⟨a1, a2, a3, a4, a5, a6, a7, a8, a9, a10, a11⟩ := h.pl ho
  have h6 := h.kd ho
  rcases (show zkd σ o = 0 ∨ zkd σ o = 1 ∨ zkd σ o = 2 ∨ zkd σ o = 3 ∨ zkd σ o = 4 ∨ zkd σ o = 5 by omega) with e | e | e | e | e | e <;> rw [e] at hf <;> simp [zpv] at hf
  · rw [hf]; exact (a5 e).2.2.2.1
  · rcases hf with hf | hf <;> rw [hf]
    · exact (a6 e).2.1
    · exact (a6 e).2.2.2.1
  · rw [hf]; exact a7 e
  · rw [hf]; exact a8 e
  · rw [hf]; exact (a9 e).2
theorem zC_spl {σ : zS} {μ ω : yW} {o f : Nat} {x : Int32} (h : zC σ μ ω) (ho : o < zn σ) (hf : zpv (zkd σ o) f = true) : zC (zspl σ f o x) μ (ysi ω (kP o) f x) := by
  refine zC_place h ho rfl (fun k hk => zAg_si ω _ f x (by omega)) rfl rfl rfl rfl (fun u hu => ⟨rfl, rfl, fun _ => rfl, rfl, fun g => yu_ne _ _ (Or.inr hu), fun _ => rfl, rfl⟩) (fun u => zSt.rf σ u) ?_
  obtain ⟨a1, a2, a3, a4, a5, a6, a7, a8, a9, a10, a11⟩ := h.pl ho
  have h6 := h.kd ho
  have g : ∀ j, j ≠ kP o → zAg ω (ysi ω (kP o) f x) j := fun j hj => zAg_si ω _ f x hj
  have n : ∀ q, q ≠ f → (ysi ω (kP o) f x).2.1 (kP o) q = ω.2.1 (kP o) q := fun q hq => yu_ne _ _ (Or.inr hq)
  have e1 : (ysi ω (kP o) f x).2.1 (kP o) f = x := yu_same _ _ _ _
  have e2 : zpl (zspl σ f o x) f o = x := zpl_same
  have e3 : ∀ q, q ≠ f → zpl (zspl σ f o x) q o = zpl σ q o := fun q hq => zpl_ne (Or.inl hq)
  have hf0 : f ≠ 0 ∧ f ≠ 1 := by
    rcases (show zkd σ o = 0 ∨ zkd σ o = 1 ∨ zkd σ o = 2 ∨ zkd σ o = 3 ∨ zkd σ o = 4 ∨ zkd σ o = 5 by omega) with e | e | e | e | e | e <;> rw [e] at hf <;> simp [zpv] at hf <;> omega
  refine ⟨(n 0 (Ne.symm hf0.1)).trans a1, (n 1 (Ne.symm hf0.2)).trans a2, a3, a4.kept (g _ (by unfold kP; omega)) (g _ (by unfold kP; omega)), fun hk => ?_, fun hk => ?_, fun hk => ?_, fun hk => ?_, fun hk => ?_, fun hk => ?_, a11⟩
  · have hk' : zkd σ o = 0 := hk
    rw [hk'] at hf
    simp [zpv] at hf
    subst hf
    obtain ⟨b1, b2, b3, b4, b5, b6⟩ := a5 hk
    exact ⟨b1, b2, b3, e1.trans e2.symm, b5.kept (g _ (by unfold kP; omega)) (g _ (by unfold kP; omega)), b6.kept (g _ (by unfold kP; omega)) (g _ (by unfold kP; omega))⟩
  · have hk' : zkd σ o = 1 := hk
    rw [hk'] at hf
    simp [zpv] at hf
    obtain ⟨b1, b2, b3, b4, b5⟩ := a6 hk
    refine ⟨b1, ?_, b3, ?_, fun t ht => by rw [(g (kP o + 7) (by omega)).1]; exact b5 t ht⟩
    · rcases hf with hf | hf
      · subst hf; exact e1.trans e2.symm
      · subst hf; rw [n 4 (by omega), e3 4 (by omega)]; exact b2
    · rcases hf with hf | hf
      · subst hf; rw [n 6 (by omega), e3 6 (by omega)]; exact b4
      · subst hf; exact e1.trans e2.symm
  · have hk' : zkd σ o = 2 := hk
    rw [hk'] at hf
    simp [zpv] at hf
    subst hf
    exact e1.trans e2.symm
  · have hk' : zkd σ o = 3 := hk
    rw [hk'] at hf
    simp [zpv] at hf
    subst hf
    exact e1.trans e2.symm
  · have hk' : zkd σ o = 4 := hk
    rw [hk'] at hf
    simp [zpv] at hf
    subst hf
    exact ⟨(n 3 (by omega)).trans (a9 hk).1, e1.trans e2.symm⟩
  · have hk' : zkd σ o = 5 := hk
    rw [hk'] at hf
    simp [zpv] at hf
theorem zC_sho {σ : zS} {μ ω : yW} {o : Nat} {x : Option Nat} (h : zC σ μ ω) (ho : o < zn σ) (hk : zkd σ o < 2) (hx : ∀ t, x = some t → t < 6) : zC (zsho σ o x) μ (ysf ω (kP o) 5 (x.map (10 + ·))) := by
  refine zC_place h ho rfl (fun k hk => zAg_sf ω _ 5 _ (by omega)) rfl rfl rfl rfl (fun u hu => ⟨rfl, rfl, fun _ => rfl, va_up_ne _ _ hu, fun g => rfl, fun _ => rfl, rfl⟩) (fun u => zSt.rf σ u) ?_
  obtain ⟨a1, a2, a3, a4, a5, a6, a7, a8, a9, a10, a11⟩ := h.pl ho
  have g : ∀ j, j ≠ kP o → zAg ω (ysf ω (kP o) 5 (x.map (10 + ·))) j := fun j hj => zAg_sf ω _ 5 _ hj
  have n : ∀ q, q ≠ 5 → (ysf ω (kP o) 5 (x.map (10 + ·))).2.2 (kP o) q = ω.2.2 (kP o) q := fun q hq => yu_ne _ _ (Or.inr hq)
  have e1 : (ysf ω (kP o) 5 (x.map (10 + ·))).2.2 (kP o) 5 = x.map (10 + ·) := yu_same _ _ _ _
  have e2 : zho (zsho σ o x) o = x := zho_same
  refine ⟨a1, a2, (n 2 (by omega)).trans a3, a4.kept (g _ (by unfold kP; omega)) (g _ (by unfold kP; omega)), fun hk => ?_, fun hk => ?_, fun hk => a7 hk, fun hk => a8 hk, fun hk => a9 hk, fun hk9 => ?_, fun t ht => hx t (by rw [e2] at ht; exact ht)⟩
  · obtain ⟨b1, b2, b3, b4, b5, b6⟩ := a5 hk
    exact ⟨(n 3 (by omega)).trans b1, (n 4 (by omega)).trans b2, by rw [e1, e2], b4, b5.kept (g _ (by unfold kP; omega)) (g _ (by unfold kP; omega)), b6.kept (g _ (by unfold kP; omega)) (g _ (by unfold kP; omega))⟩
  · obtain ⟨b1, b2, b3, b4, b5⟩ := a6 hk
    exact ⟨(n 3 (by omega)).trans b1, b2, by rw [e1, e2], b4, b5⟩
  · have : zkd σ o = 5 := hk9
    omega
theorem zC_srd {σ : zS} {μ ω : yW} {o t : Nat} {x : Int32} (h : zC σ μ ω) (ho : o < zn σ) (hk : zkd σ o = 1) : zC (zsrd σ o t x) μ (ysi ω (kP o + 7) t x) := by
  refine zC_place h ho rfl (fun k hk => zAg_si ω _ t x (by omega)) rfl rfl rfl rfl (fun u hu => ⟨rfl, rfl, fun _ => rfl, rfl, fun g => rfl, fun _ => yu_ne _ _ (Or.inl hu), rfl⟩) (fun u => zSt.rf σ u) ?_
  obtain ⟨a1, a2, a3, a4, a5, a6, a7, a8, a9, a10, a11⟩ := h.pl ho
  have g : ∀ j, j ≠ kP o + 7 → zAg ω (ysi ω (kP o + 7) t x) j := fun j hj => zAg_si ω _ t x hj
  have g0 := g (kP o) (by omega)
  have hne : ∀ c, c ≠ 1 → zkd (zsrd σ o t x) o = c → False := fun c hc h9 => hc (by rw [← h9]; exact hk)
  refine ⟨by rw [g0.1]; exact a1, by rw [g0.1]; exact a2, a3, a4.kept (g _ (by unfold kP; omega)) (g _ (by unfold kP; omega)), fun h9 => absurd h9 (fun z => hne 0 (by omega) z), fun h9 => ?_, fun h9 => absurd h9 (fun z => hne 2 (by omega) z), fun h9 => absurd h9 (fun z => hne 3 (by omega) z), fun h9 => absurd h9 (fun z => hne 4 (by omega) z), fun h9 => absurd h9 (fun z => hne 5 (by omega) z), a11⟩
  obtain ⟨b1, b2, b3, b4, b5⟩ := a6 hk
  rw [g0.1, g0.2]
  refine ⟨b1, b2, b3, b4, fun u hu => ?_⟩
  show yu _ _ _ _ _ _ = yu _ _ _ _ _ _
  by_cases e : u = t
  · rw [e, yu_same, yu_same]
  · rw [yu_ne _ _ (Or.inr e), yu_ne _ _ (Or.inr e)]; exact b5 u hu
section ZPR
variable {G : yG} {i : yM} {Qf : yQT} {pc : Nat} {ls : List (Option yV)} {st : List yV} {σ : zS} {μ : yW} {cs sl : Nat} {sh0 : Nat → Option ySh} {o : Nat}
theorem zC.sP' {ω : yW} {ci : Nat} (h : zC σ μ ω) (ho : o < zn σ) (hk : 3 + zkd σ o = ci) : ω.1 (kP o) = some (.inl ci) := by rw [← hk]; exact h.sP ho
theorem zr_pkind {ix ci : Nat} {ref host : String} (hd : decode (yMb i) pc = .ok (.getfield ix, 3)) (ho : o < zn σ) (hk : zkd σ o < 6) (site : ∀ c, c < 6 → ySF (yMy i).cls ix ref host (3 + c) 0 = true) (k : yWP G i Qf sh0 (pc + 3) ls (yi (nI (zkd σ o)) :: st) (zC σ μ) cs sl) : yWP G i Qf sh0 pc ls (yr (kP o) :: st) (zC σ μ) cs sl := by
  intro ω h
  have h6 := h.kd ho
  refine yr_geti hd (h.sP ho) (site _ h6) (by rcases (show zkd σ o = 0 ∨ zkd σ o = 1 ∨ zkd σ o = 2 ∨ zkd σ o = 3 ∨ zkd σ o = 4 ∨ zkd σ o = 5 by omega) with e | e | e | e | e | e <;> rw [e] <;> rfl) ?_
  rw [(h.pl ho).1]
  exact k ω h
theorem zr_pnum {ix : Nat} {ref host : String} (hd : decode (yMb i) pc = .ok (.getfield ix, 3)) (ho : o < zn σ) (site : ∀ c, c < 6 → ySF (yMy i).cls ix ref host (3 + c) 1 = true) (k : yWP G i Qf sh0 (pc + 3) ls (yi (nI o) :: st) (zC σ μ) cs sl) : yWP G i Qf sh0 pc ls (yr (kP o) :: st) (zC σ μ) cs sl := by
  intro ω h
  have h6 := h.kd ho
  refine yr_geti hd (h.sP ho) (site _ h6) (by rcases (show zkd σ o = 0 ∨ zkd σ o = 1 ∨ zkd σ o = 2 ∨ zkd σ o = 3 ∨ zkd σ o = 4 ∨ zkd σ o = 5 by omega) with e | e | e | e | e | e <;> rw [e] <;> rfl) ?_
  rw [(h.pl ho).2.1]
  exact k ω h
theorem zr_prow {ix : Nat} {ref host : String} (hd : decode (yMb i) pc = .ok (.getfield ix, 3)) (ho : o < zn σ) (site : ∀ c, c < 6 → ySF (yMy i).cls ix ref host (3 + c) 2 = true) (k : yWP G i Qf sh0 (pc + 3) ls (yr (kR 0 o) :: st) (zC σ μ) cs sl) : yWP G i Qf sh0 pc ls (yr (kP o) :: st) (zC σ μ) cs sl := by
  intro ω h
  have h6 := h.kd ho
  refine yr_getr hd (h.sP ho) (site _ h6) (by rcases (show zkd σ o = 0 ∨ zkd σ o = 1 ∨ zkd σ o = 2 ∨ zkd σ o = 3 ∨ zkd σ o = 4 ∨ zkd σ o = 5 by omega) with e | e | e | e | e | e <;> rw [e] <;> rfl) ?_
  rw [(h.pl ho).2.2.1]
  exact k ω h
/-- the row, spelled through the place's own class -/
theorem zr_prow' {ix c : Nat} {ref host : String} (hd : decode (yMb i) pc = .ok (.getfield ix, 3)) (ho : o < zn σ) (hk : zkd σ o = c) (hc : c < 6) (site : ySF (yMy i).cls ix ref host (3 + c) 2 = true) (k : yWP G i Qf sh0 (pc + 3) ls (yr (kR 0 o) :: st) (zC σ μ) cs sl) : yWP G i Qf sh0 pc ls (yr (kP o) :: st) (zC σ μ) cs sl := by
  intro ω h
  refine yr_getr hd (h.sP' ho (by rw [hk])) site (by rcases (show c = 0 ∨ c = 1 ∨ c = 2 ∨ c = 3 ∨ c = 4 ∨ c = 5 by omega) with e | e | e | e | e | e <;> rw [e] <;> rfl) ?_
  rw [(h.pl ho).2.2.1]
  exact k ω h
theorem zr_pgeti {ix f c : Nat} {ref host : String} (hd : decode (yMb i) pc = .ok (.getfield ix, 3)) (ho : o < zn σ) (hk : zkd σ o = c) (site : ySF (yMy i).cls ix ref host (3 + c) f = true) (hf : zpv c f = true) (hi : yfk (3 + c) f = false) (k : yWP G i Qf sh0 (pc + 3) ls (yi (zpl σ f o) :: st) (zC σ μ) cs sl) : yWP G i Qf sh0 pc ls (yr (kP o) :: st) (zC σ μ) cs sl := by
  intro ω h
  refine yr_geti hd (h.sP' ho (by rw [hk])) site hi ?_
  rw [h.pv ho (by rw [hk]; exact hf)]
  exact k ω h
theorem zr_pputi {ix f c : Nat} {ref host : String} {x : Int32} (hd : decode (yMb i) pc = .ok (.putfield ix, 3)) (ho : o < zn σ) (hk : zkd σ o = c) (site : ySF (yMy i).cls ix ref host (3 + c) f = true) (hf : zpv c f = true) (hi : yfk (3 + c) f = false) (hc : c < 6) (hfin : ((zcl c).2.1 f).2.2.2 = false) (hn : narrow (yft (3 + c) f) (.int x) = .int x ∧ fits (yft (3 + c) f) (.int x) = true) (k : yWP G i Qf sh0 (pc + 3) ls st (zC (zspl σ f o x) μ) cs sl) : yWP G i Qf sh0 pc ls (yi x :: yr (kP o) :: st) (zC σ μ) cs sl := by
  intro ω h
  exact yr_puti hd (h.sP' ho (by rw [hk])) site (zcl_ok c hc) hfin hi hn (k _ (zC_spl h ho (by rw [hk]; exact hf)))
theorem zr_pho {ix c : Nat} {ref host : String} (hd : decode (yMb i) pc = .ok (.getfield ix, 3)) (ho : o < zn σ) (hk : zkd σ o = c) (hc : c < 2) (site : ySF (yMy i).cls ix ref host (3 + c) 5 = true) (k : yWP G i Qf sh0 (pc + 3) ls (yo ((zho σ o).map (10 + ·)) :: st) (zC σ μ) cs sl) : yWP G i Qf sh0 pc ls (yr (kP o) :: st) (zC σ μ) cs sl := by
  intro ω h
  refine yr_getr hd (h.sP' ho (by rw [hk])) site (by rcases (show c = 0 ∨ c = 1 by omega) with e | e <;> rw [e] <;> rfl) ?_
  have hv : ω.2.2 (kP o) 5 = (zho σ o).map (10 + ·) := by
    rcases (show c = 0 ∨ c = 1 by omega) with e | e
    · exact ((h.pl ho).2.2.2.2.1 (hk.trans e)).2.2.1
    · exact ((h.pl ho).2.2.2.2.2.1 (hk.trans e)).2.2.1
  rw [hv]
  exact k ω h
theorem zr_pputho {ix c : Nat} {ref host : String} {x : Option Nat} (hd : decode (yMb i) pc = .ok (.putfield ix, 3)) (ho : o < zn σ) (hk : zkd σ o = c) (hc : c < 2) (site : ySF (yMy i).cls ix ref host (3 + c) 5 = true) (hx : ∀ t, x = some t → t < 6) (k : yWP G i Qf sh0 (pc + 3) ls st (zC (zsho σ o x) μ) cs sl) : yWP G i Qf sh0 pc ls (yo (x.map (10 + ·)) :: yr (kP o) :: st) (zC σ μ) cs sl := by
  intro ω h
  refine yr_putr hd (h.sP' ho (by rw [hk])) site (zcl_ok c (by omega)) (by rcases (show c = 0 ∨ c = 1 by omega) with e | e <;> rw [e] <;> rfl) (by rcases (show c = 0 ∨ c = 1 by omega) with e | e <;> rw [e] <;> rfl) (fun ad => ?_) (k _ (zC_sho h ho (by omega) hx))
  rcases (show c = 0 ∨ c = 1 by omega) with e | e <;> rw [e] <;> cases x <;> exact ⟨rfl, rfl⟩
/-- a lock's conditions -/
theorem zr_pc0 {ix : Nat} {ref host : String} (hd : decode (yMb i) pc = .ok (.getfield ix, 3)) (ho : o < zn σ) (hk : zkd σ o = 0) (site : ySF (yMy i).cls ix ref host 3 3 = true) (k : yWP G i Qf sh0 (pc + 3) ls (yr (kR 1 o) :: st) (zC σ μ) cs sl) : yWP G i Qf sh0 pc ls (yr (kP o) :: st) (zC σ μ) cs sl := by
  intro ω h
  refine yr_getr hd (h.sP' ho (by rw [hk])) site rfl ?_
  rw [((h.pl ho).2.2.2.2.1 hk).1]
  exact k ω h
theorem zr_pc1 {ix : Nat} {ref host : String} (hd : decode (yMb i) pc = .ok (.getfield ix, 3)) (ho : o < zn σ) (hk : zkd σ o = 0) (site : ySF (yMy i).cls ix ref host 3 4 = true) (k : yWP G i Qf sh0 (pc + 3) ls (yr (kR 2 o) :: st) (zC σ μ) cs sl) : yWP G i Qf sh0 pc ls (yr (kP o) :: st) (zC σ μ) cs sl := by
  intro ω h
  refine yr_getr hd (h.sP' ho (by rw [hk])) site rfl ?_
  rw [((h.pl ho).2.2.2.2.1 hk).2.1]
  exact k ω h
/-- a book's reads, thread by thread -/
theorem zr_prds {ix : Nat} {ref host : String} (hd : decode (yMb i) pc = .ok (.getfield ix, 3)) (ho : o < zn σ) (hk : zkd σ o = 1) (site : ySF (yMy i).cls ix ref host 4 3 = true) (k : yWP G i Qf sh0 (pc + 3) ls (yr (kP o + 7) :: st) (zC σ μ) cs sl) : yWP G i Qf sh0 pc ls (yr (kP o) :: st) (zC σ μ) cs sl := by
  intro ω h
  refine yr_getr hd (h.sP' ho (by rw [hk])) site rfl ?_
  rw [((h.pl ho).2.2.2.2.2.1 hk).1]
  exact k ω h
theorem zr_rdld {t : Nat} {x : Int32} (hd : decode (yMb i) pc = .ok (.iaload, 1)) (ho : o < zn σ) (hk : zkd σ o = 1) (ht : t < 6) (hx : x = nI t) (k : yWP G i Qf sh0 (pc + 1) ls (yi (zrd σ o t) :: st) (zC σ μ) cs sl) : yWP G i Qf sh0 pc ls (yi x :: yr (kP o + 7) :: st) (zC σ μ) cs sl := by
  intro ω h
  refine yr_iald (n := 6) (j := t) hd ((h.1.2.2.2.2.2 o ho).2.2.2.2.2.2.2.1 hk) (by rw [hx]; exact nI_pos (by omega)) (by rw [hx]; exact nI_clamp (by omega)) ht ?_
  rw [((h.pl ho).2.2.2.2.2.1 hk).2.2.2.2 t ht]
  exact k ω h
theorem zr_rdst {t : Nat} {x z : Int32} (hd : decode (yMb i) pc = .ok (.iastore, 1)) (ho : o < zn σ) (hk : zkd σ o = 1) (ht : t < 6) (hx : x = nI t) (k : yWP G i Qf sh0 (pc + 1) ls st (zC (zsrd σ o t z) μ) cs sl) : yWP G i Qf sh0 pc ls (yi z :: yi x :: yr (kP o + 7) :: st) (zC σ μ) cs sl := by
  intro ω h
  exact yr_iast (n := 6) (j := t) hd ((h.1.2.2.2.2.2 o ho).2.2.2.2.2.2.2.1 hk) (by rw [hx]; exact nI_pos (by omega)) (by rw [hx]; exact nI_clamp (by omega)) ht (k _ (zC_srd h ho hk))
/-- a barrier's size -/
theorem zr_psize {ix : Nat} {ref host : String} (hd : decode (yMb i) pc = .ok (.getfield ix, 3)) (ho : o < zn σ) (hk : zkd σ o = 4) (site : ySF (yMy i).cls ix ref host 7 3 = true) (k : yWP G i Qf sh0 (pc + 3) ls (yi (nI (zcp σ o)) :: st) (zC σ μ) cs sl) : yWP G i Qf sh0 pc ls (yr (kP o) :: st) (zC σ μ) cs sl := by
  intro ω h
  refine yr_geti hd (h.sP' ho (by rw [hk])) site rfl ?_
  rw [((h.pl ho).2.2.2.2.2.2.2.2.1 hk).1]
  exact k ω h
end ZPR
end
section
/-! the kinds of places: what they say -/
theorem zmap_eq {x : Option Nat} {t : Nat} : x.map (10 + ·) = some (10 + t) ↔ x = some t := by
  cases x with
  | none => simp
  | some a =>
    simp
theorem zmap_none {x : Option Nat} : x.map (10 + ·) = none ↔ x = none := by cases x <;> simp
theorem zmap_some {x : Option Nat} {a : Nat} (h : x.map (10 + ·) = some a) : ¬ x = none := by
  intro e
  rw [e] at h
  cases h
theorem zlive_ho {σ : zS} {μ ω : yW} {o t : Nat} (h : zC σ μ ω) (ho : o < zn σ) (ht : t < 6) : ∀ a, (zho σ o).map (10 + ·) = some a ∨ some (10 + t) = some a → ω.1 a ≠ none := by
  intro a ha
  rcases ha with ha | ha
  · cases e : zho σ o with
    | none => rw [e] at ha; cases ha
    | some u =>
      rw [e] at ha
      cases ha
      rw [h.sT ((h.pl ho).2.2.2.2.2.2.2.2.2.2 u e)]
      exact fun z => nomatch z
  · cases ha
    rw [h.sT ht]
    exact fun z => nomatch z
def zleave (σ : zS) (o : Nat) : zS := if zpl σ 6 o - 1 = 0 then zsho (zspl σ 6 o (zpl σ 6 o - 1)) o none else zspl σ 6 o (zpl σ 6 o - 1)
def znum (x : Option Nat) : Int32 := match x with
  | none => -1
  | some t => nI t

set_option maxHeartbeats 4000000 in
set_option maxRecDepth 20000 in
theorem c_K_allows {G : yG} {μ : yW} {σ : zS} {o : Nat} {a g : Int32} (ho : o < zn σ) (hk : zkd σ o = 0) {t : Nat} (ht : t < 6)  : zCT G m_K_allows [yr (kP o), yr (10 + t), yi a, yi g] σ μ (fun r σ' => r = some (yi (if a = 0 ∨ zho σ o = some t then 1 else 0)) ∧ σ' = σ) := by
  refine zCT_of (by decide) rfl (ycat_of rfl) (Nat.le_of_ble_eq_true rfl) ?_
  refine zr_iload_n d_K_allows_0 rfl ?_
  refine zr_if_eq (tgt := 12) d_K_allows_1 (by decide) (fun c1 => ?_) (fun c1 => ?_)
  · skip
    refine zr_iconst (v := 1) d_K_allows_12 (by decide) ?_
    refine zr_goto (tgt := 17) d_K_allows_13 (by decide) ?_
    refine zr_retz d_K_allows_17 rfl rfl (by decide) (by decide) ?_
    simp_all [zmap_eq]
  · skip
    refine zr_aload_n d_K_allows_4 rfl ?_
    refine zr_pho (c := 0) d_K_allows_5 (by first | assumption | omega) hk (by decide) sf_K_allows_5 ?_
    refine zr_aload_n d_K_allows_8 rfl ?_
    refine zr_acmp_ne (tgt := 16) d_K_allows_9 (by decide) (fun ω h => zlive_ho h (by assumption) (by assumption)) (fun c9 => ?_) (fun c9 => ?_)
    · skip
      refine zr_iconst (v := 0) d_K_allows_16 (by decide) ?_
      refine zr_retz d_K_allows_17 rfl rfl (by decide) (by decide) ?_
      simp_all [zmap_eq]
    · skip
      refine zr_iconst (v := 1) d_K_allows_12 (by decide) ?_
      refine zr_goto (tgt := 17) d_K_allows_13 (by decide) ?_
      refine zr_retz d_K_allows_17 rfl rfl (by decide) (by decide) ?_
      simp_all [zmap_eq]

set_option maxHeartbeats 4000000 in
set_option maxRecDepth 20000 in
theorem c_K_canBe {G : yG} {μ : yW} {σ : zS} {o : Nat} (ho : o < zn σ) (hk : zkd σ o = 0) {t : Nat} (ht : t < 6)  : zCT G m_K_canBe [yr (kP o), yr (10 + t)] σ μ (fun r σ' => r = some (yi (if zho σ o = none then 1 else 0)) ∧ σ' = σ) := by
  refine zCT_of (by decide) rfl (ycat_of rfl) (Nat.le_of_ble_eq_true rfl) ?_
  refine zr_aload_n d_K_canBe_0 rfl ?_
  refine zr_pho (c := 0) d_K_canBe_1 (by first | assumption | omega) hk (by decide) sf_K_canBe_1 ?_
  refine zr_ifnonnull (tgt := 11) d_K_canBe_4 (by decide) (fun a4 c4 => ?_) (fun c4 => ?_)
  · skip
    refine zr_iconst (v := 0) d_K_canBe_11 (by decide) ?_
    refine zr_retz d_K_canBe_12 rfl rfl (by decide) (by decide) ?_
    first | (have e9 := zmap_some c4; simp [e9]; done) | (rw [zmap_none] at c4; simp [c4])
  · skip
    refine zr_iconst (v := 1) d_K_canBe_7 (by decide) ?_
    refine zr_goto (tgt := 12) d_K_canBe_8 (by decide) ?_
    refine zr_retz d_K_canBe_12 rfl rfl (by decide) (by decide) ?_
    first | (have e9 := zmap_some c4; simp [e9]; done) | (rw [zmap_none] at c4; simp [c4])

set_option maxHeartbeats 4000000 in
set_option maxRecDepth 20000 in
theorem c_K_passesRow {G : yG} {μ : yW} {σ : zS} {o : Nat} (ho : o < zn σ) (hk : zkd σ o = 0) {t : Nat} (ht : t < 6)  : zCT G m_K_passesRow [yr (kP o), yr (10 + t)] σ μ (fun r σ' => r = some (yi (if zho σ o = some t ∧ ¬ zth σ 8 t = 2 then 1 else 0)) ∧ σ' = σ) := by
  refine zCT_of (by decide) rfl (ycat_of rfl) (Nat.le_of_ble_eq_true rfl) ?_
  refine zr_aload_n d_K_passesRow_0 rfl ?_
  refine zr_pho (c := 0) d_K_passesRow_1 (by first | assumption | omega) hk (by decide) sf_K_passesRow_1 ?_
  refine zr_aload_n d_K_passesRow_4 rfl ?_
  refine zr_acmp_ne (tgt := 20) d_K_passesRow_5 (by decide) (fun ω h => zlive_ho h (by assumption) (by assumption)) (fun c5 => ?_) (fun c5 => ?_)
  · skip
    refine zr_iconst (v := 0) d_K_passesRow_20 (by decide) ?_
    refine zr_retz d_K_passesRow_21 rfl rfl (by decide) (by decide) ?_
    simp_all [zmap_eq]
  · skip
    refine zr_aload_n d_K_passesRow_8 rfl ?_
    refine zr_tgeti d_K_passesRow_9 (by first | assumption | omega) sf_K_passesRow_9 rfl rfl ?_
    refine zr_iconst (v := 2) d_K_passesRow_12 (by decide) ?_
    refine zr_icmp_eq (tgt := 20) d_K_passesRow_13 (by decide) (fun c13 => ?_) (fun c13 => ?_)
    · skip
      refine zr_iconst (v := 0) d_K_passesRow_20 (by decide) ?_
      refine zr_retz d_K_passesRow_21 rfl rfl (by decide) (by decide) ?_
      simp_all [zmap_eq]
    · skip
      refine zr_iconst (v := 1) d_K_passesRow_16 (by decide) ?_
      refine zr_goto (tgt := 21) d_K_passesRow_17 (by decide) ?_
      refine zr_retz d_K_passesRow_21 rfl rfl (by decide) (by decide) ?_
      simp_all [zmap_eq]

set_option maxHeartbeats 4000000 in
set_option maxRecDepth 20000 in
theorem c_K_level {G : yG} {μ : yW} {σ : zS} {o : Nat} (ho : o < zn σ) (hk : zkd σ o = 0)  : zCT G m_K_level [yr (kP o)] σ μ (fun r σ' => r = some (yi (zpl σ 6 o)) ∧ σ' = σ) := by
  refine zCT_of (by decide) rfl (ycat_of rfl) (Nat.le_of_ble_eq_true rfl) ?_
  refine zr_aload_n d_K_level_0 rfl ?_
  refine zr_pgeti (c := 0) (f := 6) d_K_level_1 (by first | assumption | omega) hk sf_K_level_1 rfl rfl ?_
  exact zr_reti d_K_level_4 rfl (by decide) (by decide) ⟨rfl, rfl⟩

set_option maxHeartbeats 4000000 in
set_option maxRecDepth 20000 in
theorem c_K_leanedOn {G : yG} {μ : yW} {σ : zS} {o : Nat} (ho : o < zn σ) (hk : zkd σ o = 0)  : zCT G m_K_leanedOn [yr (kP o)] σ μ (fun r σ' => r = some (yo ((zho σ o).map (10 + ·))) ∧ σ' = σ) := by
  refine zCT_of (by decide) rfl (ycat_of rfl) (Nat.le_of_ble_eq_true rfl) ?_
  refine zr_aload_n d_K_leanedOn_0 rfl ?_
  refine zr_pho (c := 0) d_K_leanedOn_1 (by first | assumption | omega) hk (by decide) sf_K_leanedOn_1 ?_
  exact zr_reta d_K_leanedOn_4 rfl (Or.inl ⟨_, rfl⟩) (by decide) (by decide) ⟨rfl, rfl⟩

set_option maxHeartbeats 4000000 in
set_option maxRecDepth 20000 in
theorem c_K_condition {G : yG} {μ : yW} {σ : zS} {o : Nat} {x : Int32} (ho : o < zn σ) (hk : zkd σ o = 0)  : zCT G m_K_condition [yr (kP o), yi x] σ μ (fun r σ' => r = some (yr (kR (if x = 0 then 1 else 2) o)) ∧ σ' = σ) := by
  refine zCT_of (by decide) rfl (ycat_of rfl) (Nat.le_of_ble_eq_true rfl) ?_
  refine zr_iload_n d_K_condition_0 rfl ?_
  refine zr_if_ne (tgt := 11) d_K_condition_1 (by decide) (fun c1 => ?_) (fun c1 => ?_)
  · skip
    refine zr_aload_n d_K_condition_11 rfl ?_
    refine zr_pc1 d_K_condition_12 (by first | assumption | omega) hk sf_K_condition_12 ?_
    refine zr_reta d_K_condition_15 rfl (Or.inl ⟨_, rfl⟩) (by decide) (by decide) ?_
    simp [c1]
  · skip
    refine zr_aload_n d_K_condition_4 rfl ?_
    refine zr_pc0 d_K_condition_5 (by first | assumption | omega) hk sf_K_condition_5 ?_
    refine zr_goto (tgt := 15) d_K_condition_8 (by decide) ?_
    refine zr_reta d_K_condition_15 rfl (Or.inl ⟨_, rfl⟩) (by decide) (by decide) ?_
    simp [c1]

set_option maxHeartbeats 4000000 in
set_option maxRecDepth 20000 in
theorem c_K_leaveOnce {G : yG} {μ : yW} {σ : zS} {o : Nat} (ho : o < zn σ) (hk : zkd σ o = 0)  : zCT G m_K_leaveOnce [yr (kP o)] σ μ (fun r σ' => r = none ∧ σ' = zleave σ o) := by
  refine zCT_of (by decide) rfl (ycat_of rfl) (Nat.le_of_ble_eq_true rfl) ?_
  refine zr_aload_n d_K_leaveOnce_0 rfl ?_
  refine zr_dup d_K_leaveOnce_1 (fun _ => rfl) ?_
  refine zr_pgeti (c := 0) (f := 6) d_K_leaveOnce_2 (by first | assumption | omega) hk sf_K_leaveOnce_2 rfl rfl ?_
  refine zr_iconst (v := 1) d_K_leaveOnce_5 (by decide) ?_
  refine zr_isub d_K_leaveOnce_6 ?_
  refine zr_pputi (c := 0) (f := 6) d_K_leaveOnce_7 (by first | assumption | omega) hk sf_K_leaveOnce_7 rfl rfl (by decide) rfl ⟨rfl, rfl⟩ ?_
  refine zr_aload_n d_K_leaveOnce_10 rfl ?_
  refine zr_pgeti (c := 0) (f := 6) d_K_leaveOnce_11 (by first | assumption | omega) hk sf_K_leaveOnce_11 rfl rfl ?_
  refine zr_if_ne (tgt := 22) d_K_leaveOnce_14 (by decide) (fun c14 => ?_) (fun c14 => ?_)
  · skip
    refine zr_retv d_K_leaveOnce_22 rfl (by decide) (by decide) ?_
    rw [zpl_same] at c14
    exact ⟨rfl, by simp [zleave, c14]⟩
  · skip
    refine zr_aload_n d_K_leaveOnce_17 rfl ?_
    refine zr_null d_K_leaveOnce_18 ?_
    refine zr_pputho (c := 0) (x := none) d_K_leaveOnce_19 (by assumption) hk (by decide) sf_K_leaveOnce_19 (fun _ h => nomatch h) ?_
    refine zr_retv d_K_leaveOnce_22 rfl (by decide) (by decide) ?_
    rw [zpl_same] at c14
    exact ⟨rfl, by simp [zleave, c14]⟩

set_option maxHeartbeats 4000000 in
set_option maxRecDepth 20000 in
theorem c_B_allows {G : yG} {μ : yW} {σ : zS} {o : Nat} {a g : Int32} (ho : o < zn σ) (hk : zkd σ o = 1) {t : Nat} (ht : t < 6)  : zCT G m_B_allows [yr (kP o), yr (10 + t), yi a, yi g] σ μ (fun r σ' => r = some (yi (if a = 6 then (if 0 < zrd σ o t then 1 else 0) else if a = 8 then (if zho σ o = some t then 1 else 0) else 1)) ∧ σ' = σ) := by
  refine zCT_of (by decide) rfl (ycat_of rfl) (Nat.le_of_ble_eq_true rfl) ?_
  refine zr_iload_n d_B_allows_0 rfl ?_
  by_cases c6 : a = 6
  · refine zr_look (off := 27) (tgt := 28) d_B_allows_1 (by decide) (by rw [c6]; decide) (by decide) ?_
    refine zr_aload_n d_B_allows_28 rfl ?_
    refine zr_prds d_B_allows_29 (by first | assumption | omega) hk sf_B_allows_29 ?_
    refine zr_aload_n d_B_allows_32 rfl ?_
    refine zr_tnum d_B_allows_33 (by first | assumption | omega) sf_B_allows_33 ?_
    refine zr_rdld d_B_allows_36 (by assumption) hk ht rfl ?_
    refine zr_if_le (tgt := 44) d_B_allows_37 (by decide) (fun c37 => ?_) (fun c37 => ?_)
    · skip
      refine zr_iconst (v := 0) d_B_allows_44 (by decide) ?_
      refine zr_retz d_B_allows_45 rfl rfl (by decide) (by decide) ?_
      simp_all
    · skip
      refine zr_iconst (v := 1) d_B_allows_40 (by decide) ?_
      refine zr_goto (tgt := 45) d_B_allows_41 (by decide) ?_
      refine zr_retz d_B_allows_45 rfl rfl (by decide) (by decide) ?_
      simp_all
  · by_cases c8 : a = 8
    · refine zr_look (off := 45) (tgt := 46) d_B_allows_1 (by decide) (by rw [c8]; decide) (by decide) ?_
      refine zr_aload_n d_B_allows_46 rfl ?_
      refine zr_pho (c := 1) d_B_allows_47 (by first | assumption | omega) hk (by decide) sf_B_allows_47 ?_
      refine zr_aload_n d_B_allows_50 rfl ?_
      refine zr_acmp_ne (tgt := 58) d_B_allows_51 (by decide) (fun ω h => zlive_ho h (by assumption) (by assumption)) (fun c51 => ?_) (fun c51 => ?_)
      · skip
        refine zr_iconst (v := 0) d_B_allows_58 (by decide) ?_
        refine zr_retz d_B_allows_59 rfl rfl (by decide) (by decide) ?_
        simp_all [zmap_eq]
      · skip
        refine zr_iconst (v := 1) d_B_allows_54 (by decide) ?_
        refine zr_goto (tgt := 59) d_B_allows_55 (by decide) ?_
        refine zr_retz d_B_allows_59 rfl rfl (by decide) (by decide) ?_
        simp_all [zmap_eq]
    · refine zr_look (off := 59) (tgt := 60) d_B_allows_1 (by decide) ((lv_osw c6 (by decide)).trans ((lv_osw c8 (by decide)).trans rfl)) (by decide) ?_
      refine zr_iconst (v := 1) d_B_allows_60 (by decide) ?_
      refine zr_retz d_B_allows_61 rfl rfl (by decide) (by decide) ?_
      simp_all

set_option maxHeartbeats 4000000 in
set_option maxRecDepth 20000 in
theorem c_B_passesRow {G : yG} {μ : yW} {σ : zS} {o : Nat} (ho : o < zn σ) (hk : zkd σ o = 1) {t : Nat} (ht : t < 6)  : zCT G m_B_passesRow [yr (kP o), yr (10 + t)] σ μ (fun r σ' => r = some (yi (if zho σ o = some t ∨ zth σ 8 t = 6 then 1 else 0)) ∧ σ' = σ) := by
  refine zCT_of (by decide) rfl (ycat_of rfl) (Nat.le_of_ble_eq_true rfl) ?_
  refine zr_aload_n d_B_passesRow_0 rfl ?_
  refine zr_pho (c := 1) d_B_passesRow_1 (by first | assumption | omega) hk (by decide) sf_B_passesRow_1 ?_
  refine zr_aload_n d_B_passesRow_4 rfl ?_
  refine zr_acmp_eq (tgt := 17) d_B_passesRow_5 (by decide) (fun ω h => zlive_ho h (by assumption) (by assumption)) (fun c5 => ?_) (fun c5 => ?_)
  · skip
    refine zr_iconst (v := 1) d_B_passesRow_17 (by decide) ?_
    refine zr_goto (tgt := 22) d_B_passesRow_18 (by decide) ?_
    refine zr_retz d_B_passesRow_22 rfl rfl (by decide) (by decide) ?_
    simp_all [zmap_eq]
  · skip
    refine zr_aload_n d_B_passesRow_8 rfl ?_
    refine zr_tgeti d_B_passesRow_9 (by first | assumption | omega) sf_B_passesRow_9 rfl rfl ?_
    refine zr_bipush (v := 6) d_B_passesRow_12 (by decide) ?_
    refine zr_icmp_ne (tgt := 21) d_B_passesRow_14 (by decide) (fun c14 => ?_) (fun c14 => ?_)
    · skip
      refine zr_iconst (v := 0) d_B_passesRow_21 (by decide) ?_
      refine zr_retz d_B_passesRow_22 rfl rfl (by decide) (by decide) ?_
      simp_all [zmap_eq]
    · skip
      refine zr_iconst (v := 1) d_B_passesRow_17 (by decide) ?_
      refine zr_goto (tgt := 22) d_B_passesRow_18 (by decide) ?_
      refine zr_retz d_B_passesRow_22 rfl rfl (by decide) (by decide) ?_
      simp_all [zmap_eq]

set_option maxHeartbeats 4000000 in
set_option maxRecDepth 20000 in
theorem c_B_level {G : yG} {μ : yW} {σ : zS} {o : Nat} (ho : o < zn σ) (hk : zkd σ o = 1)  : zCT G m_B_level [yr (kP o)] σ μ (fun r σ' => r = some (yi (zpl σ 6 o)) ∧ σ' = σ) := by
  refine zCT_of (by decide) rfl (ycat_of rfl) (Nat.le_of_ble_eq_true rfl) ?_
  refine zr_aload_n d_B_level_0 rfl ?_
  refine zr_pgeti (c := 1) (f := 6) d_B_level_1 (by first | assumption | omega) hk sf_B_level_1 rfl rfl ?_
  exact zr_reti d_B_level_4 rfl (by decide) (by decide) ⟨rfl, rfl⟩

set_option maxHeartbeats 4000000 in
set_option maxRecDepth 20000 in
theorem c_B_timesRead {G : yG} {μ : yW} {σ : zS} {o : Nat} (ho : o < zn σ) (hk : zkd σ o = 1)  : zCT G m_B_timesRead [yr (kP o)] σ μ (fun r σ' => r = some (yi (zpl σ 4 o)) ∧ σ' = σ) := by
  refine zCT_of (by decide) rfl (ycat_of rfl) (Nat.le_of_ble_eq_true rfl) ?_
  refine zr_aload_n d_B_timesRead_0 rfl ?_
  refine zr_pgeti (c := 1) (f := 4) d_B_timesRead_1 (by first | assumption | omega) hk sf_B_timesRead_1 rfl rfl ?_
  exact zr_reti d_B_timesRead_4 rfl (by decide) (by decide) ⟨rfl, rfl⟩

set_option maxHeartbeats 4000000 in
set_option maxRecDepth 20000 in
theorem c_B_countReads {G : yG} {μ : yW} {σ : zS} {o : Nat} {x : Int32} (ho : o < zn σ) (hk : zkd σ o = 1) {t : Nat} (ht : t < 6)  : zCT G m_B_countReads [yr (kP o), yr (10 + t), yi x] σ μ (fun r σ' => r = none ∧ σ' = zspl (zsrd σ o t (zrd σ o t + x)) 4 o (zpl σ 4 o + x)) := by
  refine zCT_of (by decide) rfl (ycat_of rfl) (Nat.le_of_ble_eq_true rfl) ?_
  refine zr_aload_n d_B_countReads_0 rfl ?_
  refine zr_prds d_B_countReads_1 (by first | assumption | omega) hk sf_B_countReads_1 ?_
  refine zr_aload_n d_B_countReads_4 rfl ?_
  refine zr_tnum d_B_countReads_5 (by first | assumption | omega) sf_B_countReads_5 ?_
  refine zr_dup2 d_B_countReads_8 (fun _ => rfl) (fun _ => rfl) ?_
  refine zr_rdld d_B_countReads_9 (by assumption) hk ht rfl ?_
  refine zr_iload_n d_B_countReads_10 rfl ?_
  refine zr_iadd d_B_countReads_11 ?_
  refine zr_rdst d_B_countReads_12 (by assumption) hk ht rfl ?_
  refine zr_aload_n d_B_countReads_13 rfl ?_
  refine zr_dup d_B_countReads_14 (fun _ => rfl) ?_
  refine zr_pgeti (c := 1) (f := 4) d_B_countReads_15 (by first | assumption | omega) hk sf_B_countReads_15 rfl rfl ?_
  refine zr_iload_n d_B_countReads_18 rfl ?_
  refine zr_iadd d_B_countReads_19 ?_
  refine zr_pputi (c := 1) (f := 4) d_B_countReads_20 (by first | assumption | omega) hk sf_B_countReads_20 rfl rfl (by decide) rfl ⟨rfl, rfl⟩ ?_
  exact zr_retv d_B_countReads_23 rfl (by decide) (by decide) ⟨rfl, rfl⟩

set_option maxHeartbeats 4000000 in
set_option maxRecDepth 20000 in
theorem c_B_closeWritingOnce {G : yG} {μ : yW} {σ : zS} {o : Nat} (ho : o < zn σ) (hk : zkd σ o = 1)  : zCT G m_B_closeWritingOnce [yr (kP o)] σ μ (fun r σ' => r = none ∧ σ' = zleave σ o) := by
  refine zCT_of (by decide) rfl (ycat_of rfl) (Nat.le_of_ble_eq_true rfl) ?_
  refine zr_aload_n d_B_closeWritingOnce_0 rfl ?_
  refine zr_dup d_B_closeWritingOnce_1 (fun _ => rfl) ?_
  refine zr_pgeti (c := 1) (f := 6) d_B_closeWritingOnce_2 (by first | assumption | omega) hk sf_B_closeWritingOnce_2 rfl rfl ?_
  refine zr_iconst (v := 1) d_B_closeWritingOnce_5 (by decide) ?_
  refine zr_isub d_B_closeWritingOnce_6 ?_
  refine zr_pputi (c := 1) (f := 6) d_B_closeWritingOnce_7 (by first | assumption | omega) hk sf_B_closeWritingOnce_7 rfl rfl (by decide) rfl ⟨rfl, rfl⟩ ?_
  refine zr_aload_n d_B_closeWritingOnce_10 rfl ?_
  refine zr_pgeti (c := 1) (f := 6) d_B_closeWritingOnce_11 (by first | assumption | omega) hk sf_B_closeWritingOnce_11 rfl rfl ?_
  refine zr_if_ne (tgt := 22) d_B_closeWritingOnce_14 (by decide) (fun c14 => ?_) (fun c14 => ?_)
  · skip
    refine zr_retv d_B_closeWritingOnce_22 rfl (by decide) (by decide) ?_
    rw [zpl_same] at c14
    exact ⟨rfl, by simp [zleave, c14]⟩
  · skip
    refine zr_aload_n d_B_closeWritingOnce_17 rfl ?_
    refine zr_null d_B_closeWritingOnce_18 ?_
    refine zr_pputho (c := 1) (x := none) d_B_closeWritingOnce_19 (by assumption) hk (by decide) sf_B_closeWritingOnce_19 (fun _ h => nomatch h) ?_
    refine zr_retv d_B_closeWritingOnce_22 rfl (by decide) (by decide) ?_
    rw [zpl_same] at c14
    exact ⟨rfl, by simp [zleave, c14]⟩

set_option maxHeartbeats 4000000 in
set_option maxRecDepth 20000 in
theorem c_S_allows {G : yG} {μ : yW} {σ : zS} {o : Nat} {a g : Int32} (ho : o < zn σ) (hk : zkd σ o = 2) {t : Nat} (ht : t < 6)  : zCT G m_S_allows [yr (kP o), yr (10 + t), yi a, yi g] σ μ (fun r σ' => r = some (yi (if ¬ a = 10 ∨ ¬ 50 < zpl σ 3 o + g then 1 else 0)) ∧ σ' = σ) := by
  refine zCT_of (by decide) rfl (ycat_of rfl) (Nat.le_of_ble_eq_true rfl) ?_
  refine zr_iload_n d_S_allows_0 rfl ?_
  refine zr_bipush (v := 10) d_S_allows_1 (by decide) ?_
  refine zr_icmp_ne (tgt := 17) d_S_allows_3 (by decide) (fun c3 => ?_) (fun c3 => ?_)
  · skip
    refine zr_iconst (v := 1) d_S_allows_17 (by decide) ?_
    refine zr_goto (tgt := 22) d_S_allows_18 (by decide) ?_
    refine zr_retz d_S_allows_22 rfl rfl (by decide) (by decide) ?_
    simp_all
  · skip
    refine zr_aload_n d_S_allows_6 rfl ?_
    refine zr_pgeti (c := 2) (f := 3) d_S_allows_7 (by first | assumption | omega) hk sf_S_allows_7 rfl rfl ?_
    refine zr_iload_n d_S_allows_10 rfl ?_
    refine zr_iadd d_S_allows_11 ?_
    refine zr_bipush (v := 50) d_S_allows_12 (by decide) ?_
    refine zr_icmp_gt (tgt := 21) d_S_allows_14 (by decide) (fun c14 => ?_) (fun c14 => ?_)
    · skip
      refine zr_iconst (v := 0) d_S_allows_21 (by decide) ?_
      refine zr_retz d_S_allows_22 rfl rfl (by decide) (by decide) ?_
      simp_all
    · skip
      refine zr_iconst (v := 1) d_S_allows_17 (by decide) ?_
      refine zr_goto (tgt := 22) d_S_allows_18 (by decide) ?_
      refine zr_retz d_S_allows_22 rfl rfl (by decide) (by decide) ?_
      simp_all

set_option maxHeartbeats 4000000 in
set_option maxRecDepth 20000 in
theorem c_S_canBe {G : yG} {μ : yW} {σ : zS} {o : Nat} (ho : o < zn σ) (hk : zkd σ o = 2) {t : Nat} (ht : t < 6)  : zCT G m_S_canBe [yr (kP o), yr (10 + t)] σ μ (fun r σ' => r = some (yi (if zpl σ 3 o < zth σ 9 t then 0 else 1)) ∧ σ' = σ) := by
  refine zCT_of (by decide) rfl (ycat_of rfl) (Nat.le_of_ble_eq_true rfl) ?_
  refine zr_aload_n d_S_canBe_0 rfl ?_
  refine zr_pgeti (c := 2) (f := 3) d_S_canBe_1 (by first | assumption | omega) hk sf_S_canBe_1 rfl rfl ?_
  refine zr_aload_n d_S_canBe_4 rfl ?_
  refine zr_tgeti d_S_canBe_5 (by first | assumption | omega) sf_S_canBe_5 rfl rfl ?_
  refine zr_icmp_lt (tgt := 15) d_S_canBe_8 (by decide) (fun c8 => ?_) (fun c8 => ?_)
  · skip
    refine zr_iconst (v := 0) d_S_canBe_15 (by decide) ?_
    refine zr_retz d_S_canBe_16 rfl rfl (by decide) (by decide) ?_
    simp [c8]
  · skip
    refine zr_iconst (v := 1) d_S_canBe_11 (by decide) ?_
    refine zr_goto (tgt := 16) d_S_canBe_12 (by decide) ?_
    refine zr_retz d_S_canBe_16 rfl rfl (by decide) (by decide) ?_
    simp [c8]

set_option maxHeartbeats 4000000 in
set_option maxRecDepth 20000 in
theorem c_S_passesRow {G : yG} {μ : yW} {σ : zS} {o : Nat} (ho : o < zn σ) (hk : zkd σ o = 2) {t : Nat} (ht : t < 6)  : zCT G m_S_passesRow [yr (kP o), yr (10 + t)] σ μ (fun r σ' => r = some (yi (if zth σ 8 t = 10 then 1 else 0)) ∧ σ' = σ) := by
  refine zCT_of (by decide) rfl (ycat_of rfl) (Nat.le_of_ble_eq_true rfl) ?_
  refine zr_aload_n d_S_passesRow_0 rfl ?_
  refine zr_tgeti d_S_passesRow_1 (by first | assumption | omega) sf_S_passesRow_1 rfl rfl ?_
  refine zr_bipush (v := 10) d_S_passesRow_4 (by decide) ?_
  refine zr_icmp_ne (tgt := 13) d_S_passesRow_6 (by decide) (fun c6 => ?_) (fun c6 => ?_)
  · skip
    refine zr_iconst (v := 0) d_S_passesRow_13 (by decide) ?_
    refine zr_retz d_S_passesRow_14 rfl rfl (by decide) (by decide) ?_
    simp [c6]
  · skip
    refine zr_iconst (v := 1) d_S_passesRow_9 (by decide) ?_
    refine zr_goto (tgt := 14) d_S_passesRow_10 (by decide) ?_
    refine zr_retz d_S_passesRow_14 rfl rfl (by decide) (by decide) ?_
    simp [c6]

set_option maxHeartbeats 4000000 in
set_option maxRecDepth 20000 in
theorem c_S_grant {G : yG} {μ : yW} {σ : zS} {o : Nat} (ho : o < zn σ) (hk : zkd σ o = 2) {t : Nat} (ht : t < 6)  : zCT G m_S_grant [yr (kP o), yr (10 + t)] σ μ (fun r σ' => r = none ∧ σ' = zspl σ 3 o (zpl σ 3 o + (if zth σ 8 t = 10 then zth σ 9 t else -(zth σ 9 t)))) := by
  refine zCT_of (by decide) rfl (ycat_of rfl) (Nat.le_of_ble_eq_true rfl) ?_
  refine zr_aload_n d_S_grant_0 rfl ?_
  refine zr_dup d_S_grant_1 (fun _ => rfl) ?_
  refine zr_pgeti (c := 2) (f := 3) d_S_grant_2 (by first | assumption | omega) hk sf_S_grant_2 rfl rfl ?_
  refine zr_aload_n d_S_grant_5 rfl ?_
  refine zr_tgeti d_S_grant_6 (by first | assumption | omega) sf_S_grant_6 rfl rfl ?_
  refine zr_bipush (v := 10) d_S_grant_9 (by decide) ?_
  refine zr_icmp_ne (tgt := 21) d_S_grant_11 (by decide) (fun c11 => ?_) (fun c11 => ?_)
  · skip
    refine zr_aload_n d_S_grant_21 rfl ?_
    refine zr_tgeti d_S_grant_22 (by first | assumption | omega) sf_S_grant_22 rfl rfl ?_
    refine zr_ineg d_S_grant_25 ?_
    refine zr_iadd d_S_grant_26 ?_
    refine zr_pputi (c := 2) (f := 3) d_S_grant_27 (by first | assumption | omega) hk sf_S_grant_27 rfl rfl (by decide) rfl ⟨rfl, rfl⟩ ?_
    refine zr_retv d_S_grant_30 rfl (by decide) (by decide) ?_
    simp [c11]
  · skip
    refine zr_aload_n d_S_grant_14 rfl ?_
    refine zr_tgeti d_S_grant_15 (by first | assumption | omega) sf_S_grant_15 rfl rfl ?_
    refine zr_goto (tgt := 26) d_S_grant_18 (by decide) ?_
    refine zr_iadd d_S_grant_26 ?_
    refine zr_pputi (c := 2) (f := 3) d_S_grant_27 (by first | assumption | omega) hk sf_S_grant_27 rfl rfl (by decide) rfl ⟨rfl, rfl⟩ ?_
    refine zr_retv d_S_grant_30 rfl (by decide) (by decide) ?_
    simp [c11]

set_option maxHeartbeats 4000000 in
set_option maxRecDepth 20000 in
theorem c_S_level {G : yG} {μ : yW} {σ : zS} {o : Nat} (ho : o < zn σ) (hk : zkd σ o = 2)  : zCT G m_S_level [yr (kP o)] σ μ (fun r σ' => r = some (yi (zpl σ 3 o)) ∧ σ' = σ) := by
  refine zCT_of (by decide) rfl (ycat_of rfl) (Nat.le_of_ble_eq_true rfl) ?_
  refine zr_aload_n d_S_level_0 rfl ?_
  refine zr_pgeti (c := 2) (f := 3) d_S_level_1 (by first | assumption | omega) hk sf_S_level_1 rfl rfl ?_
  exact zr_reti d_S_level_4 rfl (by decide) (by decide) ⟨rfl, rfl⟩

set_option maxHeartbeats 4000000 in
set_option maxRecDepth 20000 in
theorem c_L_canBe {G : yG} {μ : yW} {σ : zS} {o : Nat} (ho : o < zn σ) (hk : zkd σ o = 3) {t : Nat} (ht : t < 6)  : zCT G m_L_canBe [yr (kP o), yr (10 + t)] σ μ (fun r σ' => r = some (yi (if zpl σ 3 o = 0 then 1 else 0)) ∧ σ' = σ) := by
  refine zCT_of (by decide) rfl (ycat_of rfl) (Nat.le_of_ble_eq_true rfl) ?_
  refine zr_aload_n d_L_canBe_0 rfl ?_
  refine zr_pgeti (c := 3) (f := 3) d_L_canBe_1 (by first | assumption | omega) hk sf_L_canBe_1 rfl rfl ?_
  refine zr_if_ne (tgt := 11) d_L_canBe_4 (by decide) (fun c4 => ?_) (fun c4 => ?_)
  · skip
    refine zr_iconst (v := 0) d_L_canBe_11 (by decide) ?_
    refine zr_retz d_L_canBe_12 rfl rfl (by decide) (by decide) ?_
    simp [c4]
  · skip
    refine zr_iconst (v := 1) d_L_canBe_7 (by decide) ?_
    refine zr_goto (tgt := 12) d_L_canBe_8 (by decide) ?_
    refine zr_retz d_L_canBe_12 rfl rfl (by decide) (by decide) ?_
    simp [c4]

set_option maxHeartbeats 4000000 in
set_option maxRecDepth 20000 in
theorem c_L_passesRow {G : yG} {μ : yW} {σ : zS} {o : Nat} (ho : o < zn σ) (hk : zkd σ o = 3) {t : Nat} (ht : t < 6)  : zCT G m_L_passesRow [yr (kP o), yr (10 + t)] σ μ (fun r σ' => r = some (yi (if zth σ 8 t = 12 then 1 else 0)) ∧ σ' = σ) := by
  refine zCT_of (by decide) rfl (ycat_of rfl) (Nat.le_of_ble_eq_true rfl) ?_
  refine zr_aload_n d_L_passesRow_0 rfl ?_
  refine zr_tgeti d_L_passesRow_1 (by first | assumption | omega) sf_L_passesRow_1 rfl rfl ?_
  refine zr_bipush (v := 12) d_L_passesRow_4 (by decide) ?_
  refine zr_icmp_ne (tgt := 13) d_L_passesRow_6 (by decide) (fun c6 => ?_) (fun c6 => ?_)
  · skip
    refine zr_iconst (v := 0) d_L_passesRow_13 (by decide) ?_
    refine zr_retz d_L_passesRow_14 rfl rfl (by decide) (by decide) ?_
    simp [c6]
  · skip
    refine zr_iconst (v := 1) d_L_passesRow_9 (by decide) ?_
    refine zr_goto (tgt := 14) d_L_passesRow_10 (by decide) ?_
    refine zr_retz d_L_passesRow_14 rfl rfl (by decide) (by decide) ?_
    simp [c6]

set_option maxHeartbeats 4000000 in
set_option maxRecDepth 20000 in
theorem c_L_grant {G : yG} {μ : yW} {σ : zS} {o : Nat} (ho : o < zn σ) (hk : zkd σ o = 3) {t : Nat} (ht : t < 6)  : zCT G m_L_grant [yr (kP o), yr (10 + t)] σ μ (fun r σ' => r = none ∧ σ' = (if zth σ 8 t = 12 ∧ ¬ zpl σ 3 o ≤ 0 then zspl σ 3 o (zpl σ 3 o - 1) else σ)) := by
  refine zCT_of (by decide) rfl (ycat_of rfl) (Nat.le_of_ble_eq_true rfl) ?_
  refine zr_aload_n d_L_grant_0 rfl ?_
  refine zr_tgeti d_L_grant_1 (by first | assumption | omega) sf_L_grant_1 rfl rfl ?_
  refine zr_bipush (v := 12) d_L_grant_4 (by decide) ?_
  refine zr_icmp_ne (tgt := 26) d_L_grant_6 (by decide) (fun c6 => ?_) (fun c6 => ?_)
  · skip
    refine zr_retv d_L_grant_26 rfl (by decide) (by decide) ?_
    simp [*]
  · skip
    refine zr_aload_n d_L_grant_9 rfl ?_
    refine zr_pgeti (c := 3) (f := 3) d_L_grant_10 (by first | assumption | omega) hk sf_L_grant_10 rfl rfl ?_
    refine zr_if_le (tgt := 26) d_L_grant_13 (by decide) (fun c13 => ?_) (fun c13 => ?_)
    · skip
      refine zr_retv d_L_grant_26 rfl (by decide) (by decide) ?_
      simp [*]
    · skip
      refine zr_aload_n d_L_grant_16 rfl ?_
      refine zr_dup d_L_grant_17 (fun _ => rfl) ?_
      refine zr_pgeti (c := 3) (f := 3) d_L_grant_18 (by first | assumption | omega) hk sf_L_grant_18 rfl rfl ?_
      refine zr_iconst (v := 1) d_L_grant_21 (by decide) ?_
      refine zr_isub d_L_grant_22 ?_
      refine zr_pputi (c := 3) (f := 3) d_L_grant_23 (by first | assumption | omega) hk sf_L_grant_23 rfl rfl (by decide) rfl ⟨rfl, rfl⟩ ?_
      refine zr_retv d_L_grant_26 rfl (by decide) (by decide) ?_
      simp [*]

set_option maxHeartbeats 4000000 in
set_option maxRecDepth 20000 in
theorem c_L_level {G : yG} {μ : yW} {σ : zS} {o : Nat} (ho : o < zn σ) (hk : zkd σ o = 3)  : zCT G m_L_level [yr (kP o)] σ μ (fun r σ' => r = some (yi (zpl σ 3 o)) ∧ σ' = σ) := by
  refine zCT_of (by decide) rfl (ycat_of rfl) (Nat.le_of_ble_eq_true rfl) ?_
  refine zr_aload_n d_L_level_0 rfl ?_
  refine zr_pgeti (c := 3) (f := 3) d_L_level_1 (by first | assumption | omega) hk sf_L_level_1 rfl rfl ?_
  exact zr_reti d_L_level_4 rfl (by decide) (by decide) ⟨rfl, rfl⟩

set_option maxHeartbeats 4000000 in
set_option maxRecDepth 20000 in
theorem c_A_refuses {G : yG} {μ : yW} {σ : zS} {o : Nat} (ho : o < zn σ) (hk : zkd σ o = 4) {t : Nat} (ht : t < 6)  : zCT G m_A_refuses [yr (kP o), yr (10 + t)] σ μ (fun r σ' => r = some (yi (if zth σ 8 t = 13 ∧ ¬ zpl σ 4 o = 0 then 1 else 0)) ∧ σ' = σ) := by
  refine zCT_of (by decide) rfl (ycat_of rfl) (Nat.le_of_ble_eq_true rfl) ?_
  refine zr_aload_n d_A_refuses_0 rfl ?_
  refine zr_tgeti d_A_refuses_1 (by first | assumption | omega) sf_A_refuses_1 rfl rfl ?_
  refine zr_bipush (v := 13) d_A_refuses_4 (by decide) ?_
  refine zr_icmp_ne (tgt := 20) d_A_refuses_6 (by decide) (fun c6 => ?_) (fun c6 => ?_)
  · skip
    refine zr_iconst (v := 0) d_A_refuses_20 (by decide) ?_
    refine zr_retz d_A_refuses_21 rfl rfl (by decide) (by decide) ?_
    simp [*]
  · skip
    refine zr_aload_n d_A_refuses_9 rfl ?_
    refine zr_pgeti (c := 4) (f := 4) d_A_refuses_10 (by first | assumption | omega) hk sf_A_refuses_10 rfl rfl ?_
    refine zr_if_eq (tgt := 20) d_A_refuses_13 (by decide) (fun c13 => ?_) (fun c13 => ?_)
    · skip
      refine zr_iconst (v := 0) d_A_refuses_20 (by decide) ?_
      refine zr_retz d_A_refuses_21 rfl rfl (by decide) (by decide) ?_
      simp [*]
    · skip
      refine zr_iconst (v := 1) d_A_refuses_16 (by decide) ?_
      refine zr_goto (tgt := 21) d_A_refuses_17 (by decide) ?_
      refine zr_retz d_A_refuses_21 rfl rfl (by decide) (by decide) ?_
      simp [*]

set_option maxHeartbeats 4000000 in
set_option maxRecDepth 20000 in
theorem c_A_canBe {G : yG} {μ : yW} {σ : zS} {o : Nat} (ho : o < zn σ) (hk : zkd σ o = 4) {t : Nat} (ht : t < 6)  : zCT G m_A_canBe [yr (kP o), yr (10 + t)] σ μ (fun r σ' => r = some (yi 0) ∧ σ' = σ) := by
  refine zCT_of (by decide) rfl (ycat_of rfl) (Nat.le_of_ble_eq_true rfl) ?_
  refine zr_iconst (v := 0) d_A_canBe_0 (by decide) ?_
  exact zr_retz d_A_canBe_1 rfl rfl (by decide) (by decide) ⟨rfl, rfl⟩

set_option maxHeartbeats 4000000 in
set_option maxRecDepth 20000 in
theorem c_A_passesRow {G : yG} {μ : yW} {σ : zS} {o : Nat} (ho : o < zn σ) (hk : zkd σ o = 4) (hv : zrv σ 0 o) {t : Nat} (ht : t < 6)  : zCT G m_A_passesRow [yr (kP o), yr (10 + t)] σ μ (fun r σ' => r = some (yi (if zth σ 8 t = 14 ∨ ¬ nI (zrw σ 0 o).length + 1 < nI (zcp σ o) then 1 else 0)) ∧ σ' = σ) := by
  refine zCT_of (by decide) rfl (ycat_of rfl) (Nat.le_of_ble_eq_true rfl) ?_
  refine zr_aload_n d_A_passesRow_0 rfl ?_
  refine zr_tgeti d_A_passesRow_1 (by first | assumption | omega) sf_A_passesRow_1 rfl rfl ?_
  refine zr_bipush (v := 14) d_A_passesRow_4 (by decide) ?_
  refine zr_icmp_eq (tgt := 25) d_A_passesRow_6 (by decide) (fun c6 => ?_) (fun c6 => ?_)
  · skip
    refine zr_iconst (v := 1) d_A_passesRow_25 (by decide) ?_
    refine zr_goto (tgt := 30) d_A_passesRow_26 (by decide) ?_
    refine zr_retz d_A_passesRow_30 rfl rfl (by decide) (by decide) ?_
    simp [*]
  · skip
    refine zr_aload_n d_A_passesRow_9 rfl ?_
    refine zr_prow' (c := 4) d_A_passesRow_10 (by first | assumption | omega) hk (by decide) sf_A_passesRow_10 ?_
    refine zr_rlen d_A_passesRow_13 (by assumption) sf_A_passesRow_13 ?_
    refine zr_iconst (v := 1) d_A_passesRow_16 (by decide) ?_
    refine zr_iadd d_A_passesRow_17 ?_
    refine zr_aload_n d_A_passesRow_18 rfl ?_
    refine zr_psize d_A_passesRow_19 (by first | assumption | omega) hk sf_A_passesRow_19 ?_
    refine zr_icmp_lt (tgt := 29) d_A_passesRow_22 (by decide) (fun c22 => ?_) (fun c22 => ?_)
    · skip
      refine zr_iconst (v := 0) d_A_passesRow_29 (by decide) ?_
      refine zr_retz d_A_passesRow_30 rfl rfl (by decide) (by decide) ?_
      simp [*]
    · skip
      refine zr_iconst (v := 1) d_A_passesRow_25 (by decide) ?_
      refine zr_goto (tgt := 30) d_A_passesRow_26 (by decide) ?_
      refine zr_retz d_A_passesRow_30 rfl rfl (by decide) (by decide) ?_
      simp [*]

set_option maxHeartbeats 4000000 in
set_option maxRecDepth 20000 in
theorem c_A_level {G : yG} {μ : yW} {σ : zS} {o : Nat} (ho : o < zn σ) (hk : zkd σ o = 4) (hv : zrv σ 0 o)  : zCT G m_A_level [yr (kP o)] σ μ (fun r σ' => r = some (yi (nI (zrw σ 0 o).length)) ∧ σ' = σ) := by
  refine zCT_of (by decide) rfl (ycat_of rfl) (Nat.le_of_ble_eq_true rfl) ?_
  refine zr_aload_n d_A_level_0 rfl ?_
  refine zr_prow' (c := 4) d_A_level_1 (by first | assumption | omega) hk (by decide) sf_A_level_1 ?_
  refine zr_rlen d_A_level_4 (by assumption) sf_A_level_4 ?_
  exact zr_reti d_A_level_7 rfl (by decide) (by decide) ⟨rfl, rfl⟩

set_option maxHeartbeats 4000000 in
set_option maxRecDepth 20000 in
theorem c_A_isBroken {G : yG} {μ : yW} {σ : zS} {o : Nat} (ho : o < zn σ) (hk : zkd σ o = 4) (hb : narrow .boolean (.int (zpl σ 4 o)) = .int (zpl σ 4 o))  : zCT G m_A_isBroken [yr (kP o)] σ μ (fun r σ' => r = some (yi (zpl σ 4 o)) ∧ σ' = σ) := by
  refine zCT_of (by decide) rfl (ycat_of rfl) (Nat.le_of_ble_eq_true rfl) ?_
  refine zr_aload_n d_A_isBroken_0 rfl ?_
  refine zr_pgeti (c := 4) (f := 4) d_A_isBroken_1 (by first | assumption | omega) hk sf_A_isBroken_1 rfl rfl ?_
  exact zr_retz d_A_isBroken_4 rfl hb (by decide) (by decide) ⟨rfl, rfl⟩

set_option maxHeartbeats 4000000 in
set_option maxRecDepth 20000 in
theorem c_Q_sortOf {G : yG} {μ : yW} {σ : zS} {o : Nat} {x : Int32} (ho : o < zn σ) (hk : zkd σ o = 5)  : zCT G m_Q_sortOf [yr (kP o), yi x] σ μ (fun r σ' => r = some (yi (if x = 16 then 1 else 0)) ∧ σ' = σ) := by
  refine zCT_of (by decide) rfl (ycat_of rfl) (Nat.le_of_ble_eq_true rfl) ?_
  refine zr_iload_n d_Q_sortOf_0 rfl ?_
  refine zr_bipush (v := 16) d_Q_sortOf_1 (by decide) ?_
  refine zr_icmp_ne (tgt := 10) d_Q_sortOf_3 (by decide) (fun c3 => ?_) (fun c3 => ?_)
  · skip
    refine zr_iconst (v := 0) d_Q_sortOf_10 (by decide) ?_
    refine zr_reti d_Q_sortOf_11 rfl (by decide) (by decide) ?_
    simp [c3]
  · skip
    refine zr_iconst (v := 1) d_Q_sortOf_6 (by decide) ?_
    refine zr_goto (tgt := 11) d_Q_sortOf_7 (by decide) ?_
    refine zr_reti d_Q_sortOf_11 rfl (by decide) (by decide) ?_
    simp [c3]

set_option maxHeartbeats 4000000 in
set_option maxRecDepth 20000 in
theorem c_Q_passesRow {G : yG} {μ : yW} {σ : zS} {o : Nat} (ho : o < zn σ) (hk : zkd σ o = 5) {t : Nat} (ht : t < 6)  : zCT G m_Q_passesRow [yr (kP o), yr (10 + t)] σ μ (fun r σ' => r = some (yi 0) ∧ σ' = σ) := by
  refine zCT_of (by decide) rfl (ycat_of rfl) (Nat.le_of_ble_eq_true rfl) ?_
  refine zr_iconst (v := 0) d_Q_passesRow_0 (by decide) ?_
  exact zr_retz d_Q_passesRow_1 rfl rfl (by decide) (by decide) ⟨rfl, rfl⟩

set_option maxHeartbeats 4000000 in
set_option maxRecDepth 20000 in
theorem c_P_allows {G : yG} {μ : yW} {σ : zS} {o : Nat} {a g : Int32} (ho : o < zn σ) {t : Nat} (ht : t < 6)  : zCT G m_P_allows [yr (kP o), yr (10 + t), yi a, yi g] σ μ (fun r σ' => r = some (yi 1) ∧ σ' = σ) := by
  refine zCT_of (by decide) rfl (ycat_of rfl) (Nat.le_of_ble_eq_true rfl) ?_
  refine zr_iconst (v := 1) d_P_allows_0 (by decide) ?_
  exact zr_retz d_P_allows_1 rfl rfl (by decide) (by decide) ⟨rfl, rfl⟩

set_option maxHeartbeats 4000000 in
set_option maxRecDepth 20000 in
theorem c_P_refuses {G : yG} {μ : yW} {σ : zS} {o : Nat} (ho : o < zn σ) {t : Nat} (ht : t < 6)  : zCT G m_P_refuses [yr (kP o), yr (10 + t)] σ μ (fun r σ' => r = some (yi 0) ∧ σ' = σ) := by
  refine zCT_of (by decide) rfl (ycat_of rfl) (Nat.le_of_ble_eq_true rfl) ?_
  refine zr_iconst (v := 0) d_P_refuses_0 (by decide) ?_
  exact zr_retz d_P_refuses_1 rfl rfl (by decide) (by decide) ⟨rfl, rfl⟩

set_option maxHeartbeats 4000000 in
set_option maxRecDepth 20000 in
theorem c_P_sortOf {G : yG} {μ : yW} {σ : zS} {o : Nat} {a : Int32} (ho : o < zn σ)  : zCT G m_P_sortOf [yr (kP o), yi a] σ μ (fun r σ' => r = some (yi 0) ∧ σ' = σ) := by
  refine zCT_of (by decide) rfl (ycat_of rfl) (Nat.le_of_ble_eq_true rfl) ?_
  refine zr_iconst (v := 0) d_P_sortOf_0 (by decide) ?_
  exact zr_reti d_P_sortOf_1 rfl (by decide) (by decide) ⟨rfl, rfl⟩

set_option maxHeartbeats 4000000 in
set_option maxRecDepth 20000 in
theorem c_P_owner {G : yG} {μ : yW} {σ : zS} {o : Nat} (ho : o < zn σ)  : zCT G m_P_owner [yr (kP o)] σ μ (fun r σ' => r = some (yi 0) ∧ σ' = σ) := by
  refine zCT_of (by decide) rfl (ycat_of rfl) (Nat.le_of_ble_eq_true rfl) ?_
  refine zr_iconst (v := 0) d_P_owner_0 (by decide) ?_
  exact zr_reti d_P_owner_1 rfl (by decide) (by decide) ⟨rfl, rfl⟩

set_option maxHeartbeats 4000000 in
set_option maxRecDepth 20000 in
theorem c_P_waitersAt {G : yG} {μ : yW} {σ : zS} {o : Nat} {a : Int32} (ho : o < zn σ)  : zCT G m_P_waitersAt [yr (kP o), yi a] σ μ (fun r σ' => r = some (yi 0) ∧ σ' = σ) := by
  refine zCT_of (by decide) rfl (ycat_of rfl) (Nat.le_of_ble_eq_true rfl) ?_
  refine zr_iconst (v := 0) d_P_waitersAt_0 (by decide) ?_
  exact zr_reti d_P_waitersAt_1 rfl (by decide) (by decide) ⟨rfl, rfl⟩

set_option maxHeartbeats 4000000 in
set_option maxRecDepth 20000 in
theorem c_P_timesRead {G : yG} {μ : yW} {σ : zS} {o : Nat} (ho : o < zn σ)  : zCT G m_P_timesRead [yr (kP o)] σ μ (fun r σ' => r = some (yi 0) ∧ σ' = σ) := by
  refine zCT_of (by decide) rfl (ycat_of rfl) (Nat.le_of_ble_eq_true rfl) ?_
  refine zr_iconst (v := 0) d_P_timesRead_0 (by decide) ?_
  exact zr_reti d_P_timesRead_1 rfl (by decide) (by decide) ⟨rfl, rfl⟩

set_option maxHeartbeats 4000000 in
set_option maxRecDepth 20000 in
theorem c_P_isBroken {G : yG} {μ : yW} {σ : zS} {o : Nat} (ho : o < zn σ)  : zCT G m_P_isBroken [yr (kP o)] σ μ (fun r σ' => r = some (yi 0) ∧ σ' = σ) := by
  refine zCT_of (by decide) rfl (ycat_of rfl) (Nat.le_of_ble_eq_true rfl) ?_
  refine zr_iconst (v := 0) d_P_isBroken_0 (by decide) ?_
  exact zr_retz d_P_isBroken_1 rfl rfl (by decide) (by decide) ⟨rfl, rfl⟩

set_option maxHeartbeats 4000000 in
set_option maxRecDepth 20000 in
theorem c_P_leanedOn {G : yG} {μ : yW} {σ : zS} {o : Nat} (ho : o < zn σ)  : zCT G m_P_leanedOn [yr (kP o)] σ μ (fun r σ' => r = some (yn) ∧ σ' = σ) := by
  refine zCT_of (by decide) rfl (ycat_of rfl) (Nat.le_of_ble_eq_true rfl) ?_
  refine zr_null d_P_leanedOn_0 ?_
  exact zr_reta d_P_leanedOn_1 rfl (Or.inl ⟨_, rfl⟩) (by decide) (by decide) ⟨rfl, rfl⟩

set_option maxHeartbeats 4000000 in
set_option maxRecDepth 20000 in
theorem c_P_whenOneGaveUp {G : yG} {μ : yW} {σ : zS} {o : Nat} (ho : o < zn σ)  : zCT G m_P_whenOneGaveUp [yr (kP o)] σ μ (fun r σ' => r = none ∧ σ' = σ) := by
  refine zCT_of (by decide) rfl (ycat_of rfl) (Nat.le_of_ble_eq_true rfl) ?_
  exact zr_retv d_P_whenOneGaveUp_0 rfl (by decide) (by decide) ⟨rfl, rfl⟩

set_option maxHeartbeats 4000000 in
set_option maxRecDepth 20000 in
theorem c_Y_numberOf {G : yG} {μ : yW} {σ : zS} {x : Option Nat} (hx : ∀ t, x = some t → t < 6) : zCT G m_Y_numberOf [yo (x.map (10 + ·))] σ μ (fun r σ' => r = some (yi (znum x)) ∧ σ' = σ) := by
  refine zCT_of (by decide) rfl (ycat_of rfl) (Nat.le_of_ble_eq_true rfl) ?_
  refine zr_aload_n d_Y_numberOf_0 rfl ?_
  cases x with
  | none =>
    refine zr_ifnonnull (tgt := 8) d_Y_numberOf_1 (by decide) (fun a c1 => nomatch c1) (fun c1 => ?_)
    refine zr_iconst (v := -1) d_Y_numberOf_4 (by decide) ?_
    refine zr_goto (tgt := 12) d_Y_numberOf_5 (by decide) ?_
    exact zr_reti d_Y_numberOf_12 rfl (by decide) (by decide) ⟨rfl, rfl⟩
  | some t =>
    have ht : t < 6 := hx t rfl
    refine zr_ifnonnull (tgt := 8) d_Y_numberOf_1 (by decide) (fun a c1 => ?_) (fun c1 => nomatch c1)
    refine zr_aload_n d_Y_numberOf_8 rfl ?_
    refine zr_tnum d_Y_numberOf_9 (by first | assumption | omega) sf_Y_numberOf_9 ?_
    exact zr_reti d_Y_numberOf_12 rfl (by decide) (by decide) ⟨rfl, rfl⟩
end
section
/-! places: the moves -/
theorem zdecl {i' : yM} (h1 : Cond.instanceMethod (yMy i') ∈ lw_tbl) (h2 : ycode i' ∈ lw_tbl) : ∀ s : State, yGx s → va_Decl s (yMy i') := fun s hg => va_Decl.of (args := #[]) (hg _ h1 rfl #[]) (hg _ h2 rfl #[])
theorem zdeclA {x : MethodName} (h1 : Cond.declares x ∈ lw_tbl) : ∀ s : State, yGx s → va_Decl s x := fun s hg => va_Decl.abs (hg _ h1 rfl #[])
section ZC1
variable {G : yG} {i : yM} {pc : Nat} {ls : List (Option yV)} {σ : zS} {μ : yW} {cs sl : Nat} {P : Option yV → zS → Prop}
/-- a method of a place of a known kind -/
theorem zrunC {i' : yM} {o c : Nat} {As rest : List yV} {ix : Nat} {x : MethodName} {owner : String} (hd : decode (yMb i) pc = .ok (.invokevirtual ix, 3)) (ho : o < zn σ) (hk : zkd σ o = c) (hc6 : c < 6) (hct : zCT G i' (yr (kP o) :: As) σ μ P) (n : Nat) (hn : As.length = n) (hf : zUF i i' ix n x owner (zcl c).1 false = true) (hcode : ycode i' ∈ lw_tbl) (hdecl : ∀ s : State, yGx s → va_Decl s ⟨owner, x.name, x.desc⟩) (hcell : (yMm i').cells = 0 ∧ (yMm i').slots = 0) (hrest : rest.length ≤ 8) (hcat : ∀ v ∈ rest, ∀ ad, (ycv ad v).category = 1) (hc : cs ≤ (yMm i).cells) (hs : sl ≤ (yMm i).slots) :
    ∀ ω, zC σ μ ω → yRun G i i' pc ls (As.reverse ++ yr (kP o) :: rest) rest (yr (kP o) :: As) ω cs sl (zP μ P) yNX := by
  intro ω h
  subst hn
  unfold zUF at hf
  simp only [Bool.and_eq_true, decide_eq_true_eq] at hf
  obtain ⟨⟨⟨⟨⟨⟨⟨⟨g1, g2⟩, g3⟩, g4⟩, g5⟩, g6⟩, g7⟩, g8⟩, g9⟩ := hf
  refine yrunU2 (x := x) (owner := owner) (ci := 3 + c) hd (hct ω h) (h.sP' ho (by rw [hk])) (zcl_ok _ hc6) g1 ⟨g2, g3⟩ g4 hcode g5 g6 g7 hdecl g8 ?_ hrest hcat (by rw [hcell.1]; exact hc) (by rw [hcell.2]; exact hs)
  intro s args c9 hg hfc
  simp only [Bool.false_eq_true, if_false, decide_eq_true_eq] at g9
  exact hg _ g9 rfl args
end ZC1
def zjoin (σ : zS) (o t : Nat) (p : Int32) : zS := zstay (zsrw σ 0 o (zrw σ 0 o ++ [t])) t (some o) 1 p
def ztake (σ : zS) (o t : Nat) (h : Int32) : zS := zstay (zsrw (zsth σ 11 t h) 0 o (zrw σ 0 o ++ [t])) t (some o) 1 (-1)
/-- the condition's row by its number -/
def zcj (x : Int32) : Nat := if x = 0 then 1 else 2
def zjoinC (σ : zS) (o t : Nat) (p : Int32) : zS := zstay (zsrw (zsho (zspl (zsth σ 10 t (zpl σ 6 o)) 6 o 0) o none) (zcj (zth σ 9 t)) o (zrw σ (zcj (zth σ 9 t)) o ++ [t])) t (some o) 2 p
theorem zcj_v {σ : zS} {o : Nat} {x : Int32} (ho : o < zn σ) (hk : zkd σ o = 0) : zrv σ (zcj x) o := ⟨ho, Or.inr ⟨hk, by unfold zcj; split <;> omega⟩⟩

set_option maxHeartbeats 4000000 in
set_option maxRecDepth 20000 in
theorem c_P_joinRow {G : yG} {μ : yW} {σ : zS} {o : Nat} {p : Int32} (ho : o < zn σ) {t : Nat} (ht : t < 6) (h5 : (zrw σ 0 o).length < 6)  : zCT G m_P_joinRow [yr (kP o), yr (10 + t), yi p] σ μ (fun r σ' => r = none ∧ σ' = zjoin σ o t p) := by
  have hv : zrv σ 0 o := ⟨ho, Or.inl rfl⟩
  refine zCT_of (by decide) rfl (ycat_of rfl) (Nat.le_of_ble_eq_true rfl) ?_
  refine zr_aload_n d_P_joinRow_0 rfl ?_
  refine zr_prow d_P_joinRow_1 (by first | assumption | omega) sf_P_joinRow_1 ?_
  refine zr_aload_n d_P_joinRow_4 rfl ?_
  refine zr_call (zrunV (As := [yr (10 + t)]) (rest := []) d_P_joinRow_5 (fun ω h => (h.row (by assumption)).2.1) rfl (c_R_add hv ht h5) 1 rfl (by decide +kernel) cw_R_add (Nat.le_of_ble_eq_true rfl) (ycat_of rfl) (by decide) (by decide)) (fun r σ9 hp => ?_)
  obtain ⟨rfl, rfl⟩ := hp
  refine zr_aload_n d_P_joinRow_8 rfl ?_
  refine zr_aload_n d_P_joinRow_9 rfl ?_
  refine zr_iconst (v := 1) d_P_joinRow_10 (by decide) ?_
  refine zr_iload_n d_P_joinRow_11 rfl ?_
  refine zr_call (zrunV (As := [yr (kP o), yi 1, yi p]) (rest := []) d_P_joinRow_12 (fun ω h => h.sT (by assumption)) rfl (c_T_stay ht ho) 3 rfl (by decide +kernel) cw_T_stay (Nat.le_of_ble_eq_true rfl) (ycat_of rfl) (by decide) (by decide)) (fun r σ9 hp => ?_)
  obtain ⟨rfl, rfl⟩ := hp
  exact zr_retv d_P_joinRow_15 rfl (by decide) (by decide) ⟨rfl, rfl⟩

set_option maxHeartbeats 4000000 in
set_option maxRecDepth 20000 in
theorem c_P_holdBack {G : yG} {μ : yW} {σ : zS} {o : Nat} {p : Int32} (ho : o < zn σ) {t : Nat} (ht : t < 6) (h5 : (zrw σ 0 o).length < 6)  : zCT G m_P_holdBack [yr (kP o), yr (10 + t), yi p] σ μ (fun r σ' => r = none ∧ σ' = zjoin σ o t p) := by
  refine zCT_of (by decide) rfl (ycat_of rfl) (Nat.le_of_ble_eq_true rfl) ?_
  refine zr_aload_n d_P_holdBack_0 rfl ?_
  refine zr_aload_n d_P_holdBack_1 rfl ?_
  refine zr_iload_n d_P_holdBack_2 rfl ?_
  refine zr_call (zrunP (sel := fun _ => m_P_joinRow) (o := o) (As := [yr (10 + t), yi p]) (rest := []) (x := yMy m_P_joinRow) (owner := "MonitorYard$Place") (priv := false) d_P_holdBack_3 ho (c_P_joinRow ho ht h5) 2 rfl (by decide +kernel) (fun _ _ => cw_P_joinRow) (zdecl (i' := m_P_joinRow) (by decide +kernel) cw_P_joinRow) (by decide) (Nat.le_of_ble_eq_true rfl) (ycat_of rfl) (by decide) (by decide)) (fun r σ9 hp => ?_)
  obtain ⟨rfl, rfl⟩ := hp
  exact zr_retv d_P_holdBack_6 rfl (by decide) (by decide) ⟨rfl, rfl⟩

set_option maxHeartbeats 4000000 in
set_option maxRecDepth 20000 in
theorem c_K_takeAgain {G : yG} {μ : yW} {σ : zS} {o : Nat} {x : Int32} (ho : o < zn σ) (hk : zkd σ o = 0) {t : Nat} (ht : t < 6) (h5 : (zrw σ 0 o).length < 6)  : zCT G m_K_takeAgain [yr (kP o), yr (10 + t), yi x] σ μ (fun r σ' => r = none ∧ σ' = ztake σ o t x) := by
  have hv : zrv σ 0 o := ⟨ho, Or.inl rfl⟩
  refine zCT_of (by decide) rfl (ycat_of rfl) (Nat.le_of_ble_eq_true rfl) ?_
  refine zr_aload_n d_K_takeAgain_0 rfl ?_
  refine zr_iload_n d_K_takeAgain_1 rfl ?_
  refine zr_tputi d_K_takeAgain_2 (by first | assumption | omega) sf_K_takeAgain_2 rfl rfl ⟨rfl, rfl⟩ ?_
  refine zr_aload_n d_K_takeAgain_5 rfl ?_
  refine zr_prow' (c := 0) d_K_takeAgain_6 (by first | assumption | omega) hk (by decide) sf_K_takeAgain_6 ?_
  refine zr_aload_n d_K_takeAgain_9 rfl ?_
  refine zr_call (zrunV (As := [yr (10 + t)]) (rest := []) d_K_takeAgain_10 (fun ω h => (h.row (by assumption)).2.1) rfl (c_R_add (σ := zsth σ 11 t x) hv ht h5) 1 rfl (by decide +kernel) cw_R_add (Nat.le_of_ble_eq_true rfl) (ycat_of rfl) (by decide) (by decide)) (fun r σ9 hp => ?_)
  obtain ⟨rfl, rfl⟩ := hp
  refine zr_aload_n d_K_takeAgain_13 rfl ?_
  refine zr_aload_n d_K_takeAgain_14 rfl ?_
  refine zr_iconst (v := 1) d_K_takeAgain_15 (by decide) ?_
  refine zr_iconst (v := -1) d_K_takeAgain_16 (by decide) ?_
  refine zr_call (zrunV (As := [yr (kP o), yi 1, yi (-1)]) (rest := []) d_K_takeAgain_17 (fun ω h => h.sT (by assumption)) rfl (c_T_stay ht ho) 3 rfl (by decide +kernel) cw_T_stay (Nat.le_of_ble_eq_true rfl) (ycat_of rfl) (by decide) (by decide)) (fun r σ9 hp => ?_)
  obtain ⟨rfl, rfl⟩ := hp
  exact zr_retv d_K_takeAgain_20 rfl (by decide) (by decide) ⟨rfl, rfl⟩

set_option maxHeartbeats 4000000 in
set_option maxRecDepth 20000 in
theorem c_K_waitersAt {G : yG} {μ : yW} {σ : zS} {o : Nat} {x : Int32} (ho : o < zn σ) (hk : zkd σ o = 0)  : zCT G m_K_waitersAt [yr (kP o), yi x] σ μ (fun r σ' => r = some (yi (nI (zrw σ (zcj x) o).length)) ∧ σ' = σ) := by
  have hk3 : 3 + zkd σ o = 3 := by rw [hk]
  refine zCT_of (by decide) rfl (ycat_of rfl) (Nat.le_of_ble_eq_true rfl) ?_
  refine zr_aload_n d_K_waitersAt_0 rfl ?_
  refine zr_iload_n d_K_waitersAt_1 rfl ?_
  refine zr_call (zrunV (As := [yi x]) (rest := []) d_K_waitersAt_2 (fun ω h => h.sP' ho hk3) rfl (c_K_condition ho hk) 1 rfl (by decide +kernel) cw_K_condition (Nat.le_of_ble_eq_true rfl) (ycat_of rfl) (by decide) (by decide)) (fun r σ9 hp => ?_)
  obtain ⟨rfl, rfl⟩ := hp
  have hv : zrv σ9 (zcj x) o := zcj_v ho hk
  change yWP _ _ _ _ _ _ [yr (kR (zcj x) o)] _ _ _
  refine zr_rlen d_K_waitersAt_5 (by assumption) sf_K_waitersAt_5 ?_
  exact zr_reti d_K_waitersAt_8 rfl (by decide) (by decide) ⟨rfl, rfl⟩

set_option maxHeartbeats 4000000 in
set_option maxRecDepth 20000 in
theorem c_K_joinCondition {G : yG} {μ : yW} {σ : zS} {o : Nat} {p : Int32} (ho : o < zn σ) (hk : zkd σ o = 0) {t : Nat} (ht : t < 6) (h5 : (zrw σ (zcj (zth σ 9 t)) o).length < 6)  : zCT G m_K_joinCondition [yr (kP o), yr (10 + t), yi p] σ μ (fun r σ' => r = none ∧ σ' = zjoinC σ o t p) := by
  have hk3 : 3 + zkd σ o = 3 := by rw [hk]
  have hv : zrv (zsho (zspl (zsth σ 10 t (zpl σ 6 o)) 6 o 0) o none) (zcj (zth σ 9 t)) o := zcj_v (σ := σ) ho hk
  refine zCT_of (by decide) rfl (ycat_of rfl) (Nat.le_of_ble_eq_true rfl) ?_
  refine zr_aload_n d_K_joinCondition_0 rfl ?_
  refine zr_aload_n d_K_joinCondition_1 rfl ?_
  refine zr_pgeti (c := 0) (f := 6) d_K_joinCondition_2 (by first | assumption | omega) hk sf_K_joinCondition_2 rfl rfl ?_
  refine zr_tputi d_K_joinCondition_5 (by first | assumption | omega) sf_K_joinCondition_5 rfl rfl ⟨rfl, rfl⟩ ?_
  refine zr_aload_n d_K_joinCondition_8 rfl ?_
  refine zr_iconst (v := 0) d_K_joinCondition_9 (by decide) ?_
  refine zr_pputi (c := 0) (f := 6) d_K_joinCondition_10 (by first | assumption | omega) hk sf_K_joinCondition_10 rfl rfl (by decide) rfl ⟨rfl, rfl⟩ ?_
  refine zr_aload_n d_K_joinCondition_13 rfl ?_
  refine zr_null d_K_joinCondition_14 ?_
  refine zr_pputho (c := 0) (x := none) d_K_joinCondition_15 (by assumption) hk (by decide) sf_K_joinCondition_15 (fun _ h => nomatch h) ?_
  refine zr_aload_n d_K_joinCondition_18 rfl ?_
  refine zr_aload_n d_K_joinCondition_19 rfl ?_
  refine zr_tgeti d_K_joinCondition_20 (by first | assumption | omega) sf_K_joinCondition_20 rfl rfl ?_
  refine zr_call (zrunV (As := [yi (zth σ 9 t)]) (rest := []) d_K_joinCondition_23 (fun ω h => h.sP' ho hk3) rfl (c_K_condition (σ := zsho (zspl (zsth σ 10 t (zpl σ 6 o)) 6 o 0) o none) ho hk) 1 rfl (by decide +kernel) cw_K_condition (Nat.le_of_ble_eq_true rfl) (ycat_of rfl) (by decide) (by decide)) (fun r σ9 hp => ?_)
  obtain ⟨rfl, rfl⟩ := hp
  change yWP _ _ _ _ _ _ [yr (kR (zcj (zth σ 9 t)) o)] _ _ _
  refine zr_aload_n d_K_joinCondition_26 rfl ?_
  refine zr_call (zrunV (As := [yr (10 + t)]) (rest := []) d_K_joinCondition_27 (fun ω h => (h.row hv).2.1) rfl (c_R_add (σ := zsho (zspl (zsth σ 10 t (zpl σ 6 o)) 6 o 0) o none) hv ht h5) 1 rfl (by decide +kernel) cw_R_add (Nat.le_of_ble_eq_true rfl) (ycat_of rfl) (by decide) (by decide)) (fun r σ9 hp => ?_)
  obtain ⟨rfl, rfl⟩ := hp
  refine zr_aload_n d_K_joinCondition_30 rfl ?_
  refine zr_aload_n d_K_joinCondition_31 rfl ?_
  refine zr_iconst (v := 2) d_K_joinCondition_32 (by decide) ?_
  refine zr_iload_n d_K_joinCondition_33 rfl ?_
  refine zr_call (zrunV (As := [yr (kP o), yi 2, yi p]) (rest := []) d_K_joinCondition_34 (fun ω h => h.sT (by assumption)) rfl (c_T_stay ht ho) 3 rfl (by decide +kernel) cw_T_stay (Nat.le_of_ble_eq_true rfl) (ycat_of rfl) (by decide) (by decide)) (fun r σ9 hp => ?_)
  obtain ⟨rfl, rfl⟩ := hp
  exact zr_retv d_K_joinCondition_37 rfl (by decide) (by decide) ⟨rfl, rfl⟩

set_option maxHeartbeats 4000000 in
set_option maxRecDepth 20000 in
theorem c_K_holdBack {G : yG} {μ : yW} {σ : zS} {o : Nat} {p : Int32} (ho : o < zn σ) (hk : zkd σ o = 0) {t : Nat} (ht : t < 6) (h5 : (zrw σ 0 o).length < 6) (h5c : (zrw σ (zcj (zth σ 9 t)) o).length < 6)  : zCT G m_K_holdBack [yr (kP o), yr (10 + t), yi p] σ μ (fun r σ' => r = none ∧ σ' = (if zth σ 8 t = 2 then zjoinC σ o t p else zjoin σ o t p)) := by
  have hk3 : 3 + zkd σ o = 3 := by rw [hk]
  refine zCT_of (by decide) rfl (ycat_of rfl) (Nat.le_of_ble_eq_true rfl) ?_
  refine zr_aload_n d_K_holdBack_0 rfl ?_
  refine zr_tgeti d_K_holdBack_1 (by first | assumption | omega) sf_K_holdBack_1 rfl rfl ?_
  refine zr_iconst (v := 2) d_K_holdBack_4 (by decide) ?_
  refine zr_icmp_ne (tgt := 17) d_K_holdBack_5 (by decide) (fun c5 => ?_) (fun c5 => ?_)
  · skip
    refine zr_aload_n d_K_holdBack_17 rfl ?_
    refine zr_aload_n d_K_holdBack_18 rfl ?_
    refine zr_iload_n d_K_holdBack_19 rfl ?_
    refine zr_call (zrunC (c := 0) (As := [yr (10 + t), yi p]) (rest := []) (x := ⟨"MonitorYard$Lock", "joinRow", "(LMonitorYard$YardThread;I)V"⟩) (owner := "MonitorYard$Place") d_K_holdBack_20 (by assumption) hk (by decide) (c_P_joinRow ho ht h5) 2 rfl (by decide +kernel) cw_P_joinRow (zdecl (i' := m_P_joinRow) (by decide +kernel) cw_P_joinRow) (by decide) (Nat.le_of_ble_eq_true rfl) (ycat_of rfl) (by decide) (by decide)) (fun r σ9 hp => ?_)
    obtain ⟨rfl, rfl⟩ := hp
    refine zr_retv d_K_holdBack_23 rfl (by decide) (by decide) ?_
    simp [c5]
  · skip
    refine zr_aload_n d_K_holdBack_8 rfl ?_
    refine zr_aload_n d_K_holdBack_9 rfl ?_
    refine zr_iload_n d_K_holdBack_10 rfl ?_
    refine zr_call (zrunV (As := [yr (10 + t), yi p]) (rest := []) d_K_holdBack_11 (fun ω h => h.sP' ho hk3) rfl (c_K_joinCondition ho hk ht h5c) 2 rfl (by decide +kernel) cw_K_joinCondition (Nat.le_of_ble_eq_true rfl) (ycat_of rfl) (by decide) (by decide)) (fun r σ9 hp => ?_)
    obtain ⟨rfl, rfl⟩ := hp
    refine zr_goto (tgt := 23) d_K_holdBack_14 (by decide) ?_
    refine zr_retv d_K_holdBack_23 rfl (by decide) (by decide) ?_
    simp [c5]

set_option maxHeartbeats 4000000 in
set_option maxRecDepth 20000 in
theorem c_K_owner {G : yG} {μ : yW} {σ : zS} {o : Nat} (ho : o < zn σ) (hk : zkd σ o = 0) (hx : ∀ t, zho σ o = some t → t < 6)  : zCT G m_K_owner [yr (kP o)] σ μ (fun r σ' => r = some (yi (znum (zho σ o))) ∧ σ' = σ) := by
  refine zCT_of (by decide) rfl (ycat_of rfl) (Nat.le_of_ble_eq_true rfl) ?_
  refine zr_aload_n d_K_owner_0 rfl ?_
  refine zr_pho (c := 0) d_K_owner_1 (by first | assumption | omega) hk (by decide) sf_K_owner_1 ?_
  refine zr_call (zrunSN (host := "MonitorYard") (As := [yo ((zho σ o).map (10 + ·))]) (rest := []) d_K_owner_4 (c_Y_numberOf hx) 1 rfl (by decide +kernel) cw_Y_numberOf (Nat.le_of_ble_eq_true rfl) (ycat_of rfl) (by decide) (by decide)) (fun r σ9 hp => ?_)
  obtain ⟨rfl, rfl⟩ := hp
  exact zr_reti d_K_owner_7 rfl (by decide) (by decide) ⟨rfl, rfl⟩

set_option maxHeartbeats 4000000 in
set_option maxRecDepth 20000 in
theorem c_B_owner {G : yG} {μ : yW} {σ : zS} {o : Nat} (ho : o < zn σ) (hk : zkd σ o = 1) (hx : ∀ t, zho σ o = some t → t < 6)  : zCT G m_B_owner [yr (kP o)] σ μ (fun r σ' => r = some (yi (znum (zho σ o))) ∧ σ' = σ) := by
  refine zCT_of (by decide) rfl (ycat_of rfl) (Nat.le_of_ble_eq_true rfl) ?_
  refine zr_aload_n d_B_owner_0 rfl ?_
  refine zr_pho (c := 1) d_B_owner_1 (by first | assumption | omega) hk (by decide) sf_B_owner_1 ?_
  refine zr_call (zrunSN (host := "MonitorYard") (As := [yo ((zho σ o).map (10 + ·))]) (rest := []) d_B_owner_4 (c_Y_numberOf hx) 1 rfl (by decide +kernel) cw_Y_numberOf (Nat.le_of_ble_eq_true rfl) (ycat_of rfl) (by decide) (by decide)) (fun r σ9 hp => ?_)
  obtain ⟨rfl, rfl⟩ := hp
  exact zr_reti d_B_owner_7 rfl (by decide) (by decide) ⟨rfl, rfl⟩

set_option maxHeartbeats 4000000 in
set_option maxRecDepth 20000 in
theorem c_B_canBe {G : yG} {μ : yW} {σ : zS} {o : Nat} (ho : o < zn σ) (hk : zkd σ o = 1) {t : Nat} (ht : t < 6)  : zCT G m_B_canBe [yr (kP o), yr (10 + t)] σ μ (fun r σ' => r = some (yi (if ¬ (¬ zho σ o = none ∧ ¬ zho σ o = some t) ∧ (zth σ 8 t = 5 ∨ zpl σ 4 o ≤ zrd σ o t) then 1 else 0)) ∧ σ' = σ) := by
  refine zCT_of (by decide) rfl (ycat_of rfl) (Nat.le_of_ble_eq_true rfl) ?_
  refine zr_aload_n d_B_canBe_0 rfl ?_
  refine zr_pho (c := 1) d_B_canBe_1 (by first | assumption | omega) hk (by decide) sf_B_canBe_1 ?_
  refine zr_ifnull (tgt := 19) d_B_canBe_4 (by decide) (fun c4 => ?_) (fun a4 c4 => ?_)
  · skip
    refine zr_iconst (v := 0) d_B_canBe_19 (by decide) ?_
    refine zr_istore_n d_B_canBe_20 (by decide) rfl ?_
    refine zr_aload_n d_B_canBe_21 rfl ?_
    refine zr_pgeti (c := 1) (f := 4) d_B_canBe_22 (by first | assumption | omega) hk sf_B_canBe_22 rfl rfl ?_
    refine zr_aload_n d_B_canBe_25 rfl ?_
    refine zr_prds d_B_canBe_26 (by first | assumption | omega) hk sf_B_canBe_26 ?_
    refine zr_aload_n d_B_canBe_29 rfl ?_
    refine zr_tnum d_B_canBe_30 (by first | assumption | omega) sf_B_canBe_30 ?_
    refine zr_rdld d_B_canBe_33 (by assumption) hk ht rfl ?_
    refine zr_icmp_le (tgt := 41) d_B_canBe_34 (by decide) (fun c34 => ?_) (fun c34 => ?_)
    · skip
      refine zr_iconst (v := 0) d_B_canBe_41 (by decide) ?_
      refine zr_istore_n d_B_canBe_42 (by decide) rfl ?_
      refine zr_iload_n d_B_canBe_43 rfl ?_
      refine zr_if_ne (tgt := 63) d_B_canBe_44 (by decide) (fun c44 => ?_) (fun c44 => ?_)
      · skip
        refine zr_iconst (v := 0) d_B_canBe_63 (by decide) ?_
        refine zr_retz d_B_canBe_64 rfl rfl (by decide) (by decide) ?_
        first
          | exact absurd c44 (by decide)
          | exact absurd c56 (by decide)
          | (have e9 := zmap_some c4; rw [zmap_eq] at c12; simp [*]; done)
          | (rw [zmap_none] at c4; simp [*]; done)
      · skip
        refine zr_aload_n d_B_canBe_47 rfl ?_
        refine zr_tgeti d_B_canBe_48 (by first | assumption | omega) sf_B_canBe_48 rfl rfl ?_
        refine zr_iconst (v := 5) d_B_canBe_51 (by decide) ?_
        refine zr_icmp_eq (tgt := 59) d_B_canBe_52 (by decide) (fun c52 => ?_) (fun c52 => ?_)
        · skip
          refine zr_iconst (v := 1) d_B_canBe_59 (by decide) ?_
          refine zr_goto (tgt := 64) d_B_canBe_60 (by decide) ?_
          refine zr_retz d_B_canBe_64 rfl rfl (by decide) (by decide) ?_
          first
            | exact absurd c44 (by decide)
            | exact absurd c56 (by decide)
            | (have e9 := zmap_some c4; rw [zmap_eq] at c12; simp [*]; done)
            | (rw [zmap_none] at c4; simp [*]; done)
        · skip
          refine zr_iload_n d_B_canBe_55 rfl ?_
          refine zr_if_ne (tgt := 63) d_B_canBe_56 (by decide) (fun c56 => ?_) (fun c56 => ?_)
          · skip
            refine zr_iconst (v := 0) d_B_canBe_63 (by decide) ?_
            refine zr_retz d_B_canBe_64 rfl rfl (by decide) (by decide) ?_
            first
              | exact absurd c44 (by decide)
              | exact absurd c56 (by decide)
              | (have e9 := zmap_some c4; rw [zmap_eq] at c12; simp [*]; done)
              | (rw [zmap_none] at c4; simp [*]; done)
          · skip
            refine zr_iconst (v := 1) d_B_canBe_59 (by decide) ?_
            refine zr_goto (tgt := 64) d_B_canBe_60 (by decide) ?_
            refine zr_retz d_B_canBe_64 rfl rfl (by decide) (by decide) ?_
            first
              | exact absurd c44 (by decide)
              | exact absurd c56 (by decide)
              | (have e9 := zmap_some c4; rw [zmap_eq] at c12; simp [*]; done)
              | (rw [zmap_none] at c4; simp [*]; done)
    · skip
      refine zr_iconst (v := 1) d_B_canBe_37 (by decide) ?_
      refine zr_goto (tgt := 42) d_B_canBe_38 (by decide) ?_
      refine zr_istore_n d_B_canBe_42 (by decide) rfl ?_
      refine zr_iload_n d_B_canBe_43 rfl ?_
      refine zr_if_ne (tgt := 63) d_B_canBe_44 (by decide) (fun c44 => ?_) (fun c44 => ?_)
      · skip
        refine zr_iconst (v := 0) d_B_canBe_63 (by decide) ?_
        refine zr_retz d_B_canBe_64 rfl rfl (by decide) (by decide) ?_
        first
          | exact absurd c44 (by decide)
          | exact absurd c56 (by decide)
          | (have e9 := zmap_some c4; rw [zmap_eq] at c12; simp [*]; done)
          | (rw [zmap_none] at c4; simp [*]; done)
      · skip
        refine zr_aload_n d_B_canBe_47 rfl ?_
        refine zr_tgeti d_B_canBe_48 (by first | assumption | omega) sf_B_canBe_48 rfl rfl ?_
        refine zr_iconst (v := 5) d_B_canBe_51 (by decide) ?_
        refine zr_icmp_eq (tgt := 59) d_B_canBe_52 (by decide) (fun c52 => ?_) (fun c52 => ?_)
        · skip
          refine zr_iconst (v := 1) d_B_canBe_59 (by decide) ?_
          refine zr_goto (tgt := 64) d_B_canBe_60 (by decide) ?_
          refine zr_retz d_B_canBe_64 rfl rfl (by decide) (by decide) ?_
          first
            | exact absurd c44 (by decide)
            | exact absurd c56 (by decide)
            | (have e9 := zmap_some c4; rw [zmap_eq] at c12; simp [*]; done)
            | (rw [zmap_none] at c4; simp [*]; done)
        · skip
          refine zr_iload_n d_B_canBe_55 rfl ?_
          refine zr_if_ne (tgt := 63) d_B_canBe_56 (by decide) (fun c56 => ?_) (fun c56 => ?_)
          · skip
            refine zr_iconst (v := 0) d_B_canBe_63 (by decide) ?_
            refine zr_retz d_B_canBe_64 rfl rfl (by decide) (by decide) ?_
            first
              | exact absurd c44 (by decide)
              | exact absurd c56 (by decide)
              | (have e9 := zmap_some c4; rw [zmap_eq] at c12; simp [*]; done)
              | (rw [zmap_none] at c4; simp [*]; done)
          · skip
            refine zr_iconst (v := 1) d_B_canBe_59 (by decide) ?_
            refine zr_goto (tgt := 64) d_B_canBe_60 (by decide) ?_
            refine zr_retz d_B_canBe_64 rfl rfl (by decide) (by decide) ?_
            first
              | exact absurd c44 (by decide)
              | exact absurd c56 (by decide)
              | (have e9 := zmap_some c4; rw [zmap_eq] at c12; simp [*]; done)
              | (rw [zmap_none] at c4; simp [*]; done)
  · skip
    refine zr_aload_n d_B_canBe_7 rfl ?_
    refine zr_pho (c := 1) d_B_canBe_8 (by first | assumption | omega) hk (by decide) sf_B_canBe_8 ?_
    refine zr_aload_n d_B_canBe_11 rfl ?_
    refine zr_acmp_eq (tgt := 19) d_B_canBe_12 (by decide) (fun ω h => zlive_ho h (by assumption) (by assumption)) (fun c12 => ?_) (fun c12 => ?_)
    · skip
      refine zr_iconst (v := 0) d_B_canBe_19 (by decide) ?_
      refine zr_istore_n d_B_canBe_20 (by decide) rfl ?_
      refine zr_aload_n d_B_canBe_21 rfl ?_
      refine zr_pgeti (c := 1) (f := 4) d_B_canBe_22 (by first | assumption | omega) hk sf_B_canBe_22 rfl rfl ?_
      refine zr_aload_n d_B_canBe_25 rfl ?_
      refine zr_prds d_B_canBe_26 (by first | assumption | omega) hk sf_B_canBe_26 ?_
      refine zr_aload_n d_B_canBe_29 rfl ?_
      refine zr_tnum d_B_canBe_30 (by first | assumption | omega) sf_B_canBe_30 ?_
      refine zr_rdld d_B_canBe_33 (by assumption) hk ht rfl ?_
      refine zr_icmp_le (tgt := 41) d_B_canBe_34 (by decide) (fun c34 => ?_) (fun c34 => ?_)
      · skip
        refine zr_iconst (v := 0) d_B_canBe_41 (by decide) ?_
        refine zr_istore_n d_B_canBe_42 (by decide) rfl ?_
        refine zr_iload_n d_B_canBe_43 rfl ?_
        refine zr_if_ne (tgt := 63) d_B_canBe_44 (by decide) (fun c44 => ?_) (fun c44 => ?_)
        · skip
          refine zr_iconst (v := 0) d_B_canBe_63 (by decide) ?_
          refine zr_retz d_B_canBe_64 rfl rfl (by decide) (by decide) ?_
          first
            | exact absurd c44 (by decide)
            | exact absurd c56 (by decide)
            | (have e9 := zmap_some c4; rw [zmap_eq] at c12; simp [*]; done)
            | (rw [zmap_none] at c4; simp [*]; done)
        · skip
          refine zr_aload_n d_B_canBe_47 rfl ?_
          refine zr_tgeti d_B_canBe_48 (by first | assumption | omega) sf_B_canBe_48 rfl rfl ?_
          refine zr_iconst (v := 5) d_B_canBe_51 (by decide) ?_
          refine zr_icmp_eq (tgt := 59) d_B_canBe_52 (by decide) (fun c52 => ?_) (fun c52 => ?_)
          · skip
            refine zr_iconst (v := 1) d_B_canBe_59 (by decide) ?_
            refine zr_goto (tgt := 64) d_B_canBe_60 (by decide) ?_
            refine zr_retz d_B_canBe_64 rfl rfl (by decide) (by decide) ?_
            first
              | exact absurd c44 (by decide)
              | exact absurd c56 (by decide)
              | (have e9 := zmap_some c4; rw [zmap_eq] at c12; simp [*]; done)
              | (rw [zmap_none] at c4; simp [*]; done)
          · skip
            refine zr_iload_n d_B_canBe_55 rfl ?_
            refine zr_if_ne (tgt := 63) d_B_canBe_56 (by decide) (fun c56 => ?_) (fun c56 => ?_)
            · skip
              refine zr_iconst (v := 0) d_B_canBe_63 (by decide) ?_
              refine zr_retz d_B_canBe_64 rfl rfl (by decide) (by decide) ?_
              first
                | exact absurd c44 (by decide)
                | exact absurd c56 (by decide)
                | (have e9 := zmap_some c4; rw [zmap_eq] at c12; simp [*]; done)
                | (rw [zmap_none] at c4; simp [*]; done)
            · skip
              refine zr_iconst (v := 1) d_B_canBe_59 (by decide) ?_
              refine zr_goto (tgt := 64) d_B_canBe_60 (by decide) ?_
              refine zr_retz d_B_canBe_64 rfl rfl (by decide) (by decide) ?_
              first
                | exact absurd c44 (by decide)
                | exact absurd c56 (by decide)
                | (have e9 := zmap_some c4; rw [zmap_eq] at c12; simp [*]; done)
                | (rw [zmap_none] at c4; simp [*]; done)
      · skip
        refine zr_iconst (v := 1) d_B_canBe_37 (by decide) ?_
        refine zr_goto (tgt := 42) d_B_canBe_38 (by decide) ?_
        refine zr_istore_n d_B_canBe_42 (by decide) rfl ?_
        refine zr_iload_n d_B_canBe_43 rfl ?_
        refine zr_if_ne (tgt := 63) d_B_canBe_44 (by decide) (fun c44 => ?_) (fun c44 => ?_)
        · skip
          refine zr_iconst (v := 0) d_B_canBe_63 (by decide) ?_
          refine zr_retz d_B_canBe_64 rfl rfl (by decide) (by decide) ?_
          first
            | exact absurd c44 (by decide)
            | exact absurd c56 (by decide)
            | (have e9 := zmap_some c4; rw [zmap_eq] at c12; simp [*]; done)
            | (rw [zmap_none] at c4; simp [*]; done)
        · skip
          refine zr_aload_n d_B_canBe_47 rfl ?_
          refine zr_tgeti d_B_canBe_48 (by first | assumption | omega) sf_B_canBe_48 rfl rfl ?_
          refine zr_iconst (v := 5) d_B_canBe_51 (by decide) ?_
          refine zr_icmp_eq (tgt := 59) d_B_canBe_52 (by decide) (fun c52 => ?_) (fun c52 => ?_)
          · skip
            refine zr_iconst (v := 1) d_B_canBe_59 (by decide) ?_
            refine zr_goto (tgt := 64) d_B_canBe_60 (by decide) ?_
            refine zr_retz d_B_canBe_64 rfl rfl (by decide) (by decide) ?_
            first
              | exact absurd c44 (by decide)
              | exact absurd c56 (by decide)
              | (have e9 := zmap_some c4; rw [zmap_eq] at c12; simp [*]; done)
              | (rw [zmap_none] at c4; simp [*]; done)
          · skip
            refine zr_iload_n d_B_canBe_55 rfl ?_
            refine zr_if_ne (tgt := 63) d_B_canBe_56 (by decide) (fun c56 => ?_) (fun c56 => ?_)
            · skip
              refine zr_iconst (v := 0) d_B_canBe_63 (by decide) ?_
              refine zr_retz d_B_canBe_64 rfl rfl (by decide) (by decide) ?_
              first
                | exact absurd c44 (by decide)
                | exact absurd c56 (by decide)
                | (have e9 := zmap_some c4; rw [zmap_eq] at c12; simp [*]; done)
                | (rw [zmap_none] at c4; simp [*]; done)
            · skip
              refine zr_iconst (v := 1) d_B_canBe_59 (by decide) ?_
              refine zr_goto (tgt := 64) d_B_canBe_60 (by decide) ?_
              refine zr_retz d_B_canBe_64 rfl rfl (by decide) (by decide) ?_
              first
                | exact absurd c44 (by decide)
                | exact absurd c56 (by decide)
                | (have e9 := zmap_some c4; rw [zmap_eq] at c12; simp [*]; done)
                | (rw [zmap_none] at c4; simp [*]; done)
    · skip
      refine zr_iconst (v := 1) d_B_canBe_15 (by decide) ?_
      refine zr_goto (tgt := 20) d_B_canBe_16 (by decide) ?_
      refine zr_istore_n d_B_canBe_20 (by decide) rfl ?_
      refine zr_aload_n d_B_canBe_21 rfl ?_
      refine zr_pgeti (c := 1) (f := 4) d_B_canBe_22 (by first | assumption | omega) hk sf_B_canBe_22 rfl rfl ?_
      refine zr_aload_n d_B_canBe_25 rfl ?_
      refine zr_prds d_B_canBe_26 (by first | assumption | omega) hk sf_B_canBe_26 ?_
      refine zr_aload_n d_B_canBe_29 rfl ?_
      refine zr_tnum d_B_canBe_30 (by first | assumption | omega) sf_B_canBe_30 ?_
      refine zr_rdld d_B_canBe_33 (by assumption) hk ht rfl ?_
      refine zr_icmp_le (tgt := 41) d_B_canBe_34 (by decide) (fun c34 => ?_) (fun c34 => ?_)
      · skip
        refine zr_iconst (v := 0) d_B_canBe_41 (by decide) ?_
        refine zr_istore_n d_B_canBe_42 (by decide) rfl ?_
        refine zr_iload_n d_B_canBe_43 rfl ?_
        refine zr_if_ne (tgt := 63) d_B_canBe_44 (by decide) (fun c44 => ?_) (fun c44 => ?_)
        · skip
          refine zr_iconst (v := 0) d_B_canBe_63 (by decide) ?_
          refine zr_retz d_B_canBe_64 rfl rfl (by decide) (by decide) ?_
          first
            | exact absurd c44 (by decide)
            | exact absurd c56 (by decide)
            | (have e9 := zmap_some c4; rw [zmap_eq] at c12; simp [*]; done)
            | (rw [zmap_none] at c4; simp [*]; done)
        · skip
          refine zr_aload_n d_B_canBe_47 rfl ?_
          refine zr_tgeti d_B_canBe_48 (by first | assumption | omega) sf_B_canBe_48 rfl rfl ?_
          refine zr_iconst (v := 5) d_B_canBe_51 (by decide) ?_
          refine zr_icmp_eq (tgt := 59) d_B_canBe_52 (by decide) (fun c52 => ?_) (fun c52 => ?_)
          · skip
            refine zr_iconst (v := 1) d_B_canBe_59 (by decide) ?_
            refine zr_goto (tgt := 64) d_B_canBe_60 (by decide) ?_
            refine zr_retz d_B_canBe_64 rfl rfl (by decide) (by decide) ?_
            first
              | exact absurd c44 (by decide)
              | exact absurd c56 (by decide)
              | (have e9 := zmap_some c4; rw [zmap_eq] at c12; simp [*]; done)
              | (rw [zmap_none] at c4; simp [*]; done)
          · skip
            refine zr_iload_n d_B_canBe_55 rfl ?_
            refine zr_if_ne (tgt := 63) d_B_canBe_56 (by decide) (fun c56 => ?_) (fun c56 => ?_)
            · skip
              refine zr_iconst (v := 0) d_B_canBe_63 (by decide) ?_
              refine zr_retz d_B_canBe_64 rfl rfl (by decide) (by decide) ?_
              first
                | exact absurd c44 (by decide)
                | exact absurd c56 (by decide)
                | (have e9 := zmap_some c4; rw [zmap_eq] at c12; simp [*]; done)
                | (rw [zmap_none] at c4; simp [*]; done)
            · skip
              refine zr_iconst (v := 1) d_B_canBe_59 (by decide) ?_
              refine zr_goto (tgt := 64) d_B_canBe_60 (by decide) ?_
              refine zr_retz d_B_canBe_64 rfl rfl (by decide) (by decide) ?_
              first
                | exact absurd c44 (by decide)
                | exact absurd c56 (by decide)
                | (have e9 := zmap_some c4; rw [zmap_eq] at c12; simp [*]; done)
                | (rw [zmap_none] at c4; simp [*]; done)
      · skip
        refine zr_iconst (v := 1) d_B_canBe_37 (by decide) ?_
        refine zr_goto (tgt := 42) d_B_canBe_38 (by decide) ?_
        refine zr_istore_n d_B_canBe_42 (by decide) rfl ?_
        refine zr_iload_n d_B_canBe_43 rfl ?_
        refine zr_if_ne (tgt := 63) d_B_canBe_44 (by decide) (fun c44 => ?_) (fun c44 => ?_)
        · skip
          refine zr_iconst (v := 0) d_B_canBe_63 (by decide) ?_
          refine zr_retz d_B_canBe_64 rfl rfl (by decide) (by decide) ?_
          first
            | exact absurd c44 (by decide)
            | exact absurd c56 (by decide)
            | (have e9 := zmap_some c4; rw [zmap_eq] at c12; simp [*]; done)
            | (rw [zmap_none] at c4; simp [*]; done)
        · skip
          refine zr_aload_n d_B_canBe_47 rfl ?_
          refine zr_tgeti d_B_canBe_48 (by first | assumption | omega) sf_B_canBe_48 rfl rfl ?_
          refine zr_iconst (v := 5) d_B_canBe_51 (by decide) ?_
          refine zr_icmp_eq (tgt := 59) d_B_canBe_52 (by decide) (fun c52 => ?_) (fun c52 => ?_)
          · skip
            refine zr_iconst (v := 1) d_B_canBe_59 (by decide) ?_
            refine zr_goto (tgt := 64) d_B_canBe_60 (by decide) ?_
            refine zr_retz d_B_canBe_64 rfl rfl (by decide) (by decide) ?_
            first
              | exact absurd c44 (by decide)
              | exact absurd c56 (by decide)
              | (have e9 := zmap_some c4; rw [zmap_eq] at c12; simp [*]; done)
              | (rw [zmap_none] at c4; simp [*]; done)
          · skip
            refine zr_iload_n d_B_canBe_55 rfl ?_
            refine zr_if_ne (tgt := 63) d_B_canBe_56 (by decide) (fun c56 => ?_) (fun c56 => ?_)
            · skip
              refine zr_iconst (v := 0) d_B_canBe_63 (by decide) ?_
              refine zr_retz d_B_canBe_64 rfl rfl (by decide) (by decide) ?_
              first
                | exact absurd c44 (by decide)
                | exact absurd c56 (by decide)
                | (have e9 := zmap_some c4; rw [zmap_eq] at c12; simp [*]; done)
                | (rw [zmap_none] at c4; simp [*]; done)
            · skip
              refine zr_iconst (v := 1) d_B_canBe_59 (by decide) ?_
              refine zr_goto (tgt := 64) d_B_canBe_60 (by decide) ?_
              refine zr_retz d_B_canBe_64 rfl rfl (by decide) (by decide) ?_
              first
                | exact absurd c44 (by decide)
                | exact absurd c56 (by decide)
                | (have e9 := zmap_some c4; rw [zmap_eq] at c12; simp [*]; done)
                | (rw [zmap_none] at c4; simp [*]; done)

def zgrantB (σ : zS) (o t : Nat) : zS := if zth σ 8 t = 5 then zspl (zsrd σ o t (zrd σ o t + 1)) 4 o (zpl σ 4 o + 1) else if zth σ 8 t = 6 then zspl (zsrd σ o t (zrd σ o t + -1)) 4 o (zpl σ 4 o + -1) else if zth σ 8 t = 7 then zspl (zsho σ o (some t)) 6 o (zpl σ 6 o + 1) else zleave σ o

set_option maxHeartbeats 4000000 in
set_option maxRecDepth 20000 in
theorem c_B_grant {G : yG} {μ : yW} {σ : zS} {o : Nat} (ho : o < zn σ) (hk : zkd σ o = 1) {t : Nat} (ht : t < 6)  : zCT G m_B_grant [yr (kP o), yr (10 + t)] σ μ (fun r σ' => r = none ∧ σ' = zgrantB σ o t) := by
  have hk3 : 3 + zkd σ o = 4 := by rw [hk]
  refine zCT_of (by decide) rfl (ycat_of rfl) (Nat.le_of_ble_eq_true rfl) ?_
  refine zr_aload_n d_B_grant_0 rfl ?_
  refine zr_tgeti d_B_grant_1 (by first | assumption | omega) sf_B_grant_1 rfl rfl ?_
  by_cases s5 : zth σ 8 t = 5
  · refine zr_tcase d_B_grant_4 5 s5 (by decide) (by decide) rfl (tgt := 32) (by decide) ?_
    refine zr_aload_n d_B_grant_32 rfl ?_
    refine zr_aload_n d_B_grant_33 rfl ?_
    refine zr_iconst (v := 1) d_B_grant_34 (by decide) ?_
    refine zr_call (zrunV (As := [yr (10 + t), yi 1]) (rest := []) d_B_grant_35 (fun ω h => h.sP' ho hk3) rfl (c_B_countReads ho hk ht) 2 rfl (by decide +kernel) cw_B_countReads (Nat.le_of_ble_eq_true rfl) (ycat_of rfl) (by decide) (by decide)) (fun r σ9 hp => ?_)
    obtain ⟨rfl, rfl⟩ := hp
    refine zr_goto (tgt := 72) d_B_grant_38 (by decide) ?_
    refine zr_retv d_B_grant_72 rfl (by decide) (by decide) ?_
    refine ⟨rfl, ?_⟩
    simp only [zgrantB, *]
    first | rfl | (simp; done) | (simp; rfl)
  · skip
    by_cases s6 : zth σ 8 t = 6
    · refine zr_tcase d_B_grant_4 6 s6 (by decide) (by decide) rfl (tgt := 41) (by decide) ?_
      refine zr_aload_n d_B_grant_41 rfl ?_
      refine zr_aload_n d_B_grant_42 rfl ?_
      refine zr_iconst (v := -1) d_B_grant_43 (by decide) ?_
      refine zr_call (zrunV (As := [yr (10 + t), yi (-1)]) (rest := []) d_B_grant_44 (fun ω h => h.sP' ho hk3) rfl (c_B_countReads ho hk ht) 2 rfl (by decide +kernel) cw_B_countReads (Nat.le_of_ble_eq_true rfl) (ycat_of rfl) (by decide) (by decide)) (fun r σ9 hp => ?_)
      obtain ⟨rfl, rfl⟩ := hp
      refine zr_goto (tgt := 72) d_B_grant_47 (by decide) ?_
      refine zr_retv d_B_grant_72 rfl (by decide) (by decide) ?_
      refine ⟨rfl, ?_⟩
      simp only [zgrantB, *]
      first | rfl | (simp; done) | (simp; rfl)
    · skip
      by_cases s7 : zth σ 8 t = 7
      · refine zr_tcase d_B_grant_4 7 s7 (by decide) (by decide) rfl (tgt := 50) (by decide) ?_
        refine zr_aload_n d_B_grant_50 rfl ?_
        refine zr_aload_n d_B_grant_51 rfl ?_
        refine zr_pputho (c := 1) (x := some t) d_B_grant_52 (by assumption) hk (by decide) sf_B_grant_52 (fun _ h => by cases h; exact ht) ?_
        refine zr_aload_n d_B_grant_55 rfl ?_
        refine zr_dup d_B_grant_56 (fun _ => rfl) ?_
        refine zr_pgeti (c := 1) (f := 6) d_B_grant_57 (by first | assumption | omega) hk sf_B_grant_57 rfl rfl ?_
        refine zr_iconst (v := 1) d_B_grant_60 (by decide) ?_
        refine zr_iadd d_B_grant_61 ?_
        refine zr_pputi (c := 1) (f := 6) d_B_grant_62 (by first | assumption | omega) hk sf_B_grant_62 rfl rfl (by decide) rfl ⟨rfl, rfl⟩ ?_
        refine zr_goto (tgt := 72) d_B_grant_65 (by decide) ?_
        refine zr_retv d_B_grant_72 rfl (by decide) (by decide) ?_
        refine ⟨rfl, ?_⟩
        simp only [zgrantB, *]
        first | rfl | (simp; done) | (simp; rfl)
      · skip
        refine zr_tdef d_B_grant_4 (by have q5 := lv_neT s5 (a := 5) (by decide); have q6 := lv_neT s6 (a := 6) (by decide); have q7 := lv_neT s7 (a := 7) (by decide); omega) (tgt := 68) (by decide) ?_
        refine zr_aload_n d_B_grant_68 rfl ?_
        refine zr_call (zrunV (As := []) (rest := []) d_B_grant_69 (fun ω h => h.sP' ho hk3) rfl (c_B_closeWritingOnce ho hk) 0 rfl (by decide +kernel) cw_B_closeWritingOnce (Nat.le_of_ble_eq_true rfl) (ycat_of rfl) (by decide) (by decide)) (fun r σ9 hp => ?_)
        obtain ⟨rfl, rfl⟩ := hp
        refine zr_retv d_B_grant_72 rfl (by decide) (by decide) ?_
        refine ⟨rfl, ?_⟩
        simp only [zgrantB, *]
        first | rfl | (simp; done) | (simp; rfl)
end
section
/-! places: ends, calls, giving up -/
theorem yWP_use {G : yG} {i : yM} {Qf : yQT} {pc : Nat} {ls : List (Option yV)} {st : List yV} {cs sl : Nat} {sh0 : Nat → Option ySh} {Φ : yW → Prop} {A : Prop} (hA : ∀ ω, Φ ω → A) (k : A → yWP G i Qf sh0 pc ls st Φ cs sl) : yWP G i Qf sh0 pc ls st Φ cs sl := fun ω h => k (hA ω h) ω h
theorem c_R_removeFirst' {G : yG} {μ : yW} {σ : zS} {j o : Nat} (hv : zrv σ j o) : zCT G m_R_removeFirst [yr (kR j o)] σ μ (fun r σ' => r = some (yo (((zrw σ j o)[0]?).map (10 + ·))) ∧ σ' = (match zrw σ j o with | [] => σ | t :: _ => zsrw σ j o ((zrw σ j o).filter (fun u => u ≠ t)))) := fun ω h => c_R_removeFirst hv (zlist h hv).1 (zlist h hv).2 ω h
theorem c_R_remove' {G : yG} {μ : yW} {σ : zS} {j o t : Nat} (hv : zrv σ j o) (ht : t < 6) : zCT G m_R_remove [yr (kR j o), yr (10 + t)] σ μ (fun r σ' => r = none ∧ σ' = zsrw σ j o ((zrw σ j o).filter (fun u => u ≠ t))) := fun ω h => c_R_remove hv ht (zlist h hv).1 (zlist h hv).2 ω h
theorem c_R_at' {G : yG} {μ : yW} {σ : zS} {j o : Nat} {x : Int32} (hv : zrv σ j o) : zCT G m_R_at [yr (kR j o), yi x] σ μ (fun r σ' => r = some (yo ((zat (zrw σ j o) x).map (10 + ·))) ∧ σ' = σ) := fun ω h => c_R_at hv (zlist h hv).1 ω h
/-- the first of a row goes, ended -/
def zend1 (o h : Nat) (σ : zS) : zS := match zrw σ 0 o with
  | [] => σ
  | t :: _ => zend (zsrw σ 0 o ((zrw σ 0 o).filter (fun u => u ≠ t))) t h
def zendAll (o h : Nat) : Nat → zS → zS
  | 0, σ => σ
  | n + 1, σ => zendAll o h n (zend1 o h σ)
/-- the first at a condition goes to the row -/
def zcall1 (o j : Nat) (σ : zS) : zS := match zrw σ j o with
  | [] => σ
  | t :: _ => ztake (zsrw σ j o ((zrw σ j o).filter (fun u => u ≠ t))) o t 0
def zcall (o j : Nat) : Nat → zS → zS
  | 0, σ => σ
  | n + 1, σ => zcall o j n (zcall1 o j σ)
theorem zend1_n {o h : Nat} {σ : zS} : zn (zend1 o h σ) = zn σ := by
  unfold zend1
  split <;> rfl
theorem zcall1_n {o j : Nat} {σ : zS} : zn (zcall1 o j σ) = zn σ ∧ zkd (zcall1 o j σ) = zkd σ := by
  unfold zcall1
  split <;> exact ⟨rfl, rfl⟩

set_option maxHeartbeats 4000000 in
set_option maxRecDepth 20000 in
theorem c_P_endAll_loop {G : yG} {μ : yW} {o h : Nat} (hh : h < 5) : ∀ (n : Nat) (σ : zS) (x3 : Option yV), n ≤ 6 → o < zn σ → yWP G m_P_endAllInRow (zQ G m_P_endAllInRow μ (fun r σ' => r = none ∧ σ' = zendAll o h n σ)) μ.1 8 [some (yr (kP o)), some (yi (nI h)), some (yi (nI n)), x3] [] (zC σ μ) 0 0 := by
  intro n
  induction n with
  | zero =>
    intro σ x3 hn ho
    refine zr_iload_n d_P_endAllInRow_8 rfl ?_
    refine zr_if_le (tgt := 35) d_P_endAllInRow_9 (by decide) (fun c9 => ?_) (fun c9 => absurd (by decide) c9)
    exact zr_retv d_P_endAllInRow_35 rfl (by decide) (by decide) ⟨rfl, rfl⟩
  | succ n ih =>
    intro σ x3 hn ho
    have hv : zrv σ 0 o := ⟨ho, Or.inl rfl⟩
    refine yWP_use (fun ω h => (zlist h hv).2) (fun hall => ?_)
    refine zr_iload_n d_P_endAllInRow_8 rfl ?_
    refine zr_if_le (tgt := 35) d_P_endAllInRow_9 (by decide) (fun c9 => absurd c9 (nI_nle (by omega) (by omega))) (fun c9 => ?_)
    refine zr_aload_n d_P_endAllInRow_12 rfl ?_
    refine zr_prow d_P_endAllInRow_13 (by first | assumption | omega) sf_P_endAllInRow_13 ?_
    refine zr_call (zrunV (As := []) (rest := []) d_P_endAllInRow_16 (fun ω h => (h.row hv).2.1) rfl (c_R_removeFirst' hv) 0 rfl (by decide +kernel) cw_R_removeFirst (Nat.le_of_ble_eq_true rfl) (ycat_of rfl) (by decide) (by decide)) (fun r σ9 hp => ?_)
    obtain ⟨rfl, hσ⟩ := hp
    cases hl : zrw σ 0 o with
    | nil =>
      rw [hl] at hσ
      have hσ2 : σ9 = zend1 o h σ := by rw [hσ]; unfold zend1; rw [hl]
      subst hσ2
      refine zr_astore_n d_P_endAllInRow_19 (by decide) rfl ?_
      refine zr_aload_n d_P_endAllInRow_20 rfl ?_
      refine zr_ifnull (tgt := 29) d_P_endAllInRow_21 (by decide) (fun c21 => ?_) (fun a c21 => nomatch c21)
      refine zr_iinc (v := nI n) d_P_endAllInRow_29 rfl (pk_m1 n) (by decide) rfl ?_
      refine zr_goto (tgt := 8) d_P_endAllInRow_32 (by decide) ?_
      exact ih _ _ (by omega) (by rw [zend1_n]; exact ho)
    | cons t b =>
      rw [hl] at hσ
      have ht : t < 6 := hall t (by rw [hl]; exact List.mem_cons_self)
      refine zr_astore_n d_P_endAllInRow_19 (by decide) rfl ?_
      refine zr_aload_n d_P_endAllInRow_20 rfl ?_
      refine zr_ifnull (tgt := 29) d_P_endAllInRow_21 (by decide) (fun c21 => nomatch c21) (fun a c21 => ?_)
      refine zr_aload_n d_P_endAllInRow_24 rfl ?_
      refine zr_iload_n d_P_endAllInRow_25 rfl ?_
      refine zr_call (zrunV (As := [yi (nI h)]) (rest := []) d_P_endAllInRow_26 (fun ω h => h.sT ht) rfl (c_T_end (σ := σ9) ht hh) 1 rfl (by decide +kernel) cw_T_end (Nat.le_of_ble_eq_true rfl) (ycat_of rfl) (by decide) (by decide)) (fun r σ8 hp => ?_)
      obtain ⟨rfl, rfl⟩ := hp
      refine zr_iinc (v := nI n) d_P_endAllInRow_29 rfl (pk_m1 n) (by decide) rfl ?_
      refine zr_goto (tgt := 8) d_P_endAllInRow_32 (by decide) ?_
      have hσ2 : zend σ9 t h = zend1 o h σ := by
        unfold zend1
        rw [hl, hσ]
      rw [hσ2]
      exact ih _ _ (by omega) (by rw [zend1_n]; exact ho)

set_option maxHeartbeats 4000000 in
set_option maxRecDepth 20000 in
theorem c_P_endAllInRow {G : yG} {μ : yW} {σ : zS} {o : Nat} (ho : o < zn σ) {h : Nat} (hh : h < 5)  : zCT G m_P_endAllInRow [yr (kP o), yi (nI h)] σ μ (fun r σ' => r = none ∧ σ' = zendAll o h (zrw σ 0 o).length σ) := by
  have hv : zrv σ 0 o := ⟨ho, Or.inl rfl⟩
  refine zCT_of (by decide) rfl (ycat_of rfl) (Nat.le_of_ble_eq_true rfl) ?_
  refine zr_aload_n d_P_endAllInRow_0 rfl ?_
  refine zr_prow d_P_endAllInRow_1 (by first | assumption | omega) sf_P_endAllInRow_1 ?_
  refine zr_rlen d_P_endAllInRow_4 (by assumption) sf_P_endAllInRow_4 ?_
  refine zr_istore_n d_P_endAllInRow_7 (by decide) rfl ?_
  exact yWP_use (fun ω h9 => (zlist h9 hv).1) (fun h6 => c_P_endAll_loop hh _ σ _ h6 ho)
end
section
/-! places: calls at a condition, grants, giving up -/
theorem zflt {t : Nat} {b : List Nat} : ((t :: b).filter (fun u => u ≠ t)).length ≤ b.length := by
  rw [List.filter_cons]
  simp
  exact List.length_filter_le _ _
theorem zrw_ne {σ : zS} {j o k : Nat} {l : List Nat} (h : k ≠ j) : zrw (zsrw σ j o l) k o = zrw σ k o := yu_ne _ _ (Or.inl h)
theorem zcall1_len {o j : Nat} {σ : zS} (hj : j ≠ 0) (h : (zrw σ 0 o).length + (zrw σ j o).length ≤ 6) : (zrw (zcall1 o j σ) 0 o).length + (zrw (zcall1 o j σ) j o).length ≤ 6 := by
  unfold zcall1
  cases hl : zrw σ j o with
  | nil => simp only; rw [hl] at h ⊢; exact h
  | cons t b =>
    simp only
    have e1 : zrw (ztake (zsrw σ j o ((t :: b).filter (fun u => u ≠ t))) o t 0) 0 o = zrw σ 0 o ++ [t] := by
      show yu _ _ _ _ _ _ = _
      rw [yu_same, zrw_ne (Ne.symm hj)]
    have e2 : zrw (ztake (zsrw σ j o ((t :: b).filter (fun u => u ≠ t))) o t 0) j o = (t :: b).filter (fun u => u ≠ t) := by
      show yu _ _ _ _ _ _ = _
      rw [yu_ne _ _ (Or.inl hj)]
      exact zrw_same
    rw [e1, e2, List.length_append]
    have := zflt (t := t) (b := b)
    rw [hl] at h
    simp only [List.length_cons, List.length_nil] at h ⊢
    omega

set_option maxHeartbeats 4000000 in
set_option maxRecDepth 20000 in
theorem c_K_call_loop {G : yG} {μ : yW} {o n : Nat} {x : Int32} (hn6 : n ≤ 6) : ∀ (m q : Nat) (σ : zS) (x4 : Option yV), m + q = n → o < zn σ → zkd σ o = 0 → (zrw σ 0 o).length + (zrw σ (zcj x) o).length ≤ 6 → yWP G m_K_call (zQ G m_K_call μ (fun r σ' => r = none ∧ σ' = zcall o (zcj x) m σ)) μ.1 2 [some (yr (kP o)), some (yi x), some (yi (nI n)), some (yi (nI q)), x4] [] (zC σ μ) 0 0 := by
  intro m
  induction m with
  | zero =>
    intro q σ x4 hm ho hk h6
    have hq : q = n := by omega
    refine zr_iload_n d_K_call_2 rfl ?_
    refine zr_iload_n d_K_call_3 rfl ?_
    refine zr_icmp_ge (tgt := 35) d_K_call_4 (by decide) (fun c4 => ?_) (fun c4 => absurd (nI_le (by omega) (by omega)) c4)
    exact zr_retv d_K_call_35 rfl (by decide) (by decide) ⟨rfl, rfl⟩
  | succ m ih =>
    intro q σ x4 hm ho hk h6
    have hk3 : 3 + zkd σ o = 3 := by rw [hk]
    have hv : zrv σ (zcj x) o := zcj_v ho hk
    have hcj : zcj x ≠ 0 := by unfold zcj; split <;> omega
    refine yWP_use (fun ω h => (zlist h hv).2) (fun hall => ?_)
    refine zr_iload_n d_K_call_2 rfl ?_
    refine zr_iload_n d_K_call_3 rfl ?_
    refine zr_icmp_ge (tgt := 35) d_K_call_4 (by decide) (fun c4 => absurd c4 (nI_ge (by omega) (by omega))) (fun c4 => ?_)
    refine zr_aload_n d_K_call_7 rfl ?_
    refine zr_iload_n d_K_call_8 rfl ?_
    refine zr_call (zrunV (As := [yi x]) (rest := []) d_K_call_9 (fun ω h => h.sP' ho hk3) rfl (c_K_condition ho hk) 1 rfl (by decide +kernel) cw_K_condition (Nat.le_of_ble_eq_true rfl) (ycat_of rfl) (by decide) (by decide)) (fun r σ9 hp => ?_)
    obtain ⟨rfl, rfl⟩ := hp
    change yWP _ _ _ _ _ _ [yr (kR (zcj x) o)] _ _ _
    refine zr_call (zrunV (As := []) (rest := []) d_K_call_12 (fun ω h => (h.row hv).2.1) rfl (c_R_removeFirst' hv) 0 rfl (by decide +kernel) cw_R_removeFirst (Nat.le_of_ble_eq_true rfl) (ycat_of rfl) (by decide) (by decide)) (fun r σ8 hp => ?_)
    obtain ⟨rfl, hσ⟩ := hp
    cases hl : zrw σ9 (zcj x) o with
    | nil =>
      rw [hl] at hσ
      have hσ2 : σ8 = zcall1 o (zcj x) σ9 := by rw [hσ]; unfold zcall1; rw [hl]
      subst hσ2
      refine zr_astore d_K_call_15 (by decide) rfl ?_
      refine zr_aload d_K_call_17 rfl ?_
      refine zr_ifnull (tgt := 29) d_K_call_19 (by decide) (fun c19 => ?_) (fun a c19 => nomatch c19)
      refine zr_iinc (v := nI (q + 1)) d_K_call_29 rfl (nI_1 q) (by decide) rfl ?_
      refine zr_goto (tgt := 2) d_K_call_32 (by decide) ?_
      exact ih _ _ _ (by omega) (by rw [zcall1_n.1]; exact ho) (by rw [zcall1_n.2]; exact hk) (zcall1_len hcj h6)
    | cons t b =>
      rw [hl] at hσ
      have ht : t < 6 := hall t (by rw [hl]; exact List.mem_cons_self)
      have ho8 : o < zn σ8 := by rw [hσ]; exact ho
      have hk8 : zkd σ8 o = 0 := by rw [hσ]; exact hk
      have hk38 : 3 + zkd σ8 o = 3 := by rw [hk8]
      have h58 : (zrw σ8 0 o).length < 6 := by
        rw [hσ, zrw_ne (Ne.symm hcj)]
        rw [hl] at h6
        simp only [List.length_cons] at h6
        omega
      refine zr_astore d_K_call_15 (by decide) rfl ?_
      refine zr_aload d_K_call_17 rfl ?_
      refine zr_ifnull (tgt := 29) d_K_call_19 (by decide) (fun c19 => nomatch c19) (fun a c19 => ?_)
      refine zr_aload_n d_K_call_22 rfl ?_
      refine zr_aload d_K_call_23 rfl ?_
      refine zr_iconst (v := 0) d_K_call_25 (by decide) ?_
      refine zr_call (zrunV (As := [yr (10 + t), yi 0]) (rest := []) d_K_call_26 (fun ω h => h.sP' ho8 hk38) rfl (c_K_takeAgain ho8 hk8 ht h58) 2 rfl (by decide +kernel) cw_K_takeAgain (Nat.le_of_ble_eq_true rfl) (ycat_of rfl) (by decide) (by decide)) (fun r σ7 hp => ?_)
      obtain ⟨rfl, rfl⟩ := hp
      refine zr_iinc (v := nI (q + 1)) d_K_call_29 rfl (nI_1 q) (by decide) rfl ?_
      refine zr_goto (tgt := 2) d_K_call_32 (by decide) ?_
      have hσ2 : ztake σ8 o t 0 = zcall1 o (zcj x) σ9 := by
        unfold zcall1
        rw [hl, hσ]
      rw [hσ2]
      exact ih _ _ _ (by omega) (by rw [zcall1_n.1]; exact ho) (by rw [zcall1_n.2]; exact hk) (zcall1_len hcj h6)

set_option maxHeartbeats 4000000 in
set_option maxRecDepth 20000 in
theorem c_K_call {G : yG} {μ : yW} {σ : zS} {o : Nat} {n : Nat} {x : Int32} (ho : o < zn σ) (hk : zkd σ o = 0) (hn6 : n ≤ 6) (h6 : (zrw σ 0 o).length + (zrw σ (zcj x) o).length ≤ 6)  : zCT G m_K_call [yr (kP o), yi x, yi (nI n)] σ μ (fun r σ' => r = none ∧ σ' = zcall o (zcj x) n σ) := by
  refine zCT_of (by decide) rfl (ycat_of rfl) (Nat.le_of_ble_eq_true rfl) ?_
  refine zr_iconst (v := 0) d_K_call_0 (by decide) ?_
  refine zr_istore_n d_K_call_1 (by decide) rfl ?_
  exact c_K_call_loop hn6 n 0 σ _ rfl ho hk h6

def zgrantK (σ : zS) (o t : Nat) : zS := if zth σ 8 t = 0 then zspl (zsho σ o (some t)) 6 o (zpl σ 6 o + 1) else if zth σ 8 t = 1 then zleave σ o else if zth σ 8 t = 2 then zspl (zsho σ o (some t)) 6 o (zth σ 10 t) else if zth σ 8 t = 3 then zcall o (zcj (zth σ 9 t)) 1 σ else zcall o (zcj (zth σ 9 t)) (zrw σ (zcj (zth σ 9 t)) o).length σ
def zgrantA (σ : zS) (o t : Nat) : zS := if zth σ 8 t = 14 then zendAll o 3 (zrw σ 0 o).length (zspl σ 4 o 0) else zendAll o 0 (zrw σ 0 o).length σ
/-- one gave up: a barrier breaks -/
def zgave (σ : zS) (o : Nat) : zS := if zkd σ o = 4 then zendAll o 3 (zrw σ 0 o).length (zspl σ 4 o 1) else σ
def zleaveRow (σ : zS) (o t h : Nat) : zS := zgave (zend (zsrw σ 0 o ((zrw σ 0 o).filter (fun u => u ≠ t))) t h) o
def zgiveUp (σ : zS) (o t h : Nat) : zS := if zkd σ o = 0 ∧ zth σ 2 t = 2 then ztake (zsrw σ (zcj (zth σ 9 t)) o ((zrw σ (zcj (zth σ 9 t)) o).filter (fun u => u ≠ t))) o t (nI h) else zleaveRow σ o t h

set_option maxHeartbeats 4000000 in
set_option maxRecDepth 20000 in
theorem c_K_grant {G : yG} {μ : yW} {σ : zS} {o : Nat} (ho : o < zn σ) (hk : zkd σ o = 0) {t : Nat} (ht : t < 6) (h6 : (zrw σ 0 o).length + (zrw σ (zcj (zth σ 9 t)) o).length ≤ 6)  : zCT G m_K_grant [yr (kP o), yr (10 + t)] σ μ (fun r σ' => r = none ∧ σ' = zgrantK σ o t) := by
  have hk3 : 3 + zkd σ o = 3 := by rw [hk]
  refine zCT_of (by decide) rfl (ycat_of rfl) (Nat.le_of_ble_eq_true rfl) ?_
  refine zr_aload_n d_K_grant_0 rfl ?_
  refine zr_tgeti d_K_grant_1 (by first | assumption | omega) sf_K_grant_1 rfl rfl ?_
  by_cases s0 : zth σ 8 t = 0
  · refine zr_tcase d_K_grant_4 0 s0 (by decide) (by decide) rfl (tgt := 36) (by decide) ?_
    refine zr_aload_n d_K_grant_36 rfl ?_
    refine zr_aload_n d_K_grant_37 rfl ?_
    refine zr_pputho (c := 0) (x := some t) d_K_grant_38 (by assumption) hk (by decide) sf_K_grant_38 (fun _ h => by cases h; exact ht) ?_
    refine zr_aload_n d_K_grant_41 rfl ?_
    refine zr_dup d_K_grant_42 (fun _ => rfl) ?_
    refine zr_pgeti (c := 0) (f := 6) d_K_grant_43 (by first | assumption | omega) hk sf_K_grant_43 rfl rfl ?_
    refine zr_iconst (v := 1) d_K_grant_46 (by decide) ?_
    refine zr_iadd d_K_grant_47 ?_
    refine zr_pputi (c := 0) (f := 6) d_K_grant_48 (by first | assumption | omega) hk sf_K_grant_48 rfl rfl (by decide) rfl ⟨rfl, rfl⟩ ?_
    refine zr_goto (tgt := 105) d_K_grant_51 (by decide) ?_
    refine zr_retv d_K_grant_105 rfl (by decide) (by decide) ?_
    refine ⟨rfl, ?_⟩
    unfold zgrantK
    first | rw [if_pos s0] | rw [if_neg s0]
    try (first | rw [if_pos s1] | rw [if_neg s1])
    try (first | rw [if_pos s2] | rw [if_neg s2])
    try (first | rw [if_pos s3] | rw [if_neg s3])
    try rfl
  · skip
    by_cases s1 : zth σ 8 t = 1
    · refine zr_tcase d_K_grant_4 1 s1 (by decide) (by decide) rfl (tgt := 70) (by decide) ?_
      refine zr_aload_n d_K_grant_70 rfl ?_
      refine zr_call (zrunV (As := []) (rest := []) d_K_grant_71 (fun ω h => h.sP' ho hk3) rfl (c_K_leaveOnce ho hk) 0 rfl (by decide +kernel) cw_K_leaveOnce (Nat.le_of_ble_eq_true rfl) (ycat_of rfl) (by decide) (by decide)) (fun r σ9 hp => ?_)
      obtain ⟨rfl, rfl⟩ := hp
      refine zr_goto (tgt := 105) d_K_grant_74 (by decide) ?_
      refine zr_retv d_K_grant_105 rfl (by decide) (by decide) ?_
      refine ⟨rfl, ?_⟩
      unfold zgrantK
      first | rw [if_pos s0] | rw [if_neg s0]
      try (first | rw [if_pos s1] | rw [if_neg s1])
      try (first | rw [if_pos s2] | rw [if_neg s2])
      try (first | rw [if_pos s3] | rw [if_neg s3])
      try rfl
    · skip
      by_cases s2 : zth σ 8 t = 2
      · refine zr_tcase d_K_grant_4 2 s2 (by decide) (by decide) rfl (tgt := 54) (by decide) ?_
        refine zr_aload_n d_K_grant_54 rfl ?_
        refine zr_aload_n d_K_grant_55 rfl ?_
        refine zr_pputho (c := 0) (x := some t) d_K_grant_56 (by assumption) hk (by decide) sf_K_grant_56 (fun _ h => by cases h; exact ht) ?_
        refine zr_aload_n d_K_grant_59 rfl ?_
        refine zr_aload_n d_K_grant_60 rfl ?_
        refine zr_tgeti d_K_grant_61 (by first | assumption | omega) sf_K_grant_61 rfl rfl ?_
        refine zr_pputi (c := 0) (f := 6) d_K_grant_64 (by first | assumption | omega) hk sf_K_grant_64 rfl rfl (by decide) rfl ⟨rfl, rfl⟩ ?_
        refine zr_goto (tgt := 105) d_K_grant_67 (by decide) ?_
        refine zr_retv d_K_grant_105 rfl (by decide) (by decide) ?_
        refine ⟨rfl, ?_⟩
        unfold zgrantK
        first | rw [if_pos s0] | rw [if_neg s0]
        try (first | rw [if_pos s1] | rw [if_neg s1])
        try (first | rw [if_pos s2] | rw [if_neg s2])
        try (first | rw [if_pos s3] | rw [if_neg s3])
        try rfl
      · skip
        by_cases s3 : zth σ 8 t = 3
        · refine zr_tcase d_K_grant_4 3 s3 (by decide) (by decide) rfl (tgt := 77) (by decide) ?_
          refine zr_aload_n d_K_grant_77 rfl ?_
          refine zr_aload_n d_K_grant_78 rfl ?_
          refine zr_tgeti d_K_grant_79 (by first | assumption | omega) sf_K_grant_79 rfl rfl ?_
          refine zr_iconst (v := 1) d_K_grant_82 (by decide) ?_
          refine zr_call (zrunV (As := [yi (zth σ 9 t), yi 1]) (rest := []) d_K_grant_83 (fun ω h => h.sP' ho hk3) rfl (c_K_call (n := 1) (x := zth σ 9 t) ho hk (by omega) h6) 2 rfl (by decide +kernel) cw_K_call (Nat.le_of_ble_eq_true rfl) (ycat_of rfl) (by decide) (by decide)) (fun r σ9 hp => ?_)
          obtain ⟨rfl, rfl⟩ := hp
          refine zr_goto (tgt := 105) d_K_grant_86 (by decide) ?_
          refine zr_retv d_K_grant_105 rfl (by decide) (by decide) ?_
          refine ⟨rfl, ?_⟩
          unfold zgrantK
          first | rw [if_pos s0] | rw [if_neg s0]
          try (first | rw [if_pos s1] | rw [if_neg s1])
          try (first | rw [if_pos s2] | rw [if_neg s2])
          try (first | rw [if_pos s3] | rw [if_neg s3])
          try rfl
        · skip
          refine zr_tdef d_K_grant_4 (by have q0 := lv_neT s0 (a := 0) (by decide); have q1 := lv_neT s1 (a := 1) (by decide); have q2 := lv_neT s2 (a := 2) (by decide); have q3 := lv_neT s3 (a := 3) (by decide); omega) (tgt := 89) (by decide) ?_
          refine zr_aload_n d_K_grant_89 rfl ?_
          refine zr_aload_n d_K_grant_90 rfl ?_
          refine zr_tgeti d_K_grant_91 (by first | assumption | omega) sf_K_grant_91 rfl rfl ?_
          refine zr_aload_n d_K_grant_94 rfl ?_
          refine zr_aload_n d_K_grant_95 rfl ?_
          refine zr_tgeti d_K_grant_96 (by first | assumption | omega) sf_K_grant_96 rfl rfl ?_
          refine zr_call (zrunV (As := [yi (zth σ 9 t)]) (rest := [yi (zth σ 9 t), yr (kP o)]) d_K_grant_99 (fun ω h => h.sP' ho hk3) rfl (c_K_waitersAt ho hk) 1 rfl (by decide +kernel) cw_K_waitersAt (Nat.le_of_ble_eq_true rfl) (ycat_of rfl) (by decide) (by decide)) (fun r σ9 hp => ?_)
          obtain ⟨rfl, rfl⟩ := hp
          refine zr_call (zrunV (As := [yi (zth σ9 9 t), yi (nI (zrw σ9 (zcj (zth σ9 9 t)) o).length)]) (rest := []) d_K_grant_102 (fun ω h => h.sP' ho hk3) rfl (c_K_call (x := zth σ9 9 t) ho hk (by omega) h6) 2 rfl (by decide +kernel) cw_K_call (Nat.le_of_ble_eq_true rfl) (ycat_of rfl) (by decide) (by decide)) (fun r σ8 hp => ?_)
          obtain ⟨rfl, rfl⟩ := hp
          refine zr_retv d_K_grant_105 rfl (by decide) (by decide) ?_
          refine ⟨rfl, ?_⟩
          unfold zgrantK
          first | rw [if_pos s0] | rw [if_neg s0]
          try (first | rw [if_pos s1] | rw [if_neg s1])
          try (first | rw [if_pos s2] | rw [if_neg s2])
          try (first | rw [if_pos s3] | rw [if_neg s3])
          try rfl

set_option maxHeartbeats 4000000 in
set_option maxRecDepth 20000 in
theorem c_A_grant {G : yG} {μ : yW} {σ : zS} {o : Nat} (ho : o < zn σ) (hk : zkd σ o = 4) {t : Nat} (ht : t < 6)  : zCT G m_A_grant [yr (kP o), yr (10 + t)] σ μ (fun r σ' => r = none ∧ σ' = zgrantA σ o t) := by
  refine zCT_of (by decide) rfl (ycat_of rfl) (Nat.le_of_ble_eq_true rfl) ?_
  refine zr_aload_n d_A_grant_0 rfl ?_
  refine zr_tgeti d_A_grant_1 (by first | assumption | omega) sf_A_grant_1 rfl rfl ?_
  refine zr_bipush (v := 14) d_A_grant_4 (by decide) ?_
  refine zr_icmp_ne (tgt := 22) d_A_grant_6 (by decide) (fun c6 => ?_) (fun c6 => ?_)
  · skip
    refine zr_aload_n d_A_grant_22 rfl ?_
    refine zr_iconst (v := 0) d_A_grant_23 (by decide) ?_
    refine zr_call (zrunC (c := 4) (As := [yi 0]) (rest := []) (x := ⟨"MonitorYard$Barrier", "endAllInRow", "(I)V"⟩) (owner := "MonitorYard$Place") d_A_grant_24 (by assumption) hk (by decide) (c_P_endAllInRow (h := 0) ho (by omega)) 1 rfl (by decide +kernel) cw_P_endAllInRow (zdecl (i' := m_P_endAllInRow) (by decide +kernel) cw_P_endAllInRow) (by decide) (Nat.le_of_ble_eq_true rfl) (ycat_of rfl) (by decide) (by decide)) (fun r σ9 hp => ?_)
    obtain ⟨rfl, rfl⟩ := hp
    refine zr_retv d_A_grant_27 rfl (by decide) (by decide) ?_
    refine ⟨rfl, ?_⟩
    unfold zgrantA
    first | (rw [if_pos c6]; rfl) | (rw [if_neg c6])
  · skip
    refine zr_aload_n d_A_grant_9 rfl ?_
    refine zr_iconst (v := 0) d_A_grant_10 (by decide) ?_
    refine zr_pputi (c := 4) (f := 4) d_A_grant_11 (by first | assumption | omega) hk sf_A_grant_11 rfl rfl (by decide) rfl ⟨rfl, rfl⟩ ?_
    refine zr_aload_n d_A_grant_14 rfl ?_
    refine zr_iconst (v := 3) d_A_grant_15 (by decide) ?_
    refine zr_call (zrunC (c := 4) (As := [yi 3]) (rest := []) (x := ⟨"MonitorYard$Barrier", "endAllInRow", "(I)V"⟩) (owner := "MonitorYard$Place") d_A_grant_16 (by assumption) hk (by decide) (c_P_endAllInRow (σ := zspl σ 4 o 0) (h := 3) ho (by omega)) 1 rfl (by decide +kernel) cw_P_endAllInRow (zdecl (i' := m_P_endAllInRow) (by decide +kernel) cw_P_endAllInRow) (by decide) (Nat.le_of_ble_eq_true rfl) (ycat_of rfl) (by decide) (by decide)) (fun r σ9 hp => ?_)
    obtain ⟨rfl, rfl⟩ := hp
    refine zr_goto (tgt := 27) d_A_grant_19 (by decide) ?_
    refine zr_retv d_A_grant_27 rfl (by decide) (by decide) ?_
    refine ⟨rfl, ?_⟩
    unfold zgrantA
    first | (rw [if_pos c6]; rfl) | (rw [if_neg c6])

set_option maxHeartbeats 4000000 in
set_option maxRecDepth 20000 in
theorem c_A_whenOneGaveUp {G : yG} {μ : yW} {σ : zS} {o : Nat} (ho : o < zn σ) (hk : zkd σ o = 4)  : zCT G m_A_whenOneGaveUp [yr (kP o)] σ μ (fun r σ' => r = none ∧ σ' = zgave σ o) := by
  refine zCT_of (by decide) rfl (ycat_of rfl) (Nat.le_of_ble_eq_true rfl) ?_
  refine zr_aload_n d_A_whenOneGaveUp_0 rfl ?_
  refine zr_iconst (v := 1) d_A_whenOneGaveUp_1 (by decide) ?_
  refine zr_pputi (c := 4) (f := 4) d_A_whenOneGaveUp_2 (by first | assumption | omega) hk sf_A_whenOneGaveUp_2 rfl rfl (by decide) rfl ⟨rfl, rfl⟩ ?_
  refine zr_aload_n d_A_whenOneGaveUp_5 rfl ?_
  refine zr_iconst (v := 3) d_A_whenOneGaveUp_6 (by decide) ?_
  refine zr_call (zrunC (c := 4) (As := [yi 3]) (rest := []) (x := ⟨"MonitorYard$Barrier", "endAllInRow", "(I)V"⟩) (owner := "MonitorYard$Place") d_A_whenOneGaveUp_7 (by assumption) hk (by decide) (c_P_endAllInRow (σ := zspl σ 4 o 1) (h := 3) ho (by omega)) 1 rfl (by decide +kernel) cw_P_endAllInRow (zdecl (i' := m_P_endAllInRow) (by decide +kernel) cw_P_endAllInRow) (by decide) (Nat.le_of_ble_eq_true rfl) (ycat_of rfl) (by decide) (by decide)) (fun r σ9 hp => ?_)
  obtain ⟨rfl, rfl⟩ := hp
  refine zr_retv d_A_whenOneGaveUp_10 rfl (by decide) (by decide) ?_
  refine ⟨rfl, ?_⟩
  unfold zgave
  rw [if_pos hk]
  rfl

section ZCP
variable {G : yG} {i : yM} {Qf : yQT} {pc : Nat} {ls : List (Option yV)} {σ : zS} {μ : yW} {cs sl : Nat} {P : Option yV → zS → Prop}
theorem zr_callP {sel : Nat → yM} {o : Nat} {As rest : List yV} {ix : Nat} {x : MethodName} {owner : String} {priv : Bool} (hd : decode (yMb i) pc = .ok (.invokevirtual ix, 3)) (ho : o < zn σ) (hct : zCT G (sel (zkd σ o)) (yr (kP o) :: As) σ μ P) (n : Nat) (hn : As.length = n) (hf : ∀ c, c < 6 → zUF i (sel c) ix n x owner (zcl c).1 priv = true) (hcode : ∀ c, c < 6 → ycode (sel c) ∈ lw_tbl) (hdecl : ∀ s : State, yGx s → va_Decl s ⟨owner, x.name, x.desc⟩) (hcell : ∀ c, c < 6 → (yMm (sel c)).cells = 0 ∧ (yMm (sel c)).slots = 0) (hrest : rest.length ≤ 8) (hcat : ∀ v ∈ rest, ∀ ad, (ycv ad v).category = 1) (hc : cs ≤ (yMm i).cells) (hs : sl ≤ (yMm i).slots)
    (kk : ∀ r σ', P r σ' → yWP G i Qf μ.1 (pc + 3) ls (r.toList ++ rest) (zC σ' μ) cs sl) : yWP G i Qf μ.1 pc ls (As.reverse ++ yr (kP o) :: rest) (zC σ μ) cs sl := by
  intro ω h
  have h0 := hcell _ (h.kd ho)
  exact zr_call (zrunP hd ho hct n hn hf hcode hdecl hcell hrest hcat hc hs) (fun r σ' hp => by rw [h0.1, h0.2]; exact kk r σ' hp) ω h
end ZCP
def sel_gave (c : Nat) : yM := match c with
  | 4 => m_A_whenOneGaveUp
  | _ => m_P_whenOneGaveUp
/-- by cases on a place's kind -/
theorem zkinds {σ : zS} {μ ω : yW} {o : Nat} (h : zC σ μ ω) (ho : o < zn σ) : zkd σ o = 0 ∨ zkd σ o = 1 ∨ zkd σ o = 2 ∨ zkd σ o = 3 ∨ zkd σ o = 4 ∨ zkd σ o = 5 := by have := h.kd ho; omega
theorem v_gave {G : yG} {μ : yW} {σ : zS} {o : Nat} (ho : o < zn σ) : zCT G (sel_gave (zkd σ o)) [yr (kP o)] σ μ (fun r σ' => r = none ∧ σ' = zgave σ o) := by
  intro ω h
  by_cases e : zkd σ o = 4
  · rw [e]; exact c_A_whenOneGaveUp ho e ω h
  · have h1 : sel_gave (zkd σ o) = m_P_whenOneGaveUp := by
      rcases zkinds h ho with e1 | e1 | e1 | e1 | e1 | e1 <;> first | exact absurd e1 e | (rw [e1]; rfl)
    have h2 : zgave σ o = σ := by unfold zgave; rw [if_neg e]
    rw [h1, h2]
    exact c_P_whenOneGaveUp ho ω h
theorem sel_gave_code : ∀ c, c < 6 → ycode (sel_gave c) ∈ lw_tbl := by
  intro c hc
  rcases (show c = 0 ∨ c = 1 ∨ c = 2 ∨ c = 3 ∨ c = 4 ∨ c = 5 by omega) with rfl | rfl | rfl | rfl | rfl | rfl
  · exact cw_P_whenOneGaveUp
  · exact cw_P_whenOneGaveUp
  · exact cw_P_whenOneGaveUp
  · exact cw_P_whenOneGaveUp
  · exact cw_A_whenOneGaveUp
  · exact cw_P_whenOneGaveUp

set_option maxHeartbeats 4000000 in
set_option maxRecDepth 20000 in
theorem c_P_leaveRow {G : yG} {μ : yW} {σ : zS} {o : Nat} (ho : o < zn σ) {t : Nat} (ht : t < 6) {h : Nat} (hh : h < 5)  : zCT G m_P_leaveRow [yr (kP o), yr (10 + t), yi (nI h)] σ μ (fun r σ' => r = none ∧ σ' = zleaveRow σ o t h) := by
  have hv : zrv σ 0 o := ⟨ho, Or.inl rfl⟩
  refine zCT_of (by decide) rfl (ycat_of rfl) (Nat.le_of_ble_eq_true rfl) ?_
  refine zr_aload_n d_P_leaveRow_0 rfl ?_
  refine zr_prow d_P_leaveRow_1 (by first | assumption | omega) sf_P_leaveRow_1 ?_
  refine zr_aload_n d_P_leaveRow_4 rfl ?_
  refine zr_call (zrunV (As := [yr (10 + t)]) (rest := []) d_P_leaveRow_5 (fun ω h => (h.row (by assumption)).2.1) rfl (c_R_remove' hv ht) 1 rfl (by decide +kernel) cw_R_remove (Nat.le_of_ble_eq_true rfl) (ycat_of rfl) (by decide) (by decide)) (fun r σ9 hp => ?_)
  obtain ⟨rfl, rfl⟩ := hp
  refine zr_aload_n d_P_leaveRow_8 rfl ?_
  refine zr_iload_n d_P_leaveRow_9 rfl ?_
  refine zr_call (zrunV (As := [yi (nI h)]) (rest := []) d_P_leaveRow_10 (fun ω h => h.sT (by assumption)) rfl (c_T_end ht hh) 1 rfl (by decide +kernel) cw_T_end (Nat.le_of_ble_eq_true rfl) (ycat_of rfl) (by decide) (by decide)) (fun r σ9 hp => ?_)
  obtain ⟨rfl, rfl⟩ := hp
  refine zr_aload_n d_P_leaveRow_13 rfl ?_
  refine zr_callP (sel := sel_gave) (o := o) (As := []) (rest := []) (x := yMy m_P_whenOneGaveUp) (owner := "MonitorYard$Place") (priv := false) d_P_leaveRow_14 (by assumption) (v_gave ho) 0 rfl (by decide +kernel) sel_gave_code (zdecl (i' := m_P_whenOneGaveUp) (by decide +kernel) cw_P_whenOneGaveUp) (by decide) (Nat.le_of_ble_eq_true rfl) (ycat_of rfl) (by decide) (by decide) (fun r σ9 hp => ?_)
  obtain ⟨rfl, rfl⟩ := hp
  exact zr_retv d_P_leaveRow_17 rfl (by decide) (by decide) ⟨rfl, rfl⟩

set_option maxHeartbeats 4000000 in
set_option maxRecDepth 20000 in
theorem c_P_giveUp {G : yG} {μ : yW} {σ : zS} {o : Nat} (ho : o < zn σ) {t : Nat} (ht : t < 6) {h : Nat} (hh : h < 5)  : zCT G m_P_giveUp [yr (kP o), yr (10 + t), yi (nI h)] σ μ (fun r σ' => r = none ∧ σ' = zleaveRow σ o t h) := by
  refine zCT_of (by decide) rfl (ycat_of rfl) (Nat.le_of_ble_eq_true rfl) ?_
  refine zr_aload_n d_P_giveUp_0 rfl ?_
  refine zr_aload_n d_P_giveUp_1 rfl ?_
  refine zr_iload_n d_P_giveUp_2 rfl ?_
  refine zr_callP (sel := (fun _ => m_P_leaveRow)) (o := o) (As := [yr (10 + t), yi (nI h)]) (rest := []) (x := yMy m_P_leaveRow) (owner := "MonitorYard$Place") (priv := false) d_P_giveUp_3 (by assumption) (c_P_leaveRow ho ht hh) 2 rfl (by decide +kernel) (fun _ _ => cw_P_leaveRow) (zdecl (i' := m_P_leaveRow) (by decide +kernel) cw_P_leaveRow) (by decide) (Nat.le_of_ble_eq_true rfl) (ycat_of rfl) (by decide) (by decide) (fun r σ9 hp => ?_)
  obtain ⟨rfl, rfl⟩ := hp
  exact zr_retv d_P_giveUp_6 rfl (by decide) (by decide) ⟨rfl, rfl⟩

set_option maxHeartbeats 4000000 in
set_option maxRecDepth 20000 in
theorem c_K_giveUp {G : yG} {μ : yW} {σ : zS} {o : Nat} (ho : o < zn σ) (hk : zkd σ o = 0) {t : Nat} (ht : t < 6) {h : Nat} (hh : h < 5) (h5 : zth σ 2 t = 2 → (zrw σ 0 o).length < 6)  : zCT G m_K_giveUp [yr (kP o), yr (10 + t), yi (nI h)] σ μ (fun r σ' => r = none ∧ σ' = zgiveUp σ o t h) := by
  have hk3 : 3 + zkd σ o = 3 := by rw [hk]
  have hv : zrv σ (zcj (zth σ 9 t)) o := zcj_v ho hk
  refine zCT_of (by decide) rfl (ycat_of rfl) (Nat.le_of_ble_eq_true rfl) ?_
  refine zr_aload_n d_K_giveUp_0 rfl ?_
  refine zr_tgeti d_K_giveUp_1 (by first | assumption | omega) sf_K_giveUp_1 rfl rfl ?_
  refine zr_iconst (v := 2) d_K_giveUp_4 (by decide) ?_
  refine zr_icmp_ne (tgt := 29) d_K_giveUp_5 (by decide) (fun c5 => ?_) (fun c5 => ?_)
  · skip
    refine zr_aload_n d_K_giveUp_29 rfl ?_
    refine zr_aload_n d_K_giveUp_30 rfl ?_
    refine zr_iload_n d_K_giveUp_31 rfl ?_
    refine zr_call (zrunC (c := 0) (As := [yr (10 + t), yi (nI h)]) (rest := []) (x := ⟨"MonitorYard$Lock", "leaveRow", "(LMonitorYard$YardThread;I)V"⟩) (owner := "MonitorYard$Place") d_K_giveUp_32 (by assumption) hk (by decide) (c_P_leaveRow ho ht hh) 2 rfl (by decide +kernel) cw_P_leaveRow (zdecl (i' := m_P_leaveRow) (by decide +kernel) cw_P_leaveRow) (by decide) (Nat.le_of_ble_eq_true rfl) (ycat_of rfl) (by decide) (by decide)) (fun r σ9 hp => ?_)
    obtain ⟨rfl, rfl⟩ := hp
    refine zr_retv d_K_giveUp_35 rfl (by decide) (by decide) ?_
    refine ⟨rfl, ?_⟩
    unfold zgiveUp
    split
    · rename_i z; first | rfl | exact absurd z.2 c5
    · rename_i z; first | rfl | exact absurd ⟨hk, c5⟩ z
  · skip
    refine zr_aload_n d_K_giveUp_8 rfl ?_
    refine zr_aload_n d_K_giveUp_9 rfl ?_
    refine zr_tgeti d_K_giveUp_10 (by first | assumption | omega) sf_K_giveUp_10 rfl rfl ?_
    refine zr_call (zrunV (As := [yi (zth σ 9 t)]) (rest := []) d_K_giveUp_13 (fun ω h => h.sP' ho hk3) rfl (c_K_condition ho hk) 1 rfl (by decide +kernel) cw_K_condition (Nat.le_of_ble_eq_true rfl) (ycat_of rfl) (by decide) (by decide)) (fun r σ9 hp => ?_)
    obtain ⟨rfl, rfl⟩ := hp
    change yWP _ _ _ _ _ _ [yr (kR (zcj (zth σ9 9 t)) o)] _ _ _
    refine zr_aload_n d_K_giveUp_16 rfl ?_
    refine zr_call (zrunV (As := [yr (10 + t)]) (rest := []) d_K_giveUp_17 (fun ω h => (h.row hv).2.1) rfl (c_R_remove' hv ht) 1 rfl (by decide +kernel) cw_R_remove (Nat.le_of_ble_eq_true rfl) (ycat_of rfl) (by decide) (by decide)) (fun r σ8 hp => ?_)
    obtain ⟨rfl, rfl⟩ := hp
    refine zr_aload_n d_K_giveUp_20 rfl ?_
    refine zr_aload_n d_K_giveUp_21 rfl ?_
    refine zr_iload_n d_K_giveUp_22 rfl ?_
    refine zr_call (zrunV (As := [yr (10 + t), yi (nI h)]) (rest := []) d_K_giveUp_23 (fun ω h => h.sP' ho hk3) rfl (c_K_takeAgain (σ := zsrw σ9 (zcj (zth σ9 9 t)) o ((zrw σ9 (zcj (zth σ9 9 t)) o).filter (fun u => u ≠ t))) ho hk ht (by rw [zrw_ne (by unfold zcj; split <;> omega)]; exact h5 c5)) 2 rfl (by decide +kernel) cw_K_takeAgain (Nat.le_of_ble_eq_true rfl) (ycat_of rfl) (by decide) (by decide)) (fun r σ7 hp => ?_)
    obtain ⟨rfl, rfl⟩ := hp
    refine zr_goto (tgt := 35) d_K_giveUp_26 (by decide) ?_
    refine zr_retv d_K_giveUp_35 rfl (by decide) (by decide) ?_
    refine ⟨rfl, ?_⟩
    unfold zgiveUp
    split
    · rename_i z; first | rfl | exact absurd z.2 c5
    · rename_i z; first | rfl | exact absurd ⟨hk, c5⟩ z
end
section
/-! queues -/
theorem zC_squ {σ : zS} {μ ω ω' : yW} {o : Nat} {l : List Int32} (h : zC σ μ ω) (ho : o < zn σ) (hk : zkd σ o = 5) (hsh : ω'.1 = ω.1) (hF : ω'.2.2 = ω.2.2) (ha : ∀ k, k ≠ kP o → k ≠ kP o + 7 → ω'.2.1 k = ω.2.1 k) (hb : ∀ f, f ≠ 4 → ω'.2.1 (kP o) f = ω.2.1 (kP o) f) (hl : ω'.2.1 (kP o) 4 = nI l.length) (hc : l.length ≤ zcp σ o) (hv : ∀ j (hj : j < l.length), ω'.2.1 (kP o + 7) j = l[j]) : zC (zsqu σ o l) μ ω' := by
  have g : ∀ k, k ≠ kP o → k ≠ kP o + 7 → zAg ω ω' k := fun k h1 h2 => ⟨ha k h1 h2, by rw [hF]⟩
  refine zC_place h ho hsh (fun k hk => g k (by omega) (by omega)) rfl rfl rfl rfl (fun u hu => ⟨rfl, rfl, fun _ => rfl, rfl, fun _ => rfl, fun _ => rfl, va_up_ne _ _ hu⟩) (fun u => zSt.rf σ u) ?_
  obtain ⟨a1, a2, a3, a4, a5, a6, a7, a8, a9, a10, a11⟩ := h.pl ho
  have hne : ∀ c, c ≠ 5 → zkd (zsqu σ o l) o = c → False := fun c hc h9 => hc (by rw [← h9]; exact hk)
  have e2 : zqu (zsqu σ o l) o = l := va_up_self _ _ _
  refine ⟨(hb 0 (by omega)).trans a1, (hb 1 (by omega)).trans a2, by rw [hF]; exact a3, a4.kept (g _ (by omega) (by omega)) (g _ (by omega) (by omega)), fun h9 => absurd h9 (fun z => hne 0 (by omega) z), fun h9 => absurd h9 (fun z => hne 1 (by omega) z), fun h9 => absurd h9 (fun z => hne 2 (by omega) z), fun h9 => absurd h9 (fun z => hne 3 (by omega) z), fun h9 => absurd h9 (fun z => hne 4 (by omega) z), fun h9 => ?_, a11⟩
  obtain ⟨b1, b2, b3, b4⟩ := a10 hk
  rw [hF, e2]
  exact ⟨b1, hl, hc, hv⟩
section ZQR
variable {G : yG} {i : yM} {Qf : yQT} {pc : Nat} {ls : List (Option yV)} {st : List yV} {σ : zS} {μ : yW} {cs sl : Nat} {sh0 : Nat → Option ySh} {o : Nat}
theorem zr_qints {ix : Nat} {ref host : String} (hd : decode (yMb i) pc = .ok (.getfield ix, 3)) (ho : o < zn σ) (hk : zkd σ o = 5) (site : ySF (yMy i).cls ix ref host 8 3 = true) (k : yWP G i Qf sh0 (pc + 3) ls (yr (kP o + 7) :: st) (zC σ μ) cs sl) : yWP G i Qf sh0 pc ls (yr (kP o) :: st) (zC σ μ) cs sl := by
  intro ω h
  refine yr_getr hd (h.sP' ho (by rw [hk])) site rfl ?_
  rw [((h.pl ho).2.2.2.2.2.2.2.2.2.1 hk).1]
  exact k ω h
theorem zr_qlen {ix : Nat} {ref host : String} (hd : decode (yMb i) pc = .ok (.getfield ix, 3)) (ho : o < zn σ) (hk : zkd σ o = 5) (site : ySF (yMy i).cls ix ref host 8 4 = true) (k : yWP G i Qf sh0 (pc + 3) ls (yi (nI (zqu σ o).length) :: st) (zC σ μ) cs sl) : yWP G i Qf sh0 pc ls (yr (kP o) :: st) (zC σ μ) cs sl := by
  intro ω h
  refine yr_geti hd (h.sP' ho (by rw [hk])) site rfl ?_
  rw [((h.pl ho).2.2.2.2.2.2.2.2.2.1 hk).2.1]
  exact k ω h
theorem zC.sQ {ω : yW} (h : zC σ μ ω) (ho : o < zn σ) (hk : zkd σ o = 5) : ω.1 (kP o + 7) = some (.inr (0, zcp σ o)) := (h.1.2.2.2.2.2 o ho).2.2.2.2.2.2.2.2 hk
theorem zr_qcap (hd : decode (yMb i) pc = .ok (.arraylength, 1)) (ho : o < zn σ) (hk : zkd σ o = 5) (k : yWP G i Qf sh0 (pc + 1) ls (yi (nI (zcp σ o)) :: st) (zC σ μ) cs sl) : yWP G i Qf sh0 pc ls (yr (kP o + 7) :: st) (zC σ μ) cs sl := by
  intro ω h
  exact yr_alen (tc := 0) hd (by omega) (h.sQ ho hk) (k ω h)
end ZQR

set_option maxHeartbeats 4000000 in
set_option maxRecDepth 20000 in
theorem c_Q_level {G : yG} {μ : yW} {σ : zS} {o : Nat} (ho : o < zn σ) (hk : zkd σ o = 5)  : zCT G m_Q_level [yr (kP o)] σ μ (fun r σ' => r = some (yi (nI (zqu σ o).length)) ∧ σ' = σ) := by
  refine zCT_of (by decide) rfl (ycat_of rfl) (Nat.le_of_ble_eq_true rfl) ?_
  refine zr_aload_n d_Q_level_0 rfl ?_
  refine zr_qlen d_Q_level_1 (by first | assumption | omega) hk sf_Q_level_1 ?_
  exact zr_reti d_Q_level_4 rfl (by decide) (by decide) ⟨rfl, rfl⟩

set_option maxHeartbeats 4000000 in
set_option maxRecDepth 20000 in
theorem c_Q_canBe {G : yG} {μ : yW} {σ : zS} {o : Nat} (ho : o < zn σ) (hk : zkd σ o = 5) {t : Nat} (ht : t < 6)  : zCT G m_Q_canBe [yr (kP o), yr (10 + t)] σ μ (fun r σ' => r = some (yi (if zth σ 8 t = 15 then (if nI (zcp σ o) ≤ nI (zqu σ o).length then 0 else 1) else (if nI (zqu σ o).length ≤ 0 then 0 else 1))) ∧ σ' = σ) := by
  refine zCT_of (by decide) rfl (ycat_of rfl) (Nat.le_of_ble_eq_true rfl) ?_
  refine zr_aload_n d_Q_canBe_0 rfl ?_
  refine zr_tgeti d_Q_canBe_1 (by first | assumption | omega) sf_Q_canBe_1 rfl rfl ?_
  refine zr_bipush (v := 15) d_Q_canBe_4 (by decide) ?_
  refine zr_icmp_ne (tgt := 29) d_Q_canBe_6 (by decide) (fun c6 => ?_) (fun c6 => ?_)
  · skip
    refine zr_aload_n d_Q_canBe_29 rfl ?_
    refine zr_qlen d_Q_canBe_30 (by first | assumption | omega) hk sf_Q_canBe_30 ?_
    refine zr_if_le (tgt := 40) d_Q_canBe_33 (by decide) (fun c33 => ?_) (fun c33 => ?_)
    · skip
      refine zr_iconst (v := 0) d_Q_canBe_40 (by decide) ?_
      refine zr_retz d_Q_canBe_41 rfl rfl (by decide) (by decide) ?_
      simp [*]
    · skip
      refine zr_iconst (v := 1) d_Q_canBe_36 (by decide) ?_
      refine zr_goto (tgt := 41) d_Q_canBe_37 (by decide) ?_
      refine zr_retz d_Q_canBe_41 rfl rfl (by decide) (by decide) ?_
      simp [*]
  · skip
    refine zr_aload_n d_Q_canBe_9 rfl ?_
    refine zr_qlen d_Q_canBe_10 (by first | assumption | omega) hk sf_Q_canBe_10 ?_
    refine zr_aload_n d_Q_canBe_13 rfl ?_
    refine zr_qints d_Q_canBe_14 (by first | assumption | omega) hk sf_Q_canBe_14 ?_
    refine zr_qcap d_Q_canBe_17 (by assumption) hk ?_
    refine zr_icmp_ge (tgt := 25) d_Q_canBe_18 (by decide) (fun c18 => ?_) (fun c18 => ?_)
    · skip
      refine zr_iconst (v := 0) d_Q_canBe_25 (by decide) ?_
      refine zr_goto (tgt := 41) d_Q_canBe_26 (by decide) ?_
      refine zr_retz d_Q_canBe_41 rfl rfl (by decide) (by decide) ?_
      simp [*]
    · skip
      refine zr_iconst (v := 1) d_Q_canBe_21 (by decide) ?_
      refine zr_goto (tgt := 41) d_Q_canBe_22 (by decide) ?_
      refine zr_retz d_Q_canBe_41 rfl rfl (by decide) (by decide) ?_
      simp [*]

set_option maxHeartbeats 4000000 in
set_option maxRecDepth 20000 in
theorem c_Q_putLast {G : yG} {μ : yW} {σ : zS} {o : Nat} {x : Int32} (ho : o < zn σ) (hk : zkd σ o = 5)  : zCT G m_Q_putLast [yr (kP o), yi x] σ μ (fun r σ' => r = none ∧ σ' = (if (zqu σ o).length < zcp σ o then zsqu σ o (zqu σ o ++ [x]) else σ)) := by
  refine zCT_of (by decide) rfl (ycat_of rfl) (Nat.le_of_ble_eq_true rfl) ?_
  refine zr_aload_n d_Q_putLast_0 rfl ?_
  refine zr_qlen d_Q_putLast_1 (by first | assumption | omega) hk sf_Q_putLast_1 ?_
  refine zr_aload_n d_Q_putLast_4 rfl ?_
  refine zr_qints d_Q_putLast_5 (by first | assumption | omega) hk sf_Q_putLast_5 ?_
  refine zr_qcap d_Q_putLast_8 (by assumption) hk ?_
  refine yWP_use (fun ω h => (show zcp σ o ≤ 3 ∧ (zqu σ o).length ≤ zcp σ o from ⟨(h.1.2.2.2.2.2 o ho).2.2.1, ((h.pl ho).2.2.2.2.2.2.2.2.2.1 hk).2.2.1⟩)) (fun hcap => ?_)
  refine zr_icmp_ge (tgt := 32) d_Q_putLast_9 (by decide) (fun c9 => ?_) (fun c9 => ?_)
  · rw [nI_leI (by omega) (by omega)] at c9
    exact zr_retv d_Q_putLast_32 rfl (by decide) (by decide) ⟨rfl, by rw [if_neg (by omega)]⟩
  · rw [nI_leI (by omega) (by omega)] at c9
    refine zr_aload_n d_Q_putLast_12 rfl ?_
    refine zr_qints d_Q_putLast_13 (by first | assumption | omega) hk sf_Q_putLast_13 ?_
    refine zr_aload_n d_Q_putLast_16 rfl ?_
    refine zr_qlen d_Q_putLast_17 (by first | assumption | omega) hk sf_Q_putLast_17 ?_
    refine zr_iload_n d_Q_putLast_20 rfl ?_
    intro ω h
    have hq := (h.pl ho).2.2.2.2.2.2.2.2.2.1 hk
    refine yr_iast (n := zcp σ o) (j := (zqu σ o).length) d_Q_putLast_21 (h.sQ ho hk) (nI_pos (by omega)) (nI_clamp (by omega)) (by omega) ?_
    refine yr_aload_n d_Q_putLast_22 rfl ?_
    refine yr_dup d_Q_putLast_23 (fun _ => rfl) ?_
    refine yr_geti d_Q_putLast_24 (h.sP' (ci := 8) ho (by rw [hk])) sf_Q_putLast_24 rfl ?_
    refine yr_iconst (v := 1) d_Q_putLast_27 (by decide) ?_
    refine yr_iadd d_Q_putLast_28 ?_
    refine yr_puti d_Q_putLast_29 (h.sP' (ci := 8) ho (by rw [hk])) sf_Q_putLast_29 rfl rfl rfl ⟨rfl, rfl⟩ ?_
    have e4 : (ysi ω (kP o + 7) (zqu σ o).length x).2.1 (kP o) 4 = nI (zqu σ o).length := (yu_ne _ _ (Or.inl (by omega))).trans hq.2.1
    refine yr_retv d_Q_putLast_32 rfl (by decide) (by decide) ⟨_, zC_squ (l := zqu σ o ++ [x]) h ho hk rfl rfl (fun k h1 h2 => ?_) (fun f hf => ?_) ?_ (by rw [List.length_append]; simp; omega) (fun j hj => ?_), rfl, by rw [if_pos (by omega)]⟩
    · funext q
      exact (yu_ne _ _ (Or.inl h1)).trans (yu_ne _ _ (Or.inl h2))
    · exact (yu_ne _ _ (Or.inr hf)).trans (yu_ne _ _ (Or.inl (by omega)))
    · show yu _ _ _ _ _ _ = _
      rw [yu_same, e4, nI_1, List.length_append]; rfl
    · show yu _ _ _ _ _ _ = _
      rw [yu_ne _ _ (Or.inl (by omega))]
      show yu _ _ _ _ _ _ = _
      rw [List.length_append] at hj
      have hj' : j < (zqu σ o).length + 1 := hj
      by_cases e : j = (zqu σ o).length
      · subst e
        rw [yu_same, List.getElem_append_right (Nat.le_refl _)]
        simp
      · rw [yu_ne _ _ (Or.inr e), List.getElem_append_left (by omega)]
        exact hq.2.2.2 j (by omega)

/-- the queue's array while it is moved up -/
def zQI (ω0 : yW) (o : Nat) (x0 : Int32) (b : List Int32) (q : Nat) (ω : yW) : Prop := ω.1 = ω0.1 ∧ ω.2.2 = ω0.2.2 ∧ (∀ k, k ≠ kP o → k ≠ kP o + 7 → ω.2.1 k = ω0.2.1 k) ∧ (∀ f, f ≠ 4 → ω.2.1 (kP o) f = ω0.2.1 (kP o) f) ∧ ω.2.1 (kP o) 4 = nI b.length ∧ (∀ j (hj : j < b.length), j < q → ω.2.1 (kP o + 7) j = b[j]) ∧ (∀ j (hj : j < (x0 :: b).length), q ≤ j → ω.2.1 (kP o + 7) j = (x0 :: b)[j])
set_option maxHeartbeats 4000000 in
set_option maxRecDepth 20000 in
theorem c_Q_take_loop {G : yG} {μ ω0 : yW} {σ : zS} {o : Nat} {x0 : Int32} {b : List Int32} (h0 : zC σ μ ω0) (ho : o < zn σ) (hk : zkd σ o = 5) (hq : zqu σ o = x0 :: b) (hcap : zcp σ o ≤ 3 ∧ (zqu σ o).length ≤ zcp σ o) : ∀ (m q : Nat) (ω : yW), m + q = b.length → zQI ω0 o x0 b q ω → yWW G m_Q_takeFirst (zQ G m_Q_takeFirst μ (fun r σ' => r = some (yi x0) ∧ σ' = zsqu σ o b)) μ.1 19 [some (yr (kP o)), some (yi x0), some (yi (nI q))] [] ω 0 0 := by
  have hb3 : b.length < 3 := by
    rw [hq] at hcap
    simp only [List.length_cons] at hcap
    omega
  intro m
  induction m with
  | zero =>
    intro q ω hm hQ
    obtain ⟨q1, q2, q3, q4, q5, q6, q7⟩ := hQ
    have hsP : ω.1 (kP o) = some (.inl 8) := by rw [q1]; exact h0.sP' ho (by rw [hk])
    refine yr_iload_n d_Q_takeFirst_19 rfl ?_
    refine yr_aload_n d_Q_takeFirst_20 rfl ?_
    refine yr_geti d_Q_takeFirst_21 hsP sf_Q_takeFirst_21 rfl ?_
    rw [q5]
    refine yr_icmp_ge (tgt := 47) d_Q_takeFirst_24 (by decide) (fun c24 => ?_) (fun c24 => absurd (nI_le (by omega) (by omega)) c24)
    refine yr_iload_n d_Q_takeFirst_47 rfl ?_
    exact yr_reti d_Q_takeFirst_48 rfl (by decide) (by decide) ⟨_, zC_squ h0 ho hk q1 q2 q3 q4 q5 (by rw [hq] at hcap; simp only [List.length_cons] at hcap; omega) (fun j hj => q6 j hj (by omega)), rfl, rfl⟩
  | succ m ih =>
    intro q ω hm hQ
    obtain ⟨q1, q2, q3, q4, q5, q6, q7⟩ := hQ
    have hsP : ω.1 (kP o) = some (.inl 8) := by rw [q1]; exact h0.sP' ho (by rw [hk])
    have hsA : ω.1 (kP o + 7) = some (.inr (0, zcp σ o)) := by rw [q1]; exact h0.sQ ho hk
    have hF : ω.2.2 (kP o) 3 = some (kP o + 7) := by rw [q2]; exact ((h0.pl ho).2.2.2.2.2.2.2.2.2.1 hk).1
    have hc4 : b.length + 1 ≤ zcp σ o := by
      have := hcap.2
      rw [hq] at this
      exact this
    refine yr_iload_n d_Q_takeFirst_19 rfl ?_
    refine yr_aload_n d_Q_takeFirst_20 rfl ?_
    refine yr_geti d_Q_takeFirst_21 hsP sf_Q_takeFirst_21 rfl ?_
    rw [q5]
    refine yr_icmp_ge (tgt := 47) d_Q_takeFirst_24 (by decide) (fun c24 => absurd c24 (nI_ge (by omega) (by omega))) (fun c24 => ?_)
    refine yr_aload_n d_Q_takeFirst_27 rfl ?_
    refine yr_getr d_Q_takeFirst_28 hsP sf_Q_takeFirst_28 rfl ?_
    rw [hF]
    refine yr_iload_n d_Q_takeFirst_31 rfl ?_
    refine yr_aload_n d_Q_takeFirst_32 rfl ?_
    refine yr_getr d_Q_takeFirst_33 hsP sf_Q_takeFirst_33 rfl ?_
    rw [hF]
    refine yr_iload_n d_Q_takeFirst_36 rfl ?_
    refine yr_iconst (v := 1) d_Q_takeFirst_37 (by decide) ?_
    refine yr_iadd d_Q_takeFirst_38 ?_
    refine yr_iald (n := zcp σ o) (j := q + 1) d_Q_takeFirst_39 hsA (by rw [nI_1]; exact nI_pos (by omega)) (by rw [nI_1]; exact nI_clamp (by omega)) (by omega) ?_
    rw [q7 (q + 1) (by simp only [List.length_cons]; omega) (by omega)]
    refine yr_iast (n := zcp σ o) (j := q) d_Q_takeFirst_40 hsA (nI_pos (by omega)) (nI_clamp (by omega)) (by omega) ?_
    refine yr_iinc (v := nI (q + 1)) d_Q_takeFirst_41 rfl (nI_1 q) (by decide) rfl ?_
    refine yr_goto (tgt := 19) d_Q_takeFirst_44 (by decide) ?_
    refine ih (q + 1) _ (by omega) ⟨q1, q2, fun k h1 h2 => ?_, fun f hf => (yu_ne _ _ (Or.inl (by omega))).trans (q4 f hf), (yu_ne _ _ (Or.inl (by omega))).trans q5, fun j hj hj2 => ?_, fun j hj hj2 => ?_⟩
    · funext z
      exact (yu_ne _ _ (Or.inl h2)).trans (congrFun (q3 k h1 h2) z)
    · show yu _ _ _ _ _ _ = _
      by_cases e : j = q
      · subst e
        rw [yu_same]
        rfl
      · rw [yu_ne _ _ (Or.inr e)]
        exact q6 j hj (by omega)
    · show yu _ _ _ _ _ _ = _
      rw [yu_ne _ _ (Or.inr (by omega))]
      exact q7 j hj (by omega)

set_option maxHeartbeats 4000000 in
set_option maxRecDepth 20000 in
theorem c_Q_takeFirst {G : yG} {μ : yW} {σ : zS} {o : Nat} {x0 : Int32} {b : List Int32} (ho : o < zn σ) (hk : zkd σ o = 5) (hq : zqu σ o = x0 :: b)  : zCT G m_Q_takeFirst [yr (kP o)] σ μ (fun r σ' => r = some (yi x0) ∧ σ' = zsqu σ o b) := by
  refine zCT_of (by decide) rfl (ycat_of rfl) (Nat.le_of_ble_eq_true rfl) ?_
  refine zr_aload_n d_Q_takeFirst_0 rfl ?_
  refine zr_qints d_Q_takeFirst_1 (by first | assumption | omega) hk sf_Q_takeFirst_1 ?_
  refine zr_iconst (v := 0) d_Q_takeFirst_4 (by decide) ?_
  intro ω h
  have hQ := (h.pl ho).2.2.2.2.2.2.2.2.2.1 hk
  have hcap : zcp σ o ≤ 3 ∧ (zqu σ o).length ≤ zcp σ o := ⟨(h.1.2.2.2.2.2 o ho).2.2.1, hQ.2.2.1⟩
  have hl : (zqu σ o).length = b.length + 1 := by rw [hq]; rfl
  refine yr_iald (n := zcp σ o) (j := 0) d_Q_takeFirst_5 (h.sQ ho hk) (by decide) (by decide) (by omega) ?_
  rw [hQ.2.2.2 0 (by omega)]
  have e0 : (zqu σ o)[0]'(by omega) = x0 := by simp [hq]
  rw [e0]
  refine yr_istore_n d_Q_takeFirst_6 (by decide) rfl ?_
  refine yr_aload_n d_Q_takeFirst_7 rfl ?_
  refine yr_dup d_Q_takeFirst_8 (fun _ => rfl) ?_
  refine yr_geti d_Q_takeFirst_9 (h.sP' (ci := 8) ho (by rw [hk])) sf_Q_takeFirst_9 rfl ?_
  rw [hQ.2.1, hl]
  refine yr_iconst (v := 1) d_Q_takeFirst_12 (by decide) ?_
  refine yr_isub d_Q_takeFirst_13 ?_
  rw [nI_pred]
  refine yr_puti d_Q_takeFirst_14 (h.sP' (ci := 8) ho (by rw [hk])) sf_Q_takeFirst_14 rfl rfl rfl ⟨rfl, rfl⟩ ?_
  refine yr_iconst (v := 0) d_Q_takeFirst_17 (by decide) ?_
  refine yr_istore_n d_Q_takeFirst_18 (by decide) rfl ?_
  refine c_Q_take_loop h ho hk hq hcap b.length 0 _ rfl ⟨rfl, rfl, fun k h1 h2 => funext fun z => yu_ne _ _ (Or.inl h1), fun f hf => yu_ne _ _ (Or.inr hf), yu_same _ _ _ _, fun j _ hj => absurd hj (by omega), fun j hj _ => ?_⟩
  rw [show (ysi ω (kP o) 4 (nI b.length)).2.1 (kP o + 7) j = ω.2.1 (kP o + 7) j from yu_ne _ _ (Or.inl (by omega)), hQ.2.2.2 j (by rw [hl]; exact hj)]
  simp [hq]

def zgrantQ (σ : zS) (o t : Nat) : zS := if zth σ 8 t = 15 then (if (zqu σ o).length < zcp σ o then zsqu σ o (zqu σ o ++ [zth σ 9 t]) else σ) else (match zqu σ o with | [] => σ | x :: b => zsth (zsqu σ o b) 5 t x)

set_option maxHeartbeats 4000000 in
set_option maxRecDepth 20000 in
theorem c_Q_grant {G : yG} {μ : yW} {σ : zS} {o : Nat} (ho : o < zn σ) (hk : zkd σ o = 5) {t : Nat} (ht : t < 6) (hne : ¬ zth σ 8 t = 15 → zqu σ o ≠ [])  : zCT G m_Q_grant [yr (kP o), yr (10 + t)] σ μ (fun r σ' => r = none ∧ σ' = zgrantQ σ o t) := by
  have hk3 : 3 + zkd σ o = 8 := by rw [hk]
  refine zCT_of (by decide) rfl (ycat_of rfl) (Nat.le_of_ble_eq_true rfl) ?_
  refine zr_aload_n d_Q_grant_0 rfl ?_
  refine zr_tgeti d_Q_grant_1 (by first | assumption | omega) sf_Q_grant_1 rfl rfl ?_
  refine zr_bipush (v := 15) d_Q_grant_4 (by decide) ?_
  refine zr_icmp_ne (tgt := 20) d_Q_grant_6 (by decide) (fun c6 => ?_) (fun c6 => ?_)
  · skip
    refine zr_aload_n d_Q_grant_20 rfl ?_
    refine zr_aload_n d_Q_grant_21 rfl ?_
    obtain ⟨x0, b, hq⟩ : ∃ x0 b, zqu σ o = x0 :: b := by
      cases hl : zqu σ o with
      | nil => exact absurd hl (hne c6)
      | cons x0 b => exact ⟨x0, b, rfl⟩
    refine zr_call (zrunV (As := []) (rest := [yr (10 + t)]) d_Q_grant_22 (fun ω h => h.sP' ho hk3) rfl (c_Q_takeFirst ho hk hq) 0 rfl (by decide +kernel) cw_Q_takeFirst (Nat.le_of_ble_eq_true rfl) (ycat_of rfl) (by decide) (by decide)) (fun r σ9 hp => ?_)
    obtain ⟨rfl, rfl⟩ := hp
    refine zr_tputi d_Q_grant_25 (by first | assumption | omega) sf_Q_grant_25 rfl rfl ⟨rfl, rfl⟩ ?_
    refine zr_retv d_Q_grant_28 rfl (by decide) (by decide) ?_
    refine ⟨rfl, ?_⟩
    unfold zgrantQ
    first
      | (rw [if_pos c6]; done)
      | (rw [if_neg c6, hq]; done)
  · skip
    refine zr_aload_n d_Q_grant_9 rfl ?_
    refine zr_aload_n d_Q_grant_10 rfl ?_
    refine zr_tgeti d_Q_grant_11 (by first | assumption | omega) sf_Q_grant_11 rfl rfl ?_
    refine zr_call (zrunV (As := [yi (zth σ 9 t)]) (rest := []) d_Q_grant_14 (fun ω h => h.sP' ho hk3) rfl (c_Q_putLast ho hk) 1 rfl (by decide +kernel) cw_Q_putLast (Nat.le_of_ble_eq_true rfl) (ycat_of rfl) (by decide) (by decide)) (fun r σ9 hp => ?_)
    obtain ⟨rfl, rfl⟩ := hp
    refine zr_goto (tgt := 28) d_Q_grant_17 (by decide) ?_
    refine zr_retv d_Q_grant_28 rfl (by decide) (by decide) ?_
    refine ⟨rfl, ?_⟩
    unfold zgrantQ
    first
      | (rw [if_pos c6]; done)
      | (rw [if_neg c6, hq]; done)
end
section
/-! what a place's kind selects, and what it answers -/
def zb (b : Bool) : Int32 := if b = true then 1 else 0
theorem zCT.mono {G : yG} {i : yM} {As : List yV} {σ : zS} {μ : yW} {P P' : Option yV → zS → Prop} (h : zCT G i As σ μ P) (hP : ∀ r σ', P r σ' → P' r σ') : zCT G i As σ μ P' := fun ω hω => (h ω hω).mono (fun r ω' ⟨σ', h1, h2⟩ => ⟨σ', h1, hP r σ' h2⟩)
theorem zb_if {p : Prop} [Decidable p] : (if p then (1 : Int32) else 0) = zb (decide p) := by unfold zb; by_cases h : p <;> simp [h]
theorem zb_nif {p : Prop} [Decidable p] : (if p then (0 : Int32) else 1) = zb (!decide p) := by unfold zb; by_cases h : p <;> simp [h]

def sel_allows (c : Nat) : yM := match c with
  | 0 => m_K_allows
  | 1 => m_B_allows
  | 2 => m_S_allows
  | _ => m_P_allows
theorem sel_allows_code : ∀ c, c < 6 → ycode (sel_allows c) ∈ lw_tbl := by
  intro c hc
  rcases (show c = 0 ∨ c = 1 ∨ c = 2 ∨ c = 3 ∨ c = 4 ∨ c = 5 by omega) with rfl | rfl | rfl | rfl | rfl | rfl
  · exact cw_K_allows
  · exact cw_B_allows
  · exact cw_S_allows
  · exact cw_P_allows
  · exact cw_P_allows
  · exact cw_P_allows
def zallowsC (c : Nat) (σ : zS) (o t : Nat) (a g : Int32) : Bool := match c with
  | 0 => decide (a = 0 ∨ zho σ o = some t)
  | 1 => if a = 6 then decide (0 < zrd σ o t) else if a = 8 then decide (zho σ o = some t) else true
  | 2 => decide (¬ a = 10 ∨ ¬ 50 < zpl σ 3 o + g)
  | _ => true
def zallows (σ : zS) (o t : Nat) (a g : Int32) : Bool := zallowsC (zkd σ o) σ o t a g

set_option maxRecDepth 20000 in
theorem v_allows {G : yG} {μ : yW} {σ : zS} {o : Nat} (ho : o < zn σ) {t : Nat} (ht : t < 6) {a g : Int32} : zCT G (sel_allows (zkd σ o)) [yr (kP o), yr (10 + t), yi a, yi g] σ μ (fun r σ' => r = some (yi (zb (zallows σ o t a g))) ∧ σ' = σ) := by
  intro ω h
  unfold zallows
  rcases zkinds h ho with e | e | e | e | e | e
  · rw [e]
    refine (c_K_allows ho e ht).mono (fun r σ' hp => ⟨?_, hp.2⟩) ω h
    rw [hp.1, zb_if]; rfl
  · rw [e]
    refine (c_B_allows ho e ht).mono (fun r σ' hp => ⟨?_, hp.2⟩) ω h
    rw [hp.1]
    by_cases h6 : a = 6
    · simp [zallowsC, h6, zb]
    · by_cases h8 : a = 8
      · simp [zallowsC, h8, zb]
      · simp [zallowsC, h6, h8, zb]
  · rw [e]
    refine (c_S_allows ho e ht).mono (fun r σ' hp => ⟨?_, hp.2⟩) ω h
    rw [hp.1, zb_if]; rfl
  · rw [e]
    refine (c_P_allows ho ht).mono (fun r σ' hp => ⟨?_, hp.2⟩) ω h
    rw [hp.1]; rfl
  · rw [e]
    refine (c_P_allows ho ht).mono (fun r σ' hp => ⟨?_, hp.2⟩) ω h
    rw [hp.1]; rfl
  · rw [e]
    refine (c_P_allows ho ht).mono (fun r σ' hp => ⟨?_, hp.2⟩) ω h
    rw [hp.1]; rfl

def sel_refuses (c : Nat) : yM := match c with
  | 4 => m_A_refuses
  | _ => m_P_refuses
theorem sel_refuses_code : ∀ c, c < 6 → ycode (sel_refuses c) ∈ lw_tbl := by
  intro c hc
  rcases (show c = 0 ∨ c = 1 ∨ c = 2 ∨ c = 3 ∨ c = 4 ∨ c = 5 by omega) with rfl | rfl | rfl | rfl | rfl | rfl
  · exact cw_P_refuses
  · exact cw_P_refuses
  · exact cw_P_refuses
  · exact cw_P_refuses
  · exact cw_A_refuses
  · exact cw_P_refuses
def zrefusesC (c : Nat) (σ : zS) (o t : Nat) : Bool := match c with
  | 4 => decide (zth σ 8 t = 13 ∧ ¬ zpl σ 4 o = 0)
  | _ => false
def zrefuses (σ : zS) (o t : Nat) : Bool := zrefusesC (zkd σ o) σ o t

set_option maxRecDepth 20000 in
theorem v_refuses {G : yG} {μ : yW} {σ : zS} {o : Nat} (ho : o < zn σ) {t : Nat} (ht : t < 6) : zCT G (sel_refuses (zkd σ o)) [yr (kP o), yr (10 + t)] σ μ (fun r σ' => r = some (yi (zb (zrefuses σ o t))) ∧ σ' = σ) := by
  intro ω h
  unfold zrefuses
  rcases zkinds h ho with e | e | e | e | e | e
  · rw [e]
    refine (c_P_refuses ho ht).mono (fun r σ' hp => ⟨?_, hp.2⟩) ω h
    rw [hp.1]; rfl
  · rw [e]
    refine (c_P_refuses ho ht).mono (fun r σ' hp => ⟨?_, hp.2⟩) ω h
    rw [hp.1]; rfl
  · rw [e]
    refine (c_P_refuses ho ht).mono (fun r σ' hp => ⟨?_, hp.2⟩) ω h
    rw [hp.1]; rfl
  · rw [e]
    refine (c_P_refuses ho ht).mono (fun r σ' hp => ⟨?_, hp.2⟩) ω h
    rw [hp.1]; rfl
  · rw [e]
    refine (c_A_refuses ho e ht).mono (fun r σ' hp => ⟨?_, hp.2⟩) ω h
    rw [hp.1, zb_if]; rfl
  · rw [e]
    refine (c_P_refuses ho ht).mono (fun r σ' hp => ⟨?_, hp.2⟩) ω h
    rw [hp.1]; rfl

def sel_canBe (c : Nat) : yM := match c with
  | 0 => m_K_canBe
  | 1 => m_B_canBe
  | 2 => m_S_canBe
  | 3 => m_L_canBe
  | 4 => m_A_canBe
  | _ => m_Q_canBe
theorem sel_canBe_code : ∀ c, c < 6 → ycode (sel_canBe c) ∈ lw_tbl := by
  intro c hc
  rcases (show c = 0 ∨ c = 1 ∨ c = 2 ∨ c = 3 ∨ c = 4 ∨ c = 5 by omega) with rfl | rfl | rfl | rfl | rfl | rfl
  · exact cw_K_canBe
  · exact cw_B_canBe
  · exact cw_S_canBe
  · exact cw_L_canBe
  · exact cw_A_canBe
  · exact cw_Q_canBe
def zcanC (c : Nat) (σ : zS) (o t : Nat) : Bool := match c with
  | 0 => decide (zho σ o = none)
  | 1 => decide (¬ (¬ zho σ o = none ∧ ¬ zho σ o = some t) ∧ (zth σ 8 t = 5 ∨ zpl σ 4 o ≤ zrd σ o t))
  | 2 => !decide (zpl σ 3 o < zth σ 9 t)
  | 3 => decide (zpl σ 3 o = 0)
  | 4 => false
  | _ => if zth σ 8 t = 15 then decide ((zqu σ o).length < zcp σ o) else decide (0 < (zqu σ o).length)
def zcan (σ : zS) (o t : Nat) : Bool := zcanC (zkd σ o) σ o t

set_option maxRecDepth 20000 in
theorem v_canBe {G : yG} {μ : yW} {σ : zS} {o : Nat} (ho : o < zn σ) {t : Nat} (ht : t < 6) : zCT G (sel_canBe (zkd σ o)) [yr (kP o), yr (10 + t)] σ μ (fun r σ' => r = some (yi (zb (zcan σ o t))) ∧ σ' = σ) := by
  intro ω h
  unfold zcan
  rcases zkinds h ho with e | e | e | e | e | e
  · rw [e]
    refine (c_K_canBe ho e ht).mono (fun r σ' hp => ⟨?_, hp.2⟩) ω h
    rw [hp.1, zb_if]; rfl
  · rw [e]
    refine (c_B_canBe ho e ht).mono (fun r σ' hp => ⟨?_, hp.2⟩) ω h
    rw [hp.1, zb_if]; rfl
  · rw [e]
    refine (c_S_canBe ho e ht).mono (fun r σ' hp => ⟨?_, hp.2⟩) ω h
    rw [hp.1, zb_nif]; rfl
  · rw [e]
    refine (c_L_canBe ho e ht).mono (fun r σ' hp => ⟨?_, hp.2⟩) ω h
    rw [hp.1, zb_if]; rfl
  · rw [e]
    refine (c_A_canBe ho e ht).mono (fun r σ' hp => ⟨?_, hp.2⟩) ω h
    rw [hp.1]; rfl
  · rw [e]
    have hQ := (h.pl ho).2.2.2.2.2.2.2.2.2.1 e
    have hcap : zcp σ o ≤ 3 := (h.1.2.2.2.2.2 o ho).2.2.1
    have hl := hQ.2.2.1
    refine (c_Q_canBe ho e ht).mono (fun r σ' hp => ⟨?_, hp.2⟩) ω h
    rw [hp.1]
    have e1 : (nI (zcp σ o) ≤ nI (zqu σ o).length) = (zcp σ o ≤ (zqu σ o).length) := propext (nI_leI (by omega) (by omega))
    have e2 : (nI (zqu σ o).length ≤ 0) = ((zqu σ o).length ≤ 0) := propext (nI_leI (b := 0) (by omega) (by omega))
    simp only [zcanC, e1, e2]
    by_cases h15 : zth σ 8 t = 15
    · simp [h15, zb]
      by_cases hc : (zqu σ o).length < zcp σ o
      · rw [if_neg (by omega), if_pos hc]
      · rw [if_pos (by omega), if_neg hc]
    · simp [h15, zb]
      by_cases hc : zqu σ o = []
      · simp [hc]
      · simp [hc, List.length_pos_iff]

def sel_passes (c : Nat) : yM := match c with
  | 0 => m_K_passesRow
  | 1 => m_B_passesRow
  | 2 => m_S_passesRow
  | 3 => m_L_passesRow
  | 4 => m_A_passesRow
  | _ => m_Q_passesRow
theorem sel_passes_code : ∀ c, c < 6 → ycode (sel_passes c) ∈ lw_tbl := by
  intro c hc
  rcases (show c = 0 ∨ c = 1 ∨ c = 2 ∨ c = 3 ∨ c = 4 ∨ c = 5 by omega) with rfl | rfl | rfl | rfl | rfl | rfl
  · exact cw_K_passesRow
  · exact cw_B_passesRow
  · exact cw_S_passesRow
  · exact cw_L_passesRow
  · exact cw_A_passesRow
  · exact cw_Q_passesRow
def zpassC (c : Nat) (σ : zS) (o t : Nat) : Bool := match c with
  | 0 => decide (zho σ o = some t ∧ ¬ zth σ 8 t = 2)
  | 1 => decide (zho σ o = some t ∨ zth σ 8 t = 6)
  | 2 => decide (zth σ 8 t = 10)
  | 3 => decide (zth σ 8 t = 12)
  | 4 => decide (zth σ 8 t = 14 ∨ ¬ (zrw σ 0 o).length + 1 < zcp σ o)
  | _ => false
def zpass (σ : zS) (o t : Nat) : Bool := zpassC (zkd σ o) σ o t

set_option maxRecDepth 20000 in
theorem v_passes {G : yG} {μ : yW} {σ : zS} {o : Nat} (ho : o < zn σ) {t : Nat} (ht : t < 6) : zCT G (sel_passes (zkd σ o)) [yr (kP o), yr (10 + t)] σ μ (fun r σ' => r = some (yi (zb (zpass σ o t))) ∧ σ' = σ) := by
  intro ω h
  unfold zpass
  rcases zkinds h ho with e | e | e | e | e | e
  · rw [e]
    refine (c_K_passesRow ho e ht).mono (fun r σ' hp => ⟨?_, hp.2⟩) ω h
    rw [hp.1, zb_if]; rfl
  · rw [e]
    refine (c_B_passesRow ho e ht).mono (fun r σ' hp => ⟨?_, hp.2⟩) ω h
    rw [hp.1, zb_if]; rfl
  · rw [e]
    refine (c_S_passesRow ho e ht).mono (fun r σ' hp => ⟨?_, hp.2⟩) ω h
    rw [hp.1, zb_if]; rfl
  · rw [e]
    refine (c_L_passesRow ho e ht).mono (fun r σ' hp => ⟨?_, hp.2⟩) ω h
    rw [hp.1, zb_if]; rfl
  · rw [e]
    have hr := (h.row (j := 0) ⟨ho, Or.inl rfl⟩).1.1
    have hcap : zcp σ o ≤ 3 := (h.1.2.2.2.2.2 o ho).2.2.1
    refine (c_A_passesRow ho e ⟨ho, Or.inl rfl⟩ ht).mono (fun r σ' hp => ⟨?_, hp.2⟩) ω h
    rw [hp.1, zb_if]
    have e1 : (nI (zrw σ 0 o).length + 1 < nI (zcp σ o)) = ((zrw σ 0 o).length + 1 < zcp σ o) := by rw [nI_1]; exact propext (nI_ltI (by omega) (by omega))
    simp only [zpassC, e1]
  · rw [e]
    refine (c_Q_passesRow ho e ht).mono (fun r σ' hp => ⟨?_, hp.2⟩) ω h
    rw [hp.1]; rfl

def sel_sort (c : Nat) : yM := match c with
  | 5 => m_Q_sortOf
  | _ => m_P_sortOf
theorem sel_sort_code : ∀ c, c < 6 → ycode (sel_sort c) ∈ lw_tbl := by
  intro c hc
  rcases (show c = 0 ∨ c = 1 ∨ c = 2 ∨ c = 3 ∨ c = 4 ∨ c = 5 by omega) with rfl | rfl | rfl | rfl | rfl | rfl
  · exact cw_P_sortOf
  · exact cw_P_sortOf
  · exact cw_P_sortOf
  · exact cw_P_sortOf
  · exact cw_P_sortOf
  · exact cw_Q_sortOf
def zsort (c : Nat) (a : Int32) : Int32 := match c with
  | 5 => if a = 16 then 1 else 0
  | _ => 0

set_option maxRecDepth 20000 in
theorem v_sort {G : yG} {μ : yW} {σ : zS} {o : Nat} (ho : o < zn σ) {x : Int32} : zCT G (sel_sort (zkd σ o)) [yr (kP o), yi x] σ μ (fun r σ' => r = some (yi (zsort (zkd σ o) x)) ∧ σ' = σ) := by
  intro ω h
  skip
  rcases zkinds h ho with e | e | e | e | e | e
  · rw [e]
    refine (c_P_sortOf ho).mono (fun r σ' hp => ⟨?_, hp.2⟩) ω h
    rw [hp.1]; rfl
  · rw [e]
    refine (c_P_sortOf ho).mono (fun r σ' hp => ⟨?_, hp.2⟩) ω h
    rw [hp.1]; rfl
  · rw [e]
    refine (c_P_sortOf ho).mono (fun r σ' hp => ⟨?_, hp.2⟩) ω h
    rw [hp.1]; rfl
  · rw [e]
    refine (c_P_sortOf ho).mono (fun r σ' hp => ⟨?_, hp.2⟩) ω h
    rw [hp.1]; rfl
  · rw [e]
    refine (c_P_sortOf ho).mono (fun r σ' hp => ⟨?_, hp.2⟩) ω h
    rw [hp.1]; rfl
  · rw [e]
    refine (c_Q_sortOf ho e).mono (fun r σ' hp => ⟨?_, hp.2⟩) ω h
    rw [hp.1]; rfl

def sel_owner (c : Nat) : yM := match c with
  | 0 => m_K_owner
  | 1 => m_B_owner
  | _ => m_P_owner
theorem sel_owner_code : ∀ c, c < 6 → ycode (sel_owner c) ∈ lw_tbl := by
  intro c hc
  rcases (show c = 0 ∨ c = 1 ∨ c = 2 ∨ c = 3 ∨ c = 4 ∨ c = 5 by omega) with rfl | rfl | rfl | rfl | rfl | rfl
  · exact cw_K_owner
  · exact cw_B_owner
  · exact cw_P_owner
  · exact cw_P_owner
  · exact cw_P_owner
  · exact cw_P_owner
def zownerC (c : Nat) (σ : zS) (o : Nat) : Int32 := match c with
  | 0 => znum (zho σ o)
  | 1 => znum (zho σ o)
  | _ => 0
def zowner (σ : zS) (o : Nat) : Int32 := zownerC (zkd σ o) σ o

set_option maxRecDepth 20000 in
theorem v_owner {G : yG} {μ : yW} {σ : zS} {o : Nat} (ho : o < zn σ)  : zCT G (sel_owner (zkd σ o)) [yr (kP o)] σ μ (fun r σ' => r = some (yi (zowner σ o)) ∧ σ' = σ) := by
  intro ω h
  unfold zowner
  rcases zkinds h ho with e | e | e | e | e | e
  · rw [e]
    refine (c_K_owner ho e (h.pl ho).2.2.2.2.2.2.2.2.2.2).mono (fun r σ' hp => ⟨?_, hp.2⟩) ω h
    rw [hp.1]; rfl
  · rw [e]
    refine (c_B_owner ho e (h.pl ho).2.2.2.2.2.2.2.2.2.2).mono (fun r σ' hp => ⟨?_, hp.2⟩) ω h
    rw [hp.1]; rfl
  · rw [e]
    refine (c_P_owner ho).mono (fun r σ' hp => ⟨?_, hp.2⟩) ω h
    rw [hp.1]; rfl
  · rw [e]
    refine (c_P_owner ho).mono (fun r σ' hp => ⟨?_, hp.2⟩) ω h
    rw [hp.1]; rfl
  · rw [e]
    refine (c_P_owner ho).mono (fun r σ' hp => ⟨?_, hp.2⟩) ω h
    rw [hp.1]; rfl
  · rw [e]
    refine (c_P_owner ho).mono (fun r σ' hp => ⟨?_, hp.2⟩) ω h
    rw [hp.1]; rfl

def sel_waiters (c : Nat) : yM := match c with
  | 0 => m_K_waitersAt
  | _ => m_P_waitersAt
theorem sel_waiters_code : ∀ c, c < 6 → ycode (sel_waiters c) ∈ lw_tbl := by
  intro c hc
  rcases (show c = 0 ∨ c = 1 ∨ c = 2 ∨ c = 3 ∨ c = 4 ∨ c = 5 by omega) with rfl | rfl | rfl | rfl | rfl | rfl
  · exact cw_K_waitersAt
  · exact cw_P_waitersAt
  · exact cw_P_waitersAt
  · exact cw_P_waitersAt
  · exact cw_P_waitersAt
  · exact cw_P_waitersAt
def zwaitersC (c : Nat) (σ : zS) (o : Nat) (x : Int32) : Int32 := match c with
  | 0 => nI (zrw σ (zcj x) o).length
  | _ => 0
def zwaiters (σ : zS) (o : Nat) (x : Int32) : Int32 := zwaitersC (zkd σ o) σ o x

set_option maxRecDepth 20000 in
theorem v_waiters {G : yG} {μ : yW} {σ : zS} {o : Nat} (ho : o < zn σ) {x : Int32} : zCT G (sel_waiters (zkd σ o)) [yr (kP o), yi x] σ μ (fun r σ' => r = some (yi (zwaiters σ o x)) ∧ σ' = σ) := by
  intro ω h
  unfold zwaiters
  rcases zkinds h ho with e | e | e | e | e | e
  · rw [e]
    refine (c_K_waitersAt ho e).mono (fun r σ' hp => ⟨?_, hp.2⟩) ω h
    rw [hp.1]; rfl
  · rw [e]
    refine (c_P_waitersAt ho).mono (fun r σ' hp => ⟨?_, hp.2⟩) ω h
    rw [hp.1]; rfl
  · rw [e]
    refine (c_P_waitersAt ho).mono (fun r σ' hp => ⟨?_, hp.2⟩) ω h
    rw [hp.1]; rfl
  · rw [e]
    refine (c_P_waitersAt ho).mono (fun r σ' hp => ⟨?_, hp.2⟩) ω h
    rw [hp.1]; rfl
  · rw [e]
    refine (c_P_waitersAt ho).mono (fun r σ' hp => ⟨?_, hp.2⟩) ω h
    rw [hp.1]; rfl
  · rw [e]
    refine (c_P_waitersAt ho).mono (fun r σ' hp => ⟨?_, hp.2⟩) ω h
    rw [hp.1]; rfl

def sel_timesRead (c : Nat) : yM := match c with
  | 1 => m_B_timesRead
  | _ => m_P_timesRead
theorem sel_timesRead_code : ∀ c, c < 6 → ycode (sel_timesRead c) ∈ lw_tbl := by
  intro c hc
  rcases (show c = 0 ∨ c = 1 ∨ c = 2 ∨ c = 3 ∨ c = 4 ∨ c = 5 by omega) with rfl | rfl | rfl | rfl | rfl | rfl
  · exact cw_P_timesRead
  · exact cw_B_timesRead
  · exact cw_P_timesRead
  · exact cw_P_timesRead
  · exact cw_P_timesRead
  · exact cw_P_timesRead
def ztimesC (c : Nat) (σ : zS) (o : Nat) : Int32 := match c with
  | 1 => zpl σ 4 o
  | _ => 0
def ztimes (σ : zS) (o : Nat) : Int32 := ztimesC (zkd σ o) σ o

set_option maxRecDepth 20000 in
theorem v_timesRead {G : yG} {μ : yW} {σ : zS} {o : Nat} (ho : o < zn σ)  : zCT G (sel_timesRead (zkd σ o)) [yr (kP o)] σ μ (fun r σ' => r = some (yi (ztimes σ o)) ∧ σ' = σ) := by
  intro ω h
  unfold ztimes
  rcases zkinds h ho with e | e | e | e | e | e
  · rw [e]
    refine (c_P_timesRead ho).mono (fun r σ' hp => ⟨?_, hp.2⟩) ω h
    rw [hp.1]; rfl
  · rw [e]
    refine (c_B_timesRead ho e).mono (fun r σ' hp => ⟨?_, hp.2⟩) ω h
    rw [hp.1]; rfl
  · rw [e]
    refine (c_P_timesRead ho).mono (fun r σ' hp => ⟨?_, hp.2⟩) ω h
    rw [hp.1]; rfl
  · rw [e]
    refine (c_P_timesRead ho).mono (fun r σ' hp => ⟨?_, hp.2⟩) ω h
    rw [hp.1]; rfl
  · rw [e]
    refine (c_P_timesRead ho).mono (fun r σ' hp => ⟨?_, hp.2⟩) ω h
    rw [hp.1]; rfl
  · rw [e]
    refine (c_P_timesRead ho).mono (fun r σ' hp => ⟨?_, hp.2⟩) ω h
    rw [hp.1]; rfl

def sel_isBroken (c : Nat) : yM := match c with
  | 4 => m_A_isBroken
  | _ => m_P_isBroken
theorem sel_isBroken_code : ∀ c, c < 6 → ycode (sel_isBroken c) ∈ lw_tbl := by
  intro c hc
  rcases (show c = 0 ∨ c = 1 ∨ c = 2 ∨ c = 3 ∨ c = 4 ∨ c = 5 by omega) with rfl | rfl | rfl | rfl | rfl | rfl
  · exact cw_P_isBroken
  · exact cw_P_isBroken
  · exact cw_P_isBroken
  · exact cw_P_isBroken
  · exact cw_A_isBroken
  · exact cw_P_isBroken
def zbrokenC (c : Nat) (σ : zS) (o : Nat) : Int32 := match c with
  | 4 => zpl σ 4 o
  | _ => 0
def zbroken (σ : zS) (o : Nat) : Int32 := zbrokenC (zkd σ o) σ o

set_option maxRecDepth 20000 in
theorem v_isBroken {G : yG} {μ : yW} {σ : zS} {o : Nat} (ho : o < zn σ) (hb : zkd σ o = 4 → narrow .boolean (.int (zpl σ 4 o)) = .int (zpl σ 4 o)) : zCT G (sel_isBroken (zkd σ o)) [yr (kP o)] σ μ (fun r σ' => r = some (yi (zbroken σ o)) ∧ σ' = σ) := by
  intro ω h
  unfold zbroken
  rcases zkinds h ho with e | e | e | e | e | e
  · rw [e]
    refine (c_P_isBroken ho).mono (fun r σ' hp => ⟨?_, hp.2⟩) ω h
    rw [hp.1]; rfl
  · rw [e]
    refine (c_P_isBroken ho).mono (fun r σ' hp => ⟨?_, hp.2⟩) ω h
    rw [hp.1]; rfl
  · rw [e]
    refine (c_P_isBroken ho).mono (fun r σ' hp => ⟨?_, hp.2⟩) ω h
    rw [hp.1]; rfl
  · rw [e]
    refine (c_P_isBroken ho).mono (fun r σ' hp => ⟨?_, hp.2⟩) ω h
    rw [hp.1]; rfl
  · rw [e]
    refine (c_A_isBroken ho e (hb e)).mono (fun r σ' hp => ⟨?_, hp.2⟩) ω h
    rw [hp.1]; rfl
  · rw [e]
    refine (c_P_isBroken ho).mono (fun r σ' hp => ⟨?_, hp.2⟩) ω h
    rw [hp.1]; rfl

def sel_leanedOn (c : Nat) : yM := match c with
  | 0 => m_K_leanedOn
  | _ => m_P_leanedOn
theorem sel_leanedOn_code : ∀ c, c < 6 → ycode (sel_leanedOn c) ∈ lw_tbl := by
  intro c hc
  rcases (show c = 0 ∨ c = 1 ∨ c = 2 ∨ c = 3 ∨ c = 4 ∨ c = 5 by omega) with rfl | rfl | rfl | rfl | rfl | rfl
  · exact cw_K_leanedOn
  · exact cw_P_leanedOn
  · exact cw_P_leanedOn
  · exact cw_P_leanedOn
  · exact cw_P_leanedOn
  · exact cw_P_leanedOn
def zleanedC (c : Nat) (σ : zS) (o : Nat) : Option Nat := match c with
  | 0 => zho σ o
  | _ => none
def zleaned (σ : zS) (o : Nat) : Option Nat := zleanedC (zkd σ o) σ o

set_option maxRecDepth 20000 in
theorem v_leanedOn {G : yG} {μ : yW} {σ : zS} {o : Nat} (ho : o < zn σ)  : zCT G (sel_leanedOn (zkd σ o)) [yr (kP o)] σ μ (fun r σ' => r = some (yo ((zleaned σ o).map (10 + ·))) ∧ σ' = σ) := by
  intro ω h
  unfold zleaned
  rcases zkinds h ho with e | e | e | e | e | e
  · rw [e]
    refine (c_K_leanedOn ho e).mono (fun r σ' hp => ⟨?_, hp.2⟩) ω h
    rw [hp.1]; rfl
  · rw [e]
    refine (c_P_leanedOn ho).mono (fun r σ' hp => ⟨?_, hp.2⟩) ω h
    rw [hp.1]; rfl
  · rw [e]
    refine (c_P_leanedOn ho).mono (fun r σ' hp => ⟨?_, hp.2⟩) ω h
    rw [hp.1]; rfl
  · rw [e]
    refine (c_P_leanedOn ho).mono (fun r σ' hp => ⟨?_, hp.2⟩) ω h
    rw [hp.1]; rfl
  · rw [e]
    refine (c_P_leanedOn ho).mono (fun r σ' hp => ⟨?_, hp.2⟩) ω h
    rw [hp.1]; rfl
  · rw [e]
    refine (c_P_leanedOn ho).mono (fun r σ' hp => ⟨?_, hp.2⟩) ω h
    rw [hp.1]; rfl

def sel_level (c : Nat) : yM := match c with
  | 0 => m_K_level
  | 1 => m_B_level
  | 2 => m_S_level
  | 3 => m_L_level
  | 4 => m_A_level
  | _ => m_Q_level
theorem sel_level_code : ∀ c, c < 6 → ycode (sel_level c) ∈ lw_tbl := by
  intro c hc
  rcases (show c = 0 ∨ c = 1 ∨ c = 2 ∨ c = 3 ∨ c = 4 ∨ c = 5 by omega) with rfl | rfl | rfl | rfl | rfl | rfl
  · exact cw_K_level
  · exact cw_B_level
  · exact cw_S_level
  · exact cw_L_level
  · exact cw_A_level
  · exact cw_Q_level
def zlevelC (c : Nat) (σ : zS) (o : Nat) : Int32 := match c with
  | 0 => zpl σ 6 o
  | 1 => zpl σ 6 o
  | 2 => zpl σ 3 o
  | 3 => zpl σ 3 o
  | 4 => nI (zrw σ 0 o).length
  | _ => nI (zqu σ o).length
def zlevel (σ : zS) (o : Nat) : Int32 := zlevelC (zkd σ o) σ o

set_option maxRecDepth 20000 in
theorem v_level {G : yG} {μ : yW} {σ : zS} {o : Nat} (ho : o < zn σ)  : zCT G (sel_level (zkd σ o)) [yr (kP o)] σ μ (fun r σ' => r = some (yi (zlevel σ o)) ∧ σ' = σ) := by
  intro ω h
  unfold zlevel
  rcases zkinds h ho with e | e | e | e | e | e
  · rw [e]
    refine (c_K_level ho e).mono (fun r σ' hp => ⟨?_, hp.2⟩) ω h
    rw [hp.1]; rfl
  · rw [e]
    refine (c_B_level ho e).mono (fun r σ' hp => ⟨?_, hp.2⟩) ω h
    rw [hp.1]; rfl
  · rw [e]
    refine (c_S_level ho e).mono (fun r σ' hp => ⟨?_, hp.2⟩) ω h
    rw [hp.1]; rfl
  · rw [e]
    refine (c_L_level ho e).mono (fun r σ' hp => ⟨?_, hp.2⟩) ω h
    rw [hp.1]; rfl
  · rw [e]
    refine (c_A_level ho e ⟨ho, Or.inl rfl⟩).mono (fun r σ' hp => ⟨?_, hp.2⟩) ω h
    rw [hp.1]; rfl
  · rw [e]
    refine (c_Q_level ho e).mono (fun r σ' hp => ⟨?_, hp.2⟩) ω h
    rw [hp.1]; rfl

def sel_grant (c : Nat) : yM := match c with
  | 0 => m_K_grant
  | 1 => m_B_grant
  | 2 => m_S_grant
  | 3 => m_L_grant
  | 4 => m_A_grant
  | _ => m_Q_grant
theorem sel_grant_code : ∀ c, c < 6 → ycode (sel_grant c) ∈ lw_tbl := by
  intro c hc
  rcases (show c = 0 ∨ c = 1 ∨ c = 2 ∨ c = 3 ∨ c = 4 ∨ c = 5 by omega) with rfl | rfl | rfl | rfl | rfl | rfl
  · exact cw_K_grant
  · exact cw_B_grant
  · exact cw_S_grant
  · exact cw_L_grant
  · exact cw_A_grant
  · exact cw_Q_grant
def zgrantC (c : Nat) (σ : zS) (o t : Nat) : zS := match c with
  | 0 => zgrantK σ o t
  | 1 => zgrantB σ o t
  | 2 => zspl σ 3 o (zpl σ 3 o + (if zth σ 8 t = 10 then zth σ 9 t else -(zth σ 9 t)))
  | 3 => if zth σ 8 t = 12 ∧ ¬ zpl σ 3 o ≤ 0 then zspl σ 3 o (zpl σ 3 o - 1) else σ
  | 4 => zgrantA σ o t
  | _ => zgrantQ σ o t
def zgrant (σ : zS) (o t : Nat) : zS := zgrantC (zkd σ o) σ o t
def zgpre (σ : zS) (o t : Nat) : Prop := (zkd σ o = 0 → (zrw σ 0 o).length + (zrw σ (zcj (zth σ 9 t)) o).length ≤ 6) ∧ (zkd σ o = 5 → ¬ zth σ 8 t = 15 → zqu σ o ≠ [])

set_option maxRecDepth 20000 in
theorem v_grant {G : yG} {μ : yW} {σ : zS} {o : Nat} (ho : o < zn σ) {t : Nat} (ht : t < 6) (hg : zgpre σ o t) : zCT G (sel_grant (zkd σ o)) [yr (kP o), yr (10 + t)] σ μ (fun r σ' => r = none ∧ σ' = zgrant σ o t) := by
  intro ω h
  unfold zgrant
  rcases zkinds h ho with e | e | e | e | e | e
  · rw [e]
    exact c_K_grant ho e ht (hg.1 e) ω h
  · rw [e]
    exact c_B_grant ho e ht ω h
  · rw [e]
    exact c_S_grant ho e ht ω h
  · rw [e]
    exact c_L_grant ho e ht ω h
  · rw [e]
    exact c_A_grant ho e ht ω h
  · rw [e]
    exact c_Q_grant ho e ht (hg.2 e) ω h

def sel_holdBack (c : Nat) : yM := match c with
  | 0 => m_K_holdBack
  | _ => m_P_holdBack
theorem sel_holdBack_code : ∀ c, c < 6 → ycode (sel_holdBack c) ∈ lw_tbl := by
  intro c hc
  rcases (show c = 0 ∨ c = 1 ∨ c = 2 ∨ c = 3 ∨ c = 4 ∨ c = 5 by omega) with rfl | rfl | rfl | rfl | rfl | rfl
  · exact cw_K_holdBack
  · exact cw_P_holdBack
  · exact cw_P_holdBack
  · exact cw_P_holdBack
  · exact cw_P_holdBack
  · exact cw_P_holdBack
def zholdC (c : Nat) (σ : zS) (o t : Nat) (p : Int32) : zS := match c with
  | 0 => if zth σ 8 t = 2 then zjoinC σ o t p else zjoin σ o t p
  | _ => zjoin σ o t p
def zhold (σ : zS) (o t : Nat) (p : Int32) : zS := zholdC (zkd σ o) σ o t p

set_option maxRecDepth 20000 in
theorem v_holdBack {G : yG} {μ : yW} {σ : zS} {o : Nat} (ho : o < zn σ) {t : Nat} (ht : t < 6) {p : Int32} (h5 : (zrw σ 0 o).length < 6) (h5c : zkd σ o = 0 → (zrw σ (zcj (zth σ 9 t)) o).length < 6) : zCT G (sel_holdBack (zkd σ o)) [yr (kP o), yr (10 + t), yi p] σ μ (fun r σ' => r = none ∧ σ' = zhold σ o t p) := by
  intro ω h
  unfold zhold
  rcases zkinds h ho with e | e | e | e | e | e
  · rw [e]
    exact c_K_holdBack ho e ht h5 (h5c e) ω h
  · rw [e]
    exact c_P_holdBack ho ht h5 ω h
  · rw [e]
    exact c_P_holdBack ho ht h5 ω h
  · rw [e]
    exact c_P_holdBack ho ht h5 ω h
  · rw [e]
    exact c_P_holdBack ho ht h5 ω h
  · rw [e]
    exact c_P_holdBack ho ht h5 ω h

def sel_giveUp (c : Nat) : yM := match c with
  | 0 => m_K_giveUp
  | _ => m_P_giveUp
theorem sel_giveUp_code : ∀ c, c < 6 → ycode (sel_giveUp c) ∈ lw_tbl := by
  intro c hc
  rcases (show c = 0 ∨ c = 1 ∨ c = 2 ∨ c = 3 ∨ c = 4 ∨ c = 5 by omega) with rfl | rfl | rfl | rfl | rfl | rfl
  · exact cw_K_giveUp
  · exact cw_P_giveUp
  · exact cw_P_giveUp
  · exact cw_P_giveUp
  · exact cw_P_giveUp
  · exact cw_P_giveUp

set_option maxRecDepth 20000 in
theorem v_giveUp {G : yG} {μ : yW} {σ : zS} {o : Nat} (ho : o < zn σ) {t : Nat} (ht : t < 6) {q : Nat} (hq : q < 5) (h5 : zkd σ o = 0 → zth σ 2 t = 2 → (zrw σ 0 o).length < 6) : zCT G (sel_giveUp (zkd σ o)) [yr (kP o), yr (10 + t), yi (nI q)] σ μ (fun r σ' => r = none ∧ σ' = zgiveUp σ o t q) := by
  intro ω h
  skip
  rcases zkinds h ho with e | e | e | e | e | e
  · rw [e]
    exact c_K_giveUp ho e ht hq (h5 e) ω h
  · rw [e]
    refine (c_P_giveUp ho ht hq).mono (fun r σ' hp => ⟨hp.1, ?_⟩) ω h
    rw [hp.2]
    unfold zgiveUp
    rw [if_neg (by rw [e]; exact fun z => absurd z.1 (by decide))]
  · rw [e]
    refine (c_P_giveUp ho ht hq).mono (fun r σ' hp => ⟨hp.1, ?_⟩) ω h
    rw [hp.2]
    unfold zgiveUp
    rw [if_neg (by rw [e]; exact fun z => absurd z.1 (by decide))]
  · rw [e]
    refine (c_P_giveUp ho ht hq).mono (fun r σ' hp => ⟨hp.1, ?_⟩) ω h
    rw [hp.2]
    unfold zgiveUp
    rw [if_neg (by rw [e]; exact fun z => absurd z.1 (by decide))]
  · rw [e]
    refine (c_P_giveUp ho ht hq).mono (fun r σ' hp => ⟨hp.1, ?_⟩) ω h
    rw [hp.2]
    unfold zgiveUp
    rw [if_neg (by rw [e]; exact fun z => absurd z.1 (by decide))]
  · rw [e]
    refine (c_P_giveUp ho ht hq).mono (fun r σ' hp => ⟨hp.1, ?_⟩) ω h
    rw [hp.2]
    unfold zgiveUp
    rw [if_neg (by rw [e]; exact fun z => absurd z.1 (by decide))]
end
section
/-! a place: the row, what can be, settling, performing -/
def zhas (σ : zS) (o : Nat) (x : Int32) : Bool := (zrw σ 0 o).any (fun u => decide (zsort (zkd σ o) (zth σ 8 u) = x))
def zonce (σ : zS) (o t : Nat) : Bool := zpass σ o t || (zcan σ o t && !zhas σ o (zsort (zkd σ o) (zth σ 8 t)))
theorem zb_t : zb true = 1 := rfl
theorem zb_f : zb false = 0 := rfl
theorem zb_ne {b : Bool} : ¬ zb b = 0 ↔ b = true := by cases b <;> simp [zb]
theorem zb_eq {b : Bool} : zb b = 0 ↔ b = false := by cases b <;> simp [zb]
theorem zb_nar (b : Bool) : narrow .boolean (.int (zb b)) = .int (zb b) := by cases b <;> rfl
theorem zat_nI {l : List Nat} {q : Nat} (h : q < 2 ^ 31) : zat l (nI q) = l[q]? := by
  unfold zat
  rw [if_neg (nI_pos h), nI_clamp h]

set_option maxHeartbeats 4000000 in
set_option maxRecDepth 20000 in
theorem c_P_hasInRow_loop {G : yG} {μ : yW} {σ : zS} {o : Nat} {x : Int32} (ho : o < zn σ) (h6 : (zrw σ 0 o).length ≤ 6) (hall : ∀ u ∈ zrw σ 0 o, u < 6) : ∀ (m q : Nat) (x3 : Option yV), m + q = (zrw σ 0 o).length → ((zrw σ 0 o).take q).any (fun u => decide (zsort (zkd σ o) (zth σ 8 u) = x)) = false → yWP G m_P_hasInRow (zQ G m_P_hasInRow μ (fun r σ' => r = some (yi (zb (zhas σ o x))) ∧ σ' = σ)) μ.1 2 [some (yr (kP o)), some (yi x), some (yi (nI q)), x3] [] (zC σ μ) 0 0 := by
  have hv : zrv σ 0 o := ⟨ho, Or.inl rfl⟩
  intro m
  induction m with
  | zero =>
    intro q x3 hm hf
    refine zr_iload_n d_P_hasInRow_2 rfl ?_
    refine zr_aload_n d_P_hasInRow_3 rfl ?_
    refine zr_prow d_P_hasInRow_4 (by first | assumption | omega) sf_P_hasInRow_4 ?_
    refine zr_rlen d_P_hasInRow_7 (by assumption) sf_P_hasInRow_7 ?_
    refine zr_icmp_ge (tgt := 46) d_P_hasInRow_10 (by decide) (fun c10 => ?_) (fun c10 => absurd (nI_le (by omega) (by omega)) c10)
    refine zr_iconst (v := 0) d_P_hasInRow_46 (by decide) ?_
    refine zr_retz d_P_hasInRow_47 rfl rfl (by decide) (by decide) ⟨?_, rfl⟩
    have e1 : (zrw σ 0 o).take q = zrw σ 0 o := List.take_of_length_le (by omega)
    rw [e1] at hf
    unfold zhas
    rw [hf]; rfl
  | succ m ih =>
    intro q x3 hm hf
    have hq : q < (zrw σ 0 o).length := by omega
    obtain ⟨u, hu⟩ : ∃ u, (zrw σ 0 o)[q]? = some u := ⟨_, List.getElem?_eq_getElem hq⟩
    have hum : u ∈ zrw σ 0 o := List.mem_of_getElem? hu
    have ht : u < 6 := hall u hum
    refine zr_iload_n d_P_hasInRow_2 rfl ?_
    refine zr_aload_n d_P_hasInRow_3 rfl ?_
    refine zr_prow d_P_hasInRow_4 (by first | assumption | omega) sf_P_hasInRow_4 ?_
    refine zr_rlen d_P_hasInRow_7 (by assumption) sf_P_hasInRow_7 ?_
    refine zr_icmp_ge (tgt := 46) d_P_hasInRow_10 (by decide) (fun c10 => absurd c10 (nI_ge hq (by omega))) (fun c10 => ?_)
    refine zr_aload_n d_P_hasInRow_13 rfl ?_
    refine zr_prow d_P_hasInRow_14 (by first | assumption | omega) sf_P_hasInRow_14 ?_
    refine zr_iload_n d_P_hasInRow_17 rfl ?_
    refine zr_call (zrunV (As := [yi (nI q)]) (rest := []) d_P_hasInRow_18 (fun ω h => (h.row hv).2.1) rfl (c_R_at' (x := nI q) hv) 1 rfl (by decide +kernel) cw_R_at (Nat.le_of_ble_eq_true rfl) (ycat_of rfl) (by decide) (by decide)) (fun r σ9 hp => ?_)
    obtain ⟨rfl, rfl⟩ := hp
    rw [zat_nI (by omega), hu]
    refine zr_astore_n d_P_hasInRow_21 (by decide) rfl ?_
    refine zr_aload_n d_P_hasInRow_22 rfl ?_
    refine zr_ifnull (tgt := 40) d_P_hasInRow_23 (by decide) (fun c23 => nomatch c23) (fun a c23 => ?_)
    refine zr_aload_n d_P_hasInRow_26 rfl ?_
    refine zr_aload_n d_P_hasInRow_27 rfl ?_
    refine zr_tgeti d_P_hasInRow_28 (by first | assumption | omega) sf_P_hasInRow_28 rfl rfl ?_
    refine zr_callP (sel := sel_sort) (o := o) (As := [yi (zth σ9 8 u)]) (rest := []) (x := yMy m_P_sortOf) (owner := "MonitorYard$Place") (priv := false) d_P_hasInRow_31 ho (v_sort ho) 1 rfl (by decide +kernel) sel_sort_code (zdecl (i' := m_P_sortOf) (by decide +kernel) cw_P_sortOf) (by decide) (Nat.le_of_ble_eq_true rfl) (ycat_of rfl) (by decide) (by decide) (fun r σ8 hp => ?_)
    obtain ⟨rfl, rfl⟩ := hp
    refine zr_iload_n d_P_hasInRow_34 rfl ?_
    refine zr_icmp_ne (tgt := 40) d_P_hasInRow_35 (by decide) (fun c35 => ?_) (fun c35 => ?_)
    · refine zr_iinc (v := nI (q + 1)) d_P_hasInRow_40 rfl (nI_1 q) (by decide) rfl ?_
      refine zr_goto (tgt := 2) d_P_hasInRow_43 (by decide) ?_
      refine ih (q + 1) _ (by omega) ?_
      rw [List.take_add_one, hu, List.any_append, hf]
      simp [c35]
    · refine zr_iconst (v := 1) d_P_hasInRow_38 (by decide) ?_
      refine zr_retz d_P_hasInRow_39 rfl rfl (by decide) (by decide) ⟨?_, rfl⟩
      have e1 : zhas σ8 o x = true := List.any_eq_true.mpr ⟨u, hum, by simp [c35]⟩
      rw [e1]; rfl

set_option maxHeartbeats 4000000 in
set_option maxRecDepth 20000 in
theorem c_P_hasInRow {G : yG} {μ : yW} {σ : zS} {o : Nat} {x : Int32} (ho : o < zn σ)  : zCT G m_P_hasInRow [yr (kP o), yi x] σ μ (fun r σ' => r = some (yi (zb (zhas σ o x))) ∧ σ' = σ) := by
  have hv : zrv σ 0 o := ⟨ho, Or.inl rfl⟩
  refine zCT_of (by decide) rfl (ycat_of rfl) (Nat.le_of_ble_eq_true rfl) ?_
  refine zr_iconst (v := 0) d_P_hasInRow_0 (by decide) ?_
  refine zr_istore_n d_P_hasInRow_1 (by decide) rfl ?_
  exact yWP_use (fun ω h9 => zlist h9 hv) (fun h6 => c_P_hasInRow_loop ho h6.1 h6.2 _ 0 _ rfl rfl)

set_option maxHeartbeats 4000000 in
set_option maxRecDepth 20000 in
theorem c_P_canBeAtOnce {G : yG} {μ : yW} {σ : zS} {o : Nat} (ho : o < zn σ) {t : Nat} (ht : t < 6)  : zCT G m_P_canBeAtOnce [yr (kP o), yr (10 + t)] σ μ (fun r σ' => r = some (yi (zb (zonce σ o t))) ∧ σ' = σ) := by
  refine zCT_of (by decide) rfl (ycat_of rfl) (Nat.le_of_ble_eq_true rfl) ?_
  refine zr_aload_n d_P_canBeAtOnce_0 rfl ?_
  refine zr_aload_n d_P_canBeAtOnce_1 rfl ?_
  refine zr_callP (sel := sel_passes) (o := o) (As := [yr (10 + t)]) (rest := []) (x := ⟨"MonitorYard$Place", "passesRow", "(LMonitorYard$YardThread;)Z"⟩) (owner := "MonitorYard$Place") (priv := false) d_P_canBeAtOnce_2 ho (v_passes ho ht) 1 rfl (by decide +kernel) sel_passes_code (zdeclA (x := ⟨"MonitorYard$Place", "passesRow", "(LMonitorYard$YardThread;)Z"⟩) (by decide +kernel)) (by decide) (Nat.le_of_ble_eq_true rfl) (ycat_of rfl) (by decide) (by decide) (fun r σ9 hp => ?_)
  obtain ⟨rfl, rfl⟩ := hp
  refine zr_if_ne (tgt := 31) d_P_canBeAtOnce_5 (by decide) (fun c5 => ?_) (fun c5 => ?_)
  · skip
    refine zr_iconst (v := 1) d_P_canBeAtOnce_31 (by decide) ?_
    refine zr_goto (tgt := 36) d_P_canBeAtOnce_32 (by decide) ?_
    refine zr_retz d_P_canBeAtOnce_36 rfl rfl (by decide) (by decide) ?_
    refine ⟨?_, rfl⟩
    unfold zonce
    first
      | (rw [zb_ne] at c5; simp [c5, zb]; done)
      | (rw [zb_eq] at c5 c13; simp [c5, c13, zb]; done)
      | (rw [zb_eq] at c5; rw [zb_ne] at c13 c28; simp [c5, c13, c28, zb]; done)
      | (rw [zb_eq] at c5 c28; rw [zb_ne] at c13; simp [c5, c13, c28, zb]; done)
  · skip
    refine zr_aload_n d_P_canBeAtOnce_8 rfl ?_
    refine zr_aload_n d_P_canBeAtOnce_9 rfl ?_
    refine zr_callP (sel := sel_canBe) (o := o) (As := [yr (10 + t)]) (rest := []) (x := ⟨"MonitorYard$Place", "canBe", "(LMonitorYard$YardThread;)Z"⟩) (owner := "MonitorYard$Place") (priv := false) d_P_canBeAtOnce_10 ho (v_canBe ho ht) 1 rfl (by decide +kernel) sel_canBe_code (zdeclA (x := ⟨"MonitorYard$Place", "canBe", "(LMonitorYard$YardThread;)Z"⟩) (by decide +kernel)) (by decide) (Nat.le_of_ble_eq_true rfl) (ycat_of rfl) (by decide) (by decide) (fun r σ8 hp => ?_)
    obtain ⟨rfl, rfl⟩ := hp
    refine zr_if_eq (tgt := 35) d_P_canBeAtOnce_13 (by decide) (fun c13 => ?_) (fun c13 => ?_)
    · skip
      refine zr_iconst (v := 0) d_P_canBeAtOnce_35 (by decide) ?_
      refine zr_retz d_P_canBeAtOnce_36 rfl rfl (by decide) (by decide) ?_
      refine ⟨?_, rfl⟩
      unfold zonce
      first
        | (rw [zb_ne] at c5; simp [c5, zb]; done)
        | (rw [zb_eq] at c5 c13; simp [c5, c13, zb]; done)
        | (rw [zb_eq] at c5; rw [zb_ne] at c13 c28; simp [c5, c13, c28, zb]; done)
        | (rw [zb_eq] at c5 c28; rw [zb_ne] at c13; simp [c5, c13, c28, zb]; done)
    · skip
      refine zr_aload_n d_P_canBeAtOnce_16 rfl ?_
      refine zr_aload_n d_P_canBeAtOnce_17 rfl ?_
      refine zr_aload_n d_P_canBeAtOnce_18 rfl ?_
      refine zr_tgeti d_P_canBeAtOnce_19 (by first | assumption | omega) sf_P_canBeAtOnce_19 rfl rfl ?_
      refine zr_callP (sel := sel_sort) (o := o) (As := [yi (zth σ8 8 t)]) (rest := [yr (kP o)]) (x := yMy m_P_sortOf) (owner := "MonitorYard$Place") (priv := false) d_P_canBeAtOnce_22 ho (v_sort ho) 1 rfl (by decide +kernel) sel_sort_code (zdecl (i' := m_P_sortOf) (by decide +kernel) cw_P_sortOf) (by decide) (Nat.le_of_ble_eq_true rfl) (ycat_of rfl) (by decide) (by decide) (fun r σ7 hp => ?_)
      obtain ⟨rfl, rfl⟩ := hp
      refine zr_callP (sel := (fun _ => m_P_hasInRow)) (o := o) (As := [yi (zsort (zkd σ7 o) (zth σ7 8 t))]) (rest := []) (x := yMy m_P_hasInRow) (owner := "MonitorYard$Place") (priv := true) d_P_canBeAtOnce_25 ho (c_P_hasInRow ho) 1 rfl (by decide +kernel) (fun _ _ => cw_P_hasInRow) (zdecl (i' := m_P_hasInRow) (by decide +kernel) cw_P_hasInRow) (by decide) (Nat.le_of_ble_eq_true rfl) (ycat_of rfl) (by decide) (by decide) (fun r σ6 hp => ?_)
      obtain ⟨rfl, rfl⟩ := hp
      refine zr_if_ne (tgt := 35) d_P_canBeAtOnce_28 (by decide) (fun c28 => ?_) (fun c28 => ?_)
      · skip
        refine zr_iconst (v := 0) d_P_canBeAtOnce_35 (by decide) ?_
        refine zr_retz d_P_canBeAtOnce_36 rfl rfl (by decide) (by decide) ?_
        refine ⟨?_, rfl⟩
        unfold zonce
        first
          | (rw [zb_ne] at c5; simp [c5, zb]; done)
          | (rw [zb_eq] at c5 c13; simp [c5, c13, zb]; done)
          | (rw [zb_eq] at c5; rw [zb_ne] at c13 c28; simp [c5, c13, c28, zb]; done)
          | (rw [zb_eq] at c5 c28; rw [zb_ne] at c13; simp [c5, c13, c28, zb]; done)
      · skip
        refine zr_iconst (v := 1) d_P_canBeAtOnce_31 (by decide) ?_
        refine zr_goto (tgt := 36) d_P_canBeAtOnce_32 (by decide) ?_
        refine zr_retz d_P_canBeAtOnce_36 rfl rfl (by decide) (by decide) ?_
        refine ⟨?_, rfl⟩
        unfold zonce
        first
          | (rw [zb_ne] at c5; simp [c5, zb]; done)
          | (rw [zb_eq] at c5 c13; simp [c5, c13, zb]; done)
          | (rw [zb_eq] at c5; rw [zb_ne] at c13 c28; simp [c5, c13, c28, zb]; done)
          | (rw [zb_eq] at c5 c28; rw [zb_ne] at c13; simp [c5, c13, c28, zb]; done)
end
section
/-! a place: going through the row, settling, performing -/
theorem zend1_k {o h : Nat} {σ : zS} : zkd (zend1 o h σ) = zkd σ := by
  unfold zend1
  split <;> rfl
theorem zendAll_n {o h : Nat} : ∀ (n : Nat) (σ : zS), zn (zendAll o h n σ) = zn σ ∧ zkd (zendAll o h n σ) = zkd σ
  | 0, _ => ⟨rfl, rfl⟩
  | n + 1, σ => by
    have h1 := zendAll_n (o := o) (h := h) n (zend1 o h σ)
    exact ⟨h1.1.trans zend1_n, h1.2.trans zend1_k⟩
theorem zcall_n {o j : Nat} : ∀ (n : Nat) (σ : zS), zn (zcall o j n σ) = zn σ ∧ zkd (zcall o j n σ) = zkd σ
  | 0, _ => ⟨rfl, rfl⟩
  | n + 1, σ => by
    have h1 := zcall_n (o := o) (j := j) n (zcall1 o j σ)
    exact ⟨h1.1.trans zcall1_n.1, h1.2.trans zcall1_n.2⟩
theorem zleave_n {σ : zS} {o : Nat} : zn (zleave σ o) = zn σ ∧ zkd (zleave σ o) = zkd σ := by
  unfold zleave
  split <;> exact ⟨rfl, rfl⟩
theorem zgrant_n {σ : zS} {o t : Nat} : zn (zgrant σ o t) = zn σ ∧ zkd (zgrant σ o t) = zkd σ := by
  unfold zgrant zgrantC
  split
  · unfold zgrantK
    split
    · exact ⟨rfl, rfl⟩
    · split
      · exact zleave_n
      · split
        · exact ⟨rfl, rfl⟩
        · split
          · exact zcall_n _ _
          · exact zcall_n _ _
  · unfold zgrantB
    split
    · exact ⟨rfl, rfl⟩
    · split
      · exact ⟨rfl, rfl⟩
      · split
        · exact ⟨rfl, rfl⟩
        · exact zleave_n
  · exact ⟨rfl, rfl⟩
  · split <;> exact ⟨rfl, rfl⟩
  · unfold zgrantA
    split
    · exact zendAll_n _ (zspl σ 4 o 0)
    · exact zendAll_n _ _
  · unfold zgrantQ
    split
    · split <;> exact ⟨rfl, rfl⟩
    · split <;> exact ⟨rfl, rfl⟩
/-- its outcome when it is granted, as a number -/
def zhN (σ : zS) (t : Nat) : Nat := (zth σ 11 t).toNatClampNeg
def zrm (σ : zS) (o t : Nat) : zS := zsrw σ 0 o ((zrw σ 0 o).filter (fun u => u ≠ t))
/-- one of the row is granted -/
def zgr (σ : zS) (o t : Nat) : zS := zend (zgrant (zrm σ o t) o t) t (zhN (zgrant (zrm σ o t) o t) t)
theorem zgr_n {σ : zS} {o t : Nat} : zn (zgr σ o t) = zn σ ∧ zkd (zgr σ o t) = zkd σ := ⟨(zgrant_n (σ := zrm σ o t) (o := o) (t := t)).1, (zgrant_n (σ := zrm σ o t) (o := o) (t := t)).2⟩
def zbit (σ : zS) (o t : Nat) : Int32 := 1 <<< (zsort (zkd σ o) (zth σ 8 t) &&& 31)
def zgo (o : Nat) : Nat → Int32 → Nat → zS → zS × Nat
  | 0, _, p, σ => (σ, p)
  | m + 1, x, p, σ => match (zrw σ 0 o)[p]? with
    | none => (σ, p)
    | some t => if (x &&& zbit σ o t) = 0 ∧ zcan σ o t = true then zgo o m x p (zgr σ o t) else zgo o m (x ||| zbit σ o t) (p + 1) σ
def zset (o : Nat) : Nat → zS → zS
  | 0, σ => σ
  | m + 1, σ => if (zgo o (zrw σ 0 o).length 0 0 σ).2 < (zrw σ 0 o).length then zset o m (zgo o (zrw σ 0 o).length 0 0 σ).1 else (zgo o (zrw σ 0 o).length 0 0 σ).1
/-- what a property of states must have, to stand through the row's going -/
def zJ (o : Nat) (J : zS → Prop) : Prop := ∀ σ t, J σ → t ∈ zrw σ 0 o → zcan σ o t = true → zgpre (zrm σ o t) o t ∧ zth (zgrant (zrm σ o t) o t) 11 t = nI (zhN (zgrant (zrm σ o t) o t) t) ∧ zhN (zgrant (zrm σ o t) o t) t < 5 ∧ J (zgr σ o t)
theorem zgo_J {o : Nat} {J : zS → Prop} (hJ : zJ o J) : ∀ (m : Nat) (x : Int32) (p : Nat) (σ : zS), J σ → J (zgo o m x p σ).1
  | 0, _, _, _, h => h
  | m + 1, x, p, σ, h => by
    unfold zgo
    split
    · exact h
    · rename_i t ht
      split
      · rename_i hc
        exact zgo_J hJ m _ _ _ (hJ σ t h (List.mem_of_getElem? ht) hc.2).2.2.2
      · exact zgo_J hJ m _ _ _ h
theorem zgo_n {o : Nat} : ∀ (m : Nat) (x : Int32) (p : Nat) (σ : zS), zn (zgo o m x p σ).1 = zn σ ∧ zkd (zgo o m x p σ).1 = zkd σ
  | 0, _, _, _ => ⟨rfl, rfl⟩
  | m + 1, x, p, σ => by
    unfold zgo
    split
    · exact ⟨rfl, rfl⟩
    · rename_i t _
      split
      · have h1 := zgo_n (o := o) m x p (zgr σ o t)
        exact ⟨h1.1.trans zgr_n.1, h1.2.trans zgr_n.2⟩
      · exact zgo_n m _ _ σ

set_option maxHeartbeats 8000000 in
set_option maxRecDepth 20000 in
theorem c_P_go_loop {G : yG} {μ : yW} {o w : Nat} {J : zS → Prop} (hJ : zJ o J) (hw : w ≤ 6) : ∀ (m q p : Nat) (x : Int32) (σ : zS) (x5 x6 : Option yV), m + q = w → p ≤ q → o < zn σ → J σ → yWP G m_P_goThroughRow (zQ G m_P_goThroughRow μ (fun r σ' => r = some (yi (zb (decide ((zgo o m x p σ).2 < w)))) ∧ σ' = (zgo o m x p σ).1)) μ.1 15 [some (yr (kP o)), some (yi (nI w)), some (yi x), some (yi (nI p)), some (yi (nI q)), x5, x6] [] (zC σ μ) 0 0 := by
  intro m
  induction m with
  | zero =>
    intro q p x σ x5 x6 hm hp ho hJσ
    have hz : zgo o 0 x p σ = (σ, p) := rfl
    refine zr_iload d_P_goThroughRow_15 rfl ?_
    refine zr_iload_n d_P_goThroughRow_17 rfl ?_
    refine zr_icmp_ge (tgt := 110) d_P_goThroughRow_18 (by decide) (fun c18 => ?_) (fun c18 => absurd (nI_le (by omega) (by omega)) c18)
    refine zr_iload_n d_P_goThroughRow_110 rfl ?_
    refine zr_iload_n d_P_goThroughRow_111 rfl ?_
    refine zr_icmp_ge (tgt := 119) d_P_goThroughRow_112 (by decide) (fun c112 => ?_) (fun c112 => ?_)
    · rw [nI_leI (by omega) (by omega)] at c112
      refine zr_iconst (v := 0) d_P_goThroughRow_119 (by decide) ?_
      refine zr_retz d_P_goThroughRow_120 rfl rfl (by decide) (by decide) ⟨?_, ?_⟩
      · rw [hz]; simp [zb]; omega
      · rw [hz]
    · rw [nI_leI (by omega) (by omega)] at c112
      refine zr_iconst (v := 1) d_P_goThroughRow_115 (by decide) ?_
      refine zr_goto (tgt := 120) d_P_goThroughRow_116 (by decide) ?_
      refine zr_retz d_P_goThroughRow_120 rfl rfl (by decide) (by decide) ⟨?_, ?_⟩
      · rw [hz]; simp [zb]; omega
      · rw [hz]
  | succ m ih =>
    intro q p x σ x5 x6 hm hp ho hJσ
    have hv : zrv σ 0 o := ⟨ho, Or.inl rfl⟩
    refine yWP_use (fun ω h => (zlist h hv).2) (fun hall => ?_)
    refine zr_iload d_P_goThroughRow_15 rfl ?_
    refine zr_iload_n d_P_goThroughRow_17 rfl ?_
    refine zr_icmp_ge (tgt := 110) d_P_goThroughRow_18 (by decide) (fun c18 => absurd c18 (nI_ge (by omega) (by omega))) (fun c18 => ?_)
    refine zr_aload_n d_P_goThroughRow_21 rfl ?_
    refine zr_prow d_P_goThroughRow_22 (by first | assumption | omega) sf_P_goThroughRow_22 ?_
    refine zr_iload_n d_P_goThroughRow_25 rfl ?_
    refine zr_call (zrunV (As := [yi (nI p)]) (rest := []) d_P_goThroughRow_26 (fun ω h => (h.row hv).2.1) rfl (c_R_at' (x := nI p) hv) 1 rfl (by decide +kernel) cw_R_at (Nat.le_of_ble_eq_true rfl) (ycat_of rfl) (by decide) (by decide)) (fun r σ9 hp2 => ?_)
    obtain ⟨rfl, rfl⟩ := hp2
    rw [zat_nI (by omega)]
    cases hu : (zrw σ9 0 o)[p]? with
    | none =>
      have hz : zgo o (m + 1) x p σ9 = (σ9, p) := by unfold zgo; rw [hu]
      refine zr_astore d_P_goThroughRow_29 (by decide) rfl ?_
      refine zr_aload d_P_goThroughRow_31 rfl ?_
      refine zr_ifnonnull (tgt := 39) d_P_goThroughRow_33 (by decide) (fun a c33 => nomatch c33) (fun c33 => ?_)
      refine zr_goto (tgt := 110) d_P_goThroughRow_36 (by decide) ?_
      refine zr_iload_n d_P_goThroughRow_110 rfl ?_
      refine zr_iload_n d_P_goThroughRow_111 rfl ?_
      refine zr_icmp_ge (tgt := 119) d_P_goThroughRow_112 (by decide) (fun c112 => ?_) (fun c112 => ?_)
      · rw [nI_leI (by omega) (by omega)] at c112
        refine zr_iconst (v := 0) d_P_goThroughRow_119 (by decide) ?_
        refine zr_retz d_P_goThroughRow_120 rfl rfl (by decide) (by decide) ⟨?_, ?_⟩
        · rw [hz]; simp [zb]; omega
        · rw [hz]
      · rw [nI_leI (by omega) (by omega)] at c112
        refine zr_iconst (v := 1) d_P_goThroughRow_115 (by decide) ?_
        refine zr_goto (tgt := 120) d_P_goThroughRow_116 (by decide) ?_
        refine zr_retz d_P_goThroughRow_120 rfl rfl (by decide) (by decide) ⟨?_, ?_⟩
        · rw [hz]; simp [zb]; omega
        · rw [hz]
    | some t =>
      have htm : t ∈ zrw σ9 0 o := List.mem_of_getElem? hu
      have ht : t < 6 := hall t htm
      refine zr_astore d_P_goThroughRow_29 (by decide) rfl ?_
      refine zr_aload d_P_goThroughRow_31 rfl ?_
      refine zr_ifnonnull (tgt := 39) d_P_goThroughRow_33 (by decide) (fun a c33 => ?_) (fun c33 => nomatch c33)
      refine zr_iconst (v := 1) d_P_goThroughRow_39 (by decide) ?_
      refine zr_aload_n d_P_goThroughRow_40 rfl ?_
      refine zr_aload d_P_goThroughRow_41 rfl ?_
      refine zr_tgeti d_P_goThroughRow_43 (by first | assumption | omega) sf_P_goThroughRow_43 rfl rfl ?_
      refine zr_callP (sel := sel_sort) (o := o) (As := [yi (zth σ9 8 t)]) (rest := [yi 1]) (x := yMy m_P_sortOf) (owner := "MonitorYard$Place") (priv := false) d_P_goThroughRow_46 ho (v_sort ho) 1 rfl (by decide +kernel) sel_sort_code (zdecl (i' := m_P_sortOf) (by decide +kernel) cw_P_sortOf) (by decide) (Nat.le_of_ble_eq_true rfl) (ycat_of rfl) (by decide) (by decide) (fun r σ8 hp => ?_)
      obtain ⟨rfl, rfl⟩ := hp
      refine zr_ishl d_P_goThroughRow_49 ?_
      change yWP _ _ _ _ _ _ [yi (zbit σ8 o t)] _ _ _
      refine zr_istore d_P_goThroughRow_50 (by decide) rfl ?_
      refine zr_iload_n d_P_goThroughRow_52 rfl ?_
      refine zr_iload d_P_goThroughRow_53 rfl ?_
      refine zr_iand d_P_goThroughRow_55 ?_
      refine zr_if_ne (tgt := 96) d_P_goThroughRow_56 (by decide) (fun c56 => ?_) (fun c56 => ?_)
      · skip
        refine zr_iload_n d_P_goThroughRow_96 rfl ?_
        refine zr_iload d_P_goThroughRow_97 rfl ?_
        refine zr_ior d_P_goThroughRow_99 ?_
        refine zr_istore_n d_P_goThroughRow_100 (by decide) rfl ?_
        refine zr_iinc (v := nI (p + 1)) d_P_goThroughRow_101 rfl (nI_1 p) (by decide) rfl ?_
        refine zr_iinc (v := nI (q + 1)) d_P_goThroughRow_104 rfl (nI_1 q) (by decide) rfl ?_
        refine zr_goto (tgt := 15) d_P_goThroughRow_107 (by decide) ?_
        first
          | (have hz : zgo o (m + 1) x p σ7 = zgo o m x p (zgr σ7 o t) := by
               rw [zgo, hu]
               exact if_pos ⟨c56, c65⟩
             rw [hz]
             exact ih (q + 1) p x (zgr σ7 o t) _ _ (by omega) (by omega) (by rw [zgr_n.1]; exact ho) j4)
          | (have hz : zgo o (m + 1) x p σ7 = zgo o m (x ||| zbit σ7 o t) (p + 1) σ7 := by
               rw [zgo, hu]
               exact if_neg (fun z => by rw [z.2] at c65; exact absurd c65 (by decide))
             rw [hz]
             exact ih (q + 1) (p + 1) _ σ7 _ _ (by omega) (by omega) ho hJσ)
          | (have hz : zgo o (m + 1) x p σ8 = zgo o m (x ||| zbit σ8 o t) (p + 1) σ8 := by
               rw [zgo, hu]
               exact if_neg (fun z => c56 z.1)
             rw [hz]
             exact ih (q + 1) (p + 1) _ σ8 _ _ (by omega) (by omega) ho hJσ)
      · skip
        refine zr_aload_n d_P_goThroughRow_59 rfl ?_
        refine zr_aload d_P_goThroughRow_60 rfl ?_
        refine zr_callP (sel := sel_canBe) (o := o) (As := [yr (10 + t)]) (rest := []) (x := ⟨"MonitorYard$Place", "canBe", "(LMonitorYard$YardThread;)Z"⟩) (owner := "MonitorYard$Place") (priv := false) d_P_goThroughRow_62 ho (v_canBe ho ht) 1 rfl (by decide +kernel) sel_canBe_code (zdeclA (x := ⟨"MonitorYard$Place", "canBe", "(LMonitorYard$YardThread;)Z"⟩) (by decide +kernel)) (by decide) (Nat.le_of_ble_eq_true rfl) (ycat_of rfl) (by decide) (by decide) (fun r σ7 hp => ?_)
        obtain ⟨rfl, rfl⟩ := hp
        refine zr_if_eq (tgt := 96) d_P_goThroughRow_65 (by decide) (fun c65 => ?_) (fun c65 => ?_)
        · skip
          refine zr_iload_n d_P_goThroughRow_96 rfl ?_
          refine zr_iload d_P_goThroughRow_97 rfl ?_
          refine zr_ior d_P_goThroughRow_99 ?_
          refine zr_istore_n d_P_goThroughRow_100 (by decide) rfl ?_
          refine zr_iinc (v := nI (p + 1)) d_P_goThroughRow_101 rfl (nI_1 p) (by decide) rfl ?_
          refine zr_iinc (v := nI (q + 1)) d_P_goThroughRow_104 rfl (nI_1 q) (by decide) rfl ?_
          refine zr_goto (tgt := 15) d_P_goThroughRow_107 (by decide) ?_
          first
            | (have hz : zgo o (m + 1) x p σ7 = zgo o m x p (zgr σ7 o t) := by
                 rw [zgo, hu]
                 exact if_pos ⟨c56, c65⟩
               rw [hz]
               exact ih (q + 1) p x (zgr σ7 o t) _ _ (by omega) (by omega) (by rw [zgr_n.1]; exact ho) j4)
            | (have hz : zgo o (m + 1) x p σ7 = zgo o m (x ||| zbit σ7 o t) (p + 1) σ7 := by
                 rw [zgo, hu]
                 exact if_neg (fun z => by rw [z.2] at c65; exact absurd c65 (by decide))
               rw [hz]
               exact ih (q + 1) (p + 1) _ σ7 _ _ (by omega) (by omega) ho hJσ)
            | (have hz : zgo o (m + 1) x p σ8 = zgo o m (x ||| zbit σ8 o t) (p + 1) σ8 := by
                 rw [zgo, hu]
                 exact if_neg (fun z => c56 z.1)
               rw [hz]
               exact ih (q + 1) (p + 1) _ σ8 _ _ (by omega) (by omega) ho hJσ)
        · skip
          refine zr_aload_n d_P_goThroughRow_68 rfl ?_
          refine zr_prow d_P_goThroughRow_69 (by first | assumption | omega) sf_P_goThroughRow_69 ?_
          refine zr_aload d_P_goThroughRow_72 rfl ?_
          refine zr_call (zrunV (As := [yr (10 + t)]) (rest := []) d_P_goThroughRow_74 (fun ω h => (h.row hv).2.1) rfl (c_R_remove' hv ht) 1 rfl (by decide +kernel) cw_R_remove (Nat.le_of_ble_eq_true rfl) (ycat_of rfl) (by decide) (by decide)) (fun r σ6 hp2 => ?_)
          obtain ⟨rfl, rfl⟩ := hp2
          rw [zb_ne] at c65
          obtain ⟨j1, j2, j3, j4⟩ := hJ σ7 t hJσ htm c65
          change yWP _ _ _ _ _ _ _ (zC (zrm σ7 o t) μ) _ _
          refine zr_aload_n d_P_goThroughRow_77 rfl ?_
          refine zr_aload d_P_goThroughRow_78 rfl ?_
          refine zr_callP (sel := sel_grant) (o := o) (As := [yr (10 + t)]) (rest := []) (x := ⟨"MonitorYard$Place", "grant", "(LMonitorYard$YardThread;)V"⟩) (owner := "MonitorYard$Place") (priv := false) d_P_goThroughRow_80 ho (v_grant (σ := zrm σ7 o t) ho ht j1) 1 rfl (by decide +kernel) sel_grant_code (zdeclA (x := ⟨"MonitorYard$Place", "grant", "(LMonitorYard$YardThread;)V"⟩) (by decide +kernel)) (by decide) (Nat.le_of_ble_eq_true rfl) (ycat_of rfl) (by decide) (by decide) (fun r σ5 hp2 => ?_)
          obtain ⟨rfl, rfl⟩ := hp2
          refine zr_aload d_P_goThroughRow_83 rfl ?_
          refine zr_aload d_P_goThroughRow_85 rfl ?_
          refine zr_tgeti d_P_goThroughRow_87 (by first | assumption | omega) sf_P_goThroughRow_87 rfl rfl ?_
          rw [j2]
          refine zr_call (zrunV (As := [yi (nI (zhN (zgrant (zrm σ7 o t) o t) t))]) (rest := []) d_P_goThroughRow_90 (fun ω h => h.sT ht) rfl (c_T_end ht j3) 1 rfl (by decide +kernel) cw_T_end (Nat.le_of_ble_eq_true rfl) (ycat_of rfl) (by decide) (by decide)) (fun r σ4 hp2 => ?_)
          obtain ⟨rfl, rfl⟩ := hp2
          change yWP _ _ _ _ _ _ _ (zC (zgr σ7 o t) μ) _ _
          refine zr_goto (tgt := 104) d_P_goThroughRow_93 (by decide) ?_
          refine zr_iinc (v := nI (q + 1)) d_P_goThroughRow_104 rfl (nI_1 q) (by decide) rfl ?_
          refine zr_goto (tgt := 15) d_P_goThroughRow_107 (by decide) ?_
          first
            | (have hz : zgo o (m + 1) x p σ7 = zgo o m x p (zgr σ7 o t) := by
                 rw [zgo, hu]
                 exact if_pos ⟨c56, c65⟩
               rw [hz]
               exact ih (q + 1) p x (zgr σ7 o t) _ _ (by omega) (by omega) (by rw [zgr_n.1]; exact ho) j4)
            | (have hz : zgo o (m + 1) x p σ7 = zgo o m (x ||| zbit σ7 o t) (p + 1) σ7 := by
                 rw [zgo, hu]
                 exact if_neg (fun z => by rw [z.2] at c65; exact absurd c65 (by decide))
               rw [hz]
               exact ih (q + 1) (p + 1) _ σ7 _ _ (by omega) (by omega) ho hJσ)
            | (have hz : zgo o (m + 1) x p σ8 = zgo o m (x ||| zbit σ8 o t) (p + 1) σ8 := by
                 rw [zgo, hu]
                 exact if_neg (fun z => c56 z.1)
               rw [hz]
               exact ih (q + 1) (p + 1) _ σ8 _ _ (by omega) (by omega) ho hJσ)

set_option maxHeartbeats 4000000 in
set_option maxRecDepth 20000 in
theorem c_P_goThroughRow {G : yG} {μ : yW} {σ : zS} {o : Nat} {J : zS → Prop} (ho : o < zn σ) (hJ : zJ o J) (hJσ : J σ)  : zCT G m_P_goThroughRow [yr (kP o)] σ μ (fun r σ' => r = some (yi (zb (decide ((zgo o (zrw σ 0 o).length 0 0 σ).2 < (zrw σ 0 o).length)))) ∧ σ' = (zgo o (zrw σ 0 o).length 0 0 σ).1) := by
  have hv : zrv σ 0 o := ⟨ho, Or.inl rfl⟩
  refine zCT_of (by decide) rfl (ycat_of rfl) (Nat.le_of_ble_eq_true rfl) ?_
  refine zr_aload_n d_P_goThroughRow_0 rfl ?_
  refine zr_prow d_P_goThroughRow_1 (by first | assumption | omega) sf_P_goThroughRow_1 ?_
  refine zr_rlen d_P_goThroughRow_4 (by assumption) sf_P_goThroughRow_4 ?_
  refine zr_istore_n d_P_goThroughRow_7 (by decide) rfl ?_
  refine zr_iconst (v := 0) d_P_goThroughRow_8 (by decide) ?_
  refine zr_istore_n d_P_goThroughRow_9 (by decide) rfl ?_
  refine zr_iconst (v := 0) d_P_goThroughRow_10 (by decide) ?_
  refine zr_istore_n d_P_goThroughRow_11 (by decide) rfl ?_
  refine zr_iconst (v := 0) d_P_goThroughRow_12 (by decide) ?_
  refine zr_istore d_P_goThroughRow_13 (by decide) rfl ?_
  exact yWP_use (fun ω h9 => (zlist h9 hv).1) (fun h6 => c_P_go_loop hJ h6 _ 0 0 0 σ _ _ rfl (Nat.le_refl _) ho hJσ)

set_option maxHeartbeats 4000000 in
set_option maxRecDepth 20000 in
theorem c_P_settle_loop {G : yG} {μ : yW} {o : Nat} {J : zS → Prop} (hJ : zJ o J) : ∀ (m q : Nat) (b : Bool) (σ : zS), m + q = 7 → o < zn σ → J σ → yWP G m_P_settle (zQ G m_P_settle μ (fun r σ' => r = none ∧ σ' = if b = true then zset o m σ else σ)) μ.1 4 [some (yr (kP o)), some (yi (zb b)), some (yi (nI q))] [] (zC σ μ) 0 0 := by
  intro m
  induction m with
  | zero =>
    intro q b σ hm ho hJσ
    refine zr_iload_n d_P_settle_4 rfl ?_
    refine zr_if_eq (tgt := 25) d_P_settle_5 (by decide) (fun c5 => ?_) (fun c5 => ?_)
    · rw [zb_eq] at c5
      exact zr_retv d_P_settle_25 rfl (by decide) (by decide) ⟨rfl, by simp [c5]⟩
    · refine zr_iload_n d_P_settle_8 rfl ?_
      refine zr_bipush (v := 6) d_P_settle_9 (by decide) ?_
      refine zr_icmp_gt (tgt := 25) d_P_settle_11 (by decide) (fun c11 => ?_) (fun c11 => absurd (show nI 6 < nI q from (nI_ltI (by omega) (by omega)).mpr (by omega)) c11)
      exact zr_retv d_P_settle_25 rfl (by decide) (by decide) ⟨rfl, by simp [zset]⟩
  | succ m ih =>
    intro q b σ hm ho hJσ
    refine zr_iload_n d_P_settle_4 rfl ?_
    refine zr_if_eq (tgt := 25) d_P_settle_5 (by decide) (fun c5 => ?_) (fun c5 => ?_)
    · rw [zb_eq] at c5
      exact zr_retv d_P_settle_25 rfl (by decide) (by decide) ⟨rfl, by simp [c5]⟩
    · rw [zb_ne] at c5
      refine zr_iload_n d_P_settle_8 rfl ?_
      refine zr_bipush (v := 6) d_P_settle_9 (by decide) ?_
      refine zr_icmp_gt (tgt := 25) d_P_settle_11 (by decide) (fun c11 => absurd c11 (show ¬ nI 6 < nI q from fun z => by rw [nI_ltI (by omega) (by omega)] at z; omega)) (fun c11 => ?_)
      refine zr_aload_n d_P_settle_14 rfl ?_
      refine zr_callP (sel := (fun _ => m_P_goThroughRow)) (o := o) (As := []) (rest := []) (x := yMy m_P_goThroughRow) (owner := "MonitorYard$Place") (priv := true) d_P_settle_15 ho (c_P_goThroughRow ho hJ hJσ) 0 rfl (by decide +kernel) (fun _ _ => cw_P_goThroughRow) (zdecl (i' := m_P_goThroughRow) (by decide +kernel) cw_P_goThroughRow) (by decide) (Nat.le_of_ble_eq_true rfl) (ycat_of rfl) (by decide) (by decide) (fun r σ9 hp => ?_)
      obtain ⟨rfl, rfl⟩ := hp
      refine zr_istore_n d_P_settle_18 (by decide) rfl ?_
      refine zr_iinc (v := nI (q + 1)) d_P_settle_19 rfl (nI_1 q) (by decide) rfl ?_
      refine zr_goto (tgt := 4) d_P_settle_22 (by decide) ?_
      have k := ih (q + 1) (decide ((zgo o (zrw σ 0 o).length 0 0 σ).2 < (zrw σ 0 o).length)) (zgo o (zrw σ 0 o).length 0 0 σ).1 (by omega) (by rw [(zgo_n _ _ _ _).1]; exact ho) (zgo_J hJ _ _ _ _ hJσ)
      have e1 : (if b = true then zset o (m + 1) σ else σ) = (if decide ((zgo o (zrw σ 0 o).length 0 0 σ).2 < (zrw σ 0 o).length) = true then zset o m (zgo o (zrw σ 0 o).length 0 0 σ).1 else (zgo o (zrw σ 0 o).length 0 0 σ).1) := by
        rw [if_pos c5]
        simp only [zset, decide_eq_true_eq]
      rw [e1]
      exact k

set_option maxHeartbeats 4000000 in
set_option maxRecDepth 20000 in
theorem c_P_settle {G : yG} {μ : yW} {σ : zS} {o : Nat} {J : zS → Prop} (ho : o < zn σ) (hJ : zJ o J) (hJσ : J σ)  : zCT G m_P_settle [yr (kP o)] σ μ (fun r σ' => r = none ∧ σ' = zset o 7 σ) := by
  refine zCT_of (by decide) rfl (ycat_of rfl) (Nat.le_of_ble_eq_true rfl) ?_
  refine zr_iconst (v := 1) d_P_settle_0 (by decide) ?_
  refine zr_istore_n d_P_settle_1 (by decide) rfl ?_
  refine zr_iconst (v := 0) d_P_settle_2 (by decide) ?_
  refine zr_istore_n d_P_settle_3 (by decide) rfl ?_
  exact c_P_settle_loop hJ 7 0 true σ rfl ho hJσ

def zperf (σ : zS) (o t : Nat) (p : Int32) : zS := if zrefuses σ o t = true then zend σ t 3 else if zonce σ o t = true then zend (zgrant σ o t) t 0 else if ¬ zth σ 6 t = 0 then zgave (zend (zsth σ 6 t 0) t 4) o else if p = 0 then zend σ t 2 else zhold σ o t p

set_option maxHeartbeats 4000000 in
set_option maxRecDepth 20000 in
theorem c_P_perform {G : yG} {μ : yW} {σ : zS} {o : Nat} {p : Int32} (ho : o < zn σ) {t : Nat} (ht : t < 6) (hg : zonce σ o t = true → zgpre σ o t) (h5 : (zrw σ 0 o).length < 6) (h5c : zkd σ o = 0 → (zrw σ (zcj (zth σ 9 t)) o).length < 6)  : zCT G m_P_perform [yr (kP o), yr (10 + t), yi p] σ μ (fun r σ' => r = none ∧ σ' = zperf σ o t p) := by
  refine zCT_of (by decide) rfl (ycat_of rfl) (Nat.le_of_ble_eq_true rfl) ?_
  refine zr_aload_n d_P_perform_0 rfl ?_
  refine zr_aload_n d_P_perform_1 rfl ?_
  refine zr_callP (sel := sel_refuses) (o := o) (As := [yr (10 + t)]) (rest := []) (x := yMy m_P_refuses) (owner := "MonitorYard$Place") (priv := false) d_P_perform_2 ho (v_refuses ho ht) 1 rfl (by decide +kernel) sel_refuses_code (zdecl (i' := m_P_refuses) (by decide +kernel) cw_P_refuses) (by decide) (Nat.le_of_ble_eq_true rfl) (ycat_of rfl) (by decide) (by decide) (fun r σ9 hp => ?_)
  obtain ⟨rfl, rfl⟩ := hp
  refine zr_if_eq (tgt := 16) d_P_perform_5 (by decide) (fun c5 => ?_) (fun c5 => ?_)
  · skip
    refine zr_aload_n d_P_perform_16 rfl ?_
    refine zr_aload_n d_P_perform_17 rfl ?_
    refine zr_callP (sel := (fun _ => m_P_canBeAtOnce)) (o := o) (As := [yr (10 + t)]) (rest := []) (x := yMy m_P_canBeAtOnce) (owner := "MonitorYard$Place") (priv := true) d_P_perform_18 ho (c_P_canBeAtOnce ho ht) 1 rfl (by decide +kernel) (fun _ _ => cw_P_canBeAtOnce) (zdecl (i' := m_P_canBeAtOnce) (by decide +kernel) cw_P_canBeAtOnce) (by decide) (Nat.le_of_ble_eq_true rfl) (ycat_of rfl) (by decide) (by decide) (fun r σ8 hp => ?_)
    obtain ⟨rfl, rfl⟩ := hp
    refine zr_if_eq (tgt := 37) d_P_perform_21 (by decide) (fun c21 => ?_) (fun c21 => ?_)
    · skip
      refine zr_aload_n d_P_perform_37 rfl ?_
      refine zr_tgeti d_P_perform_38 (by first | assumption | omega) sf_P_perform_38 rfl rfl ?_
      refine zr_if_eq (tgt := 61) d_P_perform_41 (by decide) (fun c41 => ?_) (fun c41 => ?_)
      · skip
        refine zr_iload_n d_P_perform_61 rfl ?_
        refine zr_if_ne (tgt := 73) d_P_perform_62 (by decide) (fun c62 => ?_) (fun c62 => ?_)
        · skip
          refine zr_aload_n d_P_perform_73 rfl ?_
          refine zr_aload_n d_P_perform_74 rfl ?_
          refine zr_iload_n d_P_perform_75 rfl ?_
          refine zr_callP (sel := sel_holdBack) (o := o) (As := [yr (10 + t), yi p]) (rest := []) (x := yMy m_P_holdBack) (owner := "MonitorYard$Place") (priv := false) d_P_perform_76 ho (v_holdBack ho ht h5 h5c) 2 rfl (by decide +kernel) sel_holdBack_code (zdecl (i' := m_P_holdBack) (by decide +kernel) cw_P_holdBack) (by decide) (Nat.le_of_ble_eq_true rfl) (ycat_of rfl) (by decide) (by decide) (fun r σ7 hp => ?_)
          obtain ⟨rfl, rfl⟩ := hp
          refine zr_retv d_P_perform_79 rfl (by decide) (by decide) ?_
          refine ⟨rfl, ?_⟩
          unfold zperf
          first
            | (rw [zb_ne] at c5; rw [if_pos c5]; done)
            | (rw [zb_eq] at c5; rw [zb_ne] at c21; rw [if_neg (by rw [c5]; decide), if_pos c21]; done)
            | (rw [zb_eq] at c5 c21; rw [if_neg (by rw [c5]; decide), if_neg (by rw [c21]; decide), if_pos c41]; done)
            | (rw [zb_eq] at c5 c21; rw [if_neg (by rw [c5]; decide), if_neg (by rw [c21]; decide), if_neg (by simp [c41]), if_pos c62]; done)
            | (rw [zb_eq] at c5 c21; rw [if_neg (by rw [c5]; decide), if_neg (by rw [c21]; decide), if_neg (by simp [c41]), if_neg c62]; done)
        · skip
          refine zr_aload_n d_P_perform_65 rfl ?_
          refine zr_iconst (v := 2) d_P_perform_66 (by decide) ?_
          refine zr_call (zrunV (As := [yi 2]) (rest := []) d_P_perform_67 (fun ω h => h.sT ht) rfl (c_T_end (h := 2) ht (by omega)) 1 rfl (by decide +kernel) cw_T_end (Nat.le_of_ble_eq_true rfl) (ycat_of rfl) (by decide) (by decide)) (fun r σ7 hp => ?_)
          obtain ⟨rfl, rfl⟩ := hp
          refine zr_goto (tgt := 79) d_P_perform_70 (by decide) ?_
          refine zr_retv d_P_perform_79 rfl (by decide) (by decide) ?_
          refine ⟨rfl, ?_⟩
          unfold zperf
          first
            | (rw [zb_ne] at c5; rw [if_pos c5]; done)
            | (rw [zb_eq] at c5; rw [zb_ne] at c21; rw [if_neg (by rw [c5]; decide), if_pos c21]; done)
            | (rw [zb_eq] at c5 c21; rw [if_neg (by rw [c5]; decide), if_neg (by rw [c21]; decide), if_pos c41]; done)
            | (rw [zb_eq] at c5 c21; rw [if_neg (by rw [c5]; decide), if_neg (by rw [c21]; decide), if_neg (by simp [c41]), if_pos c62]; done)
            | (rw [zb_eq] at c5 c21; rw [if_neg (by rw [c5]; decide), if_neg (by rw [c21]; decide), if_neg (by simp [c41]), if_neg c62]; done)
      · skip
        refine zr_aload_n d_P_perform_44 rfl ?_
        refine zr_iconst (v := 0) d_P_perform_45 (by decide) ?_
        refine zr_tputi d_P_perform_46 (by first | assumption | omega) sf_P_perform_46 rfl rfl ⟨rfl, rfl⟩ ?_
        refine zr_aload_n d_P_perform_49 rfl ?_
        refine zr_iconst (v := 4) d_P_perform_50 (by decide) ?_
        refine zr_call (zrunV (As := [yi 4]) (rest := []) d_P_perform_51 (fun ω h => h.sT ht) rfl (c_T_end (h := 4) ht (by omega)) 1 rfl (by decide +kernel) cw_T_end (Nat.le_of_ble_eq_true rfl) (ycat_of rfl) (by decide) (by decide)) (fun r σ7 hp => ?_)
        obtain ⟨rfl, rfl⟩ := hp
        refine zr_aload_n d_P_perform_54 rfl ?_
        refine zr_callP (sel := sel_gave) (o := o) (As := []) (rest := []) (x := yMy m_P_whenOneGaveUp) (owner := "MonitorYard$Place") (priv := false) d_P_perform_55 ho (v_gave ho) 0 rfl (by decide +kernel) sel_gave_code (zdecl (i' := m_P_whenOneGaveUp) (by decide +kernel) cw_P_whenOneGaveUp) (by decide) (Nat.le_of_ble_eq_true rfl) (ycat_of rfl) (by decide) (by decide) (fun r σ6 hp => ?_)
        obtain ⟨rfl, rfl⟩ := hp
        refine zr_goto (tgt := 79) d_P_perform_58 (by decide) ?_
        refine zr_retv d_P_perform_79 rfl (by decide) (by decide) ?_
        refine ⟨rfl, ?_⟩
        unfold zperf
        first
          | (rw [zb_ne] at c5; rw [if_pos c5]; done)
          | (rw [zb_eq] at c5; rw [zb_ne] at c21; rw [if_neg (by rw [c5]; decide), if_pos c21]; done)
          | (rw [zb_eq] at c5 c21; rw [if_neg (by rw [c5]; decide), if_neg (by rw [c21]; decide), if_pos c41]; done)
          | (rw [zb_eq] at c5 c21; rw [if_neg (by rw [c5]; decide), if_neg (by rw [c21]; decide), if_neg (by simp [c41]), if_pos c62]; done)
          | (rw [zb_eq] at c5 c21; rw [if_neg (by rw [c5]; decide), if_neg (by rw [c21]; decide), if_neg (by simp [c41]), if_neg c62]; done)
    · skip
      refine zr_aload_n d_P_perform_24 rfl ?_
      refine zr_aload_n d_P_perform_25 rfl ?_
      refine zr_callP (sel := sel_grant) (o := o) (As := [yr (10 + t)]) (rest := []) (x := ⟨"MonitorYard$Place", "grant", "(LMonitorYard$YardThread;)V"⟩) (owner := "MonitorYard$Place") (priv := false) d_P_perform_26 ho (v_grant ho ht (hg (zb_ne.mp c21))) 1 rfl (by decide +kernel) sel_grant_code (zdeclA (x := ⟨"MonitorYard$Place", "grant", "(LMonitorYard$YardThread;)V"⟩) (by decide +kernel)) (by decide) (Nat.le_of_ble_eq_true rfl) (ycat_of rfl) (by decide) (by decide) (fun r σ7 hp => ?_)
      obtain ⟨rfl, rfl⟩ := hp
      refine zr_aload_n d_P_perform_29 rfl ?_
      refine zr_iconst (v := 0) d_P_perform_30 (by decide) ?_
      refine zr_call (zrunV (As := [yi 0]) (rest := []) d_P_perform_31 (fun ω h => h.sT ht) rfl (c_T_end (h := 0) ht (by omega)) 1 rfl (by decide +kernel) cw_T_end (Nat.le_of_ble_eq_true rfl) (ycat_of rfl) (by decide) (by decide)) (fun r σ6 hp => ?_)
      obtain ⟨rfl, rfl⟩ := hp
      refine zr_goto (tgt := 79) d_P_perform_34 (by decide) ?_
      refine zr_retv d_P_perform_79 rfl (by decide) (by decide) ?_
      refine ⟨rfl, ?_⟩
      unfold zperf
      first
        | (rw [zb_ne] at c5; rw [if_pos c5]; done)
        | (rw [zb_eq] at c5; rw [zb_ne] at c21; rw [if_neg (by rw [c5]; decide), if_pos c21]; done)
        | (rw [zb_eq] at c5 c21; rw [if_neg (by rw [c5]; decide), if_neg (by rw [c21]; decide), if_pos c41]; done)
        | (rw [zb_eq] at c5 c21; rw [if_neg (by rw [c5]; decide), if_neg (by rw [c21]; decide), if_neg (by simp [c41]), if_pos c62]; done)
        | (rw [zb_eq] at c5 c21; rw [if_neg (by rw [c5]; decide), if_neg (by rw [c21]; decide), if_neg (by simp [c41]), if_neg c62]; done)
  · skip
    refine zr_aload_n d_P_perform_8 rfl ?_
    refine zr_iconst (v := 3) d_P_perform_9 (by decide) ?_
    refine zr_call (zrunV (As := [yi 3]) (rest := []) d_P_perform_10 (fun ω h => h.sT ht) rfl (c_T_end (h := 3) ht (by omega)) 1 rfl (by decide +kernel) cw_T_end (Nat.le_of_ble_eq_true rfl) (ycat_of rfl) (by decide) (by decide)) (fun r σ8 hp => ?_)
    obtain ⟨rfl, rfl⟩ := hp
    refine zr_goto (tgt := 79) d_P_perform_13 (by decide) ?_
    refine zr_retv d_P_perform_79 rfl (by decide) (by decide) ?_
    refine ⟨rfl, ?_⟩
    unfold zperf
    first
      | (rw [zb_ne] at c5; rw [if_pos c5]; done)
      | (rw [zb_eq] at c5; rw [zb_ne] at c21; rw [if_neg (by rw [c5]; decide), if_pos c21]; done)
      | (rw [zb_eq] at c5 c21; rw [if_neg (by rw [c5]; decide), if_neg (by rw [c21]; decide), if_pos c41]; done)
      | (rw [zb_eq] at c5 c21; rw [if_neg (by rw [c5]; decide), if_neg (by rw [c21]; decide), if_neg (by simp [c41]), if_pos c62]; done)
      | (rw [zb_eq] at c5 c21; rw [if_neg (by rw [c5]; decide), if_neg (by rw [c21]; decide), if_neg (by simp [c41]), if_neg c62]; done)
end
section
/-! the yard: rows, readers -/
theorem zC_stk {σ : zS} {μ ω : yW} {x : Int32} (h : zC σ μ ω) : zC (zstk σ x) μ (ysi ω 0 3 x) := by
  obtain ⟨a1, a2, a3, a4, a5, a6, a7, a8, a9, a10, a11⟩ := h
  have g : ∀ j, j ≠ 0 → zAg ω (ysi ω 0 3 x) j := fun j hj => zAg_si ω _ 3 x hj
  have n2 : (ysi ω 0 3 x).2.1 0 2 = ω.2.1 0 2 := yu_ne ω.2.1 (k := 0) (i := 3) (k' := 0) (i' := 2) x (Or.inr (by decide))
  have n3 : (ysi ω 0 3 x).2.1 0 3 = x := yu_same ω.2.1 0 3 x
  refine ⟨a1, a2, fun k hk => ?_, a4, a5, n2.trans a6, n3, a8, a9, fun t ht => ?_, fun o ho => ?_⟩
  · rw [(g k (by omega)).1, (g k (by omega)).2]; exact a3 k hk
  · exact (a10 t ht).kept (zSt.rf σ t) rfl (g _ (by omega)) (g _ (by omega))
  · exact (a11 o ho).kept (zSp.rf σ o) (fun d hd => g _ (by unfold kP; omega))
section ZY
variable {G : yG} {i : yM} {Qf : yQT} {pc : Nat} {ls : List (Option yV)} {st : List yV} {σ : zS} {μ : yW} {cs sl : Nat} {sh0 : Nat → Option ySh}
theorem zr_ythr {ix : Nat} {ref host : String} (hd : decode (yMb i) pc = .ok (.getfield ix, 3)) (site : ySF (yMy i).cls ix ref host 0 0 = true) (k : yWP G i Qf sh0 (pc + 3) ls (yr 1 :: st) (zC σ μ) cs sl) : yWP G i Qf sh0 pc ls (yr 0 :: st) (zC σ μ) cs sl := by
  intro ω h
  refine yr_getr hd h.1.1 site rfl ?_
  rw [h.2.2.2.1]
  exact k ω h
theorem zr_ypls {ix : Nat} {ref host : String} (hd : decode (yMb i) pc = .ok (.getfield ix, 3)) (site : ySF (yMy i).cls ix ref host 0 1 = true) (k : yWP G i Qf sh0 (pc + 3) ls (yr 2 :: st) (zC σ μ) cs sl) : yWP G i Qf sh0 pc ls (yr 0 :: st) (zC σ μ) cs sl := by
  intro ω h
  refine yr_getr hd h.1.1 site rfl ?_
  rw [h.2.2.2.2.1]
  exact k ω h
theorem zr_ycnt {ix : Nat} {ref host : String} (hd : decode (yMb i) pc = .ok (.getfield ix, 3)) (site : ySF (yMy i).cls ix ref host 0 2 = true) (k : yWP G i Qf sh0 (pc + 3) ls (yi (nI (zn σ)) :: st) (zC σ μ) cs sl) : yWP G i Qf sh0 pc ls (yr 0 :: st) (zC σ μ) cs sl := by
  intro ω h
  refine yr_geti hd h.1.1 site rfl ?_
  rw [h.2.2.2.2.2.1]
  exact k ω h
theorem zr_ytk {ix : Nat} {ref host : String} (hd : decode (yMb i) pc = .ok (.getfield ix, 3)) (site : ySF (yMy i).cls ix ref host 0 3 = true) (k : yWP G i Qf sh0 (pc + 3) ls (yi (ztk σ) :: st) (zC σ μ) cs sl) : yWP G i Qf sh0 pc ls (yr 0 :: st) (zC σ μ) cs sl := by
  intro ω h
  refine yr_geti hd h.1.1 site rfl ?_
  rw [h.2.2.2.2.2.2.1]
  exact k ω h
theorem zr_yptk {ix : Nat} {x : Int32} {ref host : String} (hd : decode (yMb i) pc = .ok (.putfield ix, 3)) (site : ySF (yMy i).cls ix ref host 0 3 = true) (k : yWP G i Qf sh0 (pc + 3) ls st (zC (zstk σ x) μ) cs sl) : yWP G i Qf sh0 pc ls (yi x :: yr 0 :: st) (zC σ μ) cs sl := by
  intro ω h
  exact yr_puti hd h.1.1 site rfl rfl rfl ⟨rfl, rfl⟩ (k _ (zC_stk h))
theorem zr_thld {t : Nat} {x : Int32} (hd : decode (yMb i) pc = .ok (.aaload, 1)) (hx : x = nI t) (ht : t < 6) (k : yWP G i Qf sh0 (pc + 1) ls (yr (10 + t) :: st) (zC σ μ) cs sl) : yWP G i Qf sh0 pc ls (yi x :: yr 1 :: st) (zC σ μ) cs sl := by
  intro ω h
  refine yr_aald3 (n := 6) (j := t) hd h.1.2.1 (by rw [hx]; exact nI_pos (by omega)) (by rw [hx]; exact nI_clamp (by omega)) ht ?_
  rw [h.2.2.2.2.2.2.2.1 t ht]
  exact k ω h
theorem zr_plld {o : Nat} {x : Int32} (hd : decode (yMb i) pc = .ok (.aaload, 1)) (hx : x = nI o) (ho : o < zn σ) (k : yWP G i Qf sh0 (pc + 1) ls (yr (kP o) :: st) (zC σ μ) cs sl) : yWP G i Qf sh0 pc ls (yi x :: yr 2 :: st) (zC σ μ) cs sl := by
  intro ω h
  have h6 : zn σ ≤ 6 := h.1.2.2.2.2.1
  refine yr_aald4 (n := 6) (j := o) hd h.1.2.2.1 (by rw [hx]; exact nI_pos (by omega)) (by rw [hx]; exact nI_clamp (by omega)) (by omega) ?_
  rw [h.2.2.2.2.2.2.2.2.1 o (by omega), if_pos ho]
  exact k ω h
theorem zr_thlen (hd : decode (yMb i) pc = .ok (.arraylength, 1)) (k : yWP G i Qf sh0 (pc + 1) ls (yi (nI 6) :: st) (zC σ μ) cs sl) : yWP G i Qf sh0 pc ls (yr 1 :: st) (zC σ μ) cs sl := by
  intro ω h
  exact yr_alen (tc := 3) hd (by omega) h.1.2.1 (k ω h)
end ZY
def ztat (x : Int32) : Option Nat := if ¬ x < 0 ∧ x < 6 then some x.toNatClampNeg else none
def zpat (n : Nat) (x : Int32) : Option Nat := if ¬ x < 0 ∧ x < nI n then some x.toNatClampNeg else none
theorem zpat_lt {n : Nat} {x : Int32} {o : Nat} (hn : n < 2 ^ 31) (h : zpat n x = some o) : o < n ∧ x = nI o := by
  unfold zpat at h
  split at h
  · rename_i hc
    obtain ⟨q, hq, hx⟩ := nI_of hc.1
    rw [hx, nI_clamp hq] at h
    cases h
    have := hc.2
    rw [hx, nI_ltI hq hn] at this
    exact ⟨this, hx⟩
  · cases h
theorem ztat_lt {x : Int32} {t : Nat} (h : ztat x = some t) : t < 6 ∧ x = nI t := zpat_lt (n := 6) (by omega) h
def zisAct (a g : Int32) : Bool := if a = 2 ∨ a = 3 ∨ a = 4 then decide (g = 0 ∨ g = 1) else if a = 9 ∨ a = 10 then decide (¬ g < 1 ∧ ¬ 3 < g) else decide (¬ a < 0 ∧ ¬ 17 ≤ a)
def zisPat (p : Int32) : Bool := decide (¬ p < -1 ∧ ¬ 100 < p)

set_option maxHeartbeats 4000000 in
set_option maxRecDepth 20000 in
theorem c_Y_threadAt {G : yG} {μ : yW} {σ : zS} {x : Int32}  : zCT G m_Y_threadAt [yr 0, yi x] σ μ (fun r σ' => r = some (yo ((ztat x).map (10 + ·))) ∧ σ' = σ) := by
  refine zCT_of (by decide) rfl (ycat_of rfl) (Nat.le_of_ble_eq_true rfl) ?_
  refine zr_iload_n d_Y_threadAt_0 rfl ?_
  refine zr_if_lt (tgt := 10) d_Y_threadAt_1 (by decide) (fun c1 => ?_) (fun c1 => ?_)
  · skip
    refine zr_null d_Y_threadAt_10 ?_
    refine zr_goto (tgt := 20) d_Y_threadAt_11 (by decide) ?_
    refine zr_reta d_Y_threadAt_20 rfl (Or.inl ⟨_, rfl⟩) (by decide) (by decide) ?_
    refine ⟨?_, rfl⟩
    unfold ztat
    first
      | (simp [c1]; done)
      | (simp [c1, c7]; done)
      | (rw [if_pos ⟨c1, c7⟩, hx, nI_clamp hq]; rfl)
  · skip
    refine zr_iload_n d_Y_threadAt_4 rfl ?_
    refine zr_bipush (v := 6) d_Y_threadAt_5 (by decide) ?_
    refine zr_icmp_lt (tgt := 14) d_Y_threadAt_7 (by decide) (fun c7 => ?_) (fun c7 => ?_)
    · skip
      refine zr_aload_n d_Y_threadAt_14 rfl ?_
      refine zr_ythr d_Y_threadAt_15 sf_Y_threadAt_15 ?_
      refine zr_iload_n d_Y_threadAt_18 rfl ?_
      obtain ⟨q, hq, hx⟩ := nI_of c1
      have hq6 : q < 6 := by
        rw [hx, show (6 : Int32) = nI 6 from rfl, nI_ltI hq (by omega)] at c7
        exact c7
      refine zr_thld d_Y_threadAt_19 hx hq6 ?_
      refine zr_reta d_Y_threadAt_20 rfl (Or.inl ⟨_, rfl⟩) (by decide) (by decide) ?_
      refine ⟨?_, rfl⟩
      unfold ztat
      first
        | (simp [c1]; done)
        | (simp [c1, c7]; done)
        | (rw [if_pos ⟨c1, c7⟩, hx, nI_clamp hq]; rfl)
    · skip
      refine zr_null d_Y_threadAt_10 ?_
      refine zr_goto (tgt := 20) d_Y_threadAt_11 (by decide) ?_
      refine zr_reta d_Y_threadAt_20 rfl (Or.inl ⟨_, rfl⟩) (by decide) (by decide) ?_
      refine ⟨?_, rfl⟩
      unfold ztat
      first
        | (simp [c1]; done)
        | (simp [c1, c7]; done)
        | (rw [if_pos ⟨c1, c7⟩, hx, nI_clamp hq]; rfl)

set_option maxHeartbeats 4000000 in
set_option maxRecDepth 20000 in
theorem c_Y_placeAt {G : yG} {μ : yW} {σ : zS} {x : Int32}  : zCT G m_Y_placeAt [yr 0, yi x] σ μ (fun r σ' => r = some (yo ((zpat (zn σ) x).map kP)) ∧ σ' = σ) := by
  refine zCT_of (by decide) rfl (ycat_of rfl) (Nat.le_of_ble_eq_true rfl) ?_
  refine zr_iload_n d_Y_placeAt_0 rfl ?_
  refine zr_if_lt (tgt := 12) d_Y_placeAt_1 (by decide) (fun c1 => ?_) (fun c1 => ?_)
  · skip
    refine zr_null d_Y_placeAt_12 ?_
    refine zr_goto (tgt := 22) d_Y_placeAt_13 (by decide) ?_
    refine zr_reta d_Y_placeAt_22 rfl (Or.inl ⟨_, rfl⟩) (by decide) (by decide) ?_
    refine ⟨?_, rfl⟩
    unfold zpat
    first
      | (simp [c1]; done)
      | (simp [c1, c9]; done)
      | (rw [if_pos ⟨c1, c9⟩, hx, nI_clamp hq]; rfl)
  · skip
    refine zr_iload_n d_Y_placeAt_4 rfl ?_
    refine zr_aload_n d_Y_placeAt_5 rfl ?_
    refine zr_ycnt d_Y_placeAt_6 sf_Y_placeAt_6 ?_
    refine zr_icmp_lt (tgt := 16) d_Y_placeAt_9 (by decide) (fun c9 => ?_) (fun c9 => ?_)
    · skip
      refine zr_aload_n d_Y_placeAt_16 rfl ?_
      refine zr_ypls d_Y_placeAt_17 sf_Y_placeAt_17 ?_
      refine zr_iload_n d_Y_placeAt_20 rfl ?_
      refine yWP_use (fun ω h => h.1.2.2.2.2.1) (fun h6 => ?_)
      obtain ⟨q, hq, hx⟩ := nI_of c1
      have hqn : q < zn σ := by
        rw [hx, nI_ltI hq (by omega)] at c9
        exact c9
      refine zr_plld d_Y_placeAt_21 hx hqn ?_
      refine zr_reta d_Y_placeAt_22 rfl (Or.inl ⟨_, rfl⟩) (by decide) (by decide) ?_
      refine ⟨?_, rfl⟩
      unfold zpat
      first
        | (simp [c1]; done)
        | (simp [c1, c9]; done)
        | (rw [if_pos ⟨c1, c9⟩, hx, nI_clamp hq]; rfl)
    · skip
      refine zr_null d_Y_placeAt_12 ?_
      refine zr_goto (tgt := 22) d_Y_placeAt_13 (by decide) ?_
      refine zr_reta d_Y_placeAt_22 rfl (Or.inl ⟨_, rfl⟩) (by decide) (by decide) ?_
      refine ⟨?_, rfl⟩
      unfold zpat
      first
        | (simp [c1]; done)
        | (simp [c1, c9]; done)
        | (rw [if_pos ⟨c1, c9⟩, hx, nI_clamp hq]; rfl)

set_option maxHeartbeats 4000000 in
set_option maxRecDepth 20000 in
theorem c_Y_isAct {G : yG} {μ : yW} {σ : zS} {a g : Int32}  : zCT G m_Y_isAct [yi a, yi g] σ μ (fun r σ' => r = some (yi (zb (zisAct a g))) ∧ σ' = σ) := by
  refine zCT_of (by decide) rfl (ycat_of rfl) (Nat.le_of_ble_eq_true rfl) ?_
  refine zr_iload_n d_Y_isAct_0 rfl ?_
  by_cases s2 : a = 2
  · refine zr_tcase d_Y_isAct_1 2 s2 (by decide) (by decide) rfl (tgt := 52) (by decide) ?_
    refine zr_iload_n d_Y_isAct_52 rfl ?_
    refine zr_if_eq (tgt := 61) d_Y_isAct_53 (by decide) (fun c53 => ?_) (fun c53 => ?_)
    · skip
      refine zr_iconst (v := 1) d_Y_isAct_61 (by decide) ?_
      refine zr_goto (tgt := 66) d_Y_isAct_62 (by decide) ?_
      refine zr_retz d_Y_isAct_66 rfl rfl (by decide) (by decide) ?_
      refine ⟨?_, rfl⟩
      unfold zisAct
      simp_all [zb]
    · skip
      refine zr_iload_n d_Y_isAct_56 rfl ?_
      refine zr_iconst (v := 1) d_Y_isAct_57 (by decide) ?_
      refine zr_icmp_ne (tgt := 65) d_Y_isAct_58 (by decide) (fun c58 => ?_) (fun c58 => ?_)
      · skip
        refine zr_iconst (v := 0) d_Y_isAct_65 (by decide) ?_
        refine zr_retz d_Y_isAct_66 rfl rfl (by decide) (by decide) ?_
        refine ⟨?_, rfl⟩
        unfold zisAct
        simp_all [zb]
      · skip
        refine zr_iconst (v := 1) d_Y_isAct_61 (by decide) ?_
        refine zr_goto (tgt := 66) d_Y_isAct_62 (by decide) ?_
        refine zr_retz d_Y_isAct_66 rfl rfl (by decide) (by decide) ?_
        refine ⟨?_, rfl⟩
        unfold zisAct
        simp_all [zb]
  · skip
    by_cases s3 : a = 3
    · refine zr_tcase d_Y_isAct_1 3 s3 (by decide) (by decide) rfl (tgt := 52) (by decide) ?_
      refine zr_iload_n d_Y_isAct_52 rfl ?_
      refine zr_if_eq (tgt := 61) d_Y_isAct_53 (by decide) (fun c53 => ?_) (fun c53 => ?_)
      · skip
        refine zr_iconst (v := 1) d_Y_isAct_61 (by decide) ?_
        refine zr_goto (tgt := 66) d_Y_isAct_62 (by decide) ?_
        refine zr_retz d_Y_isAct_66 rfl rfl (by decide) (by decide) ?_
        refine ⟨?_, rfl⟩
        unfold zisAct
        simp_all [zb]
      · skip
        refine zr_iload_n d_Y_isAct_56 rfl ?_
        refine zr_iconst (v := 1) d_Y_isAct_57 (by decide) ?_
        refine zr_icmp_ne (tgt := 65) d_Y_isAct_58 (by decide) (fun c58 => ?_) (fun c58 => ?_)
        · skip
          refine zr_iconst (v := 0) d_Y_isAct_65 (by decide) ?_
          refine zr_retz d_Y_isAct_66 rfl rfl (by decide) (by decide) ?_
          refine ⟨?_, rfl⟩
          unfold zisAct
          simp_all [zb]
        · skip
          refine zr_iconst (v := 1) d_Y_isAct_61 (by decide) ?_
          refine zr_goto (tgt := 66) d_Y_isAct_62 (by decide) ?_
          refine zr_retz d_Y_isAct_66 rfl rfl (by decide) (by decide) ?_
          refine ⟨?_, rfl⟩
          unfold zisAct
          simp_all [zb]
    · skip
      by_cases s4 : a = 4
      · refine zr_tcase d_Y_isAct_1 4 s4 (by decide) (by decide) rfl (tgt := 52) (by decide) ?_
        refine zr_iload_n d_Y_isAct_52 rfl ?_
        refine zr_if_eq (tgt := 61) d_Y_isAct_53 (by decide) (fun c53 => ?_) (fun c53 => ?_)
        · skip
          refine zr_iconst (v := 1) d_Y_isAct_61 (by decide) ?_
          refine zr_goto (tgt := 66) d_Y_isAct_62 (by decide) ?_
          refine zr_retz d_Y_isAct_66 rfl rfl (by decide) (by decide) ?_
          refine ⟨?_, rfl⟩
          unfold zisAct
          simp_all [zb]
        · skip
          refine zr_iload_n d_Y_isAct_56 rfl ?_
          refine zr_iconst (v := 1) d_Y_isAct_57 (by decide) ?_
          refine zr_icmp_ne (tgt := 65) d_Y_isAct_58 (by decide) (fun c58 => ?_) (fun c58 => ?_)
          · skip
            refine zr_iconst (v := 0) d_Y_isAct_65 (by decide) ?_
            refine zr_retz d_Y_isAct_66 rfl rfl (by decide) (by decide) ?_
            refine ⟨?_, rfl⟩
            unfold zisAct
            simp_all [zb]
          · skip
            refine zr_iconst (v := 1) d_Y_isAct_61 (by decide) ?_
            refine zr_goto (tgt := 66) d_Y_isAct_62 (by decide) ?_
            refine zr_retz d_Y_isAct_66 rfl rfl (by decide) (by decide) ?_
            refine ⟨?_, rfl⟩
            unfold zisAct
            simp_all [zb]
      · skip
        by_cases s9 : a = 9
        · refine zr_tcase d_Y_isAct_1 9 s9 (by decide) (by decide) rfl (tgt := 67) (by decide) ?_
          refine zr_iload_n d_Y_isAct_67 rfl ?_
          refine zr_iconst (v := 1) d_Y_isAct_68 (by decide) ?_
          refine zr_icmp_lt (tgt := 81) d_Y_isAct_69 (by decide) (fun c69 => ?_) (fun c69 => ?_)
          · skip
            refine zr_iconst (v := 0) d_Y_isAct_81 (by decide) ?_
            refine zr_retz d_Y_isAct_82 rfl rfl (by decide) (by decide) ?_
            refine ⟨?_, rfl⟩
            unfold zisAct
            simp_all [zb]
          · skip
            refine zr_iload_n d_Y_isAct_72 rfl ?_
            refine zr_iconst (v := 3) d_Y_isAct_73 (by decide) ?_
            refine zr_icmp_gt (tgt := 81) d_Y_isAct_74 (by decide) (fun c74 => ?_) (fun c74 => ?_)
            · skip
              refine zr_iconst (v := 0) d_Y_isAct_81 (by decide) ?_
              refine zr_retz d_Y_isAct_82 rfl rfl (by decide) (by decide) ?_
              refine ⟨?_, rfl⟩
              unfold zisAct
              simp_all [zb]
            · skip
              refine zr_iconst (v := 1) d_Y_isAct_77 (by decide) ?_
              refine zr_goto (tgt := 82) d_Y_isAct_78 (by decide) ?_
              refine zr_retz d_Y_isAct_82 rfl rfl (by decide) (by decide) ?_
              refine ⟨?_, rfl⟩
              unfold zisAct
              simp_all [zb]
        · skip
          by_cases s10 : a = 10
          · refine zr_tcase d_Y_isAct_1 10 s10 (by decide) (by decide) rfl (tgt := 67) (by decide) ?_
            refine zr_iload_n d_Y_isAct_67 rfl ?_
            refine zr_iconst (v := 1) d_Y_isAct_68 (by decide) ?_
            refine zr_icmp_lt (tgt := 81) d_Y_isAct_69 (by decide) (fun c69 => ?_) (fun c69 => ?_)
            · skip
              refine zr_iconst (v := 0) d_Y_isAct_81 (by decide) ?_
              refine zr_retz d_Y_isAct_82 rfl rfl (by decide) (by decide) ?_
              refine ⟨?_, rfl⟩
              unfold zisAct
              simp_all [zb]
            · skip
              refine zr_iload_n d_Y_isAct_72 rfl ?_
              refine zr_iconst (v := 3) d_Y_isAct_73 (by decide) ?_
              refine zr_icmp_gt (tgt := 81) d_Y_isAct_74 (by decide) (fun c74 => ?_) (fun c74 => ?_)
              · skip
                refine zr_iconst (v := 0) d_Y_isAct_81 (by decide) ?_
                refine zr_retz d_Y_isAct_82 rfl rfl (by decide) (by decide) ?_
                refine ⟨?_, rfl⟩
                unfold zisAct
                simp_all [zb]
              · skip
                refine zr_iconst (v := 1) d_Y_isAct_77 (by decide) ?_
                refine zr_goto (tgt := 82) d_Y_isAct_78 (by decide) ?_
                refine zr_retz d_Y_isAct_82 rfl rfl (by decide) (by decide) ?_
                refine ⟨?_, rfl⟩
                unfold zisAct
                simp_all [zb]
          · skip
            by_cases s5 : a = 5
            · refine zr_tcase d_Y_isAct_1 5 s5 (by decide) (by decide) rfl (tgt := 83) (by decide) ?_
              refine zr_iload_n d_Y_isAct_83 rfl ?_
              refine zr_if_lt (tgt := 99) d_Y_isAct_84 (by decide) (fun c84 => ?_) (fun c84 => ?_)
              · skip
                refine zr_iconst (v := 0) d_Y_isAct_99 (by decide) ?_
                refine zr_retz d_Y_isAct_100 rfl rfl (by decide) (by decide) ?_
                refine ⟨?_, rfl⟩
                unfold zisAct
                simp_all [zb]
              · skip
                refine zr_iload_n d_Y_isAct_87 rfl ?_
                refine zr_gslen d_Y_isAct_88 d_Y_isAct_91 (by decide +kernel) ?_
                refine zr_icmp_ge (tgt := 99) d_Y_isAct_92 (by decide) (fun c92 => ?_) (fun c92 => ?_)
                · skip
                  refine zr_iconst (v := 0) d_Y_isAct_99 (by decide) ?_
                  refine zr_retz d_Y_isAct_100 rfl rfl (by decide) (by decide) ?_
                  refine ⟨?_, rfl⟩
                  unfold zisAct
                  simp_all [zb]
                · skip
                  refine zr_iconst (v := 1) d_Y_isAct_95 (by decide) ?_
                  refine zr_goto (tgt := 100) d_Y_isAct_96 (by decide) ?_
                  refine zr_retz d_Y_isAct_100 rfl rfl (by decide) (by decide) ?_
                  refine ⟨?_, rfl⟩
                  unfold zisAct
                  simp_all [zb]
            · by_cases s6 : a = 6
              · refine zr_tcase d_Y_isAct_1 6 s6 (by decide) (by decide) rfl (tgt := 83) (by decide) ?_
                refine zr_iload_n d_Y_isAct_83 rfl ?_
                refine zr_if_lt (tgt := 99) d_Y_isAct_84 (by decide) (fun c84 => ?_) (fun c84 => ?_)
                · skip
                  refine zr_iconst (v := 0) d_Y_isAct_99 (by decide) ?_
                  refine zr_retz d_Y_isAct_100 rfl rfl (by decide) (by decide) ?_
                  refine ⟨?_, rfl⟩
                  unfold zisAct
                  simp_all [zb]
                · skip
                  refine zr_iload_n d_Y_isAct_87 rfl ?_
                  refine zr_gslen d_Y_isAct_88 d_Y_isAct_91 (by decide +kernel) ?_
                  refine zr_icmp_ge (tgt := 99) d_Y_isAct_92 (by decide) (fun c92 => ?_) (fun c92 => ?_)
                  · skip
                    refine zr_iconst (v := 0) d_Y_isAct_99 (by decide) ?_
                    refine zr_retz d_Y_isAct_100 rfl rfl (by decide) (by decide) ?_
                    refine ⟨?_, rfl⟩
                    unfold zisAct
                    simp_all [zb]
                  · skip
                    refine zr_iconst (v := 1) d_Y_isAct_95 (by decide) ?_
                    refine zr_goto (tgt := 100) d_Y_isAct_96 (by decide) ?_
                    refine zr_retz d_Y_isAct_100 rfl rfl (by decide) (by decide) ?_
                    refine ⟨?_, rfl⟩
                    unfold zisAct
                    simp_all [zb]
              · by_cases s7 : a = 7
                · refine zr_tcase d_Y_isAct_1 7 s7 (by decide) (by decide) rfl (tgt := 83) (by decide) ?_
                  refine zr_iload_n d_Y_isAct_83 rfl ?_
                  refine zr_if_lt (tgt := 99) d_Y_isAct_84 (by decide) (fun c84 => ?_) (fun c84 => ?_)
                  · skip
                    refine zr_iconst (v := 0) d_Y_isAct_99 (by decide) ?_
                    refine zr_retz d_Y_isAct_100 rfl rfl (by decide) (by decide) ?_
                    refine ⟨?_, rfl⟩
                    unfold zisAct
                    simp_all [zb]
                  · skip
                    refine zr_iload_n d_Y_isAct_87 rfl ?_
                    refine zr_gslen d_Y_isAct_88 d_Y_isAct_91 (by decide +kernel) ?_
                    refine zr_icmp_ge (tgt := 99) d_Y_isAct_92 (by decide) (fun c92 => ?_) (fun c92 => ?_)
                    · skip
                      refine zr_iconst (v := 0) d_Y_isAct_99 (by decide) ?_
                      refine zr_retz d_Y_isAct_100 rfl rfl (by decide) (by decide) ?_
                      refine ⟨?_, rfl⟩
                      unfold zisAct
                      simp_all [zb]
                    · skip
                      refine zr_iconst (v := 1) d_Y_isAct_95 (by decide) ?_
                      refine zr_goto (tgt := 100) d_Y_isAct_96 (by decide) ?_
                      refine zr_retz d_Y_isAct_100 rfl rfl (by decide) (by decide) ?_
                      refine ⟨?_, rfl⟩
                      unfold zisAct
                      simp_all [zb]
                · by_cases s8 : a = 8
                  · refine zr_tcase d_Y_isAct_1 8 s8 (by decide) (by decide) rfl (tgt := 83) (by decide) ?_
                    refine zr_iload_n d_Y_isAct_83 rfl ?_
                    refine zr_if_lt (tgt := 99) d_Y_isAct_84 (by decide) (fun c84 => ?_) (fun c84 => ?_)
                    · skip
                      refine zr_iconst (v := 0) d_Y_isAct_99 (by decide) ?_
                      refine zr_retz d_Y_isAct_100 rfl rfl (by decide) (by decide) ?_
                      refine ⟨?_, rfl⟩
                      unfold zisAct
                      simp_all [zb]
                    · skip
                      refine zr_iload_n d_Y_isAct_87 rfl ?_
                      refine zr_gslen d_Y_isAct_88 d_Y_isAct_91 (by decide +kernel) ?_
                      refine zr_icmp_ge (tgt := 99) d_Y_isAct_92 (by decide) (fun c92 => ?_) (fun c92 => ?_)
                      · skip
                        refine zr_iconst (v := 0) d_Y_isAct_99 (by decide) ?_
                        refine zr_retz d_Y_isAct_100 rfl rfl (by decide) (by decide) ?_
                        refine ⟨?_, rfl⟩
                        unfold zisAct
                        simp_all [zb]
                      · skip
                        refine zr_iconst (v := 1) d_Y_isAct_95 (by decide) ?_
                        refine zr_goto (tgt := 100) d_Y_isAct_96 (by decide) ?_
                        refine zr_retz d_Y_isAct_100 rfl rfl (by decide) (by decide) ?_
                        refine ⟨?_, rfl⟩
                        unfold zisAct
                        simp_all [zb]
                  · refine zr_tdef d_Y_isAct_1 (by have q2 := lv_neT s2 (a := 2) (by decide); have q3 := lv_neT s3 (a := 3) (by decide); have q4 := lv_neT s4 (a := 4) (by decide); have q5 := lv_neT s5 (a := 5) (by decide); have q6 := lv_neT s6 (a := 6) (by decide); have q7 := lv_neT s7 (a := 7) (by decide); have q8 := lv_neT s8 (a := 8) (by decide); have q9 := lv_neT s9 (a := 9) (by decide); have q10 := lv_neT s10 (a := 10) (by decide); omega) (tgt := 83) (by decide) ?_
                    refine zr_iload_n d_Y_isAct_83 rfl ?_
                    refine zr_if_lt (tgt := 99) d_Y_isAct_84 (by decide) (fun c84 => ?_) (fun c84 => ?_)
                    · skip
                      refine zr_iconst (v := 0) d_Y_isAct_99 (by decide) ?_
                      refine zr_retz d_Y_isAct_100 rfl rfl (by decide) (by decide) ?_
                      refine ⟨?_, rfl⟩
                      unfold zisAct
                      simp_all [zb]
                    · skip
                      refine zr_iload_n d_Y_isAct_87 rfl ?_
                      refine zr_gslen d_Y_isAct_88 d_Y_isAct_91 (by decide +kernel) ?_
                      refine zr_icmp_ge (tgt := 99) d_Y_isAct_92 (by decide) (fun c92 => ?_) (fun c92 => ?_)
                      · skip
                        refine zr_iconst (v := 0) d_Y_isAct_99 (by decide) ?_
                        refine zr_retz d_Y_isAct_100 rfl rfl (by decide) (by decide) ?_
                        refine ⟨?_, rfl⟩
                        unfold zisAct
                        simp_all [zb]
                      · skip
                        refine zr_iconst (v := 1) d_Y_isAct_95 (by decide) ?_
                        refine zr_goto (tgt := 100) d_Y_isAct_96 (by decide) ?_
                        refine zr_retz d_Y_isAct_100 rfl rfl (by decide) (by decide) ?_
                        refine ⟨?_, rfl⟩
                        unfold zisAct
                        simp_all [zb]

set_option maxHeartbeats 4000000 in
set_option maxRecDepth 20000 in
theorem c_Y_isPatience {G : yG} {μ : yW} {σ : zS} {p : Int32}  : zCT G m_Y_isPatience [yi p] σ μ (fun r σ' => r = some (yi (zb (zisPat p))) ∧ σ' = σ) := by
  refine zCT_of (by decide) rfl (ycat_of rfl) (Nat.le_of_ble_eq_true rfl) ?_
  refine zr_iload_n d_Y_isPatience_0 rfl ?_
  refine zr_iconst (v := -1) d_Y_isPatience_1 (by decide) ?_
  refine zr_icmp_lt (tgt := 15) d_Y_isPatience_2 (by decide) (fun c2 => ?_) (fun c2 => ?_)
  · skip
    refine zr_iconst (v := 0) d_Y_isPatience_15 (by decide) ?_
    refine zr_retz d_Y_isPatience_16 rfl rfl (by decide) (by decide) ?_
    refine ⟨?_, rfl⟩
    unfold zisPat
    simp_all [zb]
  · skip
    refine zr_iload_n d_Y_isPatience_5 rfl ?_
    refine zr_bipush (v := 100) d_Y_isPatience_6 (by decide) ?_
    refine zr_icmp_gt (tgt := 15) d_Y_isPatience_8 (by decide) (fun c8 => ?_) (fun c8 => ?_)
    · skip
      refine zr_iconst (v := 0) d_Y_isPatience_15 (by decide) ?_
      refine zr_retz d_Y_isPatience_16 rfl rfl (by decide) (by decide) ?_
      refine ⟨?_, rfl⟩
      unfold zisPat
      simp_all [zb]
    · skip
      refine zr_iconst (v := 1) d_Y_isPatience_11 (by decide) ?_
      refine zr_goto (tgt := 16) d_Y_isPatience_12 (by decide) ?_
      refine zr_retz d_Y_isPatience_16 rfl rfl (by decide) (by decide) ?_
      refine ⟨?_, rfl⟩
      unfold zisPat
      simp_all [zb]

def zsum (f : Nat → Int32) : Nat → Int32
  | 0 => 0
  | n + 1 => zsum f n + f n
def zcnt (f : Nat → Bool) : Nat → Int32
  | 0 => 0
  | n + 1 => if f n = true then zcnt f n + 1 else zcnt f n

set_option maxHeartbeats 4000000 in
set_option maxRecDepth 20000 in
theorem c_Y_actsEnded_loop {G : yG} {μ : yW} {σ : zS} {h : Nat} (hh : h < 5) : ∀ (m q : Nat) (x : Option yV), m + q = 6 → yWP G m_Y_actsEnded (zQ G m_Y_actsEnded μ (fun r σ' => r = some (yi (zsum (fun t => zen σ t h) 6)) ∧ σ' = σ)) μ.1 14 [some (yr 0), some (yi (nI h)), some (yi (zsum (fun t => zen σ t h) q)), some (yr 1), some (yi (nI 6)), some (yi (nI q)), x] [] (zC σ μ) 0 0 := by
  intro m
  induction m with
  | zero =>
    intro q x hm
    have hq : q = 6 := by omega
    subst hq
    refine zr_iload d_Y_actsEnded_14 rfl ?_
    refine zr_iload d_Y_actsEnded_16 rfl ?_
    refine zr_icmp_ge (tgt := 43) d_Y_actsEnded_18 (by decide) (fun c18 => ?_) (fun c18 => absurd (by decide) c18)
    refine zr_iload_n d_Y_actsEnded_43 rfl ?_
    exact zr_reti d_Y_actsEnded_44 rfl (by decide) (by decide) ⟨rfl, rfl⟩
  | succ m ih =>
    intro q x hm
    have ht : q < 6 := by omega
    refine zr_iload d_Y_actsEnded_14 rfl ?_
    refine zr_iload d_Y_actsEnded_16 rfl ?_
    refine zr_icmp_ge (tgt := 43) d_Y_actsEnded_18 (by decide) (fun c18 => absurd c18 (nI_ge ht (by omega))) (fun c18 => ?_)
    refine zr_aload_n d_Y_actsEnded_21 rfl ?_
    refine zr_iload d_Y_actsEnded_22 rfl ?_
    refine zr_thld d_Y_actsEnded_24 rfl ht ?_
    refine zr_astore d_Y_actsEnded_25 (by decide) rfl ?_
    refine zr_iload_n d_Y_actsEnded_27 rfl ?_
    refine zr_aload d_Y_actsEnded_28 rfl ?_
    refine zr_tended d_Y_actsEnded_30 (by first | assumption | omega) sf_Y_actsEnded_30 ?_
    refine zr_iload_n d_Y_actsEnded_33 rfl ?_
    refine zr_eld d_Y_actsEnded_34 ht rfl hh ?_
    refine zr_iadd d_Y_actsEnded_35 ?_
    refine zr_istore_n d_Y_actsEnded_36 (by decide) rfl ?_
    refine zr_iinc (v := nI (q + 1)) d_Y_actsEnded_37 rfl (nI_1 q) (by decide) rfl ?_
    refine zr_goto (tgt := 14) d_Y_actsEnded_40 (by decide) ?_
    exact ih (q + 1) _ (by omega)

set_option maxHeartbeats 4000000 in
set_option maxRecDepth 20000 in
theorem c_Y_actsEnded {G : yG} {μ : yW} {σ : zS} {h : Nat} (hh : h < 5)  : zCT G m_Y_actsEnded [yr 0, yi (nI h)] σ μ (fun r σ' => r = some (yi (zsum (fun t => zen σ t h) 6)) ∧ σ' = σ) := by
  refine zCT_of (by decide) rfl (ycat_of rfl) (Nat.le_of_ble_eq_true rfl) ?_
  refine zr_iconst (v := 0) d_Y_actsEnded_0 (by decide) ?_
  refine zr_istore_n d_Y_actsEnded_1 (by decide) rfl ?_
  refine zr_aload_n d_Y_actsEnded_2 rfl ?_
  refine zr_ythr d_Y_actsEnded_3 sf_Y_actsEnded_3 ?_
  refine zr_astore_n d_Y_actsEnded_6 (by decide) rfl ?_
  refine zr_aload_n d_Y_actsEnded_7 rfl ?_
  refine zr_thlen d_Y_actsEnded_8 ?_
  refine zr_istore d_Y_actsEnded_9 (by decide) rfl ?_
  refine zr_iconst (v := 0) d_Y_actsEnded_11 (by decide) ?_
  refine zr_istore d_Y_actsEnded_12 (by decide) rfl ?_
  exact c_Y_actsEnded_loop hh 6 0 _ rfl

set_option maxHeartbeats 4000000 in
set_option maxRecDepth 20000 in
theorem c_Y_runningThreads_loop {G : yG} {μ : yW} {σ : zS}  : ∀ (m q : Nat) (x : Option yV), m + q = 6 → yWP G m_Y_runningThreads (zQ G m_Y_runningThreads μ (fun r σ' => r = some (yi (zcnt (fun t => decide (zth σ 2 t = 0)) 6)) ∧ σ' = σ)) μ.1 13 [some (yr 0), some (yi (zcnt (fun t => decide (zth σ 2 t = 0)) q)), some (yr 1), some (yi (nI 6)), some (yi (nI q)), x] [] (zC σ μ) 0 0 := by
  intro m
  induction m with
  | zero =>
    intro q x hm
    have hq : q = 6 := by omega
    subst hq
    refine zr_iload d_Y_runningThreads_13 rfl ?_
    refine zr_iload_n d_Y_runningThreads_15 rfl ?_
    refine zr_icmp_ge (tgt := 42) d_Y_runningThreads_16 (by decide) (fun c18 => ?_) (fun c18 => absurd (by decide) c18)
    refine zr_iload_n d_Y_runningThreads_42 rfl ?_
    exact zr_reti d_Y_runningThreads_43 rfl (by decide) (by decide) ⟨rfl, rfl⟩
  | succ m ih =>
    intro q x hm
    have ht : q < 6 := by omega
    refine zr_iload d_Y_runningThreads_13 rfl ?_
    refine zr_iload_n d_Y_runningThreads_15 rfl ?_
    refine zr_icmp_ge (tgt := 42) d_Y_runningThreads_16 (by decide) (fun c18 => absurd c18 (nI_ge ht (by omega))) (fun c18 => ?_)
    refine zr_aload_n d_Y_runningThreads_19 rfl ?_
    refine zr_iload d_Y_runningThreads_20 rfl ?_
    refine zr_thld d_Y_runningThreads_22 rfl ht ?_
    refine zr_astore d_Y_runningThreads_23 (by decide) rfl ?_
    refine zr_aload d_Y_runningThreads_25 rfl ?_
    refine zr_tgeti d_Y_runningThreads_27 (by first | assumption | omega) sf_Y_runningThreads_27 rfl rfl ?_
    refine zr_if_ne (tgt := 36) d_Y_runningThreads_30 (by decide) (fun c30 => ?_) (fun c30 => ?_)
    · skip
      refine zr_iinc (v := nI (q + 1)) d_Y_runningThreads_36 rfl (nI_1 q) (by decide) rfl ?_
      refine zr_goto (tgt := 13) d_Y_runningThreads_39 (by decide) ?_
      have k := ih (q + 1) (some (yr (10 + q))) (by omega)
      have e1 : zcnt (fun t => decide (zth σ 2 t = 0)) (q + 1) = (if zth σ 2 q = 0 then zcnt (fun t => decide (zth σ 2 t = 0)) q + 1 else zcnt (fun t => decide (zth σ 2 t = 0)) q) := by simp [zcnt]
      rw [e1] at k
      first
        | (rw [if_pos c30] at k; exact k)
        | (rw [if_neg c30] at k; exact k)
    · skip
      refine zr_iinc d_Y_runningThreads_33 rfl rfl (by decide) rfl ?_
      refine zr_iinc (v := nI (q + 1)) d_Y_runningThreads_36 rfl (nI_1 q) (by decide) rfl ?_
      refine zr_goto (tgt := 13) d_Y_runningThreads_39 (by decide) ?_
      have k := ih (q + 1) (some (yr (10 + q))) (by omega)
      have e1 : zcnt (fun t => decide (zth σ 2 t = 0)) (q + 1) = (if zth σ 2 q = 0 then zcnt (fun t => decide (zth σ 2 t = 0)) q + 1 else zcnt (fun t => decide (zth σ 2 t = 0)) q) := by simp [zcnt]
      rw [e1] at k
      first
        | (rw [if_pos c30] at k; exact k)
        | (rw [if_neg c30] at k; exact k)

set_option maxHeartbeats 4000000 in
set_option maxRecDepth 20000 in
theorem c_Y_runningThreads {G : yG} {μ : yW} {σ : zS}  : zCT G m_Y_runningThreads [yr 0] σ μ (fun r σ' => r = some (yi (zcnt (fun t => decide (zth σ 2 t = 0)) 6)) ∧ σ' = σ) := by
  refine zCT_of (by decide) rfl (ycat_of rfl) (Nat.le_of_ble_eq_true rfl) ?_
  refine zr_iconst (v := 0) d_Y_runningThreads_0 (by decide) ?_
  refine zr_istore_n d_Y_runningThreads_1 (by decide) rfl ?_
  refine zr_aload_n d_Y_runningThreads_2 rfl ?_
  refine zr_ythr d_Y_runningThreads_3 sf_Y_runningThreads_3 ?_
  refine zr_astore_n d_Y_runningThreads_6 (by decide) rfl ?_
  refine zr_aload_n d_Y_runningThreads_7 rfl ?_
  refine zr_thlen d_Y_runningThreads_8 ?_
  refine zr_istore_n d_Y_runningThreads_9 (by decide) rfl ?_
  refine zr_iconst (v := 0) d_Y_runningThreads_10 (by decide) ?_
  refine zr_istore d_Y_runningThreads_11 (by decide) rfl ?_
  exact c_Y_runningThreads_loop 6 0 _ rfl

def zcount (σ : zS) (x : Int32) : Int32 := if x = 0 then nI (zn σ) else if x = 1 then zsum (fun t => zen σ t 0) 6 else if x = 2 then zsum (fun t => zen σ t 2) 6 else if x = 3 then zsum (fun t => zen σ t 3) 6 else if x = 4 then zsum (fun t => zen σ t 4) 6 else if x = 5 then ztk σ else if x = 6 then zcnt (fun t => decide (zth σ 2 t = 0)) 6 else -1

set_option maxHeartbeats 4000000 in
set_option maxRecDepth 20000 in
theorem c_Y_count {G : yG} {μ : yW} {σ : zS} {x : Int32}  : zCT G m_Y_count [yr 0, yi x] σ μ (fun r σ' => r = some (yi (zcount σ x)) ∧ σ' = σ) := by
  refine zCT_of (by decide) rfl (ycat_of rfl) (Nat.le_of_ble_eq_true rfl) ?_
  refine zr_iload_n d_Y_count_0 rfl ?_
  by_cases s0 : x = 0
  · refine zr_tcase d_Y_count_1 0 s0 (by decide) (by decide) rfl (tgt := 44) (by decide) ?_
    refine zr_aload_n d_Y_count_44 rfl ?_
    refine zr_ycnt d_Y_count_45 sf_Y_count_45 ?_
    refine zr_reti d_Y_count_48 rfl (by decide) (by decide) ?_
    refine ⟨?_, rfl⟩
    simp only [zcount, *]
    first | rfl | (simp; done) | (simp; rfl)
  · skip
    by_cases s1 : x = 1
    · refine zr_tcase d_Y_count_1 1 s1 (by decide) (by decide) rfl (tgt := 49) (by decide) ?_
      refine zr_aload_n d_Y_count_49 rfl ?_
      refine zr_iconst (v := 0) d_Y_count_50 (by decide) ?_
      refine zr_call (zrunV (As := [yi 0]) (rest := []) d_Y_count_51 (fun ω h => h.1.1) rfl (c_Y_actsEnded (h := 0) (by omega)) 1 rfl (by decide +kernel) cw_Y_actsEnded (Nat.le_of_ble_eq_true rfl) (ycat_of rfl) (by decide) (by decide)) (fun r σ9 hp => ?_)
      obtain ⟨rfl, rfl⟩ := hp
      refine zr_reti d_Y_count_54 rfl (by decide) (by decide) ?_
      refine ⟨?_, rfl⟩
      simp only [zcount, *]
      first | rfl | (simp; done) | (simp; rfl)
    · skip
      by_cases s2 : x = 2
      · refine zr_tcase d_Y_count_1 2 s2 (by decide) (by decide) rfl (tgt := 55) (by decide) ?_
        refine zr_aload_n d_Y_count_55 rfl ?_
        refine zr_iconst (v := 2) d_Y_count_56 (by decide) ?_
        refine zr_call (zrunV (As := [yi 2]) (rest := []) d_Y_count_57 (fun ω h => h.1.1) rfl (c_Y_actsEnded (h := 2) (by omega)) 1 rfl (by decide +kernel) cw_Y_actsEnded (Nat.le_of_ble_eq_true rfl) (ycat_of rfl) (by decide) (by decide)) (fun r σ9 hp => ?_)
        obtain ⟨rfl, rfl⟩ := hp
        refine zr_reti d_Y_count_60 rfl (by decide) (by decide) ?_
        refine ⟨?_, rfl⟩
        simp only [zcount, *]
        first | rfl | (simp; done) | (simp; rfl)
      · skip
        by_cases s3 : x = 3
        · refine zr_tcase d_Y_count_1 3 s3 (by decide) (by decide) rfl (tgt := 61) (by decide) ?_
          refine zr_aload_n d_Y_count_61 rfl ?_
          refine zr_iconst (v := 3) d_Y_count_62 (by decide) ?_
          refine zr_call (zrunV (As := [yi 3]) (rest := []) d_Y_count_63 (fun ω h => h.1.1) rfl (c_Y_actsEnded (h := 3) (by omega)) 1 rfl (by decide +kernel) cw_Y_actsEnded (Nat.le_of_ble_eq_true rfl) (ycat_of rfl) (by decide) (by decide)) (fun r σ9 hp => ?_)
          obtain ⟨rfl, rfl⟩ := hp
          refine zr_reti d_Y_count_66 rfl (by decide) (by decide) ?_
          refine ⟨?_, rfl⟩
          simp only [zcount, *]
          first | rfl | (simp; done) | (simp; rfl)
        · skip
          by_cases s4 : x = 4
          · refine zr_tcase d_Y_count_1 4 s4 (by decide) (by decide) rfl (tgt := 67) (by decide) ?_
            refine zr_aload_n d_Y_count_67 rfl ?_
            refine zr_iconst (v := 4) d_Y_count_68 (by decide) ?_
            refine zr_call (zrunV (As := [yi 4]) (rest := []) d_Y_count_69 (fun ω h => h.1.1) rfl (c_Y_actsEnded (h := 4) (by omega)) 1 rfl (by decide +kernel) cw_Y_actsEnded (Nat.le_of_ble_eq_true rfl) (ycat_of rfl) (by decide) (by decide)) (fun r σ9 hp => ?_)
            obtain ⟨rfl, rfl⟩ := hp
            refine zr_reti d_Y_count_72 rfl (by decide) (by decide) ?_
            refine ⟨?_, rfl⟩
            simp only [zcount, *]
            first | rfl | (simp; done) | (simp; rfl)
          · skip
            by_cases s5 : x = 5
            · refine zr_tcase d_Y_count_1 5 s5 (by decide) (by decide) rfl (tgt := 73) (by decide) ?_
              refine zr_aload_n d_Y_count_73 rfl ?_
              refine zr_ytk d_Y_count_74 sf_Y_count_74 ?_
              refine zr_reti d_Y_count_77 rfl (by decide) (by decide) ?_
              refine ⟨?_, rfl⟩
              simp only [zcount, *]
              first | rfl | (simp; done) | (simp; rfl)
            · skip
              by_cases s6 : x = 6
              · refine zr_tcase d_Y_count_1 6 s6 (by decide) (by decide) rfl (tgt := 78) (by decide) ?_
                refine zr_aload_n d_Y_count_78 rfl ?_
                refine zr_call (zrunV (As := []) (rest := []) d_Y_count_79 (fun ω h => h.1.1) rfl (c_Y_runningThreads) 0 rfl (by decide +kernel) cw_Y_runningThreads (Nat.le_of_ble_eq_true rfl) (ycat_of rfl) (by decide) (by decide)) (fun r σ9 hp => ?_)
                obtain ⟨rfl, rfl⟩ := hp
                refine zr_reti d_Y_count_82 rfl (by decide) (by decide) ?_
                refine ⟨?_, rfl⟩
                simp only [zcount, *]
                first | rfl | (simp; done) | (simp; rfl)
              · skip
                refine zr_tdef d_Y_count_1 (by have q0 := lv_neT s0 (a := 0) (by decide); have q1 := lv_neT s1 (a := 1) (by decide); have q2 := lv_neT s2 (a := 2) (by decide); have q3 := lv_neT s3 (a := 3) (by decide); have q4 := lv_neT s4 (a := 4) (by decide); have q5 := lv_neT s5 (a := 5) (by decide); have q6 := lv_neT s6 (a := 6) (by decide); omega) (tgt := 83) (by decide) ?_
                refine zr_iconst (v := -1) d_Y_count_83 (by decide) ?_
                refine zr_reti d_Y_count_84 rfl (by decide) (by decide) ?_
                refine ⟨?_, rfl⟩
                simp only [zcount, *]
                first | rfl | (simp; done) | (simp; rfl)
end
section
/-! the yard: who leans on whom -/
def zlean (σ : zS) (t : Nat) : Option Nat := if zth σ 2 t = 1 then (match zwh σ t with | some o => zleaned σ o | none => none) else none
theorem zlean_lt {σ : zS} {μ ω : yW} (h : zC σ μ ω) {t u : Nat} (ht : t < 6) (hu : zlean σ t = some u) : u < 6 := by
  unfold zlean at hu
  split at hu
  · cases hw : zwh σ t with
    | none => rw [hw] at hu; cases hu
    | some o =>
      rw [hw] at hu
      have ho : o < zn σ := (h.th ht).2.2.2.2.2 o hw
      have hu2 : zleanedC (zkd σ o) σ o = some u := hu
      unfold zleanedC at hu2
      split at hu2
      · exact (h.pl ho).2.2.2.2.2.2.2.2.2.2 u hu2
      · cases hu2
  · cases hu
def zchase (σ : zS) (t : Nat) : Nat → Option Nat → Option Nat
  | 0, x => x
  | n + 1, x => match x with
    | none => none
    | some u => if u = t then some t else zchase σ t n (zlean σ u)
def zcomes (σ : zS) (t : Nat) : Bool := decide (zchase σ t 5 (zlean σ t) = some t)

set_option maxHeartbeats 4000000 in
set_option maxRecDepth 20000 in
theorem c_T_leansOn {G : yG} {μ : yW} {σ : zS} {t : Nat} (ht : t < 6)  : zCT G m_T_leansOn [yr (10 + t)] σ μ (fun r σ' => r = some (yo ((zlean σ t).map (10 + ·))) ∧ σ' = σ) := by
  refine zCT_of (by decide) rfl (ycat_of rfl) (Nat.le_of_ble_eq_true rfl) ?_
  refine zr_aload_n d_T_leansOn_0 rfl ?_
  refine zr_tgeti d_T_leansOn_1 (by first | assumption | omega) sf_T_leansOn_1 rfl rfl ?_
  refine zr_iconst (v := 1) d_T_leansOn_4 (by decide) ?_
  refine zr_icmp_ne (tgt := 25) d_T_leansOn_5 (by decide) (fun c5 => ?_) (fun c5 => ?_)
  · skip
    refine zr_null d_T_leansOn_25 ?_
    refine zr_reta d_T_leansOn_26 rfl (Or.inl ⟨_, rfl⟩) (by decide) (by decide) ?_
    exact ⟨by simp [zlean, c5], rfl⟩
  · skip
    refine zr_aload_n d_T_leansOn_8 rfl ?_
    refine zr_tplace d_T_leansOn_9 (by first | assumption | omega) sf_T_leansOn_9 ?_
    cases hw : zwh σ t with
    | none =>
      refine zr_ifnull (tgt := 25) d_T_leansOn_12 (by decide) (fun c12 => ?_) (fun a c12 => nomatch c12)
      refine zr_null d_T_leansOn_25 ?_
      exact zr_reta d_T_leansOn_26 rfl (Or.inl ⟨_, rfl⟩) (by decide) (by decide) ⟨by simp [zlean, c5, hw], rfl⟩
    | some o =>
      refine yWP_use (fun ω h => (h.th ht).2.2.2.2.2 o hw) (fun ho => ?_)
      refine zr_ifnull (tgt := 25) d_T_leansOn_12 (by decide) (fun c12 => nomatch c12) (fun a c12 => ?_)
      refine zr_aload_n d_T_leansOn_15 rfl ?_
      refine zr_tplace d_T_leansOn_16 ht sf_T_leansOn_16 ?_
      rw [hw]
      refine zr_callP (sel := sel_leanedOn) (o := o) (As := []) (rest := []) (x := yMy m_P_leanedOn) (owner := "MonitorYard$Place") (priv := false) d_T_leansOn_19 ho (v_leanedOn ho) 0 rfl (by decide +kernel) sel_leanedOn_code (zdecl (i' := m_P_leanedOn) (by decide +kernel) cw_P_leanedOn) (by decide) (Nat.le_of_ble_eq_true rfl) (ycat_of rfl) (by decide) (by decide) (fun r σ9 hp => ?_)
      obtain ⟨rfl, rfl⟩ := hp
      refine zr_goto (tgt := 26) d_T_leansOn_22 (by decide) ?_
      exact zr_reta d_T_leansOn_26 rfl (Or.inl ⟨_, rfl⟩) (by decide) (by decide) ⟨by simp [zlean, c5, hw], rfl⟩

theorem zlive_x {σ : zS} {μ ω : yW} {x : Option Nat} {t : Nat} (h : zC σ μ ω) (hx : ∀ u, x = some u → u < 6) (ht : t < 6) : ∀ a, x.map (10 + ·) = some a ∨ some (10 + t) = some a → ω.1 a ≠ none := by
  intro a ha
  rcases ha with ha | ha
  · cases x with
    | none => cases ha
    | some u =>
      cases ha
      rw [h.sT (hx u rfl)]
      exact fun z => nomatch z
  · cases ha
    rw [h.sT ht]
    exact fun z => nomatch z

set_option maxHeartbeats 4000000 in
set_option maxRecDepth 20000 in
theorem c_Y_comes_loop {G : yG} {μ : yW} {σ : zS} {t : Nat} (ht : t < 6) : ∀ (m q : Nat) (x : Option Nat), m + q = 6 → (∀ u, x = some u → u < 6) → yWP G m_Y_comesBackByLeaning (zQ G m_Y_comesBackByLeaning μ (fun r σ' => r = some (yi (zb (decide (zchase σ t m x = some t)))) ∧ σ' = σ)) μ.1 7 [some (yr (10 + t)), some (yo (x.map (10 + ·))), some (yi (nI q))] [] (zC σ μ) 0 0 := by
  intro m
  induction m with
  | zero =>
    intro q x hm hx
    have hz : zchase σ t 0 x = x := rfl
    refine zr_iload_n d_Y_comesBackByLeaning_7 rfl ?_
    refine zr_bipush (v := 6) d_Y_comesBackByLeaning_8 (by decide) ?_
    refine zr_icmp_ge (tgt := 33) d_Y_comesBackByLeaning_10 (by decide) (fun c10 => ?_) (fun c10 => absurd (show nI 6 ≤ nI q from nI_le (by omega) (by omega)) c10)
    refine zr_aload_n d_Y_comesBackByLeaning_33 rfl ?_
    refine zr_aload_n d_Y_comesBackByLeaning_34 rfl ?_
    refine zr_acmp_ne (tgt := 42) d_Y_comesBackByLeaning_35 (by decide) (fun ω h => zlive_x h hx ht) (fun c35 => ?_) (fun c35 => ?_)
    · refine zr_iconst (v := 0) d_Y_comesBackByLeaning_42 (by decide) ?_
      refine zr_retz d_Y_comesBackByLeaning_43 rfl rfl (by decide) (by decide) ⟨?_, rfl⟩
      rw [zmap_eq] at c35
      first | exact absurd rfl c35 | (rw [hz]; simp [c35, zb])
    · refine zr_iconst (v := 1) d_Y_comesBackByLeaning_38 (by decide) ?_
      refine zr_goto (tgt := 43) d_Y_comesBackByLeaning_39 (by decide) ?_
      refine zr_retz d_Y_comesBackByLeaning_43 rfl rfl (by decide) (by decide) ⟨?_, rfl⟩
      rw [zmap_eq] at c35
      rw [hz]; simp [c35, zb]
  | succ m ih =>
    intro q x hm hx
    refine zr_iload_n d_Y_comesBackByLeaning_7 rfl ?_
    refine zr_bipush (v := 6) d_Y_comesBackByLeaning_8 (by decide) ?_
    refine zr_icmp_ge (tgt := 33) d_Y_comesBackByLeaning_10 (by decide) (fun c10 => absurd c10 (show ¬ nI 6 ≤ nI q from nI_ge (by omega) (by omega))) (fun c10 => ?_)
    refine zr_aload_n d_Y_comesBackByLeaning_13 rfl ?_
    cases hxe : x with
    | none =>
      subst hxe
      have hz : zchase σ t (m + 1) none = none := rfl
      refine zr_ifnull (tgt := 33) d_Y_comesBackByLeaning_14 (by decide) (fun c14 => ?_) (fun a c14 => nomatch c14)
      refine zr_aload_n d_Y_comesBackByLeaning_33 rfl ?_
      refine zr_aload_n d_Y_comesBackByLeaning_34 rfl ?_
      refine zr_acmp_ne (tgt := 42) d_Y_comesBackByLeaning_35 (by decide) (fun ω h => zlive_x h hx ht) (fun c35 => ?_) (fun c35 => ?_)
      · refine zr_iconst (v := 0) d_Y_comesBackByLeaning_42 (by decide) ?_
        refine zr_retz d_Y_comesBackByLeaning_43 rfl rfl (by decide) (by decide) ⟨?_, rfl⟩
        rw [zmap_eq] at c35
        first | exact absurd rfl c35 | (rw [hz]; simp [c35, zb])
      · refine zr_iconst (v := 1) d_Y_comesBackByLeaning_38 (by decide) ?_
        refine zr_goto (tgt := 43) d_Y_comesBackByLeaning_39 (by decide) ?_
        refine zr_retz d_Y_comesBackByLeaning_43 rfl rfl (by decide) (by decide) ⟨?_, rfl⟩
        rw [zmap_eq] at c35
        rw [hz]; simp [c35, zb]
    | some u =>
      subst hxe
      have hu : u < 6 := hx u rfl
      refine zr_ifnull (tgt := 33) d_Y_comesBackByLeaning_14 (by decide) (fun c14 => nomatch c14) (fun a c14 => ?_)
      refine zr_aload_n d_Y_comesBackByLeaning_17 rfl ?_
      refine zr_aload_n d_Y_comesBackByLeaning_18 rfl ?_
      refine zr_acmp_eq (tgt := 33) d_Y_comesBackByLeaning_19 (by decide) (fun ω h => zlive_x (x := some u) h hx ht) (fun c19 => ?_) (fun c19 => ?_)
      · have e9 : u = t := Option.some.inj (zmap_eq.mp c19)
        subst e9
        have hz : zchase σ u (m + 1) (some u) = some u := if_pos rfl
        refine zr_aload_n d_Y_comesBackByLeaning_33 rfl ?_
        refine zr_aload_n d_Y_comesBackByLeaning_34 rfl ?_
        refine zr_acmp_ne (tgt := 42) d_Y_comesBackByLeaning_35 (by decide) (fun ω h => zlive_x h hx ht) (fun c35 => ?_) (fun c35 => ?_)
        · refine zr_iconst (v := 0) d_Y_comesBackByLeaning_42 (by decide) ?_
          refine zr_retz d_Y_comesBackByLeaning_43 rfl rfl (by decide) (by decide) ⟨?_, rfl⟩
          rw [zmap_eq] at c35
          first | exact absurd rfl c35 | (rw [hz]; simp [c35, zb])
        · refine zr_iconst (v := 1) d_Y_comesBackByLeaning_38 (by decide) ?_
          refine zr_goto (tgt := 43) d_Y_comesBackByLeaning_39 (by decide) ?_
          refine zr_retz d_Y_comesBackByLeaning_43 rfl rfl (by decide) (by decide) ⟨?_, rfl⟩
          rw [zmap_eq] at c35
          rw [hz]; simp [c35, zb]
      · have e9 : ¬ u = t := fun z => c19 (zmap_eq.mpr (by rw [z]))
        refine zr_aload_n d_Y_comesBackByLeaning_22 rfl ?_
        refine zr_call (zrunV (As := []) (rest := []) d_Y_comesBackByLeaning_23 (fun ω h => h.sT hu) rfl (c_T_leansOn hu) 0 rfl (by decide +kernel) cw_T_leansOn (Nat.le_of_ble_eq_true rfl) (ycat_of rfl) (by decide) (by decide)) (fun r σ9 hp => ?_)
        obtain ⟨rfl, rfl⟩ := hp
        refine zr_astore_n d_Y_comesBackByLeaning_26 (by decide) rfl ?_
        refine zr_iinc (v := nI (q + 1)) d_Y_comesBackByLeaning_27 rfl (nI_1 q) (by decide) rfl ?_
        refine zr_goto (tgt := 7) d_Y_comesBackByLeaning_30 (by decide) ?_
        have hz : zchase σ9 t (m + 1) (some u) = zchase σ9 t m (zlean σ9 u) := if_neg e9
        rw [hz]
        exact yWP_use (fun ω h => fun w hw => zlean_lt h hu hw) (fun hx2 => ih (q + 1) (zlean σ9 u) (by omega) hx2)

set_option maxHeartbeats 4000000 in
set_option maxRecDepth 20000 in
theorem c_Y_comesBackByLeaning {G : yG} {μ : yW} {σ : zS} {t : Nat} (ht : t < 6)  : zCT G m_Y_comesBackByLeaning [yr (10 + t)] σ μ (fun r σ' => r = some (yi (zb (zcomes σ t))) ∧ σ' = σ) := by
  refine zCT_of (by decide) rfl (ycat_of rfl) (Nat.le_of_ble_eq_true rfl) ?_
  refine zr_aload_n d_Y_comesBackByLeaning_0 rfl ?_
  refine zr_call (zrunV (As := []) (rest := []) d_Y_comesBackByLeaning_1 (fun ω h => h.sT ht) rfl (c_T_leansOn ht) 0 rfl (by decide +kernel) cw_T_leansOn (Nat.le_of_ble_eq_true rfl) (ycat_of rfl) (by decide) (by decide)) (fun r σ9 hp => ?_)
  obtain ⟨rfl, rfl⟩ := hp
  refine zr_astore_n d_Y_comesBackByLeaning_4 (by decide) rfl ?_
  refine zr_iconst (v := 1) d_Y_comesBackByLeaning_5 (by decide) ?_
  refine zr_istore_n d_Y_comesBackByLeaning_6 (by decide) rfl ?_
  exact yWP_use (fun ω h => fun w hw => zlean_lt h ht hw) (fun hx2 => c_Y_comes_loop ht 5 1 (zlean σ9 t) rfl hx2)

set_option maxHeartbeats 4000000 in
set_option maxRecDepth 20000 in
theorem c_Y_stuck_loop {G : yG} {μ : yW} {σ : zS}  : ∀ (m q : Nat) (x : Option yV), m + q = 6 → yWP G m_Y_stuck (zQ G m_Y_stuck μ (fun r σ' => r = some (yi (zcnt (fun t => zcomes σ t) 6)) ∧ σ' = σ)) μ.1 13 [some (yr 0), some (yi (zcnt (fun t => zcomes σ t) q)), some (yr 1), some (yi (nI 6)), some (yi (nI q)), x] [] (zC σ μ) 0 0 := by
  intro m
  induction m with
  | zero =>
    intro q x hm
    have hq : q = 6 := by omega
    subst hq
    refine zr_iload d_Y_stuck_13 rfl ?_
    refine zr_iload_n d_Y_stuck_15 rfl ?_
    refine zr_icmp_ge (tgt := 42) d_Y_stuck_16 (by decide) (fun c18 => ?_) (fun c18 => absurd (by decide) c18)
    refine zr_iload_n d_Y_stuck_42 rfl ?_
    exact zr_reti d_Y_stuck_43 rfl (by decide) (by decide) ⟨rfl, rfl⟩
  | succ m ih =>
    intro q x hm
    have ht : q < 6 := by omega
    refine zr_iload d_Y_stuck_13 rfl ?_
    refine zr_iload_n d_Y_stuck_15 rfl ?_
    refine zr_icmp_ge (tgt := 42) d_Y_stuck_16 (by decide) (fun c18 => absurd c18 (nI_ge ht (by omega))) (fun c18 => ?_)
    refine zr_aload_n d_Y_stuck_19 rfl ?_
    refine zr_iload d_Y_stuck_20 rfl ?_
    refine zr_thld d_Y_stuck_22 rfl ht ?_
    refine zr_astore d_Y_stuck_23 (by decide) rfl ?_
    refine zr_aload d_Y_stuck_25 rfl ?_
    refine zr_call (zrunS (As := [yr (10 + q)]) (rest := []) d_Y_stuck_27 (c_Y_comesBackByLeaning ht) 1 rfl (by decide +kernel) cw_Y_comesBackByLeaning (Nat.le_of_ble_eq_true rfl) (ycat_of rfl) (by decide) (by decide)) (fun r σ9 hp => ?_)
    obtain ⟨rfl, rfl⟩ := hp
    refine zr_if_eq (tgt := 36) d_Y_stuck_30 (by decide) (fun c30 => ?_) (fun c30 => ?_)
    · skip
      refine zr_iinc (v := nI (q + 1)) d_Y_stuck_36 rfl (nI_1 q) (by decide) rfl ?_
      refine zr_goto (tgt := 13) d_Y_stuck_39 (by decide) ?_
      have k := ih (q + 1) (some (yr (10 + q))) (by omega)
      have e1 : zcnt (fun t => zcomes σ9 t) (q + 1) = (if zcomes σ9 q = true then zcnt (fun t => zcomes σ9 t) q + 1 else zcnt (fun t => zcomes σ9 t) q) := rfl
      rw [e1] at k
      first
        | (rw [zb_ne] at c30; rw [if_pos c30] at k; exact k)
        | (rw [zb_eq] at c30; rw [if_neg (by rw [c30]; decide)] at k; exact k)
    · skip
      refine zr_iinc d_Y_stuck_33 rfl rfl (by decide) rfl ?_
      refine zr_iinc (v := nI (q + 1)) d_Y_stuck_36 rfl (nI_1 q) (by decide) rfl ?_
      refine zr_goto (tgt := 13) d_Y_stuck_39 (by decide) ?_
      have k := ih (q + 1) (some (yr (10 + q))) (by omega)
      have e1 : zcnt (fun t => zcomes σ9 t) (q + 1) = (if zcomes σ9 q = true then zcnt (fun t => zcomes σ9 t) q + 1 else zcnt (fun t => zcomes σ9 t) q) := rfl
      rw [e1] at k
      first
        | (rw [zb_ne] at c30; rw [if_pos c30] at k; exact k)
        | (rw [zb_eq] at c30; rw [if_neg (by rw [c30]; decide)] at k; exact k)

set_option maxHeartbeats 4000000 in
set_option maxRecDepth 20000 in
theorem c_Y_stuck {G : yG} {μ : yW} {σ : zS}  : zCT G m_Y_stuck [yr 0] σ μ (fun r σ' => r = some (yi (zcnt (fun t => zcomes σ t) 6)) ∧ σ' = σ) := by
  refine zCT_of (by decide) rfl (ycat_of rfl) (Nat.le_of_ble_eq_true rfl) ?_
  refine zr_iconst (v := 0) d_Y_stuck_0 (by decide) ?_
  refine zr_istore_n d_Y_stuck_1 (by decide) rfl ?_
  refine zr_aload_n d_Y_stuck_2 rfl ?_
  refine zr_ythr d_Y_stuck_3 sf_Y_stuck_3 ?_
  refine zr_astore_n d_Y_stuck_6 (by decide) rfl ?_
  refine zr_aload_n d_Y_stuck_7 rfl ?_
  refine zr_thlen d_Y_stuck_8 ?_
  refine zr_istore_n d_Y_stuck_9 (by decide) rfl ?_
  refine zr_iconst (v := 0) d_Y_stuck_10 (by decide) ?_
  refine zr_istore d_Y_stuck_11 (by decide) rfl ?_
  exact c_Y_stuck_loop 6 0 _ rfl
end
