/-! the small logic: calls and ends -/
theorem yPc_blind {G : yG} {ad : Nat → Nat} {As : List yV} {ω : yW} : FrameBlind (yPc G ad As ω) := by
  intro a U g mk ⟨h1, h2, h3, h4, h5, h6⟩
  exact ⟨h1, h2.warm (U' := U.calling g mk a) (State.WarmedH.refl U), va_K.moved (u := U) (U := U.calling g mk a) (Vm.Alike.refl U.vm) h3, ySt.moved (u := U) (U := U.calling g mk a) (Vm.Alike.refl U.vm) h4, h5, h6⟩
def yck (R : Room) (i' : yM) (n : Nat) : Bool := decide ((yMm i').frames + 1 ≤ R.frames) && decide (8 + (yMl i' + 11) + (yMm i').locals ≤ R.locals) && decide ((yMy i').cls ≠ "java/lang/invoke/MethodHandle") && decide ((yMy i').cls ≠ "java/lang/invoke/VarHandle") && decide ((parseMethodDescriptor (yMy i').desc).map (fun d => d.parameters.length) = some n)
abbrev ycode (i' : yM) : Cond := .code (yMy i') (yMb i') (yMl i') (yMr i')
/-- a callee that throws nothing -/
theorem yMet {l : Launch} {y : MethodName} {ws : List Cond} {rm : Room} {Pc : Array Value → State → Prop} {Qc : Array Value → State → Outcome → State → Prop} {XC : String → State → State → Prop} {mc ms : Nat} {free : Addr → Prop} (h : vx_Met l y ws rm Pc Qc XC mc ms free) (hX : ∀ E s t, ¬ XC E s t) : Met l y ws rm Pc Qc mc ms free := by
  intro p e a1 a2 a3 s m args below b1 b2 b3 b4
  obtain ⟨n, o, c1, c2, c3, c4⟩ := h p e a1 a2 a3 s m args below b1 b2 b3 b4
  refine ⟨n, o, c1, c2, c3, ?_⟩
  rcases c4 with c4 | ⟨q, -, E, ce, L, hx, -⟩
  · exact c4
  · exact absurd hx (hX _ _ _)
theorem yMetN {G : yG} {i : yM} {As : List yV} {ω : yW} {P : Option yV → yW → Prop} (h : yCT G i As ω P yNX) (ad : Nat → Nat) : Met (yGl G) (yMy i) [.code (yMy i) (yMb i) (yMl i) (yMr i)] (yMm i) (yPc G ad As ω) (yQc G ad ω.1 P) (yMm i).cells (yMm i).slots (yA G) :=
  yMet (h ad) (fun _ _ _ ⟨_, _, hx, _⟩ => hx)
theorem yRunN {p : Program} {l : Launch} {e : Env} {R : Room} {s : State} {m : MethodId} {args : Array Value} {below : List Frame} {meth : Method} {c : Code} {H : Heap} {locs : List Loc} {cells slots mc ms : Nat} {g : JFrame} {rest : List Value} {Qa : State → Outcome → State → Prop} {XC : String → State → State → Prop} {free : Addr → Prop} (h : va_Run p l e R s m args below meth c H locs cells slots mc ms g rest Qa free) : vx_Run p l e R s m args below meth c H locs cells slots mc ms g rest Qa XC free :=
  fun T hT X => Or.inl (h T hT X)
section YC
variable {G : yG} {i : yM} {Qf : yQT} {sh0 : Nat → Option ySh} {pc : Nat} {ls : List (Option yV)} {st : List yV} {ω : yW} {cs sl : Nat}
variable {p : Program} {e : Env} {s : State} {m : MethodId} {args : Array Value} {below : List Frame} {meth : Method} {c : Code} {ad : Nat → Nat} {H : Heap} {locs : List Loc} {lsA : Array Slot}
theorem yPc_at {As : List yV} {U : State} (C : yCx G i p s m meth c) (hS : va_S (yA G) s.heap H locs) (hH : yH G ad ω H) (hU : U.heap = H) (hW : s.WarmedH U.vm) : yPc G ad As ω (As.map (ycv ad)).toArray U := by
  obtain ⟨-, -, -, -, -, -, -, hg, hK, hst, hsz, -⟩ := C
  refine ⟨rfl, hg.warm hW, va_K.moved hW.alike hK, ?_, ?_, ?_⟩
  · rw [hU]; exact ySt.moved hW.alike (hst.kept hS.2.1)
  · rw [hU]; exact Nat.le_trans hsz hS.1
  · rw [hU]; exact hH
theorem yws {i' : yM} (hg : yGx s) (hcode : ycode i' ∈ lw_tbl) : ∀ w ∈ [ycode i'], ∀ (a' : Array Value) (U : State), s.WarmedH U.vm → w.before a' U = true := by
  intro w hw a' U hW
  rw [List.mem_singleton] at hw
  subst hw
  exact hg.warm hW _ hcode rfl a'
theorem yCB {i' : yM} {own : String} {ix n : Nat} (hg : yGx s) (hck : yck (yMm i) i' n = true) (hcode : ycode i' ∈ lw_tbl) (hini : Cond.initialized (yMy i').cls ∈ lw_tbl) (hl : Cond.methodLink own ix (yMy i') ∈ lw_tbl) :
    CallB (yMm i) s args own ix (yMy i') (yMb i') (yMl i') (yMr i') [ycode i'] (yMm i') (yMm i').cells (yMm i').slots n := by
  unfold yck at hck
  simp only [Bool.and_eq_true, decide_eq_true_eq] at hck
  obtain ⟨⟨⟨⟨h1, h2⟩, h3⟩, h4⟩, h5⟩ := hck
  refine ⟨rfl, rfl, h1, h2, yws hg hcode, List.mem_singleton_self _, hg _ hcode rfl args, hg _ hini rfl args, ⟨h3, h4⟩, fun sig h => ?_, hg _ hl rfl args⟩
  rw [h] at h5
  exact (Option.some.inj h5).symm
theorem yrecv {k ci : Nat} {r : vw_C} (C : yCx G i p s m meth c) (hH : yH G ad ω H) (hsh : ω.1 k = some (.inl ci)) (hr : ycl[ci]? = some r) : ∃ cellB : Cell, H[ad k]? = some cellB ∧ cellB.vm.isStatics = false ∧ s.vm.findClass r.1 = some cellB.cls := by
  obtain ⟨-, r0, hc0, cell, q1, q2, q3, -⟩ := hH.2 k _ hsh
  cases hc0.symm.trans hr
  exact ⟨cell, q1, by rw [q3]; rfl, by rw [q2]; exact (C.2.2.2.2.2.2.2.2.1.1 ci r hr).2.1⟩
end YC
section YD
variable {G : yG} {i : yM} {Qf : yQT} {sh0 : Nat → Option ySh} {pc : Nat} {ls : List (Option yV)} {st : List yV} {ω : yW} {cs sl : Nat}
/-- how a call runs: what each kind of call gives -/
def yRun (G : yG) (i i' : yM) (pc : Nat) (ls : List (Option yV)) (stk rest As : List yV) (ω : yW) (cs sl : Nat) (P : Option yV → yW → Prop) (X : String → yW → Prop) : Prop :=
  ∀ (p : Program) (e : Env) (s : State) (m : MethodId) (args : Array Value) (below : List Frame) (meth : Method) (c : Code) (ad : Nat → Nat) (H : Heap) (locs : List Loc) (lsA : Array Slot),
    yCx G i p s m meth c → va_S (yA G) s.heap H locs → yH G ad ω H → yLv ad (yMl i) lsA ls →
    vx_Run p (yGl G) e (yMm i) s m args below meth c H locs cs sl (yMm i').cells (yMm i').slots (F0 m pc lsA (stk.map (ycv ad))) (rest.map (ycv ad)) (yQc G ad ω.1 P (As.map (ycv ad)).toArray) (yXc G ad ω.1 X) (yA G)
/-- the callee makes nothing and throws nothing -/
theorem yr_call {i' : yM} {stk rest As : List yV} {P : Option yV → yW → Prop} (hr : yRun G i i' pc ls stk rest As ω cs sl P yNX) (hP : ∀ r ω', P r ω' → ω'.1 = ω.1) (kk : ∀ r ω', P r ω' → yWW G i Qf sh0 (pc + 3) ls (r.toList ++ rest) ω' (cs + (yMm i').cells) (sl + (yMm i').slots)) : yWW G i Qf sh0 pc ls stk ω cs sl := by
  intro p e s m args below meth c ad0 ad H locs lsA C hE hS hH hL
  intro T hT X
  rcases hr p e s m args below meth c ad H locs lsA C hS hH hL T hT X with ⟨v, st₀, t, T', L, h0, X', hL2, e1, e2, ⟨r, ad', ω', hv, hp, hx, hH', hF⟩, stp⟩ | ⟨q, st₀, t, T', L, E, ce, h0, X', hL2, e1, e2, ⟨ad', ω', hx, -⟩, -⟩
  · cases hv
    have hs := hP r ω' hp
    have hadd : ad' = ad := by
      funext k
      refine hx k ?_
      by_cases h9 : ω.1 k = none
      · exact Or.inr (by rw [hs]; exact h9)
      · exact Or.inl h9
    subst hadd
    obtain ⟨k1, k2, k3⟩ := vx_keep h0 e1 hS (fun q _ h => h) (fun q h => h) hL2 hF
    have k4 := kk r ω' hp p e s m args below meth c ad0 ad' T'.heap (locs ++ L) lsA C (fun k hk => hE k (by rw [hs] at hk; exact hk)) k3 (by rw [e1]; exact hH') hL
    rw [List.map_append] at k4
    obtain ⟨t2, a1, b1⟩ := k4 T' rfl X'
    refine ⟨t2, stp t2 ?_, b1⟩
    cases r with
    | none => exact a1
    | some w => exact a1
  · exact absurd hx id
/-- .. or it makes cells: their numbers are new -/
theorem yr_callN {i' : yM} {stk rest As : List yV} {P : Option yV → yW → Prop} (hr : yRun G i i' pc ls stk rest As ω cs sl P yNX) (hm : ∀ k, sh0 k ≠ none → ω.1 k ≠ none) (hP : ∀ r ω', P r ω' → (∀ k, ω'.1 k = none → ω.1 k = none) ∧ (∀ k, (yr k ∈ rest ∨ some (yr k) ∈ ls) → ω.1 k ≠ none ∨ ω'.1 k = none)) (kk : ∀ r ω', P r ω' → yWW G i Qf sh0 (pc + 3) ls (r.toList ++ rest) ω' (cs + (yMm i').cells) (sl + (yMm i').slots)) : yWW G i Qf sh0 pc ls stk ω cs sl := by
  intro p e s m args below meth c ad0 ad H locs lsA C hE hS hH hL
  intro T hT X
  rcases hr p e s m args below meth c ad H locs lsA C hS hH hL T hT X with ⟨v, st₀, t, T', L, h0, X', hL2, e1, e2, ⟨r, ad', ω', hv, hp, hx, hH', hF⟩, stp⟩ | ⟨q, st₀, t, T', L, E, ce, h0, X', hL2, e1, e2, ⟨ad', ω', hx, -⟩, -⟩
  · cases hv
    obtain ⟨hq1, hq2⟩ := hP r ω' hp
    have hcv : ∀ v : yV, (∀ k, v = yr k → ad' k = ad k) → ycv ad' v = ycv ad v := by
      intro v hv
      rcases v with x | (o | z)
      · rfl
      · cases o with
        | none => rfl
        | some a => exact congrArg Value.ref (hv a rfl)
      · rfl
    obtain ⟨k1, k2, k3⟩ := vx_keep h0 e1 hS (fun q _ h => h) (fun q h => h) hL2 hF
    have k4 := kk r ω' hp p e s m args below meth c ad0 ad' T'.heap (locs ++ L) lsA C (fun k hk => by
        rcases hk with hk | hk
        · rw [hx k (Or.inl (hm k hk))]; exact hE k (Or.inl hk)
        · rw [hx k (Or.inr hk)]; exact hE k (Or.inr (hq1 k hk))) k3 (by rw [e1]; exact hH') (hL.ext fun j v hj => hcv v fun k hk => hx k (hq2 k (Or.inr (by rw [← hk]; exact List.mem_of_getElem? hj))))
    rw [List.map_append, show rest.map (ycv ad') = rest.map (ycv ad) from List.map_congr_left fun v hv => hcv v fun k hk => hx k (hq2 k (Or.inl (by rw [← hk]; exact hv)))] at k4
    obtain ⟨t2, a1, b1⟩ := k4 T' rfl X'
    refine ⟨t2, stp t2 ?_, b1⟩
    cases r with
    | none => exact a1
    | some w => exact a1
  · exact absurd hx id
variable {P : Option yV → yW → Prop} {X : String → yW → Prop}
theorem ycat_le {ad : Nat → Nat} : ∀ (l : List yV) {n : Nat}, l.length ≤ n → (∀ v ∈ l, ∀ ad, (ycv ad v).category = 1) → ((l.map (ycv ad)).map fun v => v.category).sum ≤ n
  | [], _, _, _ => by simp
  | v :: l, n, h, h2 => by
    have h3 := ycat_le (ad := ad) l (n := n - 1) (by simp at h; omega) (fun w hw => h2 w (List.mem_cons_of_mem _ hw))
    simp only [List.map_cons, List.sum_cons, h2 v List.mem_cons_self ad]
    simp at h
    omega
/-- a static method -/
theorem yrunS {i' : yM} {As rest : List yV} {ix : Nat} (hd : decode (yMb i) pc = .ok (.invokestatic ix, 3)) (hct : yCT G i' As ω P X) (hck : yck (yMm i) i' As.length = true) (hcode : ycode i' ∈ lw_tbl) (hini : Cond.initialized (yMy i').cls ∈ lw_tbl) (hl : Cond.methodLink (yMy i).cls ix (yMy i') ∈ lw_tbl) (hstat : Cond.static (yMy i') ∈ lw_tbl) (hrest : rest.length ≤ 8) (hcat : ∀ v ∈ rest, ∀ ad, (ycv ad v).category = 1) (hc : cs + (yMm i').cells ≤ (yMm i).cells) (hs : sl + (yMm i').slots ≤ (yMm i).slots) : yRun G i i' pc ls (As.reverse ++ rest) rest As ω cs sl P X := by
  intro p e s m args below meth c ad H locs lsA C hS hH hL
  have hg := C.2.2.2.2.2.2.2.1
  exact vx_runS (Ts := yTs) (As := As.map (ycv ad)) ⟨C.1, C.2.1, C.2.2.2.1, C.2.2.2.2.1, hg.hts args⟩ (hct ad) ⟨yCB hg hck hcode hini hl, hg _ hstat rfl args⟩ ⟨yPc_blind, fun U hU hW => yPc_at C hS hH hU hW⟩ rfl (by rw [List.length_map]) hL.size (by rw [List.map_append, List.map_reverse]) (by show 2 * 0 + _ ≤ 8; have := ycat_le (ad := ad) rest hrest hcat; omega) hd ⟨hc, hs⟩
/-- an instance method, the receiver's class its own -/
theorem yrunV {i' : yM} {k ci : Nat} {As rest : List yV} {ix : Nat} {r : vw_C} (hd : decode (yMb i) pc = .ok (.invokevirtual ix, 3)) (hct : yCT G i' (yr k :: As) ω P X) (hsh : ω.1 k = some (.inl ci)) (hr : ycl[ci]? = some r) (hck : yck (yMm i) i' As.length = true) (hcode : ycode i' ∈ lw_tbl) (hini : Cond.initialized (yMy i').cls ∈ lw_tbl) (hl : Cond.methodLink (yMy i).cls ix (yMy i') ∈ lw_tbl) (hin : Cond.instanceMethod (yMy i') ∈ lw_tbl) (hsel : Cond.selects r.1 (yMy i') (yMy i') ∈ lw_tbl) (hrest : rest.length ≤ 8) (hcat : ∀ v ∈ rest, ∀ ad, (ycv ad v).category = 1) (hc : cs + (yMm i').cells ≤ (yMm i).cells) (hs : sl + (yMm i').slots ≤ (yMm i).slots) : yRun G i i' pc ls (As.reverse ++ yr k :: rest) rest (yr k :: As) ω cs sl P X := by
  intro p e s m args below meth c ad H locs lsA C hS hH hL
  have hg := C.2.2.2.2.2.2.2.1
  exact vx_runV (Ts := yTs) (C := r.1) (As := As.map (ycv ad)) ⟨C.1, C.2.1, C.2.2.2.1, C.2.2.2.2.1, hg.hts args⟩ (hct ad) ⟨yCB hg hck hcode hini hl, hg _ hin rfl args, hg _ hsel rfl args⟩ ⟨yPc_blind, yrecv C hH hsh hr, fun U hU hW => yPc_at (As := yr k :: As) C hS hH hU hW⟩ rfl (by rw [List.length_map]) hL.size (by rw [List.map_append, List.map_reverse, List.map_cons]; rfl) (by show 2 * 0 + _ ≤ 8; have := ycat_le (ad := ad) rest hrest hcat; omega) hd ⟨hc, hs⟩
/-- a constructor -/
theorem yrunI {i' : yM} {k : Nat} {As rest : List yV} {ix : Nat} (hd : decode (yMb i) pc = .ok (.invokespecial ix, 3)) (hnm : (yMy i').name = "<init>") (hret : yMr i' = none) (hct : yCT G i' (yr k :: As) ω P yNX) (hck : yck (yMm i) i' As.length = true) (hcode : ycode i' ∈ lw_tbl) (hini : Cond.initialized (yMy i').cls ∈ lw_tbl) (hl : Cond.methodLink (yMy i).cls ix (yMy i') ∈ lw_tbl) (hin : Cond.instanceMethod (yMy i') ∈ lw_tbl) (hrest : rest.length ≤ 8) (hcat : ∀ v ∈ rest, ∀ ad, (ycv ad v).category = 1) (hc : cs + (yMm i').cells ≤ (yMm i).cells) (hs : sl + (yMm i').slots ≤ (yMm i).slots) : yRun G i i' pc ls (As.reverse ++ yr k :: rest) rest (yr k :: As) ω cs sl P yNX := by
  intro p e s m args below meth c ad H locs lsA C hS hH hL
  have hg := C.2.2.2.2.2.2.2.1
  have hcb := yCB (i := i) (args := args) hg hck hcode hini hl
  rw [hret] at hcb
  refine yRunN (va_runI (Ts := yTs) (As := As.map (ycv ad)) ⟨C.1, C.2.1, C.2.2.2.1, C.2.2.2.2.1, hg.hts args⟩ (yMetN hct ad) ⟨hcb, hnm, hg _ hin rfl args⟩ ⟨yPc_blind, fun U hU hW => yPc_at (As := yr k :: As) C hS hH hU hW⟩ rfl (by rw [List.length_map]) hL.size (by rw [List.map_append, List.map_reverse, List.map_cons]; rfl) (by show 2 * 0 + _ ≤ 8; have := ycat_le (ad := ad) rest hrest hcat; omega) hd ⟨hc, hs⟩)
/-- an inherited or overriding method: the site names x, found in owner; the receiver's class selects the callee -/
theorem yrunU {i' : yM} {k ci : Nat} {As rest : List yV} {ix : Nat} {r : vw_C} {x : MethodName} {owner : String} (hd : decode (yMb i) pc = .ok (.invokevirtual ix, 3)) (hct : yCT G i' (yr k :: As) ω P yNX) (hsh : ω.1 k = some (.inl ci)) (hr : ycl[ci]? = some r) (hck : yck (yMm i) i' As.length = true) (hno : owner ≠ "java/lang/invoke/MethodHandle" ∧ owner ≠ "java/lang/invoke/VarHandle") (hpx : (parseMethodDescriptor x.desc).map (fun d => d.parameters.length) = some As.length) (hcode : ycode i' ∈ lw_tbl) (hini : Cond.initialized (yMy i').cls ∈ lw_tbl) (hl : Cond.methodLink (yMy i).cls ix x ∈ lw_tbl) (hsame : Cond.sameMethod x.cls owner x.name x.desc ∈ lw_tbl) (hdecl : ∀ s : State, yGx s → va_Decl s ⟨owner, x.name, x.desc⟩) (hin : Cond.instanceMethod (yMy i') ∈ lw_tbl) (hsel : Cond.selects r.1 x (yMy i') ∈ lw_tbl) (hrest : rest.length ≤ 8) (hcat : ∀ v ∈ rest, ∀ ad, (ycv ad v).category = 1) (hc : cs + (yMm i').cells ≤ (yMm i).cells) (hs : sl + (yMm i').slots ≤ (yMm i).slots) : yRun G i i' pc ls (As.reverse ++ yr k :: rest) rest (yr k :: As) ω cs sl P yNX := by
  intro p e s m args below meth c ad H locs lsA C hS hH hL
  have hg := C.2.2.2.2.2.2.2.1
  unfold yck at hck
  simp only [Bool.and_eq_true, decide_eq_true_eq] at hck
  obtain ⟨⟨⟨⟨h1, h2⟩, -⟩, -⟩, -⟩ := hck
  refine yRunN (va_runU (Ts := yTs) (C := r.1) (As := As.map (ycv ad)) ⟨C.1, C.2.1, C.2.2.2.1, C.2.2.2.2.1, hg.hts args⟩ (yMetN hct ad) ⟨⟨rfl, rfl, h1, h2, yws hg hcode, List.mem_singleton_self _⟩, hg _ hcode rfl args, hg _ hini rfl args, hno, fun sig h => by rw [h] at hpx; exact (Option.some.inj hpx).symm, hg _ hl rfl args, hg _ hsame rfl args, hdecl s hg, hg _ hsel rfl args, hg _ hin rfl args⟩ ⟨yPc_blind, yrecv C hH hsh hr, fun U hU hW => yPc_at (As := yr k :: As) C hS hH hU hW⟩ rfl (by rw [List.length_map]) hL.size (by rw [List.map_append, List.map_reverse, List.map_cons]; rfl) (by show 2 * 0 + _ ≤ 8; have := ycat_le (ad := ad) rest hrest hcat; omega) hd ⟨hc, hs⟩)
/-- a private method of a nest mate -/
theorem yrunVN {i' : yM} {k ci : Nat} {As rest : List yV} {ix : Nat} {r : vw_C} {host : String} (hd : decode (yMb i) pc = .ok (.invokevirtual ix, 3)) (hct : yCT G i' (yr k :: As) ω P yNX) (hsh : ω.1 k = some (.inl ci)) (hr : ycl[ci]? = some r) (hck : yck (yMm i) i' As.length = true) (hcode : ycode i' ∈ lw_tbl) (hini : Cond.initialized (yMy i').cls ∈ lw_tbl) (hl : Cond.methodLinkNest (yMy i).cls ix (yMy i') host ∈ lw_tbl) (hin : Cond.instanceMethod (yMy i') ∈ lw_tbl) (hsel : Cond.selects r.1 (yMy i') (yMy i') ∈ lw_tbl) (hrest : rest.length ≤ 8) (hcat : ∀ v ∈ rest, ∀ ad, (ycv ad v).category = 1) (hc : cs + (yMm i').cells ≤ (yMm i).cells) (hs : sl + (yMm i').slots ≤ (yMm i).slots) : yRun G i i' pc ls (As.reverse ++ yr k :: rest) rest (yr k :: As) ω cs sl P yNX := by
  intro p e s m args below meth c ad H locs lsA C hS hH hL
  have hg := C.2.2.2.2.2.2.2.1
  unfold yck at hck
  simp only [Bool.and_eq_true, decide_eq_true_eq] at hck
  obtain ⟨⟨⟨⟨h1, h2⟩, h3⟩, h4⟩, h5⟩ := hck
  refine yRunN (va_runVN (Ts := yTs) (C := r.1) (As := As.map (ycv ad)) ⟨C.1, C.2.1, C.2.2.2.1, C.2.2.2.2.1, hg.hts args⟩ (yMetN hct ad) ⟨⟨⟨rfl, rfl, h1, h2, yws hg hcode, List.mem_singleton_self _⟩, hg _ hcode rfl args, hg _ hini rfl args, ⟨h3, h4⟩, fun sig h => by rw [h] at h5; exact (Option.some.inj h5).symm, hg _ hl rfl args⟩, hg _ hin rfl args, hg _ hsel rfl args⟩ ⟨yPc_blind, yrecv C hH hsh hr, fun U hU hW => yPc_at (As := yr k :: As) C hS hH hU hW⟩ rfl (by rw [List.length_map]) hL.size (by rw [List.map_append, List.map_reverse, List.map_cons]; rfl) (by show 2 * 0 + _ ≤ 8; have := ycat_le (ad := ad) rest hrest hcat; omega) hd ⟨hc, hs⟩)
/-- a private static method of a nest mate -/
theorem yrunSN {i' : yM} {As rest : List yV} {ix : Nat} {host : String} (hd : decode (yMb i) pc = .ok (.invokestatic ix, 3)) (hct : yCT G i' As ω P yNX) (hck : yck (yMm i) i' As.length = true) (hcode : ycode i' ∈ lw_tbl) (hini : Cond.initialized (yMy i').cls ∈ lw_tbl) (hl : Cond.methodLinkNest (yMy i).cls ix (yMy i') host ∈ lw_tbl) (hstat : Cond.static (yMy i') ∈ lw_tbl) (hrest : rest.length ≤ 8) (hcat : ∀ v ∈ rest, ∀ ad, (ycv ad v).category = 1) (hc : cs + (yMm i').cells ≤ (yMm i).cells) (hs : sl + (yMm i').slots ≤ (yMm i).slots) : yRun G i i' pc ls (As.reverse ++ rest) rest As ω cs sl P yNX := by
  intro p e s m args below meth c ad H locs lsA C hS hH hL
  have hg := C.2.2.2.2.2.2.2.1
  unfold yck at hck
  simp only [Bool.and_eq_true, decide_eq_true_eq] at hck
  obtain ⟨⟨⟨⟨h1, h2⟩, h3⟩, h4⟩, h5⟩ := hck
  refine yRunN (va_runSN (Ts := yTs) (As := As.map (ycv ad)) ⟨C.1, C.2.1, C.2.2.2.1, C.2.2.2.2.1, hg.hts args⟩ (yMetN hct ad) ⟨⟨⟨rfl, rfl, h1, h2, yws hg hcode, List.mem_singleton_self _⟩, hg _ hcode rfl args, hg _ hini rfl args, ⟨h3, h4⟩, fun sig h => by rw [h] at h5; exact (Option.some.inj h5).symm, hg _ hl rfl args⟩, hg _ hstat rfl args, trivial⟩ ⟨yPc_blind, fun U hU hW => yPc_at C hS hH hU hW⟩ rfl (by rw [List.length_map]) hL.size (by rw [List.map_append, List.map_reverse]) (by show 2 * 0 + _ ≤ 8; have := ycat_le (ad := ad) rest hrest hcat; omega) hd ⟨hc, hs⟩)
/-- Object's own constructor -/
theorem yr_objInit {k ix : Nat} (hd : decode (yMb i) pc = .ok (.invokespecial ix, 3)) (hl : Cond.methodLink (yMy i).cls ix Lib.objectInit ∈ lw_tbl) (hin : Cond.instanceMethod Lib.objectInit ∈ lw_tbl) (hcode : Cond.code Lib.objectInit ⟨#[0xb1]⟩ 1 none ∈ lw_tbl) (hf : 1 ≤ (yMm i).frames) (hlo : st.length + 12 ≤ (yMm i).locals) (hcat : ∀ v ∈ st, ∀ ad, (ycv ad v).category = 1) (kk : yWW G i Qf sh0 (pc + 3) ls st ω cs sl) : yWW G i Qf sh0 pc ls (yr k :: st) ω cs sl := by
  intro p e s m args below meth c ad0 ad H locs lsA C hE hS hH hL
  have hg := C.2.2.2.2.2.2.2.1
  exact W.objInit C.1 C.2.1 C.2.2.2.2.1 (hg _ hl rfl args) (hg _ hin rfl args) (hg _ hcode rfl args) rfl (by rw [C.2.2.2.1]; exact hL.size) rfl hd hf (by show 2 * 0 + _ + 12 ≤ _; have := ycat_le (ad := ad) st (Nat.le_refl _) hcat; omega) (kk p e s m args below meth c ad0 ad H locs lsA C hE hS hH hL)
/-- the ends -/
theorem yr_reti {x : Int32} (hd : decode (yMb i) pc = .ok (.ireturn, 1)) (hr : yMr i = some .int) (hc : cs ≤ (yMm i).cells) (hs : sl ≤ (yMm i).slots) (hP : P (some (yi x)) ω) : yWW G i (yQf G i sh0 P X) sh0 pc ls [yi x] ω cs sl := by
  intro p e s m args below meth c ad0 ad H locs lsA C hE hS hH hL
  refine vx_ret (W.widen hc hs ?_)
  exact W.iret C.1 C.2.1 (C.2.2.1.trans hr) (fun t ht hW => ⟨some (yi x), ad, ω, rfl, hP, hE, by rw [ht]; exact hH, hS.F ht⟩) hS.2.2 hd C.2.2.2.2.2.1
theorem yr_retz {x : Int32} (hd : decode (yMb i) pc = .ok (.ireturn, 1)) (hr : yMr i = some .boolean) (hx : narrow .boolean (.int x) = .int x) (hc : cs ≤ (yMm i).cells) (hs : sl ≤ (yMm i).slots) (hP : P (some (yi x)) ω) : yWW G i (yQf G i sh0 P X) sh0 pc ls [yi x] ω cs sl := by
  intro p e s m args below meth c ad0 ad H locs lsA C hE hS hH hL
  refine vx_ret (W.widen hc hs ?_)
  exact W.zret C.1 C.2.1 (C.2.2.1.trans hr) hx (fun t ht hW => ⟨some (yi x), ad, ω, rfl, hP, hE, by rw [ht]; exact hH, hS.F ht⟩) hS.2.2 hd C.2.2.2.2.2.1
theorem yr_reta {o : Option Nat} {rt : FieldType} (hd : decode (yMb i) pc = .ok (.areturn, 1)) (hr : yMr i = some rt) (hrt : (∃ n, rt = .object n) ∨ ∃ t, rt = .array t) (hc : cs ≤ (yMm i).cells) (hs : sl ≤ (yMm i).slots) (hP : P (some (yo o)) ω) : yWW G i (yQf G i sh0 P X) sh0 pc ls [yo o] ω cs sl := by
  intro p e s m args below meth c ad0 ad H locs lsA C hE hS hH hL
  refine vx_ret (W.widen hc hs ?_)
  refine W.aret C.1 C.2.1 (C.2.2.1.trans hr) hrt ?_ (fun t ht hW => ⟨some (yo o), ad, ω, rfl, hP, hE, by rw [ht]; exact hH, hS.F ht⟩) hS.2.2 hd C.2.2.2.2.2.1
  cases o with
  | none => exact Or.inl rfl
  | some a => exact Or.inr ⟨ad a, rfl⟩
theorem yr_retv (hd : decode (yMb i) pc = .ok (.return_, 1)) (hr : yMr i = none) (hc : cs ≤ (yMm i).cells) (hs : sl ≤ (yMm i).slots) (hP : P none ω) : yWW G i (yQf G i sh0 P X) sh0 pc ls [] ω cs sl := by
  intro p e s m args below meth c ad0 ad H locs lsA C hE hS hH hL
  refine vx_ret (W.widen hc hs ?_)
  exact W.vret C.1 C.2.1 (C.2.2.1.trans hr) (fun t ht hW => ⟨none, ad, ω, rfl, hP, hE, by rw [ht]; exact hH, hS.F ht⟩) hS.2.2 hd C.2.2.2.2.2.1
/-- a method's contract out of a walk of its body -/
theorem ylv_args {ad : Nat → Nat} : ∀ (As : List yV) (i0 : Nat), (∀ v ∈ As, ∀ ad, (ycv ad v).category = 1) → ∀ (j : Nat) (v : yV), As[j]? = some v → (i0 + j, ycv ad v) ∈ lv_args i0 (As.map (ycv ad))
  | [], _, _, j, v, h => by simp at h
  | w :: As, i0, hc, j, v, h => by
    have hw : ¬ (ycv ad w).category = 2 := by rw [hc w List.mem_cons_self ad]; decide
    simp only [List.map_cons, lv_args, hw, if_false]
    cases j with
    | zero =>
      simp at h
      subst h
      simp
    | succ j =>
      simp at h
      have := ylv_args (ad := ad) As (i0 + 1) (fun z hz => hc z (List.mem_cons_of_mem _ hz)) j v h
      rw [show i0 + 1 + j = i0 + (j + 1) by omega] at this
      exact List.mem_cons_of_mem _ this
theorem ylg_sl {ad : Nat → Nat} : ∀ (As : List yV), (∀ v ∈ As, ∀ ad, (ycv ad v).category = 1) → (lg_sl (As.map (ycv ad))).length = As.length
  | [], _ => rfl
  | w :: As, hc => by
    have hw : ¬ (ycv ad w).category = 2 := by rw [hc w List.mem_cons_self ad]; decide
    have h2 := ylg_sl (ad := ad) As (fun z hz => hc z (List.mem_cons_of_mem _ hz))
    unfold lg_sl at h2 ⊢
    simp only [List.map_cons, List.flatMap_cons, List.length_append, h2, List.length_cons]
    simp [hw]
    omega
theorem yCT_of {As : List yV} (hpl : plainName (yMy i).cls = true) (hh : yMh i = []) (hcat : ∀ v ∈ As, ∀ ad, (ycv ad v).category = 1) (hlen : As.length ≤ yMl i) (k : yWW G i (yQf G i ω.1 P X) ω.1 0 (As.map some ++ List.replicate (yMl i - As.length) none) [] ω 0 0) : yCT G i As ω P X := by
  intro ad0
  refine vx_ofW (cc := yMb i) (maxL := yMl i) (ret := yMr i) hpl rfl ?_
  intro p e s m args below meth c s₁ B hml ht hv
  obtain ⟨rfl, hg, hK, hst, hsz, hH⟩ := hv
  have hl := lv_entry (As.map (ycv ad0)) (n := yMl i) (by rw [ylg_sl As hcat]; exact hlen)
  rw [lg_entry_eq]
  refine k p e s m _ below meth c ad0 ad0 s.heap [] _ ⟨B.exec, B.bytes, B.returns, hml, findClass_of_methodNamed B.named, B.notSynchronized, (name_of_methodNamed B.named B.method).1, hg, hK, hst, hsz, ?_⟩ (fun _ _ => rfl) va_S.rf hH ⟨_, hl, ?_, fun j v hj => ?_⟩
  · rw [hh]
    cases h9 : c.exceptionTable.toList with
    | nil => rfl
    | cons x r => exact absurd (ht x (by rw [h9]; exact List.mem_cons_self)) id
  · simp
    omega
  · have hj2 : As[j]? = some v := by
      by_cases h9 : j < As.length
      · rw [List.getElem?_append_left (by simpa using h9), List.getElem?_map] at hj
        cases h8 : As[j]? with
        | none => rw [h8] at hj; cases hj
        | some w => rw [h8] at hj; exact Option.some.inj hj
      · rw [List.getElem?_append_right (by simpa using Nat.not_lt.mp h9), List.getElem?_replicate] at hj
        split at hj
        · cases hj
        · cases hj
    have := ylv_args (ad := ad0) As 0 hcat j v hj2
    rw [Nat.zero_add] at this
    exact ⟨this, hcat v (List.mem_of_getElem? hj2) ad0⟩
end YD
