/-! calls in the words of the state -/
theorem ysel_priv {C : String} {y : MethodName} {s : State} {args : Array Value} {c : ClassId} (hc : s.vm.findClass C = some c) (hpriv : (Cond.privateMethod y).before args s = true) (hinst : (Cond.instanceMethod y).before args s = true) (hsame : (Cond.sameMethod y.cls y.cls y.name y.desc).before args s = true) : (Cond.selects C y y).before args s = true := by
  obtain ⟨cn, ck, r1, hcn, hck, hni, hf, hn1⟩ := Cond.sameMethod_found hsame
  obtain ⟨mk, methM, hnamed, hmethM, -, -⟩ := Cond.instanceMethod_spec hinst
  cases Option.some.inj (hn1.symm.trans hnamed)
  have hcls : r1.cls = cn := Option.some.inj ((findClass_of_methodNamed hnamed).symm.trans hcn)
  have hsel : selectMethod {} s.vm c r1 = .method r1 := selectMethod_private hmethM (Cond.privateMethod_at hpriv r1 methM hnamed hmethM)
  have hnamed' : s.methodNamed? y = some r1 := hnamed
  simp only [Cond.before, Cond.holds, Cond.value, hc, hf, hnamed', hsel, hcls, hck]
  simp; exact hni
section YU
variable {G : yG} {i : yM} {pc : Nat} {ls : List (Option yV)} {ω : yW} {cs sl : Nat} {P : Option yV → yW → Prop}
theorem yrunU2 {i' : yM} {k ci : Nat} {As rest : List yV} {ix : Nat} {r : vw_C} {x : MethodName} {owner : String} (hd : decode (yMb i) pc = .ok (.invokevirtual ix, 3)) (hct : yCT G i' (yr k :: As) ω P yNX) (hsh : ω.1 k = some (.inl ci)) (hr : ycl[ci]? = some r) (hck : yck (yMm i) i' As.length = true) (hno : owner ≠ "java/lang/invoke/MethodHandle" ∧ owner ≠ "java/lang/invoke/VarHandle") (hpx : (parseMethodDescriptor x.desc).map (fun d => d.parameters.length) = some As.length) (hcode : ycode i' ∈ lw_tbl) (hini : Cond.initialized (yMy i').cls ∈ lw_tbl) (hl : Cond.methodLink (yMy i).cls ix x ∈ lw_tbl) (hsame : Cond.sameMethod x.cls owner x.name x.desc ∈ lw_tbl) (hdecl : ∀ s : State, yGx s → va_Decl s ⟨owner, x.name, x.desc⟩) (hin : Cond.instanceMethod (yMy i') ∈ lw_tbl) (hsel : ∀ (s : State) (args : Array Value) (c : ClassId), yGx s → s.vm.findClass r.1 = some c → (Cond.selects r.1 x (yMy i')).before args s = true) (hrest : rest.length ≤ 8) (hcat : ∀ v ∈ rest, ∀ ad, (ycv ad v).category = 1) (hc : cs + (yMm i').cells ≤ (yMm i).cells) (hs : sl + (yMm i').slots ≤ (yMm i).slots) : yRun G i i' pc ls (As.reverse ++ yr k :: rest) rest (yr k :: As) ω cs sl P yNX := by
  intro p e s m args below meth c ad H locs lsA C hS hH hL
  have hg := C.2.2.2.2.2.2.2.1
  unfold yck at hck
  simp only [Bool.and_eq_true, decide_eq_true_eq] at hck
  obtain ⟨⟨⟨⟨h1, h2⟩, -⟩, -⟩, -⟩ := hck
  refine yRunN (va_runU (Ts := yTs) (C := r.1) (As := As.map (ycv ad)) ⟨C.1, C.2.1, C.2.2.2.1, C.2.2.2.2.1, hg.hts args⟩ (yMetN hct ad) ⟨⟨rfl, rfl, h1, h2, yws hg hcode, List.mem_singleton_self _⟩, hg _ hcode rfl args, hg _ hini rfl args, hno, fun sig h => by rw [h] at hpx; exact (Option.some.inj hpx).symm, hg _ hl rfl args, hg _ hsame rfl args, hdecl s hg, hsel s args _ hg (C.2.2.2.2.2.2.2.2.1.1 ci r hr).2.1, hg _ hin rfl args⟩ ⟨yPc_blind, yrecv C hH hsh hr, fun U hU hW => yPc_at (As := yr k :: As) C hS hH hU hW⟩ rfl (by rw [List.length_map]) hL.size (by rw [List.map_append, List.map_reverse, List.map_cons]; rfl) (by show 2 * 0 + _ ≤ 8; have := ycat_le (ad := ad) rest hrest hcat; omega) hd ⟨hc, hs⟩)
end YU
/-- the class of a place by its kind -/
def zcl (c : Nat) : vw_C := match c with
  | 0 => (yC3, yT3, 7)
  | 1 => (yC4, yT4, 7)
  | 2 => (yC5, yT5, 4)
  | 3 => (yC6, yT6, 4)
  | 4 => (yC7, yT7, 5)
  | _ => (yC8, yT8, 5)
theorem zcl_ok : ∀ c, c < 6 → ycl[3 + c]? = some (zcl c) := by
  intro c hc
  rcases (show c = 0 ∨ c = 1 ∨ c = 2 ∨ c = 3 ∨ c = 4 ∨ c = 5 by omega) with rfl | rfl | rfl | rfl | rfl | rfl <;> rfl
/-- a word of calls on a place: what the tables must say -/
def zUF (i i' : yM) (ix n : Nat) (x : MethodName) (owner C : String) (priv : Bool) : Bool := yck (yMm i) i' n && decide (owner ≠ "java/lang/invoke/MethodHandle") && decide (owner ≠ "java/lang/invoke/VarHandle") && decide ((parseMethodDescriptor x.desc).map (fun d => d.parameters.length) = some n) && decide (Cond.initialized (yMy i').cls ∈ lw_tbl) && decide (Cond.methodLink (yMy i).cls ix x ∈ lw_tbl) && decide (Cond.sameMethod x.cls owner x.name x.desc ∈ lw_tbl) && decide (Cond.instanceMethod (yMy i') ∈ lw_tbl) && (if priv = true then decide (x = yMy i') && decide (Cond.privateMethod x ∈ lw_tbl) && decide (x.cls = owner) else decide (Cond.selects C x (yMy i') ∈ lw_tbl))
section ZU
variable {G : yG} {i : yM} {pc : Nat} {ls : List (Option yV)} {σ : zS} {μ : yW} {cs sl : Nat} {P : Option yV → zS → Prop}
/-- a method of a place, by what its kind selects -/
theorem zrunP {sel : Nat → yM} {o : Nat} {As rest : List yV} {ix : Nat} {x : MethodName} {owner : String} {priv : Bool} (hd : decode (yMb i) pc = .ok (.invokevirtual ix, 3)) (ho : o < zn σ) (hct : zCT G (sel (zkd σ o)) (yr (kP o) :: As) σ μ P) (n : Nat) (hn : As.length = n) (hf : ∀ c, c < 6 → zUF i (sel c) ix n x owner (zcl c).1 priv = true) (hcode : ∀ c, c < 6 → ycode (sel c) ∈ lw_tbl) (hdecl : ∀ s : State, yGx s → va_Decl s ⟨owner, x.name, x.desc⟩) (hcell : ∀ c, c < 6 → (yMm (sel c)).cells = 0 ∧ (yMm (sel c)).slots = 0) (hrest : rest.length ≤ 8) (hcat : ∀ v ∈ rest, ∀ ad, (ycv ad v).category = 1) (hc : cs ≤ (yMm i).cells) (hs : sl ≤ (yMm i).slots) :
    ∀ ω, zC σ μ ω → yRun G i (sel (zkd σ o)) pc ls (As.reverse ++ yr (kP o) :: rest) rest (yr (kP o) :: As) ω cs sl (zP μ P) yNX := by
  intro ω h
  subst hn
  have hk := (h.1.2.2.2.2.2 o ho).1
  have h9 := hf _ hk
  unfold zUF at h9
  simp only [Bool.and_eq_true, decide_eq_true_eq] at h9
  obtain ⟨⟨⟨⟨⟨⟨⟨⟨g1, g2⟩, g3⟩, g4⟩, g5⟩, g6⟩, g7⟩, g8⟩, g9⟩ := h9
  refine yrunU2 (x := x) (owner := owner) hd (hct ω h) (h.sP ho) (zcl_ok _ hk) g1 ⟨g2, g3⟩ g4 (hcode _ hk) g5 g6 g7 hdecl g8 ?_ hrest hcat (by rw [(hcell _ hk).1]; exact hc) (by rw [(hcell _ hk).2]; exact hs)
  intro s args c hg hfc
  cases priv with
  | false =>
    simp only [Bool.false_eq_true, if_false, decide_eq_true_eq] at g9
    exact hg _ g9 rfl args
  | true =>
    simp only [if_true, Bool.and_eq_true, decide_eq_true_eq] at g9
    obtain ⟨⟨e1, e2⟩, e3⟩ := g9
    rw [← e1]
    rw [← e3] at g7
    exact ysel_priv hfc (hg _ e2 rfl args) (by rw [e1]; exact hg _ g8 rfl args) (hg _ g7 rfl args)
/-- a method of an object of a class of its own (threads, rows, the yard) -/
def zVF (i i' : yM) (ix n : Nat) (C : String) : Bool := yck (yMm i) i' n && decide (Cond.initialized (yMy i').cls ∈ lw_tbl) && decide (Cond.methodLink (yMy i).cls ix (yMy i') ∈ lw_tbl) && decide (Cond.instanceMethod (yMy i') ∈ lw_tbl) && decide (Cond.selects C (yMy i') (yMy i') ∈ lw_tbl)
theorem zrunV {i' : yM} {k ci : Nat} {r : vw_C} {As rest : List yV} {ix : Nat} (hd : decode (yMb i) pc = .ok (.invokevirtual ix, 3)) (hsh : ∀ ω, zC σ μ ω → ω.1 k = some (.inl ci)) (hr : ycl[ci]? = some r) (hct : zCT G i' (yr k :: As) σ μ P) (n : Nat) (hn : As.length = n) (hf : zVF i i' ix n r.1 = true) (hcode : ycode i' ∈ lw_tbl) (hrest : rest.length ≤ 8) (hcat : ∀ v ∈ rest, ∀ ad, (ycv ad v).category = 1) (hc : cs + (yMm i').cells ≤ (yMm i).cells) (hs : sl + (yMm i').slots ≤ (yMm i).slots) :
    ∀ ω, zC σ μ ω → yRun G i i' pc ls (As.reverse ++ yr k :: rest) rest (yr k :: As) ω cs sl (zP μ P) yNX := by
  intro ω h
  subst hn
  unfold zVF at hf
  simp only [Bool.and_eq_true, decide_eq_true_eq] at hf
  obtain ⟨⟨⟨⟨g1, g2⟩, g3⟩, g4⟩, g5⟩ := hf
  exact yrunV hd (hct ω h) (hsh ω h) hr g1 hcode g2 g3 g4 g5 hrest hcat hc hs
/-- a static method -/
def zSF (i i' : yM) (ix n : Nat) : Bool := yck (yMm i) i' n && decide (Cond.initialized (yMy i').cls ∈ lw_tbl) && decide (Cond.methodLink (yMy i).cls ix (yMy i') ∈ lw_tbl) && decide (Cond.static (yMy i') ∈ lw_tbl)
theorem zrunS {i' : yM} {As rest : List yV} {ix : Nat} (hd : decode (yMb i) pc = .ok (.invokestatic ix, 3)) (hct : zCT G i' As σ μ P) (n : Nat) (hn : As.length = n) (hf : zSF i i' ix n = true) (hcode : ycode i' ∈ lw_tbl) (hrest : rest.length ≤ 8) (hcat : ∀ v ∈ rest, ∀ ad, (ycv ad v).category = 1) (hc : cs + (yMm i').cells ≤ (yMm i).cells) (hs : sl + (yMm i').slots ≤ (yMm i).slots) :
    ∀ ω, zC σ μ ω → yRun G i i' pc ls (As.reverse ++ rest) rest As ω cs sl (zP μ P) yNX := by
  intro ω h
  subst hn
  unfold zSF at hf
  simp only [Bool.and_eq_true, decide_eq_true_eq] at hf
  obtain ⟨⟨⟨g1, g2⟩, g3⟩, g4⟩ := hf
  exact yrunS hd (hct ω h) g1 hcode g2 g3 g4 hrest hcat hc hs
theorem zrunSN {i' : yM} {As rest : List yV} {ix : Nat} {host : String} (hd : decode (yMb i) pc = .ok (.invokestatic ix, 3)) (hct : zCT G i' As σ μ P) (n : Nat) (hn : As.length = n) (hf : (yck (yMm i) i' n && decide (Cond.initialized (yMy i').cls ∈ lw_tbl) && decide (Cond.methodLinkNest (yMy i).cls ix (yMy i') host ∈ lw_tbl) && decide (Cond.static (yMy i') ∈ lw_tbl)) = true) (hcode : ycode i' ∈ lw_tbl) (hrest : rest.length ≤ 8) (hcat : ∀ v ∈ rest, ∀ ad, (ycv ad v).category = 1) (hc : cs + (yMm i').cells ≤ (yMm i).cells) (hs : sl + (yMm i').slots ≤ (yMm i).slots) :
    ∀ ω, zC σ μ ω → yRun G i i' pc ls (As.reverse ++ rest) rest As ω cs sl (zP μ P) yNX := by
  intro ω h
  subst hn
  simp only [Bool.and_eq_true, decide_eq_true_eq] at hf
  obtain ⟨⟨⟨g1, g2⟩, g3⟩, g4⟩ := hf
  exact yrunSN hd (hct ω h) g1 hcode g2 g3 g4 hrest hcat hc hs
end ZU
