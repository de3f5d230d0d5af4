/-! catching, and what the law's own body needs -/
def yNC (U : State) : Prop := va_Nc "java/lang/IllegalStateException" "java/lang/IllegalArgumentException" U ∧ va_Nc "java/lang/UnsupportedOperationException" "java/lang/IllegalArgumentException" U ∧ va_Nc "java/lang/UnsupportedOperationException" "java/lang/IllegalStateException" U ∧ va_Nc "java/util/NoSuchElementException" "java/lang/IllegalArgumentException" U
theorem yNC.moved {u U : State} (hvm : u.vm.Alike U.vm) (h : yNC u) : yNC U := ⟨h.1.moved hvm, h.2.1.moved hvm, h.2.2.1.moved hvm, h.2.2.2.moved hvm⟩
/-- an end under a condition on the start -/
def yQN (Γ : State → (Nat → Nat) → Prop) (Qf : yQT) : yQT := fun below args s ad0 t => Γ s ad0 → Qf below args s ad0 t
section YX
variable {G : yG} {i : yM} {Qf : yQT} {Γ : State → (Nat → Nat) → Prop} {sh0 : Nat → Option ySh} {pc : Nat} {ls : List (Option yV)} {st : List yV} {ω : yW} {cs sl : Nat}
theorem yWN (h : yWW G i Qf sh0 pc ls st ω cs sl) : yWW G i (yQN Γ Qf) sh0 pc ls st ω cs sl := by
  intro p e s m args below meth c ad0 ad H locs lsA C hE hS hH hL T hT X
  obtain ⟨t, a1, a2⟩ := h p e s m args below meth c ad0 ad H locs lsA C hE hS hH hL T hT X
  exact ⟨t, a1, fun _ => a2⟩
/-- the condition may be used at any point -/
theorem yWN_use (h : ∀ (p : Program) (e : Env) (s : State) (m : MethodId) (args : Array Value) (below : List Frame) (meth : Method) (c : Code) (ad0 ad : Nat → Nat) (H : Heap) (locs : List Loc) (lsA : Array Slot), Γ s ad0 → yCx G i p s m meth c → (∀ k, (sh0 k ≠ none ∨ ω.1 k = none) → ad k = ad0 k) → va_S (yA G) s.heap H locs → yH G ad ω H → yLv ad (yMl i) lsA ls → W p (yGl G) e (yMm i) s m args below meth c H locs cs sl (yQN Γ Qf below args s ad0) (F0 m pc lsA (st.map (ycv ad)))) : yWW G i (yQN Γ Qf) sh0 pc ls st ω cs sl := by
  intro p e s m args below meth c ad0 ad H locs lsA C hE hS hH hL
  by_cases hΓ : Γ s ad0
  · exact h p e s m args below meth c ad0 ad H locs lsA hΓ C hE hS hH hL
  · intro T hT X
    exact ⟨_, Steps.refl _, fun z => absurd z hΓ⟩
theorem yr_widen {cs' sl' : Nat} (h1 : cs ≤ cs') (h2 : sl ≤ sl') (h : yWW G i Qf sh0 pc ls st ω cs' sl') : yWW G i Qf sh0 pc ls st ω cs sl := by
  intro p e s m args below meth c ad0 ad H locs lsA C hE hS hH hL
  exact W.widen h1 h2 (h p e s m args below meth c ad0 ad H locs lsA C hE hS hH hL)
theorem yr_lcmp_eq {z : Int64} (hd : decode (yMb i) pc = .ok (.lcmp, 1)) (k : yWW G i Qf sh0 (pc + 1) ls (yi 0 :: st) ω cs sl) : yWW G i Qf sh0 pc ls (yl z :: yl z :: st) ω cs sl := by
  intro p e s m args below meth c ad0 ad H locs lsA C hE hS hH hL
  have h9 := k p e s m args below meth c ad0 ad H locs lsA C hE hS hH hL
  refine W.lcmp C.1 C.2.1 hd ?_
  have e0 : lg_cmp z z = 0 := by simp [lg_cmp]
  rw [e0]
  exact h9
/-- a handler that returns a number -/
def yHC (i : yM) (hpc : Nat) (n : Int32) : Prop := ∃ (len : Nat) (k : Int), ((∃ a, decode (yMb i) hpc = .ok (.astore a, 2) ∧ a < yMl i ∧ len = 2) ∨ (∃ a : Fin 4, decode (yMb i) hpc = .ok (.astore_n a, 1) ∧ a.val < yMl i ∧ len = 1)) ∧ decode (yMb i) (hpc + len) = .ok (.iconst k, 1) ∧ Int32.ofInt k = n ∧ decode (yMb i) (hpc + len + 1) = .ok (.ireturn, 1)
def yEnt (x : Nat × Nat × Nat × Nat) : ExceptionTableEntry := ⟨x.1, x.2.1, x.2.2.1, x.2.2.2⟩
/-- at pc, what is thrown of the class E is caught by a handler that returns n -/
def yHd (i : yM) (pc : Nat) (E : String) (n : Int32) : Prop := ∃ (pre : List (Nat × Nat × Nat × Nat)) (x : Nat × Nat × Nat × Nat) (suf : List (Nat × Nat × Nat × Nat)) (nm : String), yMh i = pre ++ x :: suf ∧ (∀ z ∈ pre, z.2.2.2 ≠ 0 ∧ ∃ nm' : String, Cond.classLink (yMy i).cls z.2.2.2 nm' ∈ lw_tbl ∧ ∀ s : State, yNC s → va_Nc E nm' s) ∧ covers (yEnt x) pc = true ∧ x.2.2.2 ≠ 0 ∧ Cond.classLink (yMy i).cls x.2.2.2 nm ∈ lw_tbl ∧ Cond.castable E nm ∈ lw_tbl ∧ yHC i x.2.2.1 n
theorem yr_callX {i' : yM} {stk rest As : List yV} {P P0 : Option yV → yW → Prop} {X X0 : String → yW → Prop} (hΓ : ∀ s ad0, Γ s ad0 → yNC s) (hr : yRun G i i' pc ls stk rest As ω cs sl P X) (hm : ∀ k, sh0 k ≠ none → ω.1 k ≠ none) (hP : ∀ r ω', P r ω' → (∀ k, ω'.1 k = none → ω.1 k = none) ∧ (∀ k, (yr k ∈ rest ∨ some (yr k) ∈ ls) → ω.1 k ≠ none ∨ ω'.1 k = none))
    (hri : yMr i = some .int) (hc : cs + (yMm i').cells ≤ (yMm i).cells) (hs : sl + (yMm i').slots ≤ (yMm i).slots)
    (kk : ∀ r ω', P r ω' → yWW G i (yQN Γ (yQf G i sh0 P0 X0)) sh0 (pc + 3) ls (r.toList ++ rest) ω' (cs + (yMm i').cells) (sl + (yMm i').slots))
    (kx : ∀ E ω', X E ω' → (∀ k, ω'.1 k = none → ω.1 k = none) ∧ ∃ n, yHd i pc E n ∧ P0 (some (yi n)) ω') : yWW G i (yQN Γ (yQf G i sh0 P0 X0)) sh0 pc ls stk ω cs sl := by
  refine yWN_use (fun p e s m args below meth c ad0 ad H locs lsA hG C hE hS hH hL => ?_)
  intro T hT X9
  rcases hr p e s m args below meth c ad H locs lsA C hS hH hL T hT X9 with ⟨v, st₀, t, T', L, h0, X', hL2, e1, e2, ⟨r, ad', ω', hv, hp, hx, hH', hF⟩, stp⟩ | ⟨q, st₀, t, T', L, E, ce, h0, X', hL2, e1, e2, ⟨ad', ω', hp, hx, hH', hF⟩, hce, hcv, hcl, stp⟩
  · cases hv
    obtain ⟨hq1, hq2⟩ := hP r ω' hp
    have hcv : ∀ v : yV, (∀ k, v = yr k → ad' k = ad k) → ycv ad' v = ycv ad v := by
      intro v hv
      rcases v with x | (o | z)
      · rfl
      · cases o with
        | none => rfl
        | some a => exact congrArg Value.ref (hv a rfl)
      · rfl
    obtain ⟨k1, k2, k3⟩ := vx_keep h0 e1 hS (fun q _ h => h) (fun q h => h) hL2 hF
    have k4 := kk r ω' hp p e s m args below meth c ad0 ad' T'.heap (locs ++ L) lsA C (fun k hk => by
        rcases hk with hk | hk
        · rw [hx k (Or.inl (hm k hk))]; exact hE k (Or.inl hk)
        · rw [hx k (Or.inr hk)]; exact hE k (Or.inr (hq1 k hk))) k3 (by rw [e1]; exact hH') (hL.ext fun j v hj => hcv v fun k hk => hx k (hq2 k (Or.inr (by rw [← hk]; exact List.mem_of_getElem? hj))))
    rw [List.map_append, show rest.map (ycv ad') = rest.map (ycv ad) from List.map_congr_left fun v hv => hcv v fun k hk => hx k (hq2 k (Or.inl (by rw [← hk]; exact hv)))] at k4
    obtain ⟨t2, a1, b1⟩ := k4 T' rfl X'
    refine ⟨t2, stp t2 ?_, b1⟩
    cases r with
    | none => exact a1
    | some w => exact a1
  · obtain ⟨hq1, n, ⟨pre, x, suf, nm, y1, y2, y3, y4, y5, y6, y7⟩, hp0⟩ := kx E ω' hp
    obtain ⟨k1, k2, k3⟩ := vx_keep h0 e1 hS (fun q _ h => h) (fun q h => h) hL2 hF
    have hgx := C.2.2.2.2.2.2.2.1
    have htab := C.2.2.2.2.2.2.2.2.2.2.2
    have hE2 : ∀ k, (sh0 k ≠ none ∨ ω'.1 k = none) → ad' k = ad0 k := fun k hk => by
      rcases hk with hk | hk
      · rw [hx k (Or.inl (hm k hk))]; exact hE k (Or.inl hk)
      · rw [hx k (Or.inr hk)]; exact hE k (Or.inr (hq1 k hk))
    have hret : ∀ (pc' : Nat) (lsB : Array Slot), decode (yMb i) pc' = .ok (.ireturn, 1) → W p (yGl G) e (yMm i) s m args below meth c T'.heap (locs ++ L) (cs + (yMm i').cells) (sl + (yMm i').slots) (yQf G i sh0 P0 X0 below args s ad0) (F0 m pc' lsB [.int n]) := fun pc' lsB hd => by
      refine vx_ret (W.widen hc hs ?_)
      exact W.iret C.1 C.2.1 (C.2.2.1.trans hri) (fun t ht hW => ⟨some (yi n), ad', ω', rfl, hp0, hE2, by rw [ht, e1]; exact hH', k3.F ht⟩) k3.2.2 hd C.2.2.2.2.2.1
    have hkk : W p (yGl G) e (yMm i) s m args below meth c T'.heap (locs ++ L) (cs + (yMm i').cells) (sl + (yMm i').slots) (yQf G i sh0 P0 X0 below args s ad0) (F0 m (yEnt x).handlerPc lsA [.ref q]) := by
      obtain ⟨l, z1, z2, z3⟩ := hL
      obtain ⟨len, k, hst, d2, d3, d4⟩ := y7
      rcases hst with ⟨a, d1, ha, rfl⟩ | ⟨a, d1, ha, rfl⟩
      · exact lv_astore C.1 C.2.1 d1 z1 ha rfl (fun lsB h => lv_iconst C.1 C.2.1 d2 d3 (hret _ lsB d4))
      · exact lv_astore_n C.1 C.2.1 d1 rfl z1 ha rfl (fun lsB h => lv_iconst C.1 C.2.1 d2 d3 (hret _ lsB d4))
    have hcat := vx_catch (rest := rest.map (ycv ad)) (pc := pc) C.2.2.2.2.1 (tableOf pre) (yEnt x) (tableOf suf) (by
        rw [htab, y1]
        unfold tableOf
        rw [List.map_append, List.map_cons]
        rfl) (fun z hz => by
        unfold tableOf at hz
        obtain ⟨w, hw, rfl⟩ := List.mem_map.mp hz
        obtain ⟨b1, nm', b2, b3⟩ := y2 w hw
        exact Or.inr ⟨b1, nm', hgx _ b2 rfl args, b3 s (hΓ s ad0 hG)⟩) y3 y4 (hgx _ y5 rfl args) (hgx _ y6 rfl args) (by rw [e1]; exact hce) hcv hcl hkk
    obtain ⟨t2, a1, b1⟩ := hcat T' rfl X'
    exact ⟨t2, stp.trans a1, fun _ => b1⟩
end YX
/-- a contract of a method with handlers -/
def yPH (G : yG) (ad0 : Nat → Nat) (As : List yV) (ω : yW) : Array Value → State → Prop := fun v U => yPc G ad0 As ω v U ∧ yNC U
abbrev ycodeH (i' : yM) : Cond := .codeWith (yMy i') (yMb i') (yMl i') (yMr i') (yMh i')
def yCTH (G : yG) (i : yM) (As : List yV) (ω : yW) (P : Option yV → yW → Prop) : Prop := ∀ ad0 : Nat → Nat,
  vx_Met (yGl G) (yMy i) [ycodeH i] (yMm i) (yPH G ad0 As ω) (yQc G ad0 ω.1 P) (yXc G ad0 ω.1 yNX) (yMm i).cells (yMm i).slots (yA G)
theorem yPH_blind {G : yG} {ad : Nat → Nat} {As : List yV} {ω : yW} : FrameBlind (yPH G ad As ω) := by
  intro a U g mk ⟨h1, h2⟩
  exact ⟨yPc_blind a U g mk h1, yNC.moved (u := U) (U := U.calling g mk a) (Vm.Alike.refl U.vm) h2⟩
section YY
variable {G : yG} {i : yM} {Qf : yQT} {Γ : State → (Nat → Nat) → Prop} {sh0 : Nat → Option ySh} {pc : Nat} {ls : List (Option yV)} {st : List yV} {ω : yW} {cs sl : Nat}
theorem yCTH_of {As : List yV} {P : Option yV → yW → Prop} (hpl : plainName (yMy i).cls = true) (hcat : ∀ v ∈ As, ∀ ad, (ycv ad v).category = 1) (hlen : As.length ≤ yMl i) (k : yWW G i (yQN (fun s _ => yNC s) (yQf G i ω.1 P yNX)) ω.1 0 (As.map some ++ List.replicate (yMl i - As.length) none) [] ω 0 0) : yCTH G i As ω P := by
  intro ad0
  refine vx_ofWH (cc := yMb i) (maxL := yMl i) (ret := yMr i) (hh := yMh i) hpl rfl ?_
  intro p e s m args below meth c s₁ B hml hv
  obtain ⟨⟨rfl, hg, hK, hst, hsz, hH⟩, hnc⟩ := hv
  have hl := lv_entry (As.map (ycv ad0)) (n := yMl i) (by rw [ylg_sl As hcat]; exact hlen)
  rw [lg_entry_eq]
  have htab : c.exceptionTable.toList = tableOf (yMh i) := vx_table (x := yMy i) B (atoms_spec (ws := [ycodeH i]) B.pre _ List.mem_cons_self)
  have h9 := k p e s m (As.map (ycv ad0)).toArray below meth c ad0 ad0 s.heap [] _ ⟨B.exec, B.bytes, B.returns, hml, findClass_of_methodNamed B.named, B.notSynchronized, (name_of_methodNamed B.named B.method).1, hg, hK, hst, hsz, htab⟩ (fun _ _ => rfl) va_S.rf hH ⟨_, hl, by simp; omega, fun j v hj => by
    have hj2 : As[j]? = some v := by
      by_cases h9 : j < As.length
      · rw [List.getElem?_append_left (by simpa using h9), List.getElem?_map] at hj
        cases h8 : As[j]? with
        | none => rw [h8] at hj; cases hj
        | some w => rw [h8] at hj; exact Option.some.inj hj
      · rw [List.getElem?_append_right (by simpa using Nat.not_lt.mp h9), List.getElem?_replicate] at hj
        split at hj
        · cases hj
        · cases hj
    have := ylv_args (ad := ad0) As 0 hcat j v hj2
    rw [Nat.zero_add] at this
    exact ⟨this, hcat v (List.mem_of_getElem? hj2) ad0⟩⟩
  intro T hT X
  obtain ⟨t, a1, a2⟩ := h9 T hT X
  exact ⟨t, a1, a2 hnc⟩
/-- the law calls a method with handlers -/
theorem yr_callH {i' : yM} {As rest : List yV} {P : Option yV → yW → Prop} {ix : Nat} (hΓ : ∀ s ad0, Γ s ad0 → yNC s) (hd : decode (yMb i) pc = .ok (.invokestatic ix, 3)) (hct : yCTH G i' As ω P) (hck : yck (yMm i) i' As.length = true) (hcode : ycodeH i' ∈ lw_tbl) (hini : Cond.initialized (yMy i').cls ∈ lw_tbl) (hl : Cond.methodLink (yMy i).cls ix (yMy i') ∈ lw_tbl) (hstat : Cond.static (yMy i') ∈ lw_tbl) (hrest : rest.length ≤ 8) (hcat : ∀ v ∈ rest, ∀ ad, (ycv ad v).category = 1) (hc : cs + (yMm i').cells ≤ (yMm i).cells) (hs : sl + (yMm i').slots ≤ (yMm i).slots)
    (hm : ∀ k, sh0 k ≠ none → ω.1 k ≠ none) (hP : ∀ r ω', P r ω' → (∀ k, ω'.1 k = none → ω.1 k = none) ∧ (∀ k, (yr k ∈ rest ∨ some (yr k) ∈ ls) → ω.1 k ≠ none ∨ ω'.1 k = none))
    (kk : ∀ r ω', P r ω' → yWW G i (yQN Γ Qf) sh0 (pc + 3) ls (r.toList ++ rest) ω' (cs + (yMm i').cells) (sl + (yMm i').slots)) : yWW G i (yQN Γ Qf) sh0 pc ls (As.reverse ++ rest) ω cs sl := by
  refine yWN_use (fun p e s m args below meth c ad0 ad H locs lsA hG C hE hS hH hL => ?_)
  have hg := C.2.2.2.2.2.2.2.1
  have hnc := hΓ s ad0 hG
  have hcb : vx_CSW (yMm i) s args (yMy i).cls ix (yMy i') (yMb i') (yMl i') (yMr i') (yMh i') [ycodeH i'] (yMm i') (yMm i').cells (yMm i').slots As.length := by
    unfold yck at hck
    simp only [Bool.and_eq_true, decide_eq_true_eq] at hck
    obtain ⟨⟨⟨⟨h1, h2⟩, h3⟩, h4⟩, h5⟩ := hck
    refine ⟨⟨rfl, rfl, h1, h2, fun w hw a' U hW => ?_, List.mem_singleton_self _⟩, hg _ hcode rfl args, hg _ hini rfl args, ⟨h3, h4⟩, fun sig h => ?_, hg _ hl rfl args, hg _ hstat rfl args⟩
    · rw [List.mem_singleton] at hw
      subst hw
      exact hg.warm hW _ hcode rfl a'
    · rw [h] at h5
      exact (Option.some.inj h5).symm
  have hrun := vx_runSX (l := yGl G) (e := e) (below := below) (meth := meth) (locs := locs) (cells := cs) (slots := sl) (g := F0 m pc lsA ((As.reverse ++ rest).map (ycv ad))) (rest := rest.map (ycv ad)) (Ts := yTs) (As := As.map (ycv ad)) (cc := yMb i) (nL := yMl i) (own := (yMy i).cls) (hh := yMh i') ⟨C.1, C.2.1, C.2.2.2.1, C.2.2.2.2.1, hg.hts args⟩ (hct ad) hcb ⟨yPH_blind, fun U hU hW => ⟨yPc_at C hS hH hU hW, hnc.moved hW.alike⟩⟩ rfl (by rw [List.length_map]) hL.size (by rw [List.map_append, List.map_reverse]) (by show 2 * 0 + _ ≤ 8; have := ycat_le (ad := ad) rest hrest hcat; omega) hd ⟨hc, hs⟩
  intro T hT X9
  rcases hrun T hT X9 with ⟨v, st₀, t, T', L, h0, X', hL2, e1, e2, ⟨r, ad', ω', hv, hp, hx, hH', hF⟩, stp⟩ | ⟨q, st₀, t, T', L, E, ce, h0, X', hL2, e1, e2, ⟨ad', ω', hx, -⟩, -⟩
  · cases hv
    obtain ⟨hq1, hq2⟩ := hP r ω' hp
    have hcv : ∀ v : yV, (∀ k, v = yr k → ad' k = ad k) → ycv ad' v = ycv ad v := by
      intro v hv
      rcases v with x | (o | z)
      · rfl
      · cases o with
        | none => rfl
        | some a => exact congrArg Value.ref (hv a rfl)
      · rfl
    obtain ⟨k1, k2, k3⟩ := vx_keep h0 e1 hS (fun q _ h => h) (fun q h => h) hL2 hF
    have k4 := kk r ω' hp p e s m args below meth c ad0 ad' T'.heap (locs ++ L) lsA C (fun k hk => by
        rcases hk with hk | hk
        · rw [hx k (Or.inl (hm k hk))]; exact hE k (Or.inl hk)
        · rw [hx k (Or.inr hk)]; exact hE k (Or.inr (hq1 k hk))) k3 (by rw [e1]; exact hH') (hL.ext fun j v hj => hcv v fun k hk => hx k (hq2 k (Or.inr (by rw [← hk]; exact List.mem_of_getElem? hj))))
    rw [List.map_append, show rest.map (ycv ad') = rest.map (ycv ad) from List.map_congr_left fun v hv => hcv v fun k hk => hx k (hq2 k (Or.inl (by rw [← hk]; exact hv)))] at k4
    obtain ⟨t2, a1, b1⟩ := k4 T' rfl X'
    refine ⟨t2, stp t2 ?_, b1⟩
    cases r with
    | none => exact a1
    | some w => exact a1
  · exact absurd hx id
end YY
