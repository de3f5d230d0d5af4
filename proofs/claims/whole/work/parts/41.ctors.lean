/-! constructors: the world grows -/
theorem yCl.fr {ω : yW} (h : yCl ω) {kn : Nat} (hn : ω.1 kn = none) : ∀ (k : Nat) (s9 : ySh) (f : Nat), ω.1 k = some s9 → ω.2.2 k f ≠ some kn := fun k s9 f hk hf => h k s9 f kn hk hf hn
theorem yadd_sh {ω : yW} {k : Nat} {sp : ySh} {j : Nat} (h : j ≠ k) : (yadd ω k sp).1 j = ω.1 j := va_up_ne _ _ h
theorem yadd_at {ω : yW} {k : Nat} {sp : ySh} : (yadd ω k sp).1 k = some sp := va_up_self _ _ _
theorem yadd_live {ω : yW} {k : Nat} {sp : ySh} {j : Nat} (h : ω.1 j ≠ none) : (yadd ω k sp).1 j ≠ none := by
  by_cases e : j = k
  · rw [e, yadd_at]; exact fun z => nomatch z
  · rw [yadd_sh e]; exact h
theorem yCl.add {ω : yW} {kn : Nat} {sp : ySh} (h : yCl ω) : yCl (yadd ω kn sp) := by
  intro k s9 f j hk hf
  by_cases e : k = kn
  · subst e
    have : (yadd ω k sp).2.2 k = fun _ => none := va_up_self _ _ _
    rw [this] at hf
    cases hf
  · rw [yadd_sh e] at hk
    have : (yadd ω kn sp).2.2 k = ω.2.2 k := va_up_ne _ _ e
    rw [this] at hf
    exact yadd_live (h k s9 f j hk hf)
theorem yCl.si {ω : yW} {k i : Nat} {x : Int32} (h : yCl ω) : yCl (ysi ω k i x) := h
theorem yCl.sf {ω : yW} {k i j : Nat} (h : yCl ω) (hj : ω.1 j ≠ none) : yCl (ysf ω k i (some j)) := by
  intro k' s9 f j' hk hf
  by_cases e : k' = k ∧ f = i
  · rw [e.1, e.2] at hf
    have : (ysf ω k i (some j)).2.2 k i = some j := yu_same _ _ _ _
    rw [this] at hf
    cases hf
    exact hj
  · have : (ysf ω k i (some j)).2.2 k' f = ω.2.2 k' f := by
      show yu _ _ _ _ _ _ = _
      unfold yu
      rw [if_neg e]
    rw [this] at hf
    exact h k' s9 f j' hk hf
section YIN
variable {G : yG} {i : yM} {pc : Nat} {ls : List (Option yV)} {ω : yW} {cs sl : Nat} {P : Option yV → yW → Prop}
theorem yrunIN {i' : yM} {k : Nat} {As rest : List yV} {ix : Nat} {host : String} (hd : decode (yMb i) pc = .ok (.invokespecial ix, 3)) (hnm : (yMy i').name = "<init>") (hret : yMr i' = none) (hct : yCT G i' (yr k :: As) ω P yNX) (hck : yck (yMm i) i' As.length = true) (hcode : ycode i' ∈ lw_tbl) (hini : Cond.initialized (yMy i').cls ∈ lw_tbl) (hl : Cond.methodLinkNest (yMy i).cls ix (yMy i') host ∈ lw_tbl) (hin : Cond.instanceMethod (yMy i') ∈ lw_tbl) (hrest : rest.length ≤ 8) (hcat : ∀ v ∈ rest, ∀ ad, (ycv ad v).category = 1) (hc : cs + (yMm i').cells ≤ (yMm i).cells) (hs : sl + (yMm i').slots ≤ (yMm i).slots) : yRun G i i' pc ls (As.reverse ++ yr k :: rest) rest (yr k :: As) ω cs sl P yNX := by
  intro p e s m args below meth c ad H locs lsA C hS hH hL
  have hg := C.2.2.2.2.2.2.2.1
  have hM := yMetN hct ad
  unfold yck at hck
  simp only [Bool.and_eq_true, decide_eq_true_eq] at hck
  obtain ⟨⟨⟨⟨h1, h2⟩, h3⟩, h4⟩, h5⟩ := hck
  rw [hret] at hM
  have hw : ycode i' = Cond.code (yMy i') (yMb i') (yMl i') none := by unfold ycode; rw [hret]
  exact yRunN (va_runIN (Ts := yTs) (As := As.map (ycv ad)) ⟨C.1, C.2.1, C.2.2.2.1, C.2.2.2.2.1, hg.hts args⟩ hM ⟨⟨⟨rfl, rfl, h1, h2, by rw [← hw]; exact yws hg hcode, List.mem_singleton_self _⟩, by rw [← hw]; exact hg _ hcode rfl args, hg _ hini rfl args, ⟨h3, h4⟩, fun sig h => by rw [h] at h5; rw [← List.length_map (f := ycv ad)] at h5; exact (by rw [List.length_map] at h5; exact (Option.some.inj h5).symm), hg _ hl rfl args⟩, hnm, hg _ hin rfl args⟩ ⟨yPc_blind, fun U hU hW => yPc_at (As := yr k :: As) C hS hH hU hW⟩ rfl (by rw [List.length_map]) hL.size (by rw [List.map_append, List.map_reverse, List.map_cons]; rfl) (by show 2 * 0 + _ ≤ 8; have := ycat_le (ad := ad) rest hrest hcat; omega) hd ⟨hc, hs⟩)
end YIN
def wRow (ω : yW) (k : Nat) : yW := ysf (yadd ω (k + 1) (.inr (3, 6))) k 0 (some (k + 1))
def wNewRow (ω : yW) (k : Nat) : yW := wRow (yadd ω k (.inl 2)) k
def wPlace (ω : yW) (k : Nat) (kd num : Int32) : yW := ysi (ysi (ysf (wNewRow ω (k + 1)) k 2 (some (k + 1))) k 0 kd) k 1 num

set_option maxHeartbeats 4000000 in
set_option maxRecDepth 20000 in
theorem c_R_init {G : yG} {ω : yW} {k : Nat} (hk : ω.1 k = some (.inl 2)) (hf : ω.1 (k + 1) = none) (hcl : yCl ω) : yCT G m_R_init [yr k] ω (fun r ω' => r = none ∧ ω' = wRow ω k) yNX := by
  refine yCT_of (by decide) rfl (ycat_of rfl) (Nat.le_of_ble_eq_true rfl) ?_
  refine yr_aload_n d_R_init_0 rfl ?_
  refine yr_objInit d_R_init_1 (by decide +kernel) (by decide +kernel) (List.mem_of_getElem? (i := 62) rfl) (by decide) (by decide) (ycat_of rfl) ?_
  refine yr_aload_n d_R_init_4 rfl ?_
  refine yr_bipush (v := 6) d_R_init_5 (by decide) ?_
  refine yr_newq (tc := 3) (kn := k + 1) (N := 6) (C0 := "MonitorYard$YardThread") d_R_init_7 (Or.inl rfl) rfl (by decide +kernel) (by decide +kernel) (by decide) (by decide) (by decide) hf hf (hcl.fr hf) ?_ ?_ (by decide) (by decide) ?_
  · intro v hv
    simp at hv
    rw [hv]
    intro z
    simp at z
  · intro v hv
    simp at hv
    rw [hv]
    intro z
    simp at z
  have hk2 : (yadd ω (k + 1) (.inr (3, 6))).1 k = some (.inl 2) := (yadd_sh (by omega)).trans hk
  refine yr_putrF d_R_init_10 hk2 sf_R_init_10 rfl rfl rfl rfl rfl (fun ad => ⟨rfl, rfl⟩) ?_
  exact yr_retv d_R_init_13 rfl (by decide) (by decide) ⟨rfl, rfl⟩
