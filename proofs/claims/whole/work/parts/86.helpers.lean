/-! the law's helpers -/
def wc (E : String) : Int32 := if E = "java/lang/IllegalArgumentException" then 1 else if E = "java/lang/UnsupportedOperationException" then 3 else 2
def wHq (ω : yW) (P : Option yV → zS → Prop) (X : String → zS → Prop) : Option yV → yW → Prop := fun r ω9 => (∃ v σ' ω1, zC σ' ω ω1 ∧ P (some (yi v)) σ' ∧ r = some (yi 0) ∧ ω9 = ysi ω1 300 0 v) ∨ (∃ E σ' ω1, zC σ' ω ω1 ∧ X E σ' ∧ r = some (yi (wc E)) ∧ ω9 = ω1)
def wHv (ω : yW) (P : Option yV → zS → Prop) (X : String → zS → Prop) : Option yV → yW → Prop := fun r ω9 => (∃ σ' ω1, zC σ' ω ω1 ∧ P none σ' ∧ r = some (yi 0) ∧ ω9 = ω1) ∨ (∃ E σ' ω1, zC σ' ω ω1 ∧ X E σ' ∧ r = some (yi (wc E)) ∧ ω9 = ω1)
theorem wsame {σ' : zS} {ω ω1 : yW} {ls : List (Option yV)} {rest : List yV} (h : zC σ' ω ω1) : (∀ k, ω1.1 k = none → ω.1 k = none) ∧ (∀ k, (yr k ∈ rest ∨ some (yr k) ∈ ls) → ω.1 k ≠ none ∨ ω1.1 k = none) := by
  have e : ω1.1 = ω.1 := h.2.1
  refine ⟨fun k z => by rw [← e]; exact z, fun k _ => ?_⟩
  rw [e]
  by_cases z : ω.1 k = none
  · exact Or.inr z
  · exact Or.inl z

theorem hd_W_told_0 : yHd m_W_told 5 "java/lang/IllegalArgumentException" 1 := ⟨[], (0, 10, 13, 13), [], "java/lang/IllegalArgumentException", rfl, (fun z hz => (nomatch hz)), by decide, by decide, by decide +kernel, by decide +kernel, ⟨2, 1, Or.inl ⟨4, d_W_told_13, by decide, rfl⟩, d_W_told_15, by decide, d_W_told_16⟩⟩
theorem c_W_told {G : yG} (hT : (yGl G).stackTraces = false) {σ : zS} {ω : yW} {x y : Int32} (hz : zC σ ω ω) (h300 : ω.1 300 = some (.inr (2, 1))) {P : Option yV → zS → Prop} {X : String → zS → Prop} (hct : zCX G m_Y_told [yr 0, yi x, yi y] σ ω P X) (hPi : ∀ r σ', P r σ' → ∃ v, r = some (yi v)) (hXi : ∀ E σ', X E σ' → E = "java/lang/IllegalArgumentException") : yCTH G m_W_told [yr 0, yi x, yi y, yr 300] ω (wHq ω P X) := by
  refine yCTH_of (by decide) (ycat_of rfl) (Nat.le_of_ble_eq_true rfl) ?_
  refine yr_aload_n d_W_told_0 rfl ?_
  refine yr_iconst (v := 0) d_W_told_1 (by decide) ?_
  refine yr_aload_n d_W_told_2 rfl ?_
  refine yr_iload_n d_W_told_3 rfl ?_
  refine yr_iload_n d_W_told_4 rfl ?_
  refine yr_callX (fun s ad0 h => h) (yrunV (k := 0) (As := [yi x, yi y]) (rest := [yi 0, yr 300]) d_W_told_5 (hct ω hz) hz.1.1 rfl (show yck (yMm m_W_told) m_Y_told 2 = true by decide +kernel) cw_Y_told (by decide +kernel) (by decide +kernel) (by decide +kernel) (by decide +kernel) (Nat.le_of_ble_eq_true rfl) (ycat_of rfl) (by decide) (by decide)) (fun k h => h) (fun r ω1 ⟨σ', hz1, _⟩ => wsame hz1) rfl (by decide) (by decide) (fun r ω1 hp => ?_) (fun E ω1 hx => ?_)
  · obtain ⟨σ', hz1, hp⟩ := hp
    obtain ⟨v, rfl⟩ := hPi _ _ hp
    refine yr_i2l d_W_told_8 ?_
    refine yr_last (k := 300) (n := 1) (j := 0) d_W_told_9 (by rw [hz1.2.1]; exact h300) (by decide) rfl (by decide) ?_
    refine yr_goto (tgt := 17) d_W_told_10 (by decide) ?_
    refine yr_iconst (v := 0) d_W_told_17 (by decide) ?_
    exact yWN (yr_reti d_W_told_18 rfl (by decide) (by decide) (Or.inl ⟨_, _, ω1, hz1, hp, rfl, rfl⟩))
  · obtain ⟨σ', hz1, hx⟩ := hx
    refine ⟨(wsame (ls := []) (rest := []) hz1).1, wc E, ?_, Or.inr ⟨E, σ', ω1, hz1, hx, rfl, rfl⟩⟩
    cases hXi _ _ hx
    · exact hd_W_told_0
theorem hd_W_object_0 : yHd m_W_object 5 "java/lang/IllegalArgumentException" 1 := ⟨[], (0, 10, 13, 13), [], "java/lang/IllegalArgumentException", rfl, (fun z hz => (nomatch hz)), by decide, by decide, by decide +kernel, by decide +kernel, ⟨2, 1, Or.inl ⟨4, d_W_object_13, by decide, rfl⟩, d_W_object_15, by decide, d_W_object_16⟩⟩
theorem c_W_object {G : yG} (hT : (yGl G).stackTraces = false) {σ : zS} {ω : yW} {x y : Int32} (hz : zC σ ω ω) (h300 : ω.1 300 = some (.inr (2, 1))) {P : Option yV → zS → Prop} {X : String → zS → Prop} (hct : zCX G m_Y_object [yr 0, yi x, yi y] σ ω P X) (hPi : ∀ r σ', P r σ' → ∃ v, r = some (yi v)) (hXi : ∀ E σ', X E σ' → E = "java/lang/IllegalArgumentException") : yCTH G m_W_object [yr 0, yi x, yi y, yr 300] ω (wHq ω P X) := by
  refine yCTH_of (by decide) (ycat_of rfl) (Nat.le_of_ble_eq_true rfl) ?_
  refine yr_aload_n d_W_object_0 rfl ?_
  refine yr_iconst (v := 0) d_W_object_1 (by decide) ?_
  refine yr_aload_n d_W_object_2 rfl ?_
  refine yr_iload_n d_W_object_3 rfl ?_
  refine yr_iload_n d_W_object_4 rfl ?_
  refine yr_callX (fun s ad0 h => h) (yrunV (k := 0) (As := [yi x, yi y]) (rest := [yi 0, yr 300]) d_W_object_5 (hct ω hz) hz.1.1 rfl (show yck (yMm m_W_object) m_Y_object 2 = true by decide +kernel) cw_Y_object (by decide +kernel) (by decide +kernel) (by decide +kernel) (by decide +kernel) (Nat.le_of_ble_eq_true rfl) (ycat_of rfl) (by decide) (by decide)) (fun k h => h) (fun r ω1 ⟨σ', hz1, _⟩ => wsame hz1) rfl (by decide) (by decide) (fun r ω1 hp => ?_) (fun E ω1 hx => ?_)
  · obtain ⟨σ', hz1, hp⟩ := hp
    obtain ⟨v, rfl⟩ := hPi _ _ hp
    refine yr_i2l d_W_object_8 ?_
    refine yr_last (k := 300) (n := 1) (j := 0) d_W_object_9 (by rw [hz1.2.1]; exact h300) (by decide) rfl (by decide) ?_
    refine yr_goto (tgt := 17) d_W_object_10 (by decide) ?_
    refine yr_iconst (v := 0) d_W_object_17 (by decide) ?_
    exact yWN (yr_reti d_W_object_18 rfl (by decide) (by decide) (Or.inl ⟨_, _, ω1, hz1, hp, rfl, rfl⟩))
  · obtain ⟨σ', hz1, hx⟩ := hx
    refine ⟨(wsame (ls := []) (rest := []) hz1).1, wc E, ?_, Or.inr ⟨E, σ', ω1, hz1, hx, rfl, rfl⟩⟩
    cases hXi _ _ hx
    · exact hd_W_object_0
theorem hd_W_waiter_0 : yHd m_W_waiter 5 "java/lang/IllegalArgumentException" 1 := ⟨[], (0, 10, 13, 13), [(0, 10, 17, 40)], "java/lang/IllegalArgumentException", rfl, (fun z hz => (nomatch hz)), by decide, by decide, by decide +kernel, by decide +kernel, ⟨2, 1, Or.inl ⟨4, d_W_waiter_13, by decide, rfl⟩, d_W_waiter_15, by decide, d_W_waiter_16⟩⟩
theorem hd_W_waiter_1 : yHd m_W_waiter 5 "java/util/NoSuchElementException" 2 := ⟨[(0, 10, 13, 13)], (0, 10, 17, 40), [], "java/util/NoSuchElementException", rfl, (fun z hz => by
    simp only [List.mem_cons, List.not_mem_nil, or_false] at hz
    subst hz
    exact ⟨by decide, "java/lang/IllegalArgumentException", by decide +kernel, fun s h => h.2.2.2⟩), by decide, by decide, by decide +kernel, by decide +kernel, ⟨2, 2, Or.inl ⟨4, d_W_waiter_17, by decide, rfl⟩, d_W_waiter_19, by decide, d_W_waiter_20⟩⟩
theorem c_W_waiter {G : yG} (hT : (yGl G).stackTraces = false) {σ : zS} {ω : yW} {x y : Int32} (hz : zC σ ω ω) (h300 : ω.1 300 = some (.inr (2, 1))) {P : Option yV → zS → Prop} {X : String → zS → Prop} (hct : zCX G m_Y_waiter [yr 0, yi x, yi y] σ ω P X) (hPi : ∀ r σ', P r σ' → ∃ v, r = some (yi v)) (hXi : ∀ E σ', X E σ' → E = "java/lang/IllegalArgumentException" ∨ E = "java/util/NoSuchElementException") : yCTH G m_W_waiter [yr 0, yi x, yi y, yr 300] ω (wHq ω P X) := by
  refine yCTH_of (by decide) (ycat_of rfl) (Nat.le_of_ble_eq_true rfl) ?_
  refine yr_aload_n d_W_waiter_0 rfl ?_
  refine yr_iconst (v := 0) d_W_waiter_1 (by decide) ?_
  refine yr_aload_n d_W_waiter_2 rfl ?_
  refine yr_iload_n d_W_waiter_3 rfl ?_
  refine yr_iload_n d_W_waiter_4 rfl ?_
  refine yr_callX (fun s ad0 h => h) (yrunV (k := 0) (As := [yi x, yi y]) (rest := [yi 0, yr 300]) d_W_waiter_5 (hct ω hz) hz.1.1 rfl (show yck (yMm m_W_waiter) m_Y_waiter 2 = true by decide +kernel) cw_Y_waiter (by decide +kernel) (by decide +kernel) (by decide +kernel) (by decide +kernel) (Nat.le_of_ble_eq_true rfl) (ycat_of rfl) (by decide) (by decide)) (fun k h => h) (fun r ω1 ⟨σ', hz1, _⟩ => wsame hz1) rfl (by decide) (by decide) (fun r ω1 hp => ?_) (fun E ω1 hx => ?_)
  · obtain ⟨σ', hz1, hp⟩ := hp
    obtain ⟨v, rfl⟩ := hPi _ _ hp
    refine yr_i2l d_W_waiter_8 ?_
    refine yr_last (k := 300) (n := 1) (j := 0) d_W_waiter_9 (by rw [hz1.2.1]; exact h300) (by decide) rfl (by decide) ?_
    refine yr_goto (tgt := 21) d_W_waiter_10 (by decide) ?_
    refine yr_iconst (v := 0) d_W_waiter_21 (by decide) ?_
    exact yWN (yr_reti d_W_waiter_22 rfl (by decide) (by decide) (Or.inl ⟨_, _, ω1, hz1, hp, rfl, rfl⟩))
  · obtain ⟨σ', hz1, hx⟩ := hx
    refine ⟨(wsame (ls := []) (rest := []) hz1).1, wc E, ?_, Or.inr ⟨E, σ', ω1, hz1, hx, rfl, rfl⟩⟩
    rcases hXi _ _ hx with rfl | rfl
    · exact hd_W_waiter_0
    · exact hd_W_waiter_1
theorem hd_W_tick_0 : yHd m_W_tick 4 "java/lang/IllegalArgumentException" 1 := ⟨[], (0, 9, 12, 13), [], "java/lang/IllegalArgumentException", rfl, (fun z hz => (nomatch hz)), by decide, by decide, by decide +kernel, by decide +kernel, ⟨1, 1, Or.inr ⟨3, d_W_tick_12, by decide, rfl⟩, d_W_tick_13, by decide, d_W_tick_14⟩⟩
theorem c_W_tick {G : yG} (hT : (yGl G).stackTraces = false) {σ : zS} {ω : yW} {x : Int32} (hz : zC σ ω ω) (h300 : ω.1 300 = some (.inr (2, 1))) {P : Option yV → zS → Prop} {X : String → zS → Prop} (hct : zCX G m_Y_tick [yr 0, yi x] σ ω P X) (hPi : ∀ r σ', P r σ' → ∃ v, r = some (yi v)) (hXi : ∀ E σ', X E σ' → E = "java/lang/IllegalArgumentException") : yCTH G m_W_tick [yr 0, yi x, yr 300] ω (wHq ω P X) := by
  refine yCTH_of (by decide) (ycat_of rfl) (Nat.le_of_ble_eq_true rfl) ?_
  refine yr_aload_n d_W_tick_0 rfl ?_
  refine yr_iconst (v := 0) d_W_tick_1 (by decide) ?_
  refine yr_aload_n d_W_tick_2 rfl ?_
  refine yr_iload_n d_W_tick_3 rfl ?_
  refine yr_callX (fun s ad0 h => h) (yrunV (k := 0) (As := [yi x]) (rest := [yi 0, yr 300]) d_W_tick_4 (hct ω hz) hz.1.1 rfl (show yck (yMm m_W_tick) m_Y_tick 1 = true by decide +kernel) cw_Y_tick (by decide +kernel) (by decide +kernel) (by decide +kernel) (by decide +kernel) (Nat.le_of_ble_eq_true rfl) (ycat_of rfl) (by decide) (by decide)) (fun k h => h) (fun r ω1 ⟨σ', hz1, _⟩ => wsame hz1) rfl (by decide) (by decide) (fun r ω1 hp => ?_) (fun E ω1 hx => ?_)
  · obtain ⟨σ', hz1, hp⟩ := hp
    obtain ⟨v, rfl⟩ := hPi _ _ hp
    refine yr_i2l d_W_tick_7 ?_
    refine yr_last (k := 300) (n := 1) (j := 0) d_W_tick_8 (by rw [hz1.2.1]; exact h300) (by decide) rfl (by decide) ?_
    refine yr_goto (tgt := 15) d_W_tick_9 (by decide) ?_
    refine yr_iconst (v := 0) d_W_tick_15 (by decide) ?_
    exact yWN (yr_reti d_W_tick_16 rfl (by decide) (by decide) (Or.inl ⟨_, _, ω1, hz1, hp, rfl, rfl⟩))
  · obtain ⟨σ', hz1, hx⟩ := hx
    refine ⟨(wsame (ls := []) (rest := []) hz1).1, wc E, ?_, Or.inr ⟨E, σ', ω1, hz1, hx, rfl, rfl⟩⟩
    cases hXi _ _ hx
    · exact hd_W_tick_0
theorem hd_W_act_0 : yHd m_W_act 11 "java/lang/IllegalArgumentException" 1 := ⟨[], (0, 16, 19, 13), [(0, 16, 23, 15), (0, 16, 27, 21)], "java/lang/IllegalArgumentException", rfl, (fun z hz => (nomatch hz)), by decide, by decide, by decide +kernel, by decide +kernel, ⟨2, 1, Or.inl ⟨7, d_W_act_19, by decide, rfl⟩, d_W_act_21, by decide, d_W_act_22⟩⟩
theorem hd_W_act_1 : yHd m_W_act 11 "java/lang/IllegalStateException" 2 := ⟨[(0, 16, 19, 13)], (0, 16, 23, 15), [(0, 16, 27, 21)], "java/lang/IllegalStateException", rfl, (fun z hz => by
    simp only [List.mem_cons, List.not_mem_nil, or_false] at hz
    subst hz
    exact ⟨by decide, "java/lang/IllegalArgumentException", by decide +kernel, fun s h => h.1⟩), by decide, by decide, by decide +kernel, by decide +kernel, ⟨2, 2, Or.inl ⟨7, d_W_act_23, by decide, rfl⟩, d_W_act_25, by decide, d_W_act_26⟩⟩
theorem hd_W_act_2 : yHd m_W_act 11 "java/lang/UnsupportedOperationException" 3 := ⟨[(0, 16, 19, 13), (0, 16, 23, 15)], (0, 16, 27, 21), [], "java/lang/UnsupportedOperationException", rfl, (fun z hz => by
    simp only [List.mem_cons, List.not_mem_nil, or_false] at hz
    rcases hz with rfl | rfl
    · exact ⟨by decide, "java/lang/IllegalArgumentException", by decide +kernel, fun s h => h.2.1⟩
    · exact ⟨by decide, "java/lang/IllegalStateException", by decide +kernel, fun s h => h.2.2.1⟩), by decide, by decide, by decide +kernel, by decide +kernel, ⟨2, 3, Or.inl ⟨7, d_W_act_27, by decide, rfl⟩, d_W_act_29, by decide, d_W_act_30⟩⟩
theorem c_W_act {G : yG} (hT : (yGl G).stackTraces = false) {σ : zS} {ω : yW} {x y a g p : Int32} (hz : zC σ ω ω) (h300 : ω.1 300 = some (.inr (2, 1))) {P : Option yV → zS → Prop} {X : String → zS → Prop} (hct : zCX G m_Y_act [yr 0, yi x, yi y, yi a, yi g, yi p] σ ω P X) (hPi : ∀ r σ', P r σ' → ∃ v, r = some (yi v)) (hXi : ∀ E σ', X E σ' → E = "java/lang/IllegalArgumentException" ∨ E = "java/lang/IllegalStateException" ∨ E = "java/lang/UnsupportedOperationException") : yCTH G m_W_act [yr 0, yi x, yi y, yi a, yi g, yi p, yr 300] ω (wHq ω P X) := by
  refine yCTH_of (by decide) (ycat_of rfl) (Nat.le_of_ble_eq_true rfl) ?_
  refine yr_aload d_W_act_0 rfl ?_
  refine yr_iconst (v := 0) d_W_act_2 (by decide) ?_
  refine yr_aload_n d_W_act_3 rfl ?_
  refine yr_iload_n d_W_act_4 rfl ?_
  refine yr_iload_n d_W_act_5 rfl ?_
  refine yr_iload_n d_W_act_6 rfl ?_
  refine yr_iload d_W_act_7 rfl ?_
  refine yr_iload d_W_act_9 rfl ?_
  refine yr_callX (fun s ad0 h => h) (yrunV (k := 0) (As := [yi x, yi y, yi a, yi g, yi p]) (rest := [yi 0, yr 300]) d_W_act_11 (hct ω hz) hz.1.1 rfl (show yck (yMm m_W_act) m_Y_act 5 = true by decide +kernel) cw_Y_act (by decide +kernel) (by decide +kernel) (by decide +kernel) (by decide +kernel) (Nat.le_of_ble_eq_true rfl) (ycat_of rfl) (by decide) (by decide)) (fun k h => h) (fun r ω1 ⟨σ', hz1, _⟩ => wsame hz1) rfl (by decide) (by decide) (fun r ω1 hp => ?_) (fun E ω1 hx => ?_)
  · obtain ⟨σ', hz1, hp⟩ := hp
    obtain ⟨v, rfl⟩ := hPi _ _ hp
    refine yr_i2l d_W_act_14 ?_
    refine yr_last (k := 300) (n := 1) (j := 0) d_W_act_15 (by rw [hz1.2.1]; exact h300) (by decide) rfl (by decide) ?_
    refine yr_goto (tgt := 31) d_W_act_16 (by decide) ?_
    refine yr_iconst (v := 0) d_W_act_31 (by decide) ?_
    exact yWN (yr_reti d_W_act_32 rfl (by decide) (by decide) (Or.inl ⟨_, _, ω1, hz1, hp, rfl, rfl⟩))
  · obtain ⟨σ', hz1, hx⟩ := hx
    refine ⟨(wsame (ls := []) (rest := []) hz1).1, wc E, ?_, Or.inr ⟨E, σ', ω1, hz1, hx, rfl, rfl⟩⟩
    rcases hXi _ _ hx with rfl | rfl | rfl
    · exact hd_W_act_0
    · exact hd_W_act_1
    · exact hd_W_act_2
theorem hd_W_interrupt_0 : yHd m_W_interrupt 2 "java/lang/IllegalArgumentException" 1 := ⟨[], (0, 5, 8, 13), [], "java/lang/IllegalArgumentException", rfl, (fun z hz => (nomatch hz)), by decide, by decide, by decide +kernel, by decide +kernel, ⟨1, 1, Or.inr ⟨2, d_W_interrupt_8, by decide, rfl⟩, d_W_interrupt_9, by decide, d_W_interrupt_10⟩⟩
theorem c_W_interrupt {G : yG} (hT : (yGl G).stackTraces = false) {σ : zS} {ω : yW} {x : Int32} (hz : zC σ ω ω) (h300 : ω.1 300 = some (.inr (2, 1))) {P : Option yV → zS → Prop} {X : String → zS → Prop} (hct : zCX G m_Y_interrupt [yr 0, yi x] σ ω P X) (hPi : ∀ r σ', P r σ' → r = none) (hXi : ∀ E σ', X E σ' → E = "java/lang/IllegalArgumentException") : yCTH G m_W_interrupt [yr 0, yi x] ω (wHv ω P X) := by
  refine yCTH_of (by decide) (ycat_of rfl) (Nat.le_of_ble_eq_true rfl) ?_
  refine yr_aload_n d_W_interrupt_0 rfl ?_
  refine yr_iload_n d_W_interrupt_1 rfl ?_
  refine yr_callX (fun s ad0 h => h) (yrunV (k := 0) (As := [yi x]) (rest := []) d_W_interrupt_2 (hct ω hz) hz.1.1 rfl (show yck (yMm m_W_interrupt) m_Y_interrupt 1 = true by decide +kernel) cw_Y_interrupt (by decide +kernel) (by decide +kernel) (by decide +kernel) (by decide +kernel) (Nat.le_of_ble_eq_true rfl) (ycat_of rfl) (by decide) (by decide)) (fun k h => h) (fun r ω1 ⟨σ', hz1, _⟩ => wsame hz1) rfl (by decide) (by decide) (fun r ω1 hp => ?_) (fun E ω1 hx => ?_)
  · obtain ⟨σ', hz1, hp⟩ := hp
    cases hPi _ _ hp
    refine yr_goto (tgt := 11) d_W_interrupt_5 (by decide) ?_
    refine yr_iconst (v := 0) d_W_interrupt_11 (by decide) ?_
    exact yWN (yr_reti d_W_interrupt_12 rfl (by decide) (by decide) (Or.inl ⟨_, ω1, hz1, hp, rfl, rfl⟩))
  · obtain ⟨σ', hz1, hx⟩ := hx
    refine ⟨(wsame (ls := []) (rest := []) hz1).1, wc E, ?_, Or.inr ⟨E, σ', ω1, hz1, hx, rfl, rfl⟩⟩
    cases hXi _ _ hx
    · exact hd_W_interrupt_0
theorem hd_W_make_0 : yHd m_W_make 5 "java/lang/IllegalArgumentException" 1 := ⟨[], (0, 10, 13, 13), [(0, 10, 17, 15)], "java/lang/IllegalArgumentException", rfl, (fun z hz => (nomatch hz)), by decide, by decide, by decide +kernel, by decide +kernel, ⟨2, 1, Or.inl ⟨4, d_W_make_13, by decide, rfl⟩, d_W_make_15, by decide, d_W_make_16⟩⟩
theorem hd_W_make_1 : yHd m_W_make 5 "java/lang/IllegalStateException" 2 := ⟨[(0, 10, 13, 13)], (0, 10, 17, 15), [], "java/lang/IllegalStateException", rfl, (fun z hz => by
    simp only [List.mem_cons, List.not_mem_nil, or_false] at hz
    subst hz
    exact ⟨by decide, "java/lang/IllegalArgumentException", by decide +kernel, fun s h => h.1⟩), by decide, by decide, by decide +kernel, by decide +kernel, ⟨2, 2, Or.inl ⟨4, d_W_make_17, by decide, rfl⟩, d_W_make_19, by decide, d_W_make_20⟩⟩
theorem c_W_make {G : yG} (hT : (yGl G).stackTraces = false) {σ : zS} {ω : yW} {x y : Int32} (hz : zC σ ω ω) (h300 : ω.1 300 = some (.inr (2, 1))) (hfree : zn σ < 6 → ∀ j, j < 8 → ω.1 (kP (zn σ) + j) = none) : yCTH G m_W_make [yr 0, yi x, yi y, yr 300] ω (fun r ω9 => (∃ c s, c < 6 ∧ 1 ≤ s ∧ s ≤ 3 ∧ x = nI c ∧ y = nI s ∧ zn σ < 6 ∧ r = some (yi 0) ∧ ω9 = ysi (wMake ω c (zn σ) s) 300 0 (nI (zn σ))) ∨ (ω9 = ω ∧ r = some (yi 1) ∧ ((x < 0 ∨ 5 < x) ∨ y < 1 ∨ ¬ y ≤ 3)) ∨ (ω9 = ω ∧ r = some (yi 2) ∧ ∃ c s, c < 6 ∧ 1 ≤ s ∧ s ≤ 3 ∧ x = nI c ∧ y = nI s ∧ ¬ nI (zn σ) < 6)) := by
  refine yCTH_of (by decide) (ycat_of rfl) (Nat.le_of_ble_eq_true rfl) ?_
  refine yr_aload_n d_W_make_0 rfl ?_
  refine yr_iconst (v := 0) d_W_make_1 (by decide) ?_
  refine yr_aload_n d_W_make_2 rfl ?_
  refine yr_iload_n d_W_make_3 rfl ?_
  refine yr_iload_n d_W_make_4 rfl ?_
  refine yr_callX (fun s ad0 h => h) (yrunV (k := 0) (As := [yi x, yi y]) (rest := [yi 0, yr 300]) d_W_make_5 (c_Y_make hT hz hfree) hz.1.1 rfl (show yck (yMm m_W_make) m_Y_make 2 = true by decide +kernel) cw_Y_make (by decide +kernel) (by decide +kernel) (by decide +kernel) (by decide +kernel) (Nat.le_of_ble_eq_true rfl) (ycat_of rfl) (by decide) (by decide)) (fun k h => h) (fun r ω1 hp => ?_) rfl (by decide) (by decide) (fun r ω1 hp => ?_) (fun E ω1 hx => ?_)
  · obtain ⟨c, s9, -, -, -, -, -, -, -, rfl⟩ := hp
    refine ⟨fun k h => wMk_none (c := c) (o := zn σ) (s := s9) h, fun k hk => Or.inl ?_⟩
    have hk : k = 0 ∨ k = 300 := by
      rcases hk with hk | hk
      · simp at hk
        exact Or.inr hk
      · simp at hk
        exact hk
    rcases hk with rfl | rfl
    · rw [hz.1.1]; exact fun z => nomatch z
    · rw [h300]; exact fun z => nomatch z
  · obtain ⟨c, s9, q1, q2, q3, q4, q5, q6, rfl, rfl⟩ := hp
    refine yr_i2l d_W_make_8 ?_
    refine yr_last (k := 300) (n := 1) (j := 0) d_W_make_9 ((wMk_sh (ω := ω) (c := c) (o := zn σ) (s := s9) (by unfold kP; omega)).trans h300) (by decide) rfl (by decide) ?_
    refine yr_goto (tgt := 21) d_W_make_10 (by decide) ?_
    refine yr_iconst (v := 0) d_W_make_21 (by decide) ?_
    exact yWN (yr_reti d_W_make_22 rfl (by decide) (by decide) (Or.inl ⟨c, s9, q1, q2, q3, q4, q5, q6, rfl, rfl⟩))
  · obtain ⟨rfl, hx⟩ := hx
    refine ⟨fun k h => h, wc E, ?_, ?_⟩
    · rcases hx with ⟨rfl, -⟩ | ⟨rfl, -⟩
      · exact hd_W_make_0
      · exact hd_W_make_1
    · rcases hx with ⟨rfl, hx⟩ | ⟨rfl, hx⟩
      · exact Or.inr (Or.inl ⟨rfl, rfl, hx⟩)
      · exact Or.inr (Or.inr ⟨rfl, rfl, hx⟩)
