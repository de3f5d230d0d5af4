/-- cells from 200 on may change: σ stays -/
theorem zC_ext {σ : zS} {μ ω ω' : yW} (h : zC σ μ ω) (hs : ∀ k, k < 200 → ω'.1 k = ω.1 k) (ha : ∀ k, k < 200 → zAg ω ω' k) (hcl : yCl ω') : zC σ ω' ω' := by
  obtain ⟨⟨a1, a2, a3, a4, a5, a6⟩, b2, b3, b4, b5, b6, b7, b8, b9, b10, b11, -⟩ := h
  refine ⟨⟨(hs 0 (by omega)).trans a1, (hs 1 (by omega)).trans a2, (hs 2 (by omega)).trans a3, fun t ht => ⟨(hs _ (by omega)).trans (a4 t ht).1, (hs _ (by omega)).trans (a4 t ht).2⟩, a5, fun o ho => ?_⟩, rfl, fun k hk => ⟨rfl, rfl⟩, by rw [(ha 0 (by omega)).2]; exact b4, by rw [(ha 0 (by omega)).2]; exact b5, by rw [(ha 0 (by omega)).1]; exact b6, by rw [(ha 0 (by omega)).1]; exact b7, fun t ht => by rw [(ha 1 (by omega)).2]; exact b8 t ht, fun o ho => by rw [(ha 2 (by omega)).2]; exact b9 o ho, fun t ht => (b10 t ht).kept (zSt.rf σ t) rfl (ha _ (by omega)) (ha _ (by omega)), fun o ho => (b11 o ho).kept (zSp.rf σ o) (fun d hd => ha _ (by unfold kP; omega)), hcl⟩
  have q : ∀ d, d < 8 → ω'.1 (kP o + d) = ω.1 (kP o + d) := fun d hd => hs _ (by unfold kP; omega)
  obtain ⟨c1, c2, c3, c4, c5, c6, c7, c8, c9⟩ := a6 o ho
  exact ⟨c1, c2, c3, (q 0 (by omega)).trans c4, (q 1 (by omega)).trans c5, (q 2 (by omega)).trans c6, fun e => ⟨(q 3 (by omega)).trans (c7 e).1, (q 4 (by omega)).trans (c7 e).2.1, (q 5 (by omega)).trans (c7 e).2.2.1, (q 6 (by omega)).trans (c7 e).2.2.2⟩, fun e => (q 7 (by omega)).trans (c8 e), fun e => (q 7 (by omega)).trans (c9 e)⟩
theorem wE_cl : yCl wE := fun k s9 f j hk hf => by cases hf
theorem wY_free (k : Nat) (hk : k ≠ 0) : (yadd wE 0 (.inl 0)).1 k = none := yadd_sh (ω := wE) hk
theorem wYard_cl : yCl wYard := wTs_cl (wE_cl.add) 6
set_option maxRecDepth 20000 in
set_option maxHeartbeats 4000000 in
theorem zC_start : zC zs0 wYard wYard := by
  have h6 : ∀ t, t < 6 → t = 0 ∨ t = 1 ∨ t = 2 ∨ t = 3 ∨ t = 4 ∨ t = 5 := fun t ht => by omega
  refine ⟨⟨rfl, rfl, rfl, fun t ht => ?_, by decide, fun o ho => absurd ho (Nat.not_lt_zero _)⟩, rfl, fun k hk => ⟨rfl, rfl⟩, rfl, rfl, rfl, rfl, fun t ht => ?_, fun o ho => ?_, fun t ht => ?_, fun o ho => absurd ho (Nat.not_lt_zero _), wYard_cl⟩
  · rcases h6 t ht with rfl | rfl | rfl | rfl | rfl | rfl <;> exact ⟨rfl, rfl⟩
  · rcases h6 t ht with rfl | rfl | rfl | rfl | rfl | rfl <;> rfl
  · rcases h6 o ho with rfl | rfl | rfl | rfl | rfl | rfl <;> rfl
  · refine ⟨?_, ?_, ?_, fun f h1 h2 h3 => ?_, fun h hh => ?_, fun o ho => nomatch ho⟩
    · rcases h6 t ht with rfl | rfl | rfl | rfl | rfl | rfl <;> rfl
    · rcases h6 t ht with rfl | rfl | rfl | rfl | rfl | rfl <;> rfl
    · rcases h6 t ht with rfl | rfl | rfl | rfl | rfl | rfl <;> rfl
    · have hf : f = 2 ∨ f = 3 ∨ f = 5 ∨ f = 6 ∨ f = 7 ∨ f = 8 ∨ f = 9 ∨ f = 10 ∨ f = 11 := by omega
      rcases hf with rfl | rfl | rfl | rfl | rfl | rfl | rfl | rfl | rfl <;> rcases h6 t ht with rfl | rfl | rfl | rfl | rfl | rfl <;> rfl
    · rcases (show h = 0 ∨ h = 1 ∨ h = 2 ∨ h = 3 ∨ h = 4 by omega) with rfl | rfl | rfl | rfl | rfl <;> rcases h6 t ht with rfl | rfl | rfl | rfl | rfl | rfl <;> rfl
