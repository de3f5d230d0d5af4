theorem yadd_none {ω : yW} {k : Nat} {sp : ySh} {j : Nat} (h : (yadd ω k sp).1 j = none) : ω.1 j = none := by
  by_cases e : j = k
  · rw [e, yadd_at] at h; cases h
  · rw [yadd_sh e] at h; exact h
theorem ynn {x : Option ySh} {s : ySh} (h : x = some s) : x ≠ none := by rw [h]; exact fun z => nomatch z
theorem wRow_cl {ω : yW} {k : Nat} (h : yCl ω) : yCl (wRow ω k) := (h.add).sf (ynn yadd_at)
theorem wNewRow_cl {ω : yW} {k : Nat} (h : yCl ω) : yCl (wNewRow ω k) := wRow_cl h.add
theorem wRow_sh {ω : yW} {k j : Nat} (h : j ≠ k + 1) : (wRow ω k).1 j = ω.1 j := yadd_sh h
theorem wNewRow_sh {ω : yW} {k j : Nat} (h : j ≠ k) (h1 : j ≠ k + 1) : (wNewRow ω k).1 j = ω.1 j := (wRow_sh h1).trans (yadd_sh h)
theorem wNewRow_at {ω : yW} {k : Nat} : (wNewRow ω k).1 k = some (.inl 2) := (wRow_sh (by omega)).trans yadd_at
theorem wNewRow_none {ω : yW} {k j : Nat} (h : (wNewRow ω k).1 j = none) : ω.1 j = none := yadd_none (yadd_none h)
theorem wPlace_cl {ω : yW} {k : Nat} {a b : Int32} (h : yCl ω) : yCl (wPlace ω k a b) := (wNewRow_cl h).sf (ynn wNewRow_at)
theorem wPlace_sh {ω : yW} {k j : Nat} {a b : Int32} (h : j ≠ k + 1) (h1 : j ≠ k + 2) : (wPlace ω k a b).1 j = ω.1 j := wNewRow_sh h h1

set_option maxHeartbeats 4000000 in
set_option maxRecDepth 20000 in
theorem c_P_init {G : yG} {ω : yW} {k c : Nat} {a b : Int32} (hc6 : c < 6) (hk : ω.1 k = some (.inl (3 + c))) (hf1 : ω.1 (k + 1) = none) (hf2 : ω.1 (k + 2) = none) (hcl : yCl ω) : yCT G m_P_init [yr k, yi a, yi b] ω (fun r ω' => r = none ∧ ω' = wPlace ω k a b) yNX := by
  have hfin : (((zcl c).2.1 0).2.2.2 = true ∧ ((zcl c).2.1 0).1 = "MonitorYard$Place" ∧ yfk (3 + c) 0 = false ∧ yft (3 + c) 0 = .int) ∧ (((zcl c).2.1 1).2.2.2 = true ∧ ((zcl c).2.1 1).1 = "MonitorYard$Place" ∧ yfk (3 + c) 1 = false ∧ yft (3 + c) 1 = .int) ∧ ((zcl c).2.1 2).2.2.2 = true ∧ ((zcl c).2.1 2).1 = "MonitorYard$Place" ∧ True ∧ True ∧ yfk (3 + c) 2 = true ∧ yft (3 + c) 2 = .object "MonitorYard$Row" := by
    rcases (show c = 0 ∨ c = 1 ∨ c = 2 ∨ c = 3 ∨ c = 4 ∨ c = 5 by omega) with rfl | rfl | rfl | rfl | rfl | rfl <;> exact ⟨⟨rfl, rfl, rfl, rfl⟩, ⟨rfl, rfl, rfl, rfl⟩, rfl, rfl, trivial, trivial, rfl, rfl⟩
  refine yCT_of (by decide) rfl (ycat_of rfl) (Nat.le_of_ble_eq_true rfl) ?_
  refine yr_aload_n d_P_init_0 rfl ?_
  refine yr_objInit d_P_init_1 (by decide +kernel) (by decide +kernel) (List.mem_of_getElem? (i := 62) rfl) (by decide) (by decide) (ycat_of rfl) ?_
  refine yr_aload_n d_P_init_4 rfl ?_
  refine yr_new (ci := 2) (n := 2) (kn := k + 1) d_P_init_5 rfl (by decide +kernel) (by decide +kernel) (by decide +kernel) hf1 hf1 (hcl.fr hf1) (fun v hv => by simp at hv; first | (rcases hv with rfl | rfl | rfl <;> (intro z; simp at z)) | (rcases hv with rfl | rfl <;> (intro z; simp at z)) | (rw [hv]; intro z; simp at z) | exact absurd hv id) (fun v hv => by simp at hv; first | (rcases hv with rfl | rfl | rfl <;> (intro z; simp at z)) | (rcases hv with rfl | rfl <;> (intro z; simp at z)) | (rw [hv]; intro z; simp at z) | exact absurd hv id) (by decide) (by decide) ?_
  refine yr_dup d_P_init_8 (fun _ => rfl) ?_
  refine yr_callN (yrunIN (k := k + 1) (As := []) (host := "MonitorYard") (rest := [yr (k + 1), yr k]) d_P_init_9 rfl rfl (c_R_init (k := k + 1) yadd_at ((yadd_sh (by omega)).trans hf2) hcl.add) (by decide +kernel) cw_R_init (by decide +kernel) (by decide +kernel) (by decide +kernel) (Nat.le_of_ble_eq_true rfl) (ycat_of rfl) (by decide) (by decide)) (fun j hj => yadd_live hj) (fun r ω9 hp => ⟨fun j hj => by rw [hp.2] at hj; exact yadd_none hj, fun j hj => Or.inl ?_⟩) (fun r ω9 hp => ?_)
  · simp at hj
    rcases hj with rfl | rfl
    · exact ynn yadd_at
    · exact yadd_live (ynn hk)
  obtain ⟨rfl, rfl⟩ := hp
  have hk2 : (wNewRow ω (k + 1)).1 k = some (.inl (3 + c)) := (wNewRow_sh (by omega) (by omega)).trans hk
  refine yr_putrF (f := 2) d_P_init_12 hk2 (sf_P_init_12 c hc6) (zcl_ok c hc6) (hfin.2.2.1) rfl hfin.2.2.2.1 hfin.2.2.2.2.2.2.1 (fun ad => by rw [hfin.2.2.2.2.2.2.2]; exact ⟨rfl, rfl⟩) ?_
  refine yr_aload_n d_P_init_15 rfl ?_
  refine yr_iload_n d_P_init_16 rfl ?_
  refine yr_putiF (f := 0) d_P_init_17 hk2 (sf_P_init_17 c hc6) (zcl_ok c hc6) hfin.1.1 rfl hfin.1.2.1 hfin.1.2.2.1 (by rw [hfin.1.2.2.2]; exact ⟨rfl, rfl⟩) ?_
  refine yr_aload_n d_P_init_20 rfl ?_
  refine yr_iload_n d_P_init_21 rfl ?_
  refine yr_putiF (f := 1) d_P_init_22 hk2 (sf_P_init_22 c hc6) (zcl_ok c hc6) hfin.2.1.1 rfl hfin.2.1.2.1 hfin.2.1.2.2.1 (by rw [hfin.2.1.2.2.2]; exact ⟨rfl, rfl⟩) ?_
  exact yr_retv d_P_init_25 rfl (by decide) (by decide) ⟨rfl, rfl⟩
