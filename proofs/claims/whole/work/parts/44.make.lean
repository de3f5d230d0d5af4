theorem wK_sh {ω : yW} {k j : Nat} {n : Int32} (h : j < k + 1 ∨ k + 6 < j) : (wK ω k n).1 j = ω.1 j := (wNewRow_sh (by omega) (by omega)).trans ((wNewRow_sh (by omega) (by omega)).trans (wPlace_sh (a := 0) (b := n) (by omega) (by omega)))
theorem wV_sh {ω : yW} {k j : Nat} {c n s : Int32} (h : j ≠ k + 1) (h1 : j ≠ k + 2) : (wV ω k c n s).1 j = ω.1 j := wPlace_sh (a := c) (b := n) h h1
theorem wB_sh {ω : yW} {k j : Nat} {n : Int32} (h : j ≠ k + 1) (h1 : j ≠ k + 2) (h7 : j ≠ k + 7) : (wB ω k n).1 j = ω.1 j := (yadd_sh (ω := wPlace ω k 1 n) h7).trans (wPlace_sh (a := 1) (b := n) h h1)
theorem wQ_sh {ω : yW} {k j s : Nat} {n : Int32} (h : j ≠ k + 1) (h1 : j ≠ k + 2) (h7 : j ≠ k + 7) : (wQ ω k n s).1 j = ω.1 j := (yadd_sh (ω := wPlace ω k 5 n) h7).trans (wPlace_sh (a := 5) (b := n) h h1)
theorem wV_none {ω : yW} {k j : Nat} {c n s : Int32} (h : (wV ω k c n s).1 j = none) : ω.1 j = none := wPlace_none (a := c) (b := n) h
theorem wK_none {ω : yW} {k j : Nat} {n : Int32} (h : (wK ω k n).1 j = none) : ω.1 j = none := wPlace_none (a := 0) (b := n) (wNewRow_none (wNewRow_none h))
theorem wB_none {ω : yW} {k j : Nat} {n : Int32} (h : (wB ω k n).1 j = none) : ω.1 j = none := wPlace_none (a := 1) (b := n) (yadd_none h)
theorem wQ_none {ω : yW} {k j s : Nat} {n : Int32} (h : (wQ ω k n s).1 j = none) : ω.1 j = none := wPlace_none (a := 5) (b := n) (yadd_none h)
theorem wK_cl {ω : yW} {k : Nat} {n : Int32} (h : yCl ω) : yCl (wK ω k n) := (wNewRow_cl ((wNewRow_cl (wPlace_cl h)).sf (ynn wNewRow_at))).sf (ynn wNewRow_at)
theorem wB_cl {ω : yW} {k : Nat} {n : Int32} (h : yCl ω) : yCl (wB ω k n) := ((wPlace_cl h).add).sf (ynn yadd_at)
theorem wQ_cl {ω : yW} {k s : Nat} {n : Int32} (h : yCl ω) : yCl (wQ ω k n s) := ((wPlace_cl h).add).sf (ynn yadd_at)
theorem wV_cl {ω : yW} {k : Nat} {c n s : Int32} (h : yCl ω) : yCl (wV ω k c n s) := wPlace_cl (a := c) (b := n) h
/-- a new place -/
def wMk (ω : yW) (c o s : Nat) : yW := match c with
  | 0 => wK (yadd ω (kP o) (.inl 3)) (kP o) (nI o)
  | 1 => wB (yadd ω (kP o) (.inl 4)) (kP o) (nI o)
  | 2 => wV (yadd ω (kP o) (.inl 5)) (kP o) 2 (nI o) (nI s)
  | 3 => wV (yadd ω (kP o) (.inl 6)) (kP o) 3 (nI o) (nI s)
  | 4 => wV (yadd ω (kP o) (.inl 7)) (kP o) 4 (nI o) (nI s)
  | _ => wQ (yadd ω (kP o) (.inl 8)) (kP o) (nI o) s
theorem wMk_none {ω : yW} {c o s j : Nat} (h : (wMk ω c o s).1 j = none) : ω.1 j = none := by
  unfold wMk at h
  split at h
  · exact yadd_none (wK_none h)
  · exact yadd_none (wB_none h)
  · exact yadd_none (wV_none h)
  · exact yadd_none (wV_none h)
  · exact yadd_none (wV_none h)
  · exact yadd_none (wQ_none h)
theorem wMk_cl {ω : yW} {c o s : Nat} (h : yCl ω) : yCl (wMk ω c o s) := by
  unfold wMk
  split
  · exact wK_cl h.add
  · exact wB_cl h.add
  · exact wV_cl h.add
  · exact wV_cl h.add
  · exact wV_cl h.add
  · exact wQ_cl h.add
theorem wMk_at {ω : yW} {c o s : Nat} (hc : c < 6) : (wMk ω c o s).1 (kP o) = some (.inl (3 + c)) := by
  rcases (show c = 0 ∨ c = 1 ∨ c = 2 ∨ c = 3 ∨ c = 4 ∨ c = 5 by omega) with rfl | rfl | rfl | rfl | rfl | rfl
  · exact (wK_sh (by omega)).trans yadd_at
  · exact (wB_sh (by omega) (by omega) (by omega)).trans yadd_at
  · exact (wV_sh (by omega) (by omega)).trans yadd_at
  · exact (wV_sh (by omega) (by omega)).trans yadd_at
  · exact (wV_sh (by omega) (by omega)).trans yadd_at
  · exact (wQ_sh (by omega) (by omega) (by omega)).trans yadd_at
theorem wMk_sh {ω : yW} {c o s j : Nat} (h : j < kP o ∨ kP o + 7 < j) : (wMk ω c o s).1 j = ω.1 j := by
  unfold wMk
  split
  · exact (wK_sh (by omega)).trans (yadd_sh (by omega))
  · exact (wB_sh (by omega) (by omega) (by omega)).trans (yadd_sh (by omega))
  · exact (wV_sh (by omega) (by omega)).trans (yadd_sh (by omega))
  · exact (wV_sh (by omega) (by omega)).trans (yadd_sh (by omega))
  · exact (wV_sh (by omega) (by omega)).trans (yadd_sh (by omega))
  · exact (wQ_sh (by omega) (by omega) (by omega)).trans (yadd_sh (by omega))

set_option maxHeartbeats 4000000 in
set_option maxRecDepth 20000 in
theorem c_Y_newPlace0 {G : yG} {ω : yW} {o s : Nat} (hs : s ≤ 3) (hf : ∀ j, j < 8 → ω.1 (kP o + j) = none) (hcl : yCl ω) : yCT G m_Y_newPlace [yi 0, yi (nI o), yi (nI s)] ω (fun r ω' => r = some (yr (kP o)) ∧ ω' = wMk ω 0 o s) yNX := by
  refine yCT_of (by decide) rfl (ycat_of rfl) (Nat.le_of_ble_eq_true rfl) ?_
  refine yr_iload_n d_Y_newPlace_0 rfl ?_
  refine yr_tcase d_Y_newPlace_1 0 rfl (by decide) (by decide) rfl (tgt := 36) (by decide) ?_
  refine yr_new (ci := 3) (n := 7) (kn := kP o) d_Y_newPlace_36 rfl (by decide +kernel) (by decide +kernel) (by decide +kernel) (hf 0 (by omega)) (hf 0 (by omega)) (hcl.fr (hf 0 (by omega))) (fun v hv => by simp at hv <;> first | (rcases hv with rfl | rfl | rfl <;> (intro z; simp at z; done)) | (rcases hv with rfl | rfl <;> (intro z; simp at z; done)) | (rw [hv]; intro z; simp at z; done) | exact absurd hv id) (fun v hv => by simp at hv <;> first | (rcases hv with rfl | rfl | rfl <;> (intro z; simp at z; done)) | (rcases hv with rfl | rfl <;> (intro z; simp at z; done)) | (rw [hv]; intro z; simp at z; done) | exact absurd hv id) (by decide) (by decide) ?_
  refine yr_dup d_Y_newPlace_39 (fun _ => rfl) ?_
  refine yr_iload_n d_Y_newPlace_40 rfl ?_
  refine yr_callN (yrunI (k := kP o) (As := [yi (nI o)]) (rest := [yr (kP o)]) d_Y_newPlace_41 rfl rfl (c_K_init  yadd_at ((yadd_sh (by omega)).trans (hf 1 (by omega))) ((yadd_sh (by omega)).trans (hf 2 (by omega))) ((yadd_sh (by omega)).trans (hf 3 (by omega))) ((yadd_sh (by omega)).trans (hf 4 (by omega))) ((yadd_sh (by omega)).trans (hf 5 (by omega))) ((yadd_sh (by omega)).trans (hf 6 (by omega))) hcl.add) (show yck (yMm m_Y_newPlace) m_K_init 1 = true by decide +kernel) cw_K_init (by decide +kernel) (by decide +kernel) (by decide +kernel) (Nat.le_of_ble_eq_true rfl) (ycat_of rfl) (by decide) (by decide)) (fun j hj => yadd_live hj) (fun r ω9 hp => ⟨fun j hj => by rw [hp.2] at hj; exact wK_none hj, fun j hj => Or.inl ?_⟩) (fun r ω9 hp => ?_)
  · simp at hj
    rw [hj]
    exact ynn yadd_at
  obtain ⟨rfl, rfl⟩ := hp
  exact yr_reta d_Y_newPlace_44 rfl (Or.inl ⟨_, rfl⟩) (by decide) (by decide) ⟨rfl, rfl⟩

set_option maxHeartbeats 4000000 in
set_option maxRecDepth 20000 in
theorem c_Y_newPlace1 {G : yG} {ω : yW} {o s : Nat} (hs : s ≤ 3) (hf : ∀ j, j < 8 → ω.1 (kP o + j) = none) (hcl : yCl ω) : yCT G m_Y_newPlace [yi 1, yi (nI o), yi (nI s)] ω (fun r ω' => r = some (yr (kP o)) ∧ ω' = wMk ω 1 o s) yNX := by
  refine yCT_of (by decide) rfl (ycat_of rfl) (Nat.le_of_ble_eq_true rfl) ?_
  refine yr_iload_n d_Y_newPlace_0 rfl ?_
  refine yr_tcase d_Y_newPlace_1 1 rfl (by decide) (by decide) rfl (tgt := 45) (by decide) ?_
  refine yr_new (ci := 4) (n := 7) (kn := kP o) d_Y_newPlace_45 rfl (by decide +kernel) (by decide +kernel) (by decide +kernel) (hf 0 (by omega)) (hf 0 (by omega)) (hcl.fr (hf 0 (by omega))) (fun v hv => by simp at hv <;> first | (rcases hv with rfl | rfl | rfl <;> (intro z; simp at z; done)) | (rcases hv with rfl | rfl <;> (intro z; simp at z; done)) | (rw [hv]; intro z; simp at z; done) | exact absurd hv id) (fun v hv => by simp at hv <;> first | (rcases hv with rfl | rfl | rfl <;> (intro z; simp at z; done)) | (rcases hv with rfl | rfl <;> (intro z; simp at z; done)) | (rw [hv]; intro z; simp at z; done) | exact absurd hv id) (by decide) (by decide) ?_
  refine yr_dup d_Y_newPlace_48 (fun _ => rfl) ?_
  refine yr_iload_n d_Y_newPlace_49 rfl ?_
  refine yr_callN (yrunI (k := kP o) (As := [yi (nI o)]) (rest := [yr (kP o)]) d_Y_newPlace_50 rfl rfl (c_B_init  yadd_at ((yadd_sh (by omega)).trans (hf 1 (by omega))) ((yadd_sh (by omega)).trans (hf 2 (by omega))) ((yadd_sh (by omega)).trans (hf 7 (by omega))) hcl.add) (show yck (yMm m_Y_newPlace) m_B_init 1 = true by decide +kernel) cw_B_init (by decide +kernel) (by decide +kernel) (by decide +kernel) (Nat.le_of_ble_eq_true rfl) (ycat_of rfl) (by decide) (by decide)) (fun j hj => yadd_live hj) (fun r ω9 hp => ⟨fun j hj => by rw [hp.2] at hj; exact wB_none hj, fun j hj => Or.inl ?_⟩) (fun r ω9 hp => ?_)
  · simp at hj
    rw [hj]
    exact ynn yadd_at
  obtain ⟨rfl, rfl⟩ := hp
  exact yr_reta d_Y_newPlace_53 rfl (Or.inl ⟨_, rfl⟩) (by decide) (by decide) ⟨rfl, rfl⟩

set_option maxHeartbeats 4000000 in
set_option maxRecDepth 20000 in
theorem c_Y_newPlace2 {G : yG} {ω : yW} {o s : Nat} (hs : s ≤ 3) (hf : ∀ j, j < 8 → ω.1 (kP o + j) = none) (hcl : yCl ω) : yCT G m_Y_newPlace [yi 2, yi (nI o), yi (nI s)] ω (fun r ω' => r = some (yr (kP o)) ∧ ω' = wMk ω 2 o s) yNX := by
  refine yCT_of (by decide) rfl (ycat_of rfl) (Nat.le_of_ble_eq_true rfl) ?_
  refine yr_iload_n d_Y_newPlace_0 rfl ?_
  refine yr_tcase d_Y_newPlace_1 2 rfl (by decide) (by decide) rfl (tgt := 54) (by decide) ?_
  refine yr_new (ci := 5) (n := 4) (kn := kP o) d_Y_newPlace_54 rfl (by decide +kernel) (by decide +kernel) (by decide +kernel) (hf 0 (by omega)) (hf 0 (by omega)) (hcl.fr (hf 0 (by omega))) (fun v hv => by simp at hv <;> first | (rcases hv with rfl | rfl | rfl <;> (intro z; simp at z; done)) | (rcases hv with rfl | rfl <;> (intro z; simp at z; done)) | (rw [hv]; intro z; simp at z; done) | exact absurd hv id) (fun v hv => by simp at hv <;> first | (rcases hv with rfl | rfl | rfl <;> (intro z; simp at z; done)) | (rcases hv with rfl | rfl <;> (intro z; simp at z; done)) | (rw [hv]; intro z; simp at z; done) | exact absurd hv id) (by decide) (by decide) ?_
  refine yr_dup d_Y_newPlace_57 (fun _ => rfl) ?_
  refine yr_iload_n d_Y_newPlace_58 rfl ?_
  refine yr_iload_n d_Y_newPlace_59 rfl ?_
  refine yr_callN (yrunI (k := kP o) (As := [yi (nI o), yi (nI s)]) (rest := [yr (kP o)]) d_Y_newPlace_60 rfl rfl (c_S_init  yadd_at ((yadd_sh (by omega)).trans (hf 1 (by omega))) ((yadd_sh (by omega)).trans (hf 2 (by omega))) hcl.add) (show yck (yMm m_Y_newPlace) m_S_init 2 = true by decide +kernel) cw_S_init (by decide +kernel) (by decide +kernel) (by decide +kernel) (Nat.le_of_ble_eq_true rfl) (ycat_of rfl) (by decide) (by decide)) (fun j hj => yadd_live hj) (fun r ω9 hp => ⟨fun j hj => by rw [hp.2] at hj; exact wV_none hj, fun j hj => Or.inl ?_⟩) (fun r ω9 hp => ?_)
  · simp at hj
    rw [hj]
    exact ynn yadd_at
  obtain ⟨rfl, rfl⟩ := hp
  exact yr_reta d_Y_newPlace_63 rfl (Or.inl ⟨_, rfl⟩) (by decide) (by decide) ⟨rfl, rfl⟩

set_option maxHeartbeats 4000000 in
set_option maxRecDepth 20000 in
theorem c_Y_newPlace3 {G : yG} {ω : yW} {o s : Nat} (hs : s ≤ 3) (hf : ∀ j, j < 8 → ω.1 (kP o + j) = none) (hcl : yCl ω) : yCT G m_Y_newPlace [yi 3, yi (nI o), yi (nI s)] ω (fun r ω' => r = some (yr (kP o)) ∧ ω' = wMk ω 3 o s) yNX := by
  refine yCT_of (by decide) rfl (ycat_of rfl) (Nat.le_of_ble_eq_true rfl) ?_
  refine yr_iload_n d_Y_newPlace_0 rfl ?_
  refine yr_tcase d_Y_newPlace_1 3 rfl (by decide) (by decide) rfl (tgt := 64) (by decide) ?_
  refine yr_new (ci := 6) (n := 4) (kn := kP o) d_Y_newPlace_64 rfl (by decide +kernel) (by decide +kernel) (by decide +kernel) (hf 0 (by omega)) (hf 0 (by omega)) (hcl.fr (hf 0 (by omega))) (fun v hv => by simp at hv <;> first | (rcases hv with rfl | rfl | rfl <;> (intro z; simp at z; done)) | (rcases hv with rfl | rfl <;> (intro z; simp at z; done)) | (rw [hv]; intro z; simp at z; done) | exact absurd hv id) (fun v hv => by simp at hv <;> first | (rcases hv with rfl | rfl | rfl <;> (intro z; simp at z; done)) | (rcases hv with rfl | rfl <;> (intro z; simp at z; done)) | (rw [hv]; intro z; simp at z; done) | exact absurd hv id) (by decide) (by decide) ?_
  refine yr_dup d_Y_newPlace_67 (fun _ => rfl) ?_
  refine yr_iload_n d_Y_newPlace_68 rfl ?_
  refine yr_iload_n d_Y_newPlace_69 rfl ?_
  refine yr_callN (yrunI (k := kP o) (As := [yi (nI o), yi (nI s)]) (rest := [yr (kP o)]) d_Y_newPlace_70 rfl rfl (c_L_init  yadd_at ((yadd_sh (by omega)).trans (hf 1 (by omega))) ((yadd_sh (by omega)).trans (hf 2 (by omega))) hcl.add) (show yck (yMm m_Y_newPlace) m_L_init 2 = true by decide +kernel) cw_L_init (by decide +kernel) (by decide +kernel) (by decide +kernel) (Nat.le_of_ble_eq_true rfl) (ycat_of rfl) (by decide) (by decide)) (fun j hj => yadd_live hj) (fun r ω9 hp => ⟨fun j hj => by rw [hp.2] at hj; exact wV_none hj, fun j hj => Or.inl ?_⟩) (fun r ω9 hp => ?_)
  · simp at hj
    rw [hj]
    exact ynn yadd_at
  obtain ⟨rfl, rfl⟩ := hp
  exact yr_reta d_Y_newPlace_73 rfl (Or.inl ⟨_, rfl⟩) (by decide) (by decide) ⟨rfl, rfl⟩

set_option maxHeartbeats 4000000 in
set_option maxRecDepth 20000 in
theorem c_Y_newPlace4 {G : yG} {ω : yW} {o s : Nat} (hs : s ≤ 3) (hf : ∀ j, j < 8 → ω.1 (kP o + j) = none) (hcl : yCl ω) : yCT G m_Y_newPlace [yi 4, yi (nI o), yi (nI s)] ω (fun r ω' => r = some (yr (kP o)) ∧ ω' = wMk ω 4 o s) yNX := by
  refine yCT_of (by decide) rfl (ycat_of rfl) (Nat.le_of_ble_eq_true rfl) ?_
  refine yr_iload_n d_Y_newPlace_0 rfl ?_
  refine yr_tcase d_Y_newPlace_1 4 rfl (by decide) (by decide) rfl (tgt := 74) (by decide) ?_
  refine yr_new (ci := 7) (n := 5) (kn := kP o) d_Y_newPlace_74 rfl (by decide +kernel) (by decide +kernel) (by decide +kernel) (hf 0 (by omega)) (hf 0 (by omega)) (hcl.fr (hf 0 (by omega))) (fun v hv => by simp at hv <;> first | (rcases hv with rfl | rfl | rfl <;> (intro z; simp at z; done)) | (rcases hv with rfl | rfl <;> (intro z; simp at z; done)) | (rw [hv]; intro z; simp at z; done) | exact absurd hv id) (fun v hv => by simp at hv <;> first | (rcases hv with rfl | rfl | rfl <;> (intro z; simp at z; done)) | (rcases hv with rfl | rfl <;> (intro z; simp at z; done)) | (rw [hv]; intro z; simp at z; done) | exact absurd hv id) (by decide) (by decide) ?_
  refine yr_dup d_Y_newPlace_77 (fun _ => rfl) ?_
  refine yr_iload_n d_Y_newPlace_78 rfl ?_
  refine yr_iload_n d_Y_newPlace_79 rfl ?_
  refine yr_callN (yrunI (k := kP o) (As := [yi (nI o), yi (nI s)]) (rest := [yr (kP o)]) d_Y_newPlace_80 rfl rfl (c_A_init  yadd_at ((yadd_sh (by omega)).trans (hf 1 (by omega))) ((yadd_sh (by omega)).trans (hf 2 (by omega))) hcl.add) (show yck (yMm m_Y_newPlace) m_A_init 2 = true by decide +kernel) cw_A_init (by decide +kernel) (by decide +kernel) (by decide +kernel) (Nat.le_of_ble_eq_true rfl) (ycat_of rfl) (by decide) (by decide)) (fun j hj => yadd_live hj) (fun r ω9 hp => ⟨fun j hj => by rw [hp.2] at hj; exact wV_none hj, fun j hj => Or.inl ?_⟩) (fun r ω9 hp => ?_)
  · simp at hj
    rw [hj]
    exact ynn yadd_at
  obtain ⟨rfl, rfl⟩ := hp
  exact yr_reta d_Y_newPlace_83 rfl (Or.inl ⟨_, rfl⟩) (by decide) (by decide) ⟨rfl, rfl⟩

set_option maxHeartbeats 4000000 in
set_option maxRecDepth 20000 in
theorem c_Y_newPlace5 {G : yG} {ω : yW} {o s : Nat} (hs : s ≤ 3) (hf : ∀ j, j < 8 → ω.1 (kP o + j) = none) (hcl : yCl ω) : yCT G m_Y_newPlace [yi 5, yi (nI o), yi (nI s)] ω (fun r ω' => r = some (yr (kP o)) ∧ ω' = wMk ω 5 o s) yNX := by
  refine yCT_of (by decide) rfl (ycat_of rfl) (Nat.le_of_ble_eq_true rfl) ?_
  refine yr_iload_n d_Y_newPlace_0 rfl ?_
  refine yr_tdef d_Y_newPlace_1 (by decide) (tgt := 84) (by decide) ?_
  refine yr_new (ci := 8) (n := 5) (kn := kP o) d_Y_newPlace_84 rfl (by decide +kernel) (by decide +kernel) (by decide +kernel) (hf 0 (by omega)) (hf 0 (by omega)) (hcl.fr (hf 0 (by omega))) (fun v hv => by simp at hv <;> first | (rcases hv with rfl | rfl | rfl <;> (intro z; simp at z; done)) | (rcases hv with rfl | rfl <;> (intro z; simp at z; done)) | (rw [hv]; intro z; simp at z; done) | exact absurd hv id) (fun v hv => by simp at hv <;> first | (rcases hv with rfl | rfl | rfl <;> (intro z; simp at z; done)) | (rcases hv with rfl | rfl <;> (intro z; simp at z; done)) | (rw [hv]; intro z; simp at z; done) | exact absurd hv id) (by decide) (by decide) ?_
  refine yr_dup d_Y_newPlace_87 (fun _ => rfl) ?_
  refine yr_iload_n d_Y_newPlace_88 rfl ?_
  refine yr_iload_n d_Y_newPlace_89 rfl ?_
  refine yr_callN (yrunI (k := kP o) (As := [yi (nI o), yi (nI s)]) (rest := [yr (kP o)]) d_Y_newPlace_90 rfl rfl (c_Q_init (s := s) hs yadd_at ((yadd_sh (by omega)).trans (hf 1 (by omega))) ((yadd_sh (by omega)).trans (hf 2 (by omega))) ((yadd_sh (by omega)).trans (hf 7 (by omega))) hcl.add) (show yck (yMm m_Y_newPlace) m_Q_init 2 = true by decide +kernel) cw_Q_init (by decide +kernel) (by decide +kernel) (by decide +kernel) (Nat.le_of_ble_eq_true rfl) (ycat_of rfl) (by decide) (by decide)) (fun j hj => yadd_live hj) (fun r ω9 hp => ⟨fun j hj => by rw [hp.2] at hj; exact wQ_none hj, fun j hj => Or.inl ?_⟩) (fun r ω9 hp => ?_)
  · simp at hj
    rw [hj]
    exact ynn yadd_at
  obtain ⟨rfl, rfl⟩ := hp
  exact yr_reta d_Y_newPlace_93 rfl (Or.inl ⟨_, rfl⟩) (by decide) (by decide) ⟨rfl, rfl⟩

theorem c_Y_newPlace {G : yG} {ω : yW} {c o s : Nat} (hc : c < 6) (hs : s ≤ 3) (hf : ∀ j, j < 8 → ω.1 (kP o + j) = none) (hcl : yCl ω) : yCT G m_Y_newPlace [yi (nI c), yi (nI o), yi (nI s)] ω (fun r ω' => r = some (yr (kP o)) ∧ ω' = wMk ω c o s) yNX := by
  rcases (show c = 0 ∨ c = 1 ∨ c = 2 ∨ c = 3 ∨ c = 4 ∨ c = 5 by omega) with rfl | rfl | rfl | rfl | rfl | rfl
  · exact c_Y_newPlace0 hs hf hcl
  · exact c_Y_newPlace1 hs hf hcl
  · exact c_Y_newPlace2 hs hf hcl
  · exact c_Y_newPlace3 hs hf hcl
  · exact c_Y_newPlace4 hs hf hcl
  · exact c_Y_newPlace5 hs hf hcl

def wMake (ω : yW) (c o s : Nat) : yW := ysi (ysf (wMk ω c o s) 2 o (some (kP o))) 0 2 (nI (o + 1))
theorem ycast4 {c : Nat} (hc : c < 6) : Cond.castable (zcl c).1 "MonitorYard$Place" ∈ lw_tbl := by
  rcases (show c = 0 ∨ c = 1 ∨ c = 2 ∨ c = 3 ∨ c = 4 ∨ c = 5 by omega) with rfl | rfl | rfl | rfl | rfl | rfl <;> decide +kernel
theorem ycl_zcl {c : Nat} (hc : c < 6) : ycl[3 + c]? = some (zcl c) := by
  rcases (show c = 0 ∨ c = 1 ∨ c = 2 ∨ c = 3 ∨ c = 4 ∨ c = 5 by omega) with rfl | rfl | rfl | rfl | rfl | rfl <;> rfl

theorem yadd_o {ω : yW} {k : Nat} {sp : ySh} {j : Nat} (h : j ≠ k) : (yadd ω k sp).2.1 j = ω.2.1 j ∧ (yadd ω k sp).2.2 j = ω.2.2 j := ⟨va_up_ne _ _ h, va_up_ne _ _ h⟩
theorem wNewRow_o {ω : yW} {k j : Nat} (h : j ≠ k) (h1 : j ≠ k + 1) : (wNewRow ω k).2.1 j = ω.2.1 j ∧ (wNewRow ω k).2.2 j = ω.2.2 j :=
  ⟨(yadd_o (sp := .inr (3, 6)) h1).1.trans (yadd_o h).1, ((ysf_ho _ k 0 _ j h).2.trans (yadd_o h1).2).trans (yadd_o h).2⟩
theorem wPlace_o {ω : yW} {k j : Nat} {a b : Int32} (h : j < k ∨ k + 2 < j) : (wPlace ω k a b).2.1 j = ω.2.1 j ∧ (wPlace ω k a b).2.2 j = ω.2.2 j :=
  ⟨((ysi_ho _ k 1 _ j (by omega)).1.trans (ysi_ho _ k 0 _ j (by omega)).1).trans (wNewRow_o (k := k + 1) (by omega) (by omega)).1, ((ysf_ho _ k 2 _ j (by omega)).2).trans (wNewRow_o (k := k + 1) (by omega) (by omega)).2⟩
theorem wMk_o {ω : yW} {c o s : Nat} (hc : c < 6) (j : Nat) (h : j < kP o ∨ kP o + 7 < j) : (wMk ω c o s).2.1 j = ω.2.1 j ∧ (wMk ω c o s).2.2 j = ω.2.2 j := by
  have e : ∀ sp, (yadd ω (kP o) sp).2.1 j = ω.2.1 j ∧ (yadd ω (kP o) sp).2.2 j = ω.2.2 j := fun sp => yadd_o (by omega)
  have p : ∀ sp a b, (wPlace (yadd ω (kP o) sp) (kP o) a b).2.1 j = ω.2.1 j ∧ (wPlace (yadd ω (kP o) sp) (kP o) a b).2.2 j = ω.2.2 j := fun sp a b => ⟨(wPlace_o (by omega)).1.trans (e sp).1, (wPlace_o (by omega)).2.trans (e sp).2⟩
  have q : ∀ sp a b x, (yadd (wPlace (yadd ω (kP o) sp) (kP o) a b) (kP o + 7) x).2.1 j = ω.2.1 j ∧ (yadd (wPlace (yadd ω (kP o) sp) (kP o) a b) (kP o + 7) x).2.2 j = ω.2.2 j := fun sp a b x => ⟨(yadd_o (by omega)).1.trans (p sp a b).1, (yadd_o (by omega)).2.trans (p sp a b).2⟩
  rcases (show c = 0 ∨ c = 1 ∨ c = 2 ∨ c = 3 ∨ c = 4 ∨ c = 5 by omega) with rfl | rfl | rfl | rfl | rfl | rfl
  · refine ⟨?_, ?_⟩
    · exact (wNewRow_o (k := kP o + 5) (by omega) (by omega)).1.trans ((wNewRow_o (k := kP o + 3) (by omega) (by omega)).1.trans (p _ _ _).1)
    · exact ((ysf_ho _ (kP o) 4 _ j (by omega)).2).trans ((wNewRow_o (k := kP o + 5) (by omega) (by omega)).2.trans (((ysf_ho _ (kP o) 3 _ j (by omega)).2).trans ((wNewRow_o (k := kP o + 3) (by omega) (by omega)).2.trans (p _ _ _).2)))
  · exact ⟨(q _ _ _ (.inr (0, 6))).1, ((ysf_ho _ (kP o) 3 _ j (by omega)).2).trans (q _ _ _ _).2⟩
  · exact ⟨(ysi_ho _ (kP o) 3 _ j (by omega)).1.trans (p _ _ _).1, (p _ 0 0).2⟩
  · exact ⟨(ysi_ho _ (kP o) 3 _ j (by omega)).1.trans (p _ _ _).1, (p _ 0 0).2⟩
  · exact ⟨(ysi_ho _ (kP o) 3 _ j (by omega)).1.trans (p _ _ _).1, (p _ 0 0).2⟩
  · exact ⟨(q _ _ _ (.inr (0, s))).1, ((ysf_ho _ (kP o) 3 _ j (by omega)).2).trans (q _ _ _ _).2⟩

set_option maxHeartbeats 4000000 in
set_option maxRecDepth 20000 in
theorem c_Y_make {G : yG} {μ ω : yW} {σ : zS} {x y : Int32} (hT : (yGl G).stackTraces = false) (h : zC σ μ ω) (hfree : zn σ < 6 → ∀ j, j < 8 → ω.1 (kP (zn σ) + j) = none) : yCT G m_Y_make [yr 0, yi x, yi y] ω (fun r ω' => ∃ c s, c < 6 ∧ 1 ≤ s ∧ s ≤ 3 ∧ x = nI c ∧ y = nI s ∧ zn σ < 6 ∧ r = some (yi (nI (zn σ))) ∧ ω' = wMake ω c (zn σ) s) (fun E ω' => ω' = ω ∧ ((E = "java/lang/IllegalArgumentException" ∧ ((x < 0 ∨ 5 < x) ∨ y < 1 ∨ ¬ y ≤ 3)) ∨ (E = "java/lang/IllegalStateException" ∧ ∃ c s, c < 6 ∧ 1 ≤ s ∧ s ≤ 3 ∧ x = nI c ∧ y = nI s ∧ ¬ nI (zn σ) < 6))) := by
  have hn := h.1.2.2.2.2.1
  refine yCT_of (by decide) rfl (ycat_of rfl) (Nat.le_of_ble_eq_true rfl) ?_
  refine yr_iload_n d_Y_make_0 rfl ?_
  refine yr_if_lt (tgt := 19) d_Y_make_1 (by decide) (fun c1 => ?_) (fun c1 => ?_)
  · exact yr_throw (E := "java/lang/IllegalArgumentException") hT rfl d_Y_make_19 d_Y_make_22 d_Y_make_23 d_Y_make_26 (by decide +kernel) (by decide +kernel) (by decide +kernel) (by decide +kernel) (by decide) (by decide) (ycat_of rfl) (by decide) (by decide) ⟨rfl, Or.inl ⟨rfl, Or.inl (Or.inl c1)⟩⟩
  refine yr_iload_n d_Y_make_4 rfl ?_
  refine yr_iconst (v := 5) d_Y_make_5 (by decide) ?_
  refine yr_icmp_gt (tgt := 19) d_Y_make_6 (by decide) (fun c6 => ?_) (fun c6 => ?_)
  · exact yr_throw (E := "java/lang/IllegalArgumentException") hT rfl d_Y_make_19 d_Y_make_22 d_Y_make_23 d_Y_make_26 (by decide +kernel) (by decide +kernel) (by decide +kernel) (by decide +kernel) (by decide) (by decide) (ycat_of rfl) (by decide) (by decide) ⟨rfl, Or.inl ⟨rfl, Or.inl (Or.inr c6)⟩⟩
  refine yr_iload_n d_Y_make_9 rfl ?_
  refine yr_iconst (v := 1) d_Y_make_10 (by decide) ?_
  refine yr_icmp_lt (tgt := 19) d_Y_make_11 (by decide) (fun c11 => ?_) (fun c11 => ?_)
  · exact yr_throw (E := "java/lang/IllegalArgumentException") hT rfl d_Y_make_19 d_Y_make_22 d_Y_make_23 d_Y_make_26 (by decide +kernel) (by decide +kernel) (by decide +kernel) (by decide +kernel) (by decide) (by decide) (ycat_of rfl) (by decide) (by decide) ⟨rfl, Or.inl ⟨rfl, Or.inr (Or.inl c11)⟩⟩
  refine yr_iload_n d_Y_make_14 rfl ?_
  refine yr_iconst (v := 3) d_Y_make_15 (by decide) ?_
  refine yr_icmp_le (tgt := 27) d_Y_make_16 (by decide) (fun c16 => ?_) (fun c16 => ?_)
  rotate_left
  · exact yr_throw (E := "java/lang/IllegalArgumentException") hT rfl d_Y_make_19 d_Y_make_22 d_Y_make_23 d_Y_make_26 (by decide +kernel) (by decide +kernel) (by decide +kernel) (by decide +kernel) (by decide) (by decide) (ycat_of rfl) (by decide) (by decide) ⟨rfl, Or.inl ⟨rfl, Or.inr (Or.inr c16)⟩⟩
  have hx0 : ¬ x < 0 := c1
  obtain ⟨c, hc5, rfl⟩ := nI_of2 (M := 5) (n := 5) rfl c1 (Int32.not_lt.mp c6)
  have hy0 : ¬ y < 0 := fun z => c11 (Int32.lt_trans z (by decide))
  obtain ⟨s, hs3, rfl⟩ := nI_of2 (M := 3) (n := 3) rfl hy0 c16
  have hs1 : 1 ≤ s := by
    rcases Nat.eq_zero_or_pos s with rfl | h9
    · exact absurd c11 (by decide)
    · exact h9
  refine yr_aload_n d_Y_make_27 rfl ?_
  refine yr_geti d_Y_make_28 h.1.1 sf_Y_make_28 rfl ?_
  rw [h.2.2.2.2.2.1]
  refine yr_bipush (v := 6) d_Y_make_31 (by decide) ?_
  refine yr_icmp_lt (tgt := 44) d_Y_make_33 (by decide) (fun c33 => ?_) (fun c33 => ?_)
  rotate_left
  · exact yr_throw (E := "java/lang/IllegalStateException") hT rfl d_Y_make_36 d_Y_make_39 d_Y_make_40 d_Y_make_43 (by decide +kernel) (by decide +kernel) (by decide +kernel) (by decide +kernel) (by decide) (by decide) (ycat_of rfl) (by decide) (by decide) ⟨rfl, Or.inr ⟨rfl, c, s, by omega, hs1, hs3, rfl, rfl, c33⟩⟩
  have hn6 : zn σ < 6 := by
    rw [show (6 : Int32) = nI 6 from rfl, nI_ltI (by omega) (by omega)] at c33
    exact c33
  have hf := hfree hn6
  refine yr_aload_n d_Y_make_44 rfl ?_
  refine yr_geti d_Y_make_45 h.1.1 sf_Y_make_45 rfl ?_
  rw [h.2.2.2.2.2.1]
  refine yr_istore_n d_Y_make_48 (by decide) rfl ?_
  refine yr_aload_n d_Y_make_49 rfl ?_
  refine yr_getr d_Y_make_50 h.1.1 sf_Y_make_50 rfl ?_
  rw [h.2.2.2.2.1]
  refine yr_iload_n d_Y_make_53 rfl ?_
  refine yr_iload_n d_Y_make_54 rfl ?_
  refine yr_iload_n d_Y_make_55 rfl ?_
  refine yr_iload_n d_Y_make_56 rfl ?_
  refine yr_callN (yrunS (X := yNX) (As := [yi (nI c), yi (nI (zn σ)), yi (nI s)]) (rest := [yi (nI (zn σ)), yr 2]) d_Y_make_57 (c_Y_newPlace (by omega) hs3 hf h.cl) (show yck (yMm m_Y_make) m_Y_newPlace 3 = true by decide +kernel) cw_Y_newPlace (by decide +kernel) (by decide +kernel) (by decide +kernel) (Nat.le_of_ble_eq_true rfl) (ycat_of rfl) (by decide) (by decide)) (fun j hj => hj) (fun r ω9 hp => ⟨fun j hj => by rw [hp.2] at hj; exact wMk_none hj, fun j hj => Or.inl ?_⟩) (fun r ω9 hp => ?_)
  · rcases hj with hj | hj
    · simp at hj
      rw [hj]
      exact ynn h.1.2.2.1
    · have hj : some (yr j) ∈ [some (yr 0), some (yi (nI c)), some (yi (nI s)), some (yi (nI (zn σ)))] := hj
      simp at hj
      rw [hj]
      exact ynn h.1.1
  obtain ⟨rfl, rfl⟩ := hp
  have k2 : (wMk ω c (zn σ) s).1 2 = some (.inr (4, 6)) := (wMk_sh (Or.inl (by unfold kP; omega))).trans h.1.2.2.1
  have k0 : (wMk ω c (zn σ) s).1 0 = some (.inl 0) := (wMk_sh (Or.inl (by unfold kP; omega))).trans h.1.1
  have i0 : (wMk ω c (zn σ) s).2.1 0 2 = nI (zn σ) := (congrFun (wMk_o (o := zn σ) (s := s) (by omega) 0 (Or.inl (by unfold kP; omega))).1 2).trans h.2.2.2.2.2.1
  refine yr_aast (n := 6) (j := zn σ) (tc := 4) (C := "MonitorYard$Place") (ci := 3 + c) (r := zcl c) d_Y_make_60 (Or.inr rfl) rfl k2 (wMk_at (by omega)) (ycl_zcl (by omega)) (Or.inr (ycast4 (by omega))) (nI_pos (by omega)) (nI_clamp (by omega)) hn6 ?_
  refine yr_aload_n d_Y_make_61 rfl ?_
  refine yr_dup d_Y_make_62 (fun _ => rfl) ?_
  refine yr_geti d_Y_make_63 k0 sf_Y_make_63 rfl ?_
  rw [show (ysf (wMk ω c (zn σ) s) 2 (zn σ) (some (kP (zn σ)))).2.1 0 2 = nI (zn σ) from i0]
  refine yr_iconst (v := 1) d_Y_make_66 (by decide) ?_
  refine yr_iadd d_Y_make_67 ?_
  rw [nI_1]
  refine yr_puti d_Y_make_68 k0 sf_Y_make_68 rfl rfl rfl ⟨rfl, rfl⟩ ?_
  refine yr_iload_n d_Y_make_71 rfl ?_
  exact yr_reti d_Y_make_72 rfl (by decide) (by decide) ⟨c, s, by omega, hs1, hs3, rfl, rfl, hn6, rfl, rfl⟩
