theorem wPlace_none {ω : yW} {k j : Nat} {a b : Int32} (h : (wPlace ω k a b).1 j = none) : ω.1 j = none := wNewRow_none (k := k + 1) h
def wK (ω : yW) (k : Nat) (n : Int32) : yW := ysf (wNewRow (ysf (wNewRow (wPlace ω k 0 n) (k + 3)) k 3 (some (k + 3))) (k + 5)) k 4 (some (k + 5))
def wB (ω : yW) (k : Nat) (n : Int32) : yW := ysf (yadd (wPlace ω k 1 n) (k + 7) (.inr (0, 6))) k 3 (some (k + 7))
def wV (ω : yW) (k : Nat) (c n s : Int32) : yW := ysi (wPlace ω k c n) k 3 s
def wQ (ω : yW) (k : Nat) (n : Int32) (s : Nat) : yW := ysf (yadd (wPlace ω k 5 n) (k + 7) (.inr (0, s))) k 3 (some (k + 7))

set_option maxHeartbeats 4000000 in
set_option maxRecDepth 20000 in
theorem c_K_init {G : yG} {ω : yW} {k : Nat} {n : Int32} (hk : ω.1 k = some (.inl 3)) (hf1 : ω.1 (k + 1) = none) (hf2 : ω.1 (k + 2) = none) (hf3 : ω.1 (k + 3) = none) (hf4 : ω.1 (k + 4) = none) (hf5 : ω.1 (k + 5) = none) (hf6 : ω.1 (k + 6) = none) (hcl : yCl ω) : yCT G m_K_init [yr k, yi n] ω (fun r ω' => r = none ∧ ω' = wK ω k n) yNX := by
  refine yCT_of (by decide) rfl (ycat_of rfl) (Nat.le_of_ble_eq_true rfl) ?_
  refine yr_aload_n d_K_init_0 rfl ?_
  refine yr_iconst (v := 0) d_K_init_1 (by decide) ?_
  refine yr_iload_n d_K_init_2 rfl ?_
  refine yr_callN (yrunI (k := k) (As := [yi 0, yi n]) (rest := []) d_K_init_3 rfl rfl (c_P_init (c := 0) (k := k) (by decide) hk hf1 hf2 hcl) (show yck (yMm m_K_init) m_P_init 2 = true by decide +kernel) cw_P_init (by decide +kernel) (by decide +kernel) (by decide +kernel) (Nat.le_of_ble_eq_true rfl) (ycat_of rfl) (by decide) (by decide)) (fun j hj => hj) (fun r ω9 hp => ⟨fun j hj => by rw [hp.2] at hj; exact wPlace_none hj, fun j hj => Or.inl ?_⟩) (fun r ω9 hp => ?_)
  · simp at hj
    rw [hj]
    exact ynn hk
  obtain ⟨rfl, rfl⟩ := hp
  have hw : yCl (wPlace ω k 0 n) := wPlace_cl hcl
  have hk1 : (wPlace ω k 0 n).1 k = some (.inl 3) := (wPlace_sh (by omega) (by omega)).trans hk
  have hm1 : ∀ j, (wPlace ω k 0 n).1 j = none → ω.1 j = none := fun j hj => wPlace_none hj
  have hg3 : (wPlace ω k 0 n).1 (k + 3) = none := (wPlace_sh (by omega) (by omega)).trans hf3
  have hg4 : (wPlace ω k 0 n).1 (k + 3 + 1) = none := (wPlace_sh (by omega) (by omega)).trans hf4
  refine yr_aload_n d_K_init_6 rfl ?_
  refine yr_new (ω := wPlace ω k 0 n) (ci := 2) (n := 2) (kn := k + 3) d_K_init_7 rfl (by decide +kernel) (by decide +kernel) (by decide +kernel) (hm1 _ hg3) hg3 (hw.fr hg3) (fun v hv => by simp at hv; first | (rcases hv with rfl | rfl | rfl <;> (intro z; simp at z; done)) | (rcases hv with rfl | rfl <;> (intro z; simp at z; done)) | (rw [hv]; intro z; simp at z; done) | exact absurd hv id) (fun v hv => by simp at hv; first | (rcases hv with rfl | rfl | rfl <;> (intro z; simp at z; done)) | (rcases hv with rfl | rfl <;> (intro z; simp at z; done)) | (rw [hv]; intro z; simp at z; done) | exact absurd hv id) (by decide) (by decide) ?_
  refine yr_dup d_K_init_10 (fun _ => rfl) ?_
  refine yr_callN (yrunIN (k := k + 3) (As := []) (host := "MonitorYard") (rest := [yr (k + 3), yr k]) d_K_init_11 rfl rfl (c_R_init (k := k + 3) yadd_at ((yadd_sh (by omega)).trans hg4) hw.add) (by decide +kernel) cw_R_init (by decide +kernel) (by decide +kernel) (by decide +kernel) (Nat.le_of_ble_eq_true rfl) (ycat_of rfl) (by decide) (by decide)) (fun j hj z => hj (hm1 j (yadd_none z))) (fun r ω9 hp => ⟨fun j hj => by rw [hp.2] at hj; exact yadd_none hj, fun j hj => Or.inl ?_⟩) (fun r ω9 hp => ?_)
  · simp at hj
    rcases hj with rfl | rfl
    · exact ynn yadd_at
    · exact yadd_live (ynn hk1)
  obtain ⟨rfl, rfl⟩ := hp
  have hk2 : (wNewRow (wPlace ω k 0 n) (k + 3)).1 k = some (.inl 3) := (wNewRow_sh (by omega) (by omega)).trans hk1
  have hw2 := (wNewRow_cl (k := k + 3) hw)
  refine yr_putrF (f := 3) d_K_init_14 hk2 sf_K_init_14 rfl rfl rfl rfl rfl (fun ad => ⟨rfl, rfl⟩) ?_
  have hw3 : yCl (ysf (wNewRow (wPlace ω k 0 n) (k + 3)) k 3 (some (k + 3))) := hw2.sf (ynn wNewRow_at)
  have hm2 : ∀ j, (ysf (wNewRow (wPlace ω k 0 n) (k + 3)) k 3 (some (k + 3))).1 j = none → ω.1 j = none := fun j hj => wPlace_none (wNewRow_none hj)
  have hg5 : (ysf (wNewRow (wPlace ω k 0 n) (k + 3)) k 3 (some (k + 3))).1 (k + 5) = none := (wNewRow_sh (by omega) (by omega)).trans ((wPlace_sh (by omega) (by omega)).trans hf5)
  have hg6 : (ysf (wNewRow (wPlace ω k 0 n) (k + 3)) k 3 (some (k + 3))).1 (k + 5 + 1) = none := (wNewRow_sh (by omega) (by omega)).trans ((wPlace_sh (by omega) (by omega)).trans hf6)
  refine yr_aload_n d_K_init_17 rfl ?_
  refine yr_new (ω := ysf (wNewRow (wPlace ω k 0 n) (k + 3)) k 3 (some (k + 3))) (ci := 2) (n := 2) (kn := k + 5) d_K_init_18 rfl (by decide +kernel) (by decide +kernel) (by decide +kernel) (hm2 _ hg5) hg5 (hw3.fr hg5) (fun v hv => by simp at hv; first | (rcases hv with rfl | rfl | rfl <;> (intro z; simp at z; done)) | (rcases hv with rfl | rfl <;> (intro z; simp at z; done)) | (rw [hv]; intro z; simp at z; done) | exact absurd hv id) (fun v hv => by simp at hv; first | (rcases hv with rfl | rfl | rfl <;> (intro z; simp at z; done)) | (rcases hv with rfl | rfl <;> (intro z; simp at z; done)) | (rw [hv]; intro z; simp at z; done) | exact absurd hv id) (by decide) (by decide) ?_
  refine yr_dup d_K_init_21 (fun _ => rfl) ?_
  refine yr_callN (yrunIN (k := k + 5) (As := []) (host := "MonitorYard") (rest := [yr (k + 5), yr k]) d_K_init_22 rfl rfl (c_R_init (k := k + 5) yadd_at ((yadd_sh (by omega)).trans hg6) hw3.add) (by decide +kernel) cw_R_init (by decide +kernel) (by decide +kernel) (by decide +kernel) (Nat.le_of_ble_eq_true rfl) (ycat_of rfl) (by decide) (by decide)) (fun j hj z => hj (hm2 j (yadd_none z))) (fun r ω9 hp => ⟨fun j hj => by rw [hp.2] at hj; exact yadd_none hj, fun j hj => Or.inl ?_⟩) (fun r ω9 hp => ?_)
  · simp at hj
    rcases hj with rfl | rfl
    · exact ynn yadd_at
    · exact yadd_live (ynn hk2)
  obtain ⟨rfl, rfl⟩ := hp
  have hk3 : (wNewRow (ysf (wNewRow (wPlace ω k 0 n) (k + 3)) k 3 (some (k + 3))) (k + 5)).1 k = some (.inl 3) := (wNewRow_sh (by omega) (by omega)).trans hk2
  refine yr_putrF (f := 4) d_K_init_25 hk3 sf_K_init_25 rfl rfl rfl rfl rfl (fun ad => ⟨rfl, rfl⟩) ?_
  exact yr_retv d_K_init_28 rfl (by decide) (by decide) ⟨rfl, rfl⟩

set_option maxHeartbeats 4000000 in
set_option maxRecDepth 20000 in
theorem c_S_init {G : yG} {ω : yW} {k : Nat} {n s : Int32} (hk : ω.1 k = some (.inl 5)) (hf1 : ω.1 (k + 1) = none) (hf2 : ω.1 (k + 2) = none) (hcl : yCl ω) : yCT G m_S_init [yr k, yi n, yi s] ω (fun r ω' => r = none ∧ ω' = wV ω k 2 n s) yNX := by
  refine yCT_of (by decide) rfl (ycat_of rfl) (Nat.le_of_ble_eq_true rfl) ?_
  refine yr_aload_n d_S_init_0 rfl ?_
  refine yr_iconst (v := 2) d_S_init_1 (by decide) ?_
  refine yr_iload_n d_S_init_2 rfl ?_
  refine yr_callN (yrunI (k := k) (As := [yi 2, yi n]) (rest := []) d_S_init_3 rfl rfl (c_P_init (c := 2) (k := k) (by decide) hk hf1 hf2 hcl) (show yck (yMm m_S_init) m_P_init 2 = true by decide +kernel) cw_P_init (by decide +kernel) (by decide +kernel) (by decide +kernel) (Nat.le_of_ble_eq_true rfl) (ycat_of rfl) (by decide) (by decide)) (fun j hj => hj) (fun r ω9 hp => ⟨fun j hj => by rw [hp.2] at hj; exact wPlace_none hj, fun j hj => Or.inl ?_⟩) (fun r ω9 hp => ?_)
  · simp at hj
    rw [hj]
    exact ynn hk
  obtain ⟨rfl, rfl⟩ := hp
  have hw : yCl (wPlace ω k 2 n) := wPlace_cl hcl
  have hk1 : (wPlace ω k 2 n).1 k = some (.inl 5) := (wPlace_sh (by omega) (by omega)).trans hk
  refine yr_aload_n d_S_init_6 rfl ?_
  refine yr_iload_n d_S_init_7 rfl ?_
  refine yr_puti (f := 3) d_S_init_8 hk1 sf_S_init_8 rfl rfl rfl ⟨rfl, rfl⟩ ?_
  exact yr_retv d_S_init_11 rfl (by decide) (by decide) ⟨rfl, rfl⟩

set_option maxHeartbeats 4000000 in
set_option maxRecDepth 20000 in
theorem c_L_init {G : yG} {ω : yW} {k : Nat} {n s : Int32} (hk : ω.1 k = some (.inl 6)) (hf1 : ω.1 (k + 1) = none) (hf2 : ω.1 (k + 2) = none) (hcl : yCl ω) : yCT G m_L_init [yr k, yi n, yi s] ω (fun r ω' => r = none ∧ ω' = wV ω k 3 n s) yNX := by
  refine yCT_of (by decide) rfl (ycat_of rfl) (Nat.le_of_ble_eq_true rfl) ?_
  refine yr_aload_n d_L_init_0 rfl ?_
  refine yr_iconst (v := 3) d_L_init_1 (by decide) ?_
  refine yr_iload_n d_L_init_2 rfl ?_
  refine yr_callN (yrunI (k := k) (As := [yi 3, yi n]) (rest := []) d_L_init_3 rfl rfl (c_P_init (c := 3) (k := k) (by decide) hk hf1 hf2 hcl) (show yck (yMm m_L_init) m_P_init 2 = true by decide +kernel) cw_P_init (by decide +kernel) (by decide +kernel) (by decide +kernel) (Nat.le_of_ble_eq_true rfl) (ycat_of rfl) (by decide) (by decide)) (fun j hj => hj) (fun r ω9 hp => ⟨fun j hj => by rw [hp.2] at hj; exact wPlace_none hj, fun j hj => Or.inl ?_⟩) (fun r ω9 hp => ?_)
  · simp at hj
    rw [hj]
    exact ynn hk
  obtain ⟨rfl, rfl⟩ := hp
  have hw : yCl (wPlace ω k 3 n) := wPlace_cl hcl
  have hk1 : (wPlace ω k 3 n).1 k = some (.inl 6) := (wPlace_sh (by omega) (by omega)).trans hk
  refine yr_aload_n d_L_init_6 rfl ?_
  refine yr_iload_n d_L_init_7 rfl ?_
  refine yr_puti (f := 3) d_L_init_8 hk1 sf_L_init_8 rfl rfl rfl ⟨rfl, rfl⟩ ?_
  exact yr_retv d_L_init_11 rfl (by decide) (by decide) ⟨rfl, rfl⟩

set_option maxHeartbeats 4000000 in
set_option maxRecDepth 20000 in
theorem c_A_init {G : yG} {ω : yW} {k : Nat} {n s : Int32} (hk : ω.1 k = some (.inl 7)) (hf1 : ω.1 (k + 1) = none) (hf2 : ω.1 (k + 2) = none) (hcl : yCl ω) : yCT G m_A_init [yr k, yi n, yi s] ω (fun r ω' => r = none ∧ ω' = wV ω k 4 n s) yNX := by
  refine yCT_of (by decide) rfl (ycat_of rfl) (Nat.le_of_ble_eq_true rfl) ?_
  refine yr_aload_n d_A_init_0 rfl ?_
  refine yr_iconst (v := 4) d_A_init_1 (by decide) ?_
  refine yr_iload_n d_A_init_2 rfl ?_
  refine yr_callN (yrunI (k := k) (As := [yi 4, yi n]) (rest := []) d_A_init_3 rfl rfl (c_P_init (c := 4) (k := k) (by decide) hk hf1 hf2 hcl) (show yck (yMm m_A_init) m_P_init 2 = true by decide +kernel) cw_P_init (by decide +kernel) (by decide +kernel) (by decide +kernel) (Nat.le_of_ble_eq_true rfl) (ycat_of rfl) (by decide) (by decide)) (fun j hj => hj) (fun r ω9 hp => ⟨fun j hj => by rw [hp.2] at hj; exact wPlace_none hj, fun j hj => Or.inl ?_⟩) (fun r ω9 hp => ?_)
  · simp at hj
    rw [hj]
    exact ynn hk
  obtain ⟨rfl, rfl⟩ := hp
  have hw : yCl (wPlace ω k 4 n) := wPlace_cl hcl
  have hk1 : (wPlace ω k 4 n).1 k = some (.inl 7) := (wPlace_sh (by omega) (by omega)).trans hk
  refine yr_aload_n d_A_init_6 rfl ?_
  refine yr_iload_n d_A_init_7 rfl ?_
  refine yr_putiF (f := 3) d_A_init_8 hk1 sf_A_init_8 rfl rfl rfl rfl rfl ⟨rfl, rfl⟩ ?_
  exact yr_retv d_A_init_11 rfl (by decide) (by decide) ⟨rfl, rfl⟩

set_option maxHeartbeats 4000000 in
set_option maxRecDepth 20000 in
theorem c_B_init {G : yG} {ω : yW} {k : Nat} {n : Int32} (hk : ω.1 k = some (.inl 4)) (hf1 : ω.1 (k + 1) = none) (hf2 : ω.1 (k + 2) = none) (hf7 : ω.1 (k + 7) = none) (hcl : yCl ω) : yCT G m_B_init [yr k, yi n] ω (fun r ω' => r = none ∧ ω' = wB ω k n) yNX := by
  refine yCT_of (by decide) rfl (ycat_of rfl) (Nat.le_of_ble_eq_true rfl) ?_
  refine yr_aload_n d_B_init_0 rfl ?_
  refine yr_iconst (v := 1) d_B_init_1 (by decide) ?_
  refine yr_iload_n d_B_init_2 rfl ?_
  refine yr_callN (yrunI (k := k) (As := [yi 1, yi n]) (rest := []) d_B_init_3 rfl rfl (c_P_init (c := 1) (k := k) (by decide) hk hf1 hf2 hcl) (show yck (yMm m_B_init) m_P_init 2 = true by decide +kernel) cw_P_init (by decide +kernel) (by decide +kernel) (by decide +kernel) (Nat.le_of_ble_eq_true rfl) (ycat_of rfl) (by decide) (by decide)) (fun j hj => hj) (fun r ω9 hp => ⟨fun j hj => by rw [hp.2] at hj; exact wPlace_none hj, fun j hj => Or.inl ?_⟩) (fun r ω9 hp => ?_)
  · simp at hj
    rw [hj]
    exact ynn hk
  obtain ⟨rfl, rfl⟩ := hp
  have hw : yCl (wPlace ω k 1 n) := wPlace_cl hcl
  have hk1 : (wPlace ω k 1 n).1 k = some (.inl 4) := (wPlace_sh (by omega) (by omega)).trans hk
  refine yr_aload_n d_B_init_6 rfl ?_
  refine yr_bipush (v := 6) d_B_init_7 (by decide) ?_
  have hm1 : ∀ j, (wPlace ω k 1 n).1 j = none → ω.1 j = none := fun j hj => wPlace_none hj
  have hg7 : (wPlace ω k 1 n).1 (k + 7) = none := (wPlace_sh (by omega) (by omega)).trans hf7
  refine yr_newa (ω := wPlace ω k 1 n) (tc := 0) (kn := k + 7) (N := 6) d_B_init_9 rfl (by decide) (by decide +kernel) (by decide) (by decide) (by decide) (hm1 _ hg7) hg7 (hw.fr hg7) (fun v hv => by simp at hv; first | (rcases hv with rfl | rfl | rfl <;> (intro z; simp at z; done)) | (rcases hv with rfl | rfl <;> (intro z; simp at z; done)) | (rw [hv]; intro z; simp at z; done) | exact absurd hv id) (fun v hv => by simp at hv; first | (rcases hv with rfl | rfl | rfl <;> (intro z; simp at z; done)) | (rcases hv with rfl | rfl <;> (intro z; simp at z; done)) | (rw [hv]; intro z; simp at z; done) | exact absurd hv id) (by decide) (by decide) ?_
  have hk2 : (yadd (wPlace ω k 1 n) (k + 7) (.inr (0, 6))).1 k = some (.inl 4) := (yadd_sh (by omega)).trans hk1
  refine yr_putrF (f := 3) d_B_init_11 hk2 sf_B_init_11 rfl rfl rfl rfl rfl (fun ad => ⟨rfl, rfl⟩) ?_
  exact yr_retv d_B_init_14 rfl (by decide) (by decide) ⟨rfl, rfl⟩

set_option maxHeartbeats 4000000 in
set_option maxRecDepth 20000 in
theorem c_Q_init {G : yG} {ω : yW} {k s : Nat} {n : Int32} (hs3 : s ≤ 3) (hk : ω.1 k = some (.inl 8)) (hf1 : ω.1 (k + 1) = none) (hf2 : ω.1 (k + 2) = none) (hf7 : ω.1 (k + 7) = none) (hcl : yCl ω) : yCT G m_Q_init [yr k, yi n, yi (nI s)] ω (fun r ω' => r = none ∧ ω' = wQ ω k n s) yNX := by
  refine yCT_of (by decide) rfl (ycat_of rfl) (Nat.le_of_ble_eq_true rfl) ?_
  refine yr_aload_n d_Q_init_0 rfl ?_
  refine yr_iconst (v := 5) d_Q_init_1 (by decide) ?_
  refine yr_iload_n d_Q_init_2 rfl ?_
  refine yr_callN (yrunI (k := k) (As := [yi 5, yi n]) (rest := []) d_Q_init_3 rfl rfl (c_P_init (c := 5) (k := k) (by decide) hk hf1 hf2 hcl) (show yck (yMm m_Q_init) m_P_init 2 = true by decide +kernel) cw_P_init (by decide +kernel) (by decide +kernel) (by decide +kernel) (Nat.le_of_ble_eq_true rfl) (ycat_of rfl) (by decide) (by decide)) (fun j hj => hj) (fun r ω9 hp => ⟨fun j hj => by rw [hp.2] at hj; exact wPlace_none hj, fun j hj => Or.inl ?_⟩) (fun r ω9 hp => ?_)
  · simp at hj
    rw [hj]
    exact ynn hk
  obtain ⟨rfl, rfl⟩ := hp
  have hw : yCl (wPlace ω k 5 n) := wPlace_cl hcl
  have hk1 : (wPlace ω k 5 n).1 k = some (.inl 8) := (wPlace_sh (by omega) (by omega)).trans hk
  refine yr_aload_n d_Q_init_6 rfl ?_
  refine yr_iload_n d_Q_init_7 rfl ?_
  have hm1 : ∀ j, (wPlace ω k 5 n).1 j = none → ω.1 j = none := fun j hj => wPlace_none hj
  have hg7 : (wPlace ω k 5 n).1 (k + 7) = none := (wPlace_sh (by omega) (by omega)).trans hf7
  refine yr_newa (ω := wPlace ω k 5 n) (tc := 0) (kn := k + 7) (N := s) d_Q_init_8 rfl (by decide) (by decide +kernel) (nI_pos (by omega)) (nI_clamp (by omega)) (by omega) (hm1 _ hg7) hg7 (hw.fr hg7) (fun v hv => by simp at hv; first | (rcases hv with rfl | rfl | rfl <;> (intro z; simp at z; done)) | (rcases hv with rfl | rfl <;> (intro z; simp at z; done)) | (rw [hv]; intro z; simp at z; done) | exact absurd hv id) (fun v hv => by simp at hv; first | (rcases hv with rfl | rfl | rfl <;> (intro z; simp at z; done)) | (rcases hv with rfl | rfl <;> (intro z; simp at z; done)) | (rw [hv]; intro z; simp at z; done) | exact absurd hv id) (by decide) (Nat.le_trans (Nat.add_le_add_left hs3 _) (by decide)) ?_
  have hk2 : (yadd (wPlace ω k 5 n) (k + 7) (.inr (0, s))).1 k = some (.inl 8) := (yadd_sh (by omega)).trans hk1
  refine yr_putrF (f := 3) d_Q_init_10 hk2 sf_Q_init_10 rfl rfl rfl rfl rfl (fun ad => ⟨rfl, rfl⟩) ?_
  exact yr_retv d_Q_init_13 rfl (by decide) (Nat.le_trans (Nat.add_le_add_left hs3 _) (by decide)) ⟨rfl, rfl⟩
