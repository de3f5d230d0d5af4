def wThread (ω : yW) (k : Nat) (n : Int32) : yW := ysi (ysi (ysi (ysi (ysf (yadd ω (k + 10) (.inr (0, 5))) k 1 (some (k + 10))) k 2 0) k 3 0) k 7 (-1)) k 0 n

set_option maxHeartbeats 4000000 in
set_option maxRecDepth 20000 in
theorem c_T_init {G : yG} {ω : yW} {k : Nat} {n : Int32} (hk : ω.1 k = some (.inl 1)) (hf : ω.1 (k + 10) = none) (hcl : yCl ω) : yCT G m_T_init [yr k, yi n] ω (fun r ω' => r = none ∧ ω' = wThread ω k n) yNX := by
  refine yCT_of (by decide) rfl (ycat_of rfl) (Nat.le_of_ble_eq_true rfl) ?_
  refine yr_aload_n d_T_init_0 rfl ?_
  refine yr_objInit d_T_init_1 (by decide +kernel) (by decide +kernel) (List.mem_of_getElem? (i := 62) rfl) (by decide) (by decide) (ycat_of rfl) ?_
  refine yr_aload_n d_T_init_4 rfl ?_
  refine yr_iconst (v := 5) d_T_init_5 (by decide) ?_
  refine yr_newa (tc := 0) (kn := k + 10) (N := 5) d_T_init_6 rfl (by decide) (by decide +kernel) (by decide) (by decide) (by decide) hf hf (hcl.fr hf) (fun v hv => by simp at hv <;> first | (rcases hv with rfl | rfl | rfl <;> (intro z; simp at z <;> omega)) | (rcases hv with rfl | rfl <;> (intro z; simp at z <;> omega)) | (rw [hv]; intro z; simp at z <;> omega) | exact absurd hv id) (fun v hv => by simp at hv <;> first | (rcases hv with rfl | rfl | rfl <;> (intro z; simp at z <;> omega)) | (rcases hv with rfl | rfl <;> (intro z; simp at z <;> omega)) | (rw [hv]; intro z; simp at z <;> omega) | exact absurd hv id) (by decide) (by decide) ?_
  have hk2 : (yadd ω (k + 10) (.inr (0, 5))).1 k = some (.inl 1) := (yadd_sh (by omega)).trans hk
  refine yr_putrF (f := 1) d_T_init_8 hk2 sf_T_init_8 rfl rfl rfl rfl rfl (fun ad => ⟨rfl, rfl⟩) ?_
  refine yr_aload_n d_T_init_11 rfl ?_
  refine yr_iconst (v := 0) d_T_init_12 (by decide) ?_
  refine yr_puti (f := 2) d_T_init_13 hk2 sf_T_init_13 rfl rfl rfl ⟨rfl, rfl⟩ ?_
  refine yr_aload_n d_T_init_16 rfl ?_
  refine yr_iconst (v := 0) d_T_init_17 (by decide) ?_
  refine yr_puti (f := 3) d_T_init_18 hk2 sf_T_init_18 rfl rfl rfl ⟨rfl, rfl⟩ ?_
  refine yr_aload_n d_T_init_21 rfl ?_
  refine yr_iconst (v := -1) d_T_init_22 (by decide) ?_
  refine yr_puti (f := 7) d_T_init_23 hk2 sf_T_init_23 rfl rfl rfl ⟨rfl, rfl⟩ ?_
  refine yr_aload_n d_T_init_26 rfl ?_
  refine yr_iload_n d_T_init_27 rfl ?_
  refine yr_putiF (f := 0) d_T_init_28 hk2 sf_T_init_28 rfl rfl rfl rfl rfl ⟨rfl, rfl⟩ ?_
  exact yr_retv d_T_init_31 rfl (by decide) (by decide) ⟨rfl, rfl⟩

theorem wThread_cl {ω : yW} {k : Nat} {n : Int32} (h : yCl ω) : yCl (wThread ω k n) := (yCl.add (kn := k + 10) (sp := .inr (0, 5)) h).sf (i := 1) (ynn yadd_at)
theorem wThread_sh {ω : yW} {k j : Nat} {n : Int32} (h : j ≠ k + 10) : (wThread ω k n).1 j = ω.1 j := yadd_sh (sp := .inr (0, 5)) h
theorem wThread_none {ω : yW} {k j : Nat} {n : Int32} (h : (wThread ω k n).1 j = none) : ω.1 j = none := yadd_none (k := k + 10) (sp := .inr (0, 5)) h
def wY0 (ω : yW) : yW := ysf (yadd (ysf (yadd ω 1 (.inr (3, 6))) 0 0 (some 1)) 2 (.inr (4, 6))) 0 1 (some 2)
def wTs (ω : yW) : Nat → yW
  | 0 => wY0 ω
  | q + 1 => ysf (wThread (yadd (wTs ω q) (10 + q) (.inl 1)) (10 + q) (nI q)) 1 q (some (10 + q))
theorem wY0_cl {ω : yW} (h : yCl ω) : yCl (wY0 ω) := (yCl.add (kn := 2) (sp := .inr (4, 6)) ((yCl.add (kn := 1) (sp := .inr (3, 6)) h).sf (k := 0) (i := 0) (ynn yadd_at))).sf (ynn yadd_at)
theorem wTs_sh {ω : yW} {j : Nat} : ∀ q, (j < 10 ∨ 20 + q ≤ j ∨ (10 + q ≤ j ∧ j < 20)) → (wTs ω q).1 j = (wY0 ω).1 j
  | 0, _ => rfl
  | q + 1, h => (wThread_sh (n := nI q) (by omega)).trans ((yadd_sh (by omega)).trans (wTs_sh q (by omega)))
theorem wTs_none {ω : yW} {j : Nat} : ∀ q, (wTs ω q).1 j = none → (wY0 ω).1 j = none
  | 0, h => h
  | q + 1, h => wTs_none q (yadd_none (wThread_none (n := nI q) h))
theorem wY0_none {ω : yW} {j : Nat} (h : (wY0 ω).1 j = none) : ω.1 j = none := yadd_none (ω := ω) (k := 1) (sp := .inr (3, 6)) (yadd_none (k := 2) (sp := .inr (4, 6)) h)
theorem wY0_sh {ω : yW} {j : Nat} (h1 : j ≠ 1) (h2 : j ≠ 2) : (wY0 ω).1 j = ω.1 j := (yadd_sh (k := 2) (sp := .inr (4, 6)) h2).trans (yadd_sh (k := 1) (sp := .inr (3, 6)) h1)
theorem wY0_1 {ω : yW} : (wY0 ω).1 1 = some (.inr (3, 6)) := (yadd_sh (ω := ysf (yadd ω 1 (.inr (3, 6))) 0 0 (some 1)) (k := 2) (sp := .inr (4, 6)) (j := 1) (by omega)).trans (yadd_at (ω := ω) (k := 1) (sp := .inr (3, 6)))
theorem wTs_cl {ω : yW} (h : yCl ω) : ∀ q, yCl (wTs ω q)
  | 0 => wY0_cl h
  | q + 1 => (wThread_cl ((wTs_cl h q).add)).sf (by rw [wThread_sh (by omega)]; exact ynn yadd_at)
theorem wTs_ref {ω : yW} : ∀ q, (wTs ω q).2.2 0 0 = some 1
  | 0 => by simp [wTs, wY0, ysf, yadd, yu, va_up]
  | q + 1 => by
    have h := wTs_ref (ω := ω) q
    show (ysf (wThread (yadd (wTs ω q) (10 + q) (.inl 1)) (10 + q) (nI q)) 1 q (some (10 + q))).2.2 0 0 = some 1
    have e1 : (0 : Nat) ≠ 10 + q := by omega
    have e2 : (0 : Nat) ≠ 10 + q + 10 := by omega
    simp [wThread, ysi, ysf, yadd, yu, va_up, e1, e2, h]

set_option maxHeartbeats 4000000 in
set_option maxRecDepth 20000 in
theorem c_Y_init_loop {G : yG} {ω : yW} (hk : ω.1 0 = some (.inl 0)) (hfree : ∀ k, k ≠ 0 → ω.1 k = none) (hcl : yCl ω) : ∀ (m q : Nat), m + q = 6 → yWW G m_Y_init (yQf G m_Y_init ω.1 (fun r ω' => r = none ∧ ω' = wTs ω 6) yNX) ω.1 24 [some (yr 0), some (yi (nI q))] [] (wTs ω q) (2 + 2 * q) (12 + 17 * q) := by
  intro m
  induction m with
  | zero =>
    intro q hm
    have hq : q = 6 := by omega
    refine yr_iload_n d_Y_init_24 rfl ?_
    refine yr_bipush (v := 6) d_Y_init_25 (by decide) ?_
    refine yr_icmp_ge (tgt := 50) d_Y_init_27 (by decide) (fun c27 => ?_) (fun c27 => absurd (nI_le (a := 6) (by omega) (by omega)) c27)
    exact yr_retv d_Y_init_50 rfl (by show 2 + 2 * q ≤ 14; omega) (by show 12 + 17 * q ≤ 114; omega) ⟨rfl, by rw [hq]⟩
  | succ m ih =>
    intro q hm
    have f10 : (wTs ω q).1 (10 + q) = none := (wTs_sh q (by omega)).trans ((wY0_sh (by omega) (by omega)).trans (hfree _ (by omega)))
    have f20 : (wTs ω q).1 (10 + q + 10) = none := (wTs_sh q (by omega)).trans ((wY0_sh (by omega) (by omega)).trans (hfree _ (by omega)))
    have k0 : (wTs ω q).1 0 = some (.inl 0) := (wTs_sh q (by omega)).trans ((wY0_sh (by omega) (by omega)).trans hk)
    have k1 : (wTs ω q).1 1 = some (.inr (3, 6)) := (wTs_sh q (by omega)).trans (wY0_1)
    refine yr_iload_n d_Y_init_24 rfl ?_
    refine yr_bipush (v := 6) d_Y_init_25 (by decide) ?_
    refine yr_icmp_ge (tgt := 50) d_Y_init_27 (by decide) (fun c27 => absurd c27 (nI_ge (b := 6) (by omega) (by omega))) (fun c27 => ?_)
    refine yr_aload_n d_Y_init_30 rfl ?_
    refine yr_getr d_Y_init_31 k0 sf_Y_init_31 rfl ?_
    rw [wTs_ref q]
    refine yr_iload_n d_Y_init_34 rfl ?_
    refine yr_new (ω := wTs ω q) (ci := 1) (n := 12) (kn := 10 + q) d_Y_init_35 rfl (by decide +kernel) (by decide +kernel) (by decide +kernel) (wY0_none (wTs_none q f10)) f10 ((wTs_cl hcl q).fr f10) (fun v hv => by simp at hv <;> first | (rcases hv with rfl | rfl | rfl <;> (intro z; simp at z <;> omega)) | (rcases hv with rfl | rfl <;> (intro z; simp at z <;> omega)) | (rw [hv]; intro z; simp at z <;> omega) | exact absurd hv id) (fun v hv => by simp at hv <;> first | (rcases hv with rfl | rfl | rfl <;> (intro z; simp at z <;> omega)) | (rcases hv with rfl | rfl <;> (intro z; simp at z <;> omega)) | (rw [hv]; intro z; simp at z <;> omega) | exact absurd hv id) (by show 2 + 2 * q + 1 ≤ 14; omega) (by show 12 + 17 * q + 12 ≤ 114; omega) ?_
    refine yr_dup d_Y_init_38 (fun _ => rfl) ?_
    refine yr_iload_n d_Y_init_39 rfl ?_
    refine yr_callN (yrunI (k := 10 + q) (As := [yi (nI q)]) (rest := [yr (10 + q), yi (nI q), yr 1]) d_Y_init_40 rfl rfl (c_T_init (k := 10 + q) yadd_at ((yadd_sh (by omega)).trans f20) (wTs_cl hcl q).add) (show yck (yMm m_Y_init) m_T_init 1 = true by decide +kernel) cw_T_init (by decide +kernel) (by decide +kernel) (by decide +kernel) (Nat.le_of_ble_eq_true rfl) (ycat_of rfl) (by show 2 + 2 * q + 1 + 1 ≤ 14; omega) (by show 12 + 17 * q + 12 + 5 ≤ 114; omega)) (fun j hj z => hj (wY0_none (wTs_none q (yadd_none z)))) (fun r ω9 hp => ⟨fun j hj => by rw [hp.2] at hj; exact wThread_none hj, fun j hj => Or.inl ?_⟩) (fun r ω9 hp => ?_)
    · simp at hj
      rcases hj with (rfl | rfl) | rfl
      · exact ynn yadd_at
      · exact yadd_live (ynn k1)
      · exact yadd_live (ynn k0)
    obtain ⟨rfl, rfl⟩ := hp
    refine yr_aast (n := 6) (j := q) (tc := 3) (C := "MonitorYard$YardThread") (ci := 1) d_Y_init_43 (Or.inl rfl) rfl ((wThread_sh (by omega)).trans ((yadd_sh (by omega)).trans k1)) ((wThread_sh (by omega)).trans yadd_at) rfl (Or.inl rfl) (nI_pos (by omega)) (nI_clamp (by omega)) (by omega) ?_
    refine yr_iinc (v := nI (q + 1)) d_Y_init_44 rfl (nI_1 q) (by decide) rfl ?_
    refine yr_goto (tgt := 24) d_Y_init_47 (by decide) ?_
    exact ih (q + 1) (by omega)

set_option maxHeartbeats 4000000 in
set_option maxRecDepth 20000 in
theorem c_Y_init {G : yG} {ω : yW} (hk : ω.1 0 = some (.inl 0)) (hfree : ∀ k, k ≠ 0 → ω.1 k = none) (hcl : yCl ω) : yCT G m_Y_init [yr 0] ω (fun r ω' => r = none ∧ ω' = wTs ω 6) yNX := by
  refine yCT_of (by decide) rfl (ycat_of rfl) (Nat.le_of_ble_eq_true rfl) ?_
  refine yr_aload_n d_Y_init_0 rfl ?_
  refine yr_objInit d_Y_init_1 (by decide +kernel) (by decide +kernel) (List.mem_of_getElem? (i := 62) rfl) (by decide) (by decide) (ycat_of rfl) ?_
  refine yr_aload_n d_Y_init_4 rfl ?_
  refine yr_bipush (v := 6) d_Y_init_5 (by decide) ?_
  refine yr_newq (tc := 3) (kn := 1) (N := 6) (C0 := "MonitorYard$YardThread") d_Y_init_7 (Or.inl rfl) rfl (by decide +kernel) (by decide +kernel) (by decide) (by decide) (by decide) (hfree 1 (by omega)) (hfree 1 (by omega)) (hcl.fr (hfree 1 (by omega))) (fun v hv => by simp at hv <;> first | (rcases hv with rfl | rfl | rfl <;> (intro z; simp at z <;> omega)) | (rcases hv with rfl | rfl <;> (intro z; simp at z <;> omega)) | (rw [hv]; intro z; simp at z <;> omega) | exact absurd hv id) (fun v hv => by simp at hv <;> first | (rcases hv with rfl | rfl | rfl <;> (intro z; simp at z <;> omega)) | (rcases hv with rfl | rfl <;> (intro z; simp at z <;> omega)) | (rw [hv]; intro z; simp at z <;> omega) | exact absurd hv id) (by decide) (by decide) ?_
  have k0 : (yadd ω 1 (.inr (3, 6))).1 0 = some (.inl 0) := (yadd_sh (by omega)).trans hk
  have g2 : (ysf (yadd ω 1 (.inr (3, 6))) 0 0 (some 1)).1 2 = none := (yadd_sh (k := 1) (sp := .inr (3, 6)) (by omega)).trans (hfree 2 (by omega))
  refine yr_putrF (f := 0) d_Y_init_10 k0 sf_Y_init_10 rfl rfl rfl rfl rfl (fun ad => ⟨rfl, rfl⟩) ?_
  have cl1 : yCl (ysf (yadd ω 1 (.inr (3, 6))) 0 0 (some 1)) := (hcl.add).sf (ynn yadd_at)
  refine yr_aload_n d_Y_init_13 rfl ?_
  refine yr_bipush (v := 6) d_Y_init_14 (by decide) ?_
  refine yr_newq (tc := 4) (kn := 2) (N := 6) (C0 := "MonitorYard$Place") d_Y_init_16 (Or.inr rfl) rfl (by decide +kernel) (by decide +kernel) (by decide) (by decide) (by decide) (hfree 2 (by omega)) g2 (cl1.fr g2) (fun v hv => by simp at hv <;> first | (rcases hv with rfl | rfl | rfl <;> (intro z; simp at z <;> omega)) | (rcases hv with rfl | rfl <;> (intro z; simp at z <;> omega)) | (rw [hv]; intro z; simp at z <;> omega) | exact absurd hv id) (fun v hv => by simp at hv <;> first | (rcases hv with rfl | rfl | rfl <;> (intro z; simp at z <;> omega)) | (rcases hv with rfl | rfl <;> (intro z; simp at z <;> omega)) | (rw [hv]; intro z; simp at z <;> omega) | exact absurd hv id) (by decide) (by decide) ?_
  have k02 : (yadd (ysf (yadd ω 1 (.inr (3, 6))) 0 0 (some 1)) 2 (.inr (4, 6))).1 0 = some (.inl 0) := (yadd_sh (by omega)).trans k0
  refine yr_putrF (f := 1) d_Y_init_19 k02 sf_Y_init_19 rfl rfl rfl rfl rfl (fun ad => ⟨rfl, rfl⟩) ?_
  refine yr_iconst (v := 0) d_Y_init_22 (by decide) ?_
  refine yr_istore_n d_Y_init_23 (by decide) rfl ?_
  exact c_Y_init_loop hk hfree hcl 6 0 rfl

def zs0 : zS := (fun f _ => if f = 7 then -1 else 0, fun _ _ => 0, fun _ => none, fun _ => none, fun _ _ => [], fun _ _ => 0, fun _ _ => 0, fun _ => [], 0, fun _ => 0, fun _ => 0, 0)
def wE : yW := (fun _ => none, fun _ _ => 0, fun _ _ => none)
def wYard : yW := wTs (yadd wE 0 (.inl 0)) 6
