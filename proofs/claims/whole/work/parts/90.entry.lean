/-! the law's entry -/
theorem wYard_none {k : Nat} (h : 100 ≤ k) : wYard.1 k = none := (wTs_sh 6 (by omega)).trans ((wY0_sh (by omega) (by omega)).trans (wY_free k (by omega)))
def w3 : yW := yadd wYard 200 (.inl 9)
def w5 : yW := yadd (wModel w3) 300 (.inr (2, 1))
theorem w3_cl : yCl w3 := wYard_cl.add
theorem w3_none {k : Nat} (h : 100 ≤ k) (h2 : ¬ k = 200) : w3.1 k = none := (yadd_sh h2).trans (wYard_none h)
theorem wM_sh {k : Nat} (h : k ≤ 200 ∨ 224 ≤ k) : (wModel w3).1 k = w3.1 k := wMs_sh 23 (by omega)
theorem wM_cl : yCl (wModel w3) := wMs_cl w3_cl 23
theorem w5_sh {k : Nat} (h : ¬ k = 300) : w5.1 k = (wModel w3).1 k := yadd_sh h
theorem w5_o {k : Nat} (h : ¬ k = 300) : w5.2.1 k = (wModel w3).2.1 k ∧ w5.2.2 k = (wModel w3).2.2 k := yadd_o h
theorem lwI_start : lwI 6 zs0 w5 := by
  have hS : mSh (wModel w3).1 (wModel w3).2.2 := wMs_mSh yadd_at
  have hR : mRS 6 zs0 (wModel w3).2.1 := mRS_start ((wMs_200 23).trans (show w3.2.1 200 = fun _ => 0 from va_up_self wYard.2.1 200 (fun _ => 0))) (fun b hb => (wMs_arr 23 hb).2.2)
  refine ⟨zC_ext zC_start (fun k hk => ?_) (fun k hk => ⟨?_, ?_⟩) wM_cl.add, mSh_of hS (fun k a b => w5_sh (by omega)) (w5_o (by decide)).2, mRS_cells hR (fun K a b => (w5_o (by omega)).1), yadd_at, fun o j _ a b => ?_, ?_, Nat.le_refl _⟩
  · exact (w5_sh (by omega)).trans ((wM_sh (by omega)).trans (yadd_sh (by omega)))
  · refine (w5_o (by omega)).1.trans ?_
    funext j
    refine ((mIni_at 6).2 k j (by omega) (by omega)).trans ?_
    rw [(wMs_o (ω := w3) (j := k) 23 (by omega)).1]
    exact congrFun (yadd_o (by omega)).1 j
  · refine (w5_o (by omega)).2.trans ?_
    exact (wMs_o (ω := w3) (j := k) 23 (by omega)).2.trans (yadd_o (by omega)).2
  · exact (w5_sh (by unfold kP; omega)).trans ((wM_sh (by unfold kP; omega)).trans (w3_none (by unfold kP; omega) (by unfold kP; omega)))
  · exact (w5_sh (by decide)).trans ((wM_sh (by omega)).trans (w3_none (by omega) (by decide)))
theorem lw_entry {G : yG} {b L : Nat} {xs : Nat → Int32} (hT : (yGl G).stackTraces = false) (hb : b < yGb G) (hL : L ≤ 3072) : yWW G m_W_law (yQN (lwG G b L xs) lwQ) (fun _ => none) 0 [some (yr 400), none, none, none, none, none, none] [] wE 0 0 := by
  refine yr_new (ci := 0) (n := 4) (kn := 0) d_W_law_0 rfl (by decide +kernel) (by decide +kernel) (by decide +kernel) rfl rfl (wE_cl.fr rfl) (fun v hv => by simp at hv <;> first | (rcases hv with rfl | rfl | rfl <;> (intro z; simp at z; done)) | (rcases hv with rfl | rfl <;> (intro z; simp at z; done)) | (rw [hv]; intro z; simp at z; done) | exact absurd hv id) (fun v hv => by simp at hv <;> first | (rcases hv with rfl | rfl | rfl <;> (intro z; simp at z; done)) | (rcases hv with rfl | rfl <;> (intro z; simp at z; done)) | (rw [hv]; intro z; simp at z; done) | exact absurd hv id) (by decide) (by decide) ?_
  refine yr_dup d_W_law_3 (fun _ => rfl) ?_
  refine yr_callN (yrunI (k := 0) (As := []) (rest := [yr 0]) d_W_law_4 rfl rfl (c_Y_init yadd_at (fun k hk => wY_free k hk) wE_cl.add) (show yck (yMm m_W_law) m_Y_init 0 = true by decide +kernel) cw_Y_init (by decide +kernel) (by decide +kernel) (by decide +kernel) (Nat.le_of_ble_eq_true rfl) (ycat_of rfl) (by decide) (by decide)) (fun k h => absurd rfl h) (fun r ω9 hp => ?_) (fun r ω9 hp => ?_)
  · obtain ⟨-, rfl⟩ := hp
    refine ⟨fun k h => wY0_none (wTs_none 6 h), fun k hk => ?_⟩
    have hk : k = 0 ∨ k = 400 := by simpa using hk
    rcases hk with rfl | rfl
    · exact Or.inl (by rw [yadd_at]; exact fun z => nomatch z)
    · exact Or.inr (wYard_none (by decide))
  obtain ⟨rfl, rfl⟩ := hp
  show yWW G m_W_law (yQN (lwG G b L xs) lwQ) (fun _ => none) 7 [some (yr 400), none, none, none, none, none, none] [yr 0] wYard (0 + 1 + 14) (0 + 4 + 114)
  refine yr_astore_n (ls' := [some (yr 400), some (yr 0), none, none, none, none, none]) d_W_law_7 (by decide) rfl ?_
  refine yr_new (ci := 9) (n := 27) (kn := 200) d_W_law_8 rfl (by decide +kernel) (by decide +kernel) (by decide +kernel) rfl (wYard_none (by decide)) (wYard_cl.fr (wYard_none (by decide))) (fun v hv => by simp at hv <;> first | (rcases hv with rfl | rfl | rfl <;> (intro z; simp at z; done)) | (rcases hv with rfl | rfl <;> (intro z; simp at z; done)) | (rw [hv]; intro z; simp at z; done) | exact absurd hv id) (fun v hv => by simp at hv <;> first | (rcases hv with rfl | rfl | rfl <;> (intro z; simp at z; done)) | (rcases hv with rfl | rfl <;> (intro z; simp at z; done)) | (rw [hv]; intro z; simp at z; done) | exact absurd hv id) (by decide) (by decide) ?_
  refine yr_dup d_W_law_11 (fun _ => rfl) ?_
  refine yr_callN (yrunI (k := 200) (As := []) (rest := [yr 200]) d_W_law_12 rfl rfl (c_M_init yadd_at (fun k a b => w3_none (by omega) (by omega)) w3_cl) (show yck (yMm m_W_law) m_M_init 0 = true by decide +kernel) cw_M_init (by decide +kernel) (by decide +kernel) (by decide +kernel) (Nat.le_of_ble_eq_true rfl) (ycat_of rfl) (by decide) (by decide)) (fun k h => absurd rfl h) (fun r ω9 hp => ?_) (fun r ω9 hp => ?_)
  · obtain ⟨-, rfl⟩ := hp
    refine ⟨fun k h => wMs_none 23 h, fun k hk => ?_⟩
    have hk : k = 200 ∨ k = 400 ∨ k = 0 := by simpa using hk
    rcases hk with rfl | rfl | rfl
    · exact Or.inl (by rw [yadd_at]; exact fun z => nomatch z)
    · exact Or.inr ((wM_sh (by omega)).trans (w3_none (by decide) (by decide)))
    · refine Or.inl ?_
      rw [show (yadd wYard 200 (.inl 9)).1 0 = wYard.1 0 from yadd_sh (by decide), zC_start.1.1]
      exact fun z => nomatch z
  obtain ⟨rfl, rfl⟩ := hp
  show yWW G m_W_law (yQN (lwG G b L xs) lwQ) (fun _ => none) 15 [some (yr 400), some (yr 0), none, none, none, none, none] [yr 200] (wModel w3) (0 + 1 + 14 + 1 + 23) (0 + 4 + 114 + 27 + 281)
  refine yr_astore_n (ls' := [some (yr 400), some (yr 0), some (yr 200), none, none, none, none]) d_W_law_15 (by decide) rfl ?_
  refine yr_iconst (v := 1) d_W_law_16 (by decide) ?_
  have h300 : (wModel w3).1 300 = none := (wM_sh (by omega)).trans (w3_none (by decide) (by decide))
  refine yr_newa (tc := 2) (kn := 300) (N := 1) d_W_law_17 rfl (by decide) (by decide +kernel) (by decide) rfl (by decide) rfl h300 (wM_cl.fr h300) (fun v hv => by simp at hv <;> first | (rcases hv with rfl | rfl | rfl <;> (intro z; simp at z; done)) | (rcases hv with rfl | rfl <;> (intro z; simp at z; done)) | (rw [hv]; intro z; simp at z; done) | exact absurd hv id) (fun v hv => by simp at hv <;> first | (rcases hv with rfl | rfl | rfl <;> (intro z; simp at z; done)) | (rcases hv with rfl | rfl <;> (intro z; simp at z; done)) | (rw [hv]; intro z; simp at z; done) | exact absurd hv id) (by decide) (by decide) ?_
  refine yr_astore_n (ls' := [some (yr 400), some (yr 0), some (yr 200), some (yr 300), none, none, none]) d_W_law_19 (by decide) rfl ?_
  refine yr_iconst (v := 0) d_W_law_20 (by decide) ?_
  refine yr_istore (ls' := [some (yr 400), some (yr 0), some (yr 200), some (yr 300), some (yi 0), none, none]) d_W_law_21 (by decide) rfl ?_
  exact lw_loop hT hb hL 513 0 6 zs0 w5 none none _ _ (by omega) (by decide) lwI_start (by decide) (by decide) (by decide)
theorem yGx.of {s : State} {A : Array Value} (h : ∀ w ∈ lw_tbl, w.before A s = true) : yGx s := by
  intro w hw hn a
  have h1 := h w hw
  by_cases hg : goodWord w = true
  · exact word_at (State.WarmedH.refl s) (good_of_word hg) h1
  · have h2 : yNs w = true := by
      unfold ynw at hn
      rw [Bool.or_eq_true] at hn
      exact hn.resolve_left hg
    unfold yNs at h2
    split at h2
    · exact va_Nw.use rfl (va_Nw.of rfl h1)
    · exact va_Nw.use rfl (va_Nw.of rfl h1)
    · exact va_Nw.use rfl (va_Nw.of rfl h1)
    · exact va_Nw.use rfl (va_Nw.of rfl h1)
    · exact va_Nw.use rfl (va_Nw.of rfl h1)
    · exact va_AO.use (va_AO.of h1)
    · cases h2
theorem yInst : ∀ r ∈ ycl, Cond.instantiable r.1 r.2.2 ∈ lw_tbl := by decide +kernel
theorem yArr {s : State} {A : Array Value} {ty : FieldType} (h : (Cond.arrayClass ty).before A s = true) (ht : ∀ c : ClassId, va_RA s c ty = (s.vm.findClass ("[" ++ ty.toString) = some c)) : ∃ c : ClassId, ArrOfT s c ty ∧ va_RA s c ty := by
  obtain ⟨c, k, comp, h1, h2, h3⟩ := Cond.arrayClass_spec h
  exact ⟨c, fun n z => ⟨fun k h => (by cases h), k, h2, comp, h3⟩, by rw [ht]; exact h1⟩
theorem yArrO {s : State} {A : Array Value} {C : String} (h : (Cond.arrayOver (.object C)).before A s = true) : ∃ c : ClassId, ArrOfT s c (.object C) ∧ va_RA s c (.object C) := by
  obtain ⟨comp, c, k, f4, -, f2, f3, f1⟩ := Cond.arrayOver_spec h
  exact ⟨c, fun n z => ⟨fun k h => (by cases h), k, f2, comp, f3⟩, k, comp, f2, f3, f4, f1⟩
theorem yK_of {s : State} {A : Array Value} (c0 : ClassId) (hts : ∀ w ∈ lw_tbl, w.before A s = true) : ∃ (D : va_G) (cA : Nat → ClassId), va_K D ycl [(cA 0, yty 0), (cA 1, yty 1), (cA 2, yty 2), (cA 3, yty 3), (cA 4, yty 4)] s := by
  have H : ∀ k : Nat, ∃ (cC : ClassId) (iS : Nat → Nat), ∀ r : vw_C, ycl[k]? = some r → u_Kn s r.1 r.2.1 r.2.2 cC iS := fun k => by
    cases h : ycl[k]? with
    | none => exact ⟨c0, fun _ => 0, fun r h' => nomatch h'⟩
    | some r =>
      have hr := List.mem_of_getElem? h
      obtain ⟨cC, iS, hk⟩ := u_known (C := r.1) (T := r.2.1) (N := r.2.2) (n := r.2.2) hts (fun w hw => (List.mem_filter.mp (yIn r hr w hw)).1) (hts _ (yInst r hr))
      exact ⟨cC, iS, fun r' h' => by cases h'; exact hk⟩
  obtain ⟨a0, q0⟩ := yArr (ty := .int) (hts (.arrayClass .int) (by decide +kernel)) (fun _ => rfl)
  obtain ⟨a1, q1⟩ := yArr (ty := .boolean) (hts (.arrayClass .boolean) (by decide +kernel)) (fun _ => rfl)
  obtain ⟨a2, q2⟩ := yArr (ty := .long) (hts (.arrayClass .long) (by decide +kernel)) (fun _ => rfl)
  obtain ⟨a3, q3⟩ := yArrO (hts (.arrayOver (.object "MonitorYard$YardThread")) (by decide +kernel))
  obtain ⟨a4, q4⟩ := yArrO (hts (.arrayOver (.object "MonitorYard$Place")) (by decide +kernel))
  refine ⟨(fun k => (H k).choose, fun k => (H k).choose_spec.choose), fun k => if k = 0 then a0 else if k = 1 then a1 else if k = 2 then a2 else if k = 3 then a3 else a4, fun k r hr => (H k).choose_spec.choose_spec r hr, fun k r hr => ?_⟩
  match k, hr with
  | 0, hr => cases hr; exact q0
  | 1, hr => cases hr; exact q1
  | 2, hr => cases hr; exact q2
  | 3, hr => cases hr; exact q3
  | 4, hr => cases hr; exact q4
  | k + 5, hr => simp at hr
theorem ySt_of {l : Launch} {s : State} {A : Array Value} {D : va_G} {cA : Nat → ClassId} (hts : ∀ w ∈ lw_tbl, w.before A s = true) (hgv : (Jvm.Cond.and given_1 narrow_1).before A s = true) : ∃ tK : Nat, ySt (l, s.heap.size, D, cA, tK) s s.heap := by
  have hs := flat_of_before _ hgv
  obtain ⟨t, ht, hT⟩ := va_Tof (args := A) (s := s) (tm := .static "MonitorYard" "KIND_OF_ACT" "[I") (ty := .int) (N := 17) (f := fun j => .int (yst j)) (A := fun q => s.heap.size ≤ q) (by decide) (hs _ (by decide +kernel)) (va_eqt (hs (.eq (.length (.static "MonitorYard" "KIND_OF_ACT" "[I")) (.int 17)) (by decide +kernel))) (fun j hj => by
    rcases (show j = 0 ∨ j = 1 ∨ j = 2 ∨ j = 3 ∨ j = 4 ∨ j = 5 ∨ j = 6 ∨ j = 7 ∨ j = 8 ∨ j = 9 ∨ j = 10 ∨ j = 11 ∨ j = 12 ∨ j = 13 ∨ j = 14 ∨ j = 15 ∨ j = 16 by omega) with rfl | rfl | rfl | rfl | rfl | rfl | rfl | rfl | rfl | rfl | rfl | rfl | rfl | rfl | rfl | rfl | rfl
    · exact va_eqt (hs (.eq (.elem (.static "MonitorYard" "KIND_OF_ACT" "[I") (.int 0)) (.int 0)) (by decide +kernel))
    · exact va_eqt (hs (.eq (.elem (.static "MonitorYard" "KIND_OF_ACT" "[I") (.int 1)) (.int 0)) (by decide +kernel))
    · exact va_eqt (hs (.eq (.elem (.static "MonitorYard" "KIND_OF_ACT" "[I") (.int 2)) (.int 0)) (by decide +kernel))
    · exact va_eqt (hs (.eq (.elem (.static "MonitorYard" "KIND_OF_ACT" "[I") (.int 3)) (.int 0)) (by decide +kernel))
    · exact va_eqt (hs (.eq (.elem (.static "MonitorYard" "KIND_OF_ACT" "[I") (.int 4)) (.int 0)) (by decide +kernel))
    · exact va_eqt (hs (.eq (.elem (.static "MonitorYard" "KIND_OF_ACT" "[I") (.int 5)) (.int 1)) (by decide +kernel))
    · exact va_eqt (hs (.eq (.elem (.static "MonitorYard" "KIND_OF_ACT" "[I") (.int 6)) (.int 1)) (by decide +kernel))
    · exact va_eqt (hs (.eq (.elem (.static "MonitorYard" "KIND_OF_ACT" "[I") (.int 7)) (.int 1)) (by decide +kernel))
    · exact va_eqt (hs (.eq (.elem (.static "MonitorYard" "KIND_OF_ACT" "[I") (.int 8)) (.int 1)) (by decide +kernel))
    · exact va_eqt (hs (.eq (.elem (.static "MonitorYard" "KIND_OF_ACT" "[I") (.int 9)) (.int 2)) (by decide +kernel))
    · exact va_eqt (hs (.eq (.elem (.static "MonitorYard" "KIND_OF_ACT" "[I") (.int 10)) (.int 2)) (by decide +kernel))
    · exact va_eqt (hs (.eq (.elem (.static "MonitorYard" "KIND_OF_ACT" "[I") (.int 11)) (.int 3)) (by decide +kernel))
    · exact va_eqt (hs (.eq (.elem (.static "MonitorYard" "KIND_OF_ACT" "[I") (.int 12)) (.int 3)) (by decide +kernel))
    · exact va_eqt (hs (.eq (.elem (.static "MonitorYard" "KIND_OF_ACT" "[I") (.int 13)) (.int 4)) (by decide +kernel))
    · exact va_eqt (hs (.eq (.elem (.static "MonitorYard" "KIND_OF_ACT" "[I") (.int 14)) (.int 4)) (by decide +kernel))
    · exact va_eqt (hs (.eq (.elem (.static "MonitorYard" "KIND_OF_ACT" "[I") (.int 15)) (.int 5)) (by decide +kernel))
    · exact va_eqt (hs (.eq (.elem (.static "MonitorYard" "KIND_OF_ACT" "[I") (.int 16)) (.int 5)) (by decide +kernel))) (fun a ha => Nat.not_le.mpr ha)
  have hA : ∀ a : Nat, a < s.heap.size → ¬ yA (l, s.heap.size, D, cA, t) a := fun a ha => Nat.not_le.mpr ha
  exact ⟨t, vx_Zqof (hts _ (by decide +kernel)) (hts _ (by decide +kernel)) (hs _ (by decide +kernel)) hA, vx_Zqof (hts _ (by decide +kernel)) (hts _ (by decide +kernel)) (hs _ (by decide +kernel)) hA, va_Zref (hts _ (by decide +kernel)) (hts _ (by decide +kernel)) ht hA, hT⟩
