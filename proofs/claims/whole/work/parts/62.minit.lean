/-! the model's constructor -/
def wMs (ω : yW) : Nat → yW
  | 0 => ω
  | a + 1 => ysf (yadd (wMs ω a) (201 + a) (.inr (mtc a, mln a))) 200 a (some (201 + a))
theorem wMs_sh {ω : yW} {j : Nat} : ∀ a, (j ≤ 200 ∨ 201 + a ≤ j) → (wMs ω a).1 j = ω.1 j
  | 0, _ => rfl
  | a + 1, h => (yadd_sh (ω := wMs ω a) (sp := .inr (mtc a, mln a)) (by omega)).trans (wMs_sh a (by omega))
theorem wMs_cl {ω : yW} (h : yCl ω) : ∀ a, yCl (wMs ω a)
  | 0 => h
  | a + 1 => (yCl.add (kn := 201 + a) (sp := .inr (mtc a, mln a)) (wMs_cl h a)).sf (ynn yadd_at)
theorem wMs_none {ω : yW} {j : Nat} : ∀ a, (wMs ω a).1 j = none → ω.1 j = none
  | 0, h => h
  | a + 1, h => wMs_none a (yadd_none (ω := wMs ω a) (sp := .inr (mtc a, mln a)) h)
theorem wMs_o {ω : yW} {j : Nat} : ∀ a, (j < 200 ∨ 201 + a ≤ j) → (wMs ω a).2.1 j = ω.2.1 j ∧ (wMs ω a).2.2 j = ω.2.2 j
  | 0, _ => ⟨rfl, rfl⟩
  | a + 1, h => ⟨(yadd_o (ω := wMs ω a) (sp := .inr (mtc a, mln a)) (by omega)).1.trans (wMs_o a (by omega)).1, ((ysf_ho _ 200 a _ j (by omega)).2.trans (yadd_o (ω := wMs ω a) (sp := .inr (mtc a, mln a)) (by omega)).2).trans (wMs_o a (by omega)).2⟩
theorem wMs_200 {ω : yW} : ∀ a, (wMs ω a).2.1 200 = ω.2.1 200
  | 0 => rfl
  | a + 1 => (yadd_o (ω := wMs ω a) (k := 201 + a) (sp := .inr (mtc a, mln a)) (j := 200) (by omega)).1.trans (wMs_200 a)
theorem wMs_arr {ω : yW} {b : Nat} : ∀ a, b < a → (wMs ω a).1 (201 + b) = some (.inr (mtc b, mln b)) ∧ (wMs ω a).2.2 200 b = some (201 + b) ∧ (wMs ω a).2.1 (201 + b) = fun _ => 0
  | 0, h => absurd h (Nat.not_lt_zero _)
  | a + 1, h => by
    by_cases e : b = a
    · subst e
      exact ⟨yadd_at, yu_same _ _ _ _, va_up_self _ _ _⟩
    · obtain ⟨h1, h2, h3⟩ := wMs_arr (ω := ω) (b := b) a (by omega)
      refine ⟨(yadd_sh (ω := wMs ω a) (sp := .inr (mtc a, mln a)) (by omega)).trans h1, ?_, (yadd_o (ω := wMs ω a) (k := 201 + a) (sp := .inr (mtc a, mln a)) (j := 201 + b) (by omega)).1.trans h3⟩
      refine ((ysf_hj _ 200 a _ b e).2).trans ?_
      rw [(yadd_o (ω := wMs ω a) (k := 201 + a) (sp := .inr (mtc a, mln a)) (j := 200) (by omega)).2]
      exact h2
theorem wMs_mSh {ω : yW} (h : ω.1 200 = some (.inl 9)) : mSh (wMs ω 23).1 (wMs ω 23).2.2 := ⟨(wMs_sh 23 (by omega)).trans h, fun a ha => ⟨(wMs_arr 23 ha).2.1, (wMs_arr 23 ha).1⟩⟩
def mIni (M : mM) : Nat → mM
  | 0 => M
  | q + 1 => yu (yu (mIni M q) 203 q (-1)) 205 q (-1)
def wModel (ω : yW) : yW := mw (wMs ω 23).1 (wMs ω 23).2.2 (mIni (wMs ω 23).2.1 6)

set_option maxHeartbeats 4000000 in
set_option maxRecDepth 20000 in
theorem c_M_init_loop {G : yG} {ω : yW} (hk : ω.1 200 = some (.inl 9)) : ∀ (m q : Nat), m + q = 6 → yWW G m_M_init (yQf G m_M_init ω.1 (fun r ω' => r = none ∧ ω' = wModel ω) yNX) ω.1 189 [some (yr 200), some (yi (nI q))] [] (mw (wMs ω 23).1 (wMs ω 23).2.2 (mIni (wMs ω 23).2.1 q)) 23 281 := by
  have hS := wMs_mSh hk
  intro m
  induction m with
  | zero =>
    intro q hm
    refine yr_iload_n d_M_init_189 rfl ?_
    refine yr_bipush (v := 6) d_M_init_190 (by decide) ?_
    refine yr_icmp_ge (tgt := 215) d_M_init_192 (by decide) (fun c192 => ?_) (fun c192 => absurd (nI_le (a := 6) (by omega) (by omega)) c192)
    exact yr_retv d_M_init_215 rfl (by decide) (by decide) ⟨rfl, by rw [show q = 6 by omega]; rfl⟩
  | succ m ih =>
    intro q hm
    refine yr_iload_n d_M_init_189 rfl ?_
    refine yr_bipush (v := 6) d_M_init_190 (by decide) ?_
    refine yr_icmp_ge (tgt := 215) d_M_init_192 (by decide) (fun c192 => absurd c192 (nI_ge (b := 6) (by omega) (by omega))) (fun c192 => ?_)
    refine yr_aload_n d_M_init_195 rfl ?_
    refine mr_arr (a := 2) (K := 203) hS d_M_init_196 sf_M_init_196 rfl (by decide) rfl ?_
    refine yr_iload_n d_M_init_199 rfl ?_
    refine yr_iconst (v := -1) d_M_init_200 (by decide) ?_
    refine mr_st (a := 2) (K := 203) (n := 6) (j := q) hS d_M_init_201 (by decide) rfl rfl rfl (by simp only [nI0, nI1, nI2, nI3, nI4, nI6, nI_mulN, nI_add]) (by omega) ?_
    refine yr_aload_n d_M_init_202 rfl ?_
    refine mr_arr (a := 4) (K := 205) hS d_M_init_203 sf_M_init_203 rfl (by decide) rfl ?_
    refine yr_iload_n d_M_init_206 rfl ?_
    refine yr_iconst (v := -1) d_M_init_207 (by decide) ?_
    refine mr_st (a := 4) (K := 205) (n := 6) (j := q) hS d_M_init_208 (by decide) rfl rfl rfl (by simp only [nI0, nI1, nI2, nI3, nI4, nI6, nI_mulN, nI_add]) (by omega) ?_
    refine yr_iinc (v := nI (q + 1)) d_M_init_209 rfl (nI_1 (q)) (by decide) rfl ?_
    refine yr_goto (tgt := 189) d_M_init_212 (by decide) ?_
    exact ih (q + 1) (by omega)

set_option maxHeartbeats 4000000 in
set_option maxRecDepth 20000 in
theorem c_M_init {G : yG} {ω : yW} (hk : ω.1 200 = some (.inl 9)) (hfree : ∀ k, 201 ≤ k → k < 224 → ω.1 k = none) (hcl : yCl ω) : yCT G m_M_init [yr 200] ω (fun r ω' => r = none ∧ ω' = wModel ω) yNX := by
  refine yCT_of (by decide) rfl (ycat_of rfl) (Nat.le_of_ble_eq_true rfl) ?_
  refine yr_aload_n d_M_init_0 rfl ?_
  refine yr_objInit d_M_init_1 (by decide +kernel) (by decide +kernel) (List.mem_of_getElem? (i := 62) rfl) (by decide) (by decide) (ycat_of rfl) ?_
  refine yr_aload_n d_M_init_4 rfl ?_
  refine yr_bipush (v := 6) d_M_init_5 (by decide) ?_
  have f0 : (wMs ω 0).1 201 = none := (wMs_sh 0 (by omega)).trans (hfree 201 (by omega) (by omega))
  refine yr_newa (ω := wMs ω 0) (tc := 0) (kn := 201) (N := 6) d_M_init_7 rfl (by decide) (by decide +kernel) (by decide) (by decide) (by decide) (hfree 201 (by omega) (by omega)) f0 ((wMs_cl hcl 0).fr f0) (fun v hv => by simp at hv <;> first | (rcases hv with rfl | rfl | rfl <;> (intro z; simp at z <;> omega)) | (rcases hv with rfl | rfl <;> (intro z; simp at z <;> omega)) | (rw [hv]; intro z; simp at z <;> omega) | exact absurd hv id) (fun v hv => by simp at hv <;> first | (rcases hv with rfl | rfl | rfl <;> (intro z; simp at z <;> omega)) | (rcases hv with rfl | rfl <;> (intro z; simp at z <;> omega)) | (rw [hv]; intro z; simp at z <;> omega) | exact absurd hv id) (by decide) (by decide) ?_
  refine yr_putrF (f := 0) d_M_init_9 ((yadd_sh (by omega)).trans ((wMs_sh 0 (by omega)).trans hk)) sf_M_init_9 rfl rfl rfl rfl rfl (fun ad => ⟨rfl, rfl⟩) ?_
  refine (show yWW _ _ _ _ _ _ _ (wMs ω 1) _ _ from ?_)
  refine yr_aload_n d_M_init_12 rfl ?_
  refine yr_bipush (v := 6) d_M_init_13 (by decide) ?_
  have f1 : (wMs ω 1).1 202 = none := (wMs_sh 1 (by omega)).trans (hfree 202 (by omega) (by omega))
  refine yr_newa (ω := wMs ω 1) (tc := 0) (kn := 202) (N := 6) d_M_init_15 rfl (by decide) (by decide +kernel) (by decide) (by decide) (by decide) (hfree 202 (by omega) (by omega)) f1 ((wMs_cl hcl 1).fr f1) (fun v hv => by simp at hv <;> first | (rcases hv with rfl | rfl | rfl <;> (intro z; simp at z <;> omega)) | (rcases hv with rfl | rfl <;> (intro z; simp at z <;> omega)) | (rw [hv]; intro z; simp at z <;> omega) | exact absurd hv id) (fun v hv => by simp at hv <;> first | (rcases hv with rfl | rfl | rfl <;> (intro z; simp at z <;> omega)) | (rcases hv with rfl | rfl <;> (intro z; simp at z <;> omega)) | (rw [hv]; intro z; simp at z <;> omega) | exact absurd hv id) (by decide) (by decide) ?_
  refine yr_putrF (f := 1) d_M_init_17 ((yadd_sh (by omega)).trans ((wMs_sh 1 (by omega)).trans hk)) sf_M_init_17 rfl rfl rfl rfl rfl (fun ad => ⟨rfl, rfl⟩) ?_
  refine (show yWW _ _ _ _ _ _ _ (wMs ω 2) _ _ from ?_)
  refine yr_aload_n d_M_init_20 rfl ?_
  refine yr_bipush (v := 6) d_M_init_21 (by decide) ?_
  have f2 : (wMs ω 2).1 203 = none := (wMs_sh 2 (by omega)).trans (hfree 203 (by omega) (by omega))
  refine yr_newa (ω := wMs ω 2) (tc := 0) (kn := 203) (N := 6) d_M_init_23 rfl (by decide) (by decide +kernel) (by decide) (by decide) (by decide) (hfree 203 (by omega) (by omega)) f2 ((wMs_cl hcl 2).fr f2) (fun v hv => by simp at hv <;> first | (rcases hv with rfl | rfl | rfl <;> (intro z; simp at z <;> omega)) | (rcases hv with rfl | rfl <;> (intro z; simp at z <;> omega)) | (rw [hv]; intro z; simp at z <;> omega) | exact absurd hv id) (fun v hv => by simp at hv <;> first | (rcases hv with rfl | rfl | rfl <;> (intro z; simp at z <;> omega)) | (rcases hv with rfl | rfl <;> (intro z; simp at z <;> omega)) | (rw [hv]; intro z; simp at z <;> omega) | exact absurd hv id) (by decide) (by decide) ?_
  refine yr_putrF (f := 2) d_M_init_25 ((yadd_sh (by omega)).trans ((wMs_sh 2 (by omega)).trans hk)) sf_M_init_25 rfl rfl rfl rfl rfl (fun ad => ⟨rfl, rfl⟩) ?_
  refine (show yWW _ _ _ _ _ _ _ (wMs ω 3) _ _ from ?_)
  refine yr_aload_n d_M_init_28 rfl ?_
  refine yr_bipush (v := 6) d_M_init_29 (by decide) ?_
  have f3 : (wMs ω 3).1 204 = none := (wMs_sh 3 (by omega)).trans (hfree 204 (by omega) (by omega))
  refine yr_newa (ω := wMs ω 3) (tc := 0) (kn := 204) (N := 6) d_M_init_31 rfl (by decide) (by decide +kernel) (by decide) (by decide) (by decide) (hfree 204 (by omega) (by omega)) f3 ((wMs_cl hcl 3).fr f3) (fun v hv => by simp at hv <;> first | (rcases hv with rfl | rfl | rfl <;> (intro z; simp at z <;> omega)) | (rcases hv with rfl | rfl <;> (intro z; simp at z <;> omega)) | (rw [hv]; intro z; simp at z <;> omega) | exact absurd hv id) (fun v hv => by simp at hv <;> first | (rcases hv with rfl | rfl | rfl <;> (intro z; simp at z <;> omega)) | (rcases hv with rfl | rfl <;> (intro z; simp at z <;> omega)) | (rw [hv]; intro z; simp at z <;> omega) | exact absurd hv id) (by decide) (by decide) ?_
  refine yr_putrF (f := 3) d_M_init_33 ((yadd_sh (by omega)).trans ((wMs_sh 3 (by omega)).trans hk)) sf_M_init_33 rfl rfl rfl rfl rfl (fun ad => ⟨rfl, rfl⟩) ?_
  refine (show yWW _ _ _ _ _ _ _ (wMs ω 4) _ _ from ?_)
  refine yr_aload_n d_M_init_36 rfl ?_
  refine yr_bipush (v := 6) d_M_init_37 (by decide) ?_
  have f4 : (wMs ω 4).1 205 = none := (wMs_sh 4 (by omega)).trans (hfree 205 (by omega) (by omega))
  refine yr_newa (ω := wMs ω 4) (tc := 0) (kn := 205) (N := 6) d_M_init_39 rfl (by decide) (by decide +kernel) (by decide) (by decide) (by decide) (hfree 205 (by omega) (by omega)) f4 ((wMs_cl hcl 4).fr f4) (fun v hv => by simp at hv <;> first | (rcases hv with rfl | rfl | rfl <;> (intro z; simp at z <;> omega)) | (rcases hv with rfl | rfl <;> (intro z; simp at z <;> omega)) | (rw [hv]; intro z; simp at z <;> omega) | exact absurd hv id) (fun v hv => by simp at hv <;> first | (rcases hv with rfl | rfl | rfl <;> (intro z; simp at z <;> omega)) | (rcases hv with rfl | rfl <;> (intro z; simp at z <;> omega)) | (rw [hv]; intro z; simp at z <;> omega) | exact absurd hv id) (by decide) (by decide) ?_
  refine yr_putrF (f := 4) d_M_init_41 ((yadd_sh (by omega)).trans ((wMs_sh 4 (by omega)).trans hk)) sf_M_init_41 rfl rfl rfl rfl rfl (fun ad => ⟨rfl, rfl⟩) ?_
  refine (show yWW _ _ _ _ _ _ _ (wMs ω 5) _ _ from ?_)
  refine yr_aload_n d_M_init_44 rfl ?_
  refine yr_bipush (v := 6) d_M_init_45 (by decide) ?_
  have f5 : (wMs ω 5).1 206 = none := (wMs_sh 5 (by omega)).trans (hfree 206 (by omega) (by omega))
  refine yr_newa (ω := wMs ω 5) (tc := 0) (kn := 206) (N := 6) d_M_init_47 rfl (by decide) (by decide +kernel) (by decide) (by decide) (by decide) (hfree 206 (by omega) (by omega)) f5 ((wMs_cl hcl 5).fr f5) (fun v hv => by simp at hv <;> first | (rcases hv with rfl | rfl | rfl <;> (intro z; simp at z <;> omega)) | (rcases hv with rfl | rfl <;> (intro z; simp at z <;> omega)) | (rw [hv]; intro z; simp at z <;> omega) | exact absurd hv id) (fun v hv => by simp at hv <;> first | (rcases hv with rfl | rfl | rfl <;> (intro z; simp at z <;> omega)) | (rcases hv with rfl | rfl <;> (intro z; simp at z <;> omega)) | (rw [hv]; intro z; simp at z <;> omega) | exact absurd hv id) (by decide) (by decide) ?_
  refine yr_putrF (f := 5) d_M_init_49 ((yadd_sh (by omega)).trans ((wMs_sh 5 (by omega)).trans hk)) sf_M_init_49 rfl rfl rfl rfl rfl (fun ad => ⟨rfl, rfl⟩) ?_
  refine (show yWW _ _ _ _ _ _ _ (wMs ω 6) _ _ from ?_)
  refine yr_aload_n d_M_init_52 rfl ?_
  refine yr_bipush (v := 6) d_M_init_53 (by decide) ?_
  have f6 : (wMs ω 6).1 207 = none := (wMs_sh 6 (by omega)).trans (hfree 207 (by omega) (by omega))
  refine yr_newa (ω := wMs ω 6) (tc := 0) (kn := 207) (N := 6) d_M_init_55 rfl (by decide) (by decide +kernel) (by decide) (by decide) (by decide) (hfree 207 (by omega) (by omega)) f6 ((wMs_cl hcl 6).fr f6) (fun v hv => by simp at hv <;> first | (rcases hv with rfl | rfl | rfl <;> (intro z; simp at z <;> omega)) | (rcases hv with rfl | rfl <;> (intro z; simp at z <;> omega)) | (rw [hv]; intro z; simp at z <;> omega) | exact absurd hv id) (fun v hv => by simp at hv <;> first | (rcases hv with rfl | rfl | rfl <;> (intro z; simp at z <;> omega)) | (rcases hv with rfl | rfl <;> (intro z; simp at z <;> omega)) | (rw [hv]; intro z; simp at z <;> omega) | exact absurd hv id) (by decide) (by decide) ?_
  refine yr_putrF (f := 6) d_M_init_57 ((yadd_sh (by omega)).trans ((wMs_sh 6 (by omega)).trans hk)) sf_M_init_57 rfl rfl rfl rfl rfl (fun ad => ⟨rfl, rfl⟩) ?_
  refine (show yWW _ _ _ _ _ _ _ (wMs ω 7) _ _ from ?_)
  refine yr_aload_n d_M_init_60 rfl ?_
  refine yr_bipush (v := 6) d_M_init_61 (by decide) ?_
  have f7 : (wMs ω 7).1 208 = none := (wMs_sh 7 (by omega)).trans (hfree 208 (by omega) (by omega))
  refine yr_newa (ω := wMs ω 7) (tc := 0) (kn := 208) (N := 6) d_M_init_63 rfl (by decide) (by decide +kernel) (by decide) (by decide) (by decide) (hfree 208 (by omega) (by omega)) f7 ((wMs_cl hcl 7).fr f7) (fun v hv => by simp at hv <;> first | (rcases hv with rfl | rfl | rfl <;> (intro z; simp at z <;> omega)) | (rcases hv with rfl | rfl <;> (intro z; simp at z <;> omega)) | (rw [hv]; intro z; simp at z <;> omega) | exact absurd hv id) (fun v hv => by simp at hv <;> first | (rcases hv with rfl | rfl | rfl <;> (intro z; simp at z <;> omega)) | (rcases hv with rfl | rfl <;> (intro z; simp at z <;> omega)) | (rw [hv]; intro z; simp at z <;> omega) | exact absurd hv id) (by decide) (by decide) ?_
  refine yr_putrF (f := 7) d_M_init_65 ((yadd_sh (by omega)).trans ((wMs_sh 7 (by omega)).trans hk)) sf_M_init_65 rfl rfl rfl rfl rfl (fun ad => ⟨rfl, rfl⟩) ?_
  refine (show yWW _ _ _ _ _ _ _ (wMs ω 8) _ _ from ?_)
  refine yr_aload_n d_M_init_68 rfl ?_
  refine yr_bipush (v := 6) d_M_init_69 (by decide) ?_
  have f8 : (wMs ω 8).1 209 = none := (wMs_sh 8 (by omega)).trans (hfree 209 (by omega) (by omega))
  refine yr_newa (ω := wMs ω 8) (tc := 0) (kn := 209) (N := 6) d_M_init_71 rfl (by decide) (by decide +kernel) (by decide) (by decide) (by decide) (hfree 209 (by omega) (by omega)) f8 ((wMs_cl hcl 8).fr f8) (fun v hv => by simp at hv <;> first | (rcases hv with rfl | rfl | rfl <;> (intro z; simp at z <;> omega)) | (rcases hv with rfl | rfl <;> (intro z; simp at z <;> omega)) | (rw [hv]; intro z; simp at z <;> omega) | exact absurd hv id) (fun v hv => by simp at hv <;> first | (rcases hv with rfl | rfl | rfl <;> (intro z; simp at z <;> omega)) | (rcases hv with rfl | rfl <;> (intro z; simp at z <;> omega)) | (rw [hv]; intro z; simp at z <;> omega) | exact absurd hv id) (by decide) (by decide) ?_
  refine yr_putrF (f := 8) d_M_init_73 ((yadd_sh (by omega)).trans ((wMs_sh 8 (by omega)).trans hk)) sf_M_init_73 rfl rfl rfl rfl rfl (fun ad => ⟨rfl, rfl⟩) ?_
  refine (show yWW _ _ _ _ _ _ _ (wMs ω 9) _ _ from ?_)
  refine yr_aload_n d_M_init_76 rfl ?_
  refine yr_bipush (v := 6) d_M_init_77 (by decide) ?_
  have f9 : (wMs ω 9).1 210 = none := (wMs_sh 9 (by omega)).trans (hfree 210 (by omega) (by omega))
  refine yr_newa (ω := wMs ω 9) (tc := 1) (kn := 210) (N := 6) d_M_init_79 rfl (by decide) (by decide +kernel) (by decide) (by decide) (by decide) (hfree 210 (by omega) (by omega)) f9 ((wMs_cl hcl 9).fr f9) (fun v hv => by simp at hv <;> first | (rcases hv with rfl | rfl | rfl <;> (intro z; simp at z <;> omega)) | (rcases hv with rfl | rfl <;> (intro z; simp at z <;> omega)) | (rw [hv]; intro z; simp at z <;> omega) | exact absurd hv id) (fun v hv => by simp at hv <;> first | (rcases hv with rfl | rfl | rfl <;> (intro z; simp at z <;> omega)) | (rcases hv with rfl | rfl <;> (intro z; simp at z <;> omega)) | (rw [hv]; intro z; simp at z <;> omega) | exact absurd hv id) (by decide) (by decide) ?_
  refine yr_putrF (f := 9) d_M_init_81 ((yadd_sh (by omega)).trans ((wMs_sh 9 (by omega)).trans hk)) sf_M_init_81 rfl rfl rfl rfl rfl (fun ad => ⟨rfl, rfl⟩) ?_
  refine (show yWW _ _ _ _ _ _ _ (wMs ω 10) _ _ from ?_)
  refine yr_aload_n d_M_init_84 rfl ?_
  refine yr_bipush (v := 6) d_M_init_85 (by decide) ?_
  have f10 : (wMs ω 10).1 211 = none := (wMs_sh 10 (by omega)).trans (hfree 211 (by omega) (by omega))
  refine yr_newa (ω := wMs ω 10) (tc := 1) (kn := 211) (N := 6) d_M_init_87 rfl (by decide) (by decide +kernel) (by decide) (by decide) (by decide) (hfree 211 (by omega) (by omega)) f10 ((wMs_cl hcl 10).fr f10) (fun v hv => by simp at hv <;> first | (rcases hv with rfl | rfl | rfl <;> (intro z; simp at z <;> omega)) | (rcases hv with rfl | rfl <;> (intro z; simp at z <;> omega)) | (rw [hv]; intro z; simp at z <;> omega) | exact absurd hv id) (fun v hv => by simp at hv <;> first | (rcases hv with rfl | rfl | rfl <;> (intro z; simp at z <;> omega)) | (rcases hv with rfl | rfl <;> (intro z; simp at z <;> omega)) | (rw [hv]; intro z; simp at z <;> omega) | exact absurd hv id) (by decide) (by decide) ?_
  refine yr_putrF (f := 10) d_M_init_89 ((yadd_sh (by omega)).trans ((wMs_sh 10 (by omega)).trans hk)) sf_M_init_89 rfl rfl rfl rfl rfl (fun ad => ⟨rfl, rfl⟩) ?_
  refine (show yWW _ _ _ _ _ _ _ (wMs ω 11) _ _ from ?_)
  refine yr_aload_n d_M_init_92 rfl ?_
  refine yr_bipush (v := 6) d_M_init_93 (by decide) ?_
  have f11 : (wMs ω 11).1 212 = none := (wMs_sh 11 (by omega)).trans (hfree 212 (by omega) (by omega))
  refine yr_newa (ω := wMs ω 11) (tc := 0) (kn := 212) (N := 6) d_M_init_95 rfl (by decide) (by decide +kernel) (by decide) (by decide) (by decide) (hfree 212 (by omega) (by omega)) f11 ((wMs_cl hcl 11).fr f11) (fun v hv => by simp at hv <;> first | (rcases hv with rfl | rfl | rfl <;> (intro z; simp at z <;> omega)) | (rcases hv with rfl | rfl <;> (intro z; simp at z <;> omega)) | (rw [hv]; intro z; simp at z <;> omega) | exact absurd hv id) (fun v hv => by simp at hv <;> first | (rcases hv with rfl | rfl | rfl <;> (intro z; simp at z <;> omega)) | (rcases hv with rfl | rfl <;> (intro z; simp at z <;> omega)) | (rw [hv]; intro z; simp at z <;> omega) | exact absurd hv id) (by decide) (by decide) ?_
  refine yr_putrF (f := 11) d_M_init_97 ((yadd_sh (by omega)).trans ((wMs_sh 11 (by omega)).trans hk)) sf_M_init_97 rfl rfl rfl rfl rfl (fun ad => ⟨rfl, rfl⟩) ?_
  refine (show yWW _ _ _ _ _ _ _ (wMs ω 12) _ _ from ?_)
  refine yr_aload_n d_M_init_100 rfl ?_
  refine yr_bipush (v := 6) d_M_init_101 (by decide) ?_
  have f12 : (wMs ω 12).1 213 = none := (wMs_sh 12 (by omega)).trans (hfree 213 (by omega) (by omega))
  refine yr_newa (ω := wMs ω 12) (tc := 0) (kn := 213) (N := 6) d_M_init_103 rfl (by decide) (by decide +kernel) (by decide) (by decide) (by decide) (hfree 213 (by omega) (by omega)) f12 ((wMs_cl hcl 12).fr f12) (fun v hv => by simp at hv <;> first | (rcases hv with rfl | rfl | rfl <;> (intro z; simp at z <;> omega)) | (rcases hv with rfl | rfl <;> (intro z; simp at z <;> omega)) | (rw [hv]; intro z; simp at z <;> omega) | exact absurd hv id) (fun v hv => by simp at hv <;> first | (rcases hv with rfl | rfl | rfl <;> (intro z; simp at z <;> omega)) | (rcases hv with rfl | rfl <;> (intro z; simp at z <;> omega)) | (rw [hv]; intro z; simp at z <;> omega) | exact absurd hv id) (by decide) (by decide) ?_
  refine yr_putrF (f := 12) d_M_init_105 ((yadd_sh (by omega)).trans ((wMs_sh 12 (by omega)).trans hk)) sf_M_init_105 rfl rfl rfl rfl rfl (fun ad => ⟨rfl, rfl⟩) ?_
  refine (show yWW _ _ _ _ _ _ _ (wMs ω 13) _ _ from ?_)
  refine yr_aload_n d_M_init_108 rfl ?_
  refine yr_bipush (v := 6) d_M_init_109 (by decide) ?_
  have f13 : (wMs ω 13).1 214 = none := (wMs_sh 13 (by omega)).trans (hfree 214 (by omega) (by omega))
  refine yr_newa (ω := wMs ω 13) (tc := 0) (kn := 214) (N := 6) d_M_init_111 rfl (by decide) (by decide +kernel) (by decide) (by decide) (by decide) (hfree 214 (by omega) (by omega)) f13 ((wMs_cl hcl 13).fr f13) (fun v hv => by simp at hv <;> first | (rcases hv with rfl | rfl | rfl <;> (intro z; simp at z <;> omega)) | (rcases hv with rfl | rfl <;> (intro z; simp at z <;> omega)) | (rw [hv]; intro z; simp at z <;> omega) | exact absurd hv id) (fun v hv => by simp at hv <;> first | (rcases hv with rfl | rfl | rfl <;> (intro z; simp at z <;> omega)) | (rcases hv with rfl | rfl <;> (intro z; simp at z <;> omega)) | (rw [hv]; intro z; simp at z <;> omega) | exact absurd hv id) (by decide) (by decide) ?_
  refine yr_putrF (f := 13) d_M_init_113 ((yadd_sh (by omega)).trans ((wMs_sh 13 (by omega)).trans hk)) sf_M_init_113 rfl rfl rfl rfl rfl (fun ad => ⟨rfl, rfl⟩) ?_
  refine (show yWW _ _ _ _ _ _ _ (wMs ω 14) _ _ from ?_)
  refine yr_aload_n d_M_init_116 rfl ?_
  refine yr_bipush (v := 6) d_M_init_117 (by decide) ?_
  have f14 : (wMs ω 14).1 215 = none := (wMs_sh 14 (by omega)).trans (hfree 215 (by omega) (by omega))
  refine yr_newa (ω := wMs ω 14) (tc := 0) (kn := 215) (N := 6) d_M_init_119 rfl (by decide) (by decide +kernel) (by decide) (by decide) (by decide) (hfree 215 (by omega) (by omega)) f14 ((wMs_cl hcl 14).fr f14) (fun v hv => by simp at hv <;> first | (rcases hv with rfl | rfl | rfl <;> (intro z; simp at z <;> omega)) | (rcases hv with rfl | rfl <;> (intro z; simp at z <;> omega)) | (rw [hv]; intro z; simp at z <;> omega) | exact absurd hv id) (fun v hv => by simp at hv <;> first | (rcases hv with rfl | rfl | rfl <;> (intro z; simp at z <;> omega)) | (rcases hv with rfl | rfl <;> (intro z; simp at z <;> omega)) | (rw [hv]; intro z; simp at z <;> omega) | exact absurd hv id) (by decide) (by decide) ?_
  refine yr_putrF (f := 14) d_M_init_121 ((yadd_sh (by omega)).trans ((wMs_sh 14 (by omega)).trans hk)) sf_M_init_121 rfl rfl rfl rfl rfl (fun ad => ⟨rfl, rfl⟩) ?_
  refine (show yWW _ _ _ _ _ _ _ (wMs ω 15) _ _ from ?_)
  refine yr_aload_n d_M_init_124 rfl ?_
  refine yr_bipush (v := 6) d_M_init_125 (by decide) ?_
  have f15 : (wMs ω 15).1 216 = none := (wMs_sh 15 (by omega)).trans (hfree 216 (by omega) (by omega))
  refine yr_newa (ω := wMs ω 15) (tc := 0) (kn := 216) (N := 6) d_M_init_127 rfl (by decide) (by decide +kernel) (by decide) (by decide) (by decide) (hfree 216 (by omega) (by omega)) f15 ((wMs_cl hcl 15).fr f15) (fun v hv => by simp at hv <;> first | (rcases hv with rfl | rfl | rfl <;> (intro z; simp at z <;> omega)) | (rcases hv with rfl | rfl <;> (intro z; simp at z <;> omega)) | (rw [hv]; intro z; simp at z <;> omega) | exact absurd hv id) (fun v hv => by simp at hv <;> first | (rcases hv with rfl | rfl | rfl <;> (intro z; simp at z <;> omega)) | (rcases hv with rfl | rfl <;> (intro z; simp at z <;> omega)) | (rw [hv]; intro z; simp at z <;> omega) | exact absurd hv id) (by decide) (by decide) ?_
  refine yr_putrF (f := 15) d_M_init_129 ((yadd_sh (by omega)).trans ((wMs_sh 15 (by omega)).trans hk)) sf_M_init_129 rfl rfl rfl rfl rfl (fun ad => ⟨rfl, rfl⟩) ?_
  refine (show yWW _ _ _ _ _ _ _ (wMs ω 16) _ _ from ?_)
  refine yr_aload_n d_M_init_132 rfl ?_
  refine yr_bipush (v := 36) d_M_init_133 (by decide) ?_
  have f16 : (wMs ω 16).1 217 = none := (wMs_sh 16 (by omega)).trans (hfree 217 (by omega) (by omega))
  refine yr_newa (ω := wMs ω 16) (tc := 0) (kn := 217) (N := 36) d_M_init_135 rfl (by decide) (by decide +kernel) (by decide) (by decide) (by decide) (hfree 217 (by omega) (by omega)) f16 ((wMs_cl hcl 16).fr f16) (fun v hv => by simp at hv <;> first | (rcases hv with rfl | rfl | rfl <;> (intro z; simp at z <;> omega)) | (rcases hv with rfl | rfl <;> (intro z; simp at z <;> omega)) | (rw [hv]; intro z; simp at z <;> omega) | exact absurd hv id) (fun v hv => by simp at hv <;> first | (rcases hv with rfl | rfl | rfl <;> (intro z; simp at z <;> omega)) | (rcases hv with rfl | rfl <;> (intro z; simp at z <;> omega)) | (rw [hv]; intro z; simp at z <;> omega) | exact absurd hv id) (by decide) (by decide) ?_
  refine yr_putrF (f := 16) d_M_init_137 ((yadd_sh (by omega)).trans ((wMs_sh 16 (by omega)).trans hk)) sf_M_init_137 rfl rfl rfl rfl rfl (fun ad => ⟨rfl, rfl⟩) ?_
  refine (show yWW _ _ _ _ _ _ _ (wMs ω 17) _ _ from ?_)
  refine yr_aload_n d_M_init_140 rfl ?_
  refine yr_bipush (v := 12) d_M_init_141 (by decide) ?_
  have f17 : (wMs ω 17).1 218 = none := (wMs_sh 17 (by omega)).trans (hfree 218 (by omega) (by omega))
  refine yr_newa (ω := wMs ω 17) (tc := 0) (kn := 218) (N := 12) d_M_init_143 rfl (by decide) (by decide +kernel) (by decide) (by decide) (by decide) (hfree 218 (by omega) (by omega)) f17 ((wMs_cl hcl 17).fr f17) (fun v hv => by simp at hv <;> first | (rcases hv with rfl | rfl | rfl <;> (intro z; simp at z <;> omega)) | (rcases hv with rfl | rfl <;> (intro z; simp at z <;> omega)) | (rw [hv]; intro z; simp at z <;> omega) | exact absurd hv id) (fun v hv => by simp at hv <;> first | (rcases hv with rfl | rfl | rfl <;> (intro z; simp at z <;> omega)) | (rcases hv with rfl | rfl <;> (intro z; simp at z <;> omega)) | (rw [hv]; intro z; simp at z <;> omega) | exact absurd hv id) (by decide) (by decide) ?_
  refine yr_putrF (f := 17) d_M_init_145 ((yadd_sh (by omega)).trans ((wMs_sh 17 (by omega)).trans hk)) sf_M_init_145 rfl rfl rfl rfl rfl (fun ad => ⟨rfl, rfl⟩) ?_
  refine (show yWW _ _ _ _ _ _ _ (wMs ω 18) _ _ from ?_)
  refine yr_aload_n d_M_init_148 rfl ?_
  refine yr_bipush (v := 72) d_M_init_149 (by decide) ?_
  have f18 : (wMs ω 18).1 219 = none := (wMs_sh 18 (by omega)).trans (hfree 219 (by omega) (by omega))
  refine yr_newa (ω := wMs ω 18) (tc := 0) (kn := 219) (N := 72) d_M_init_151 rfl (by decide) (by decide +kernel) (by decide) (by decide) (by decide) (hfree 219 (by omega) (by omega)) f18 ((wMs_cl hcl 18).fr f18) (fun v hv => by simp at hv <;> first | (rcases hv with rfl | rfl | rfl <;> (intro z; simp at z <;> omega)) | (rcases hv with rfl | rfl <;> (intro z; simp at z <;> omega)) | (rw [hv]; intro z; simp at z <;> omega) | exact absurd hv id) (fun v hv => by simp at hv <;> first | (rcases hv with rfl | rfl | rfl <;> (intro z; simp at z <;> omega)) | (rcases hv with rfl | rfl <;> (intro z; simp at z <;> omega)) | (rw [hv]; intro z; simp at z <;> omega) | exact absurd hv id) (by decide) (by decide) ?_
  refine yr_putrF (f := 18) d_M_init_153 ((yadd_sh (by omega)).trans ((wMs_sh 18 (by omega)).trans hk)) sf_M_init_153 rfl rfl rfl rfl rfl (fun ad => ⟨rfl, rfl⟩) ?_
  refine (show yWW _ _ _ _ _ _ _ (wMs ω 19) _ _ from ?_)
  refine yr_aload_n d_M_init_156 rfl ?_
  refine yr_bipush (v := 36) d_M_init_157 (by decide) ?_
  have f19 : (wMs ω 19).1 220 = none := (wMs_sh 19 (by omega)).trans (hfree 220 (by omega) (by omega))
  refine yr_newa (ω := wMs ω 19) (tc := 0) (kn := 220) (N := 36) d_M_init_159 rfl (by decide) (by decide +kernel) (by decide) (by decide) (by decide) (hfree 220 (by omega) (by omega)) f19 ((wMs_cl hcl 19).fr f19) (fun v hv => by simp at hv <;> first | (rcases hv with rfl | rfl | rfl <;> (intro z; simp at z <;> omega)) | (rcases hv with rfl | rfl <;> (intro z; simp at z <;> omega)) | (rw [hv]; intro z; simp at z <;> omega) | exact absurd hv id) (fun v hv => by simp at hv <;> first | (rcases hv with rfl | rfl | rfl <;> (intro z; simp at z <;> omega)) | (rcases hv with rfl | rfl <;> (intro z; simp at z <;> omega)) | (rw [hv]; intro z; simp at z <;> omega) | exact absurd hv id) (by decide) (by decide) ?_
  refine yr_putrF (f := 19) d_M_init_161 ((yadd_sh (by omega)).trans ((wMs_sh 19 (by omega)).trans hk)) sf_M_init_161 rfl rfl rfl rfl rfl (fun ad => ⟨rfl, rfl⟩) ?_
  refine (show yWW _ _ _ _ _ _ _ (wMs ω 20) _ _ from ?_)
  refine yr_aload_n d_M_init_164 rfl ?_
  refine yr_bipush (v := 18) d_M_init_165 (by decide) ?_
  have f20 : (wMs ω 20).1 221 = none := (wMs_sh 20 (by omega)).trans (hfree 221 (by omega) (by omega))
  refine yr_newa (ω := wMs ω 20) (tc := 0) (kn := 221) (N := 18) d_M_init_167 rfl (by decide) (by decide +kernel) (by decide) (by decide) (by decide) (hfree 221 (by omega) (by omega)) f20 ((wMs_cl hcl 20).fr f20) (fun v hv => by simp at hv <;> first | (rcases hv with rfl | rfl | rfl <;> (intro z; simp at z <;> omega)) | (rcases hv with rfl | rfl <;> (intro z; simp at z <;> omega)) | (rw [hv]; intro z; simp at z <;> omega) | exact absurd hv id) (fun v hv => by simp at hv <;> first | (rcases hv with rfl | rfl | rfl <;> (intro z; simp at z <;> omega)) | (rcases hv with rfl | rfl <;> (intro z; simp at z <;> omega)) | (rw [hv]; intro z; simp at z <;> omega) | exact absurd hv id) (by decide) (by decide) ?_
  refine yr_putrF (f := 20) d_M_init_169 ((yadd_sh (by omega)).trans ((wMs_sh 20 (by omega)).trans hk)) sf_M_init_169 rfl rfl rfl rfl rfl (fun ad => ⟨rfl, rfl⟩) ?_
  refine (show yWW _ _ _ _ _ _ _ (wMs ω 21) _ _ from ?_)
  refine yr_aload_n d_M_init_172 rfl ?_
  refine yr_iconst (v := 5) d_M_init_173 (by decide) ?_
  have f21 : (wMs ω 21).1 222 = none := (wMs_sh 21 (by omega)).trans (hfree 222 (by omega) (by omega))
  refine yr_newa (ω := wMs ω 21) (tc := 0) (kn := 222) (N := 5) d_M_init_174 rfl (by decide) (by decide +kernel) (by decide) (by decide) (by decide) (hfree 222 (by omega) (by omega)) f21 ((wMs_cl hcl 21).fr f21) (fun v hv => by simp at hv <;> first | (rcases hv with rfl | rfl | rfl <;> (intro z; simp at z <;> omega)) | (rcases hv with rfl | rfl <;> (intro z; simp at z <;> omega)) | (rw [hv]; intro z; simp at z <;> omega) | exact absurd hv id) (fun v hv => by simp at hv <;> first | (rcases hv with rfl | rfl | rfl <;> (intro z; simp at z <;> omega)) | (rcases hv with rfl | rfl <;> (intro z; simp at z <;> omega)) | (rw [hv]; intro z; simp at z <;> omega) | exact absurd hv id) (by decide) (by decide) ?_
  refine yr_putrF (f := 21) d_M_init_176 ((yadd_sh (by omega)).trans ((wMs_sh 21 (by omega)).trans hk)) sf_M_init_176 rfl rfl rfl rfl rfl (fun ad => ⟨rfl, rfl⟩) ?_
  refine (show yWW _ _ _ _ _ _ _ (wMs ω 22) _ _ from ?_)
  refine yr_aload_n d_M_init_179 rfl ?_
  refine yr_bipush (v := 6) d_M_init_180 (by decide) ?_
  have f22 : (wMs ω 22).1 223 = none := (wMs_sh 22 (by omega)).trans (hfree 223 (by omega) (by omega))
  refine yr_newa (ω := wMs ω 22) (tc := 1) (kn := 223) (N := 6) d_M_init_182 rfl (by decide) (by decide +kernel) (by decide) (by decide) (by decide) (hfree 223 (by omega) (by omega)) f22 ((wMs_cl hcl 22).fr f22) (fun v hv => by simp at hv <;> first | (rcases hv with rfl | rfl | rfl <;> (intro z; simp at z <;> omega)) | (rcases hv with rfl | rfl <;> (intro z; simp at z <;> omega)) | (rw [hv]; intro z; simp at z <;> omega) | exact absurd hv id) (fun v hv => by simp at hv <;> first | (rcases hv with rfl | rfl | rfl <;> (intro z; simp at z <;> omega)) | (rcases hv with rfl | rfl <;> (intro z; simp at z <;> omega)) | (rw [hv]; intro z; simp at z <;> omega) | exact absurd hv id) (by decide) (by decide) ?_
  refine yr_putrF (f := 22) d_M_init_184 ((yadd_sh (by omega)).trans ((wMs_sh 22 (by omega)).trans hk)) sf_M_init_184 rfl rfl rfl rfl rfl (fun ad => ⟨rfl, rfl⟩) ?_
  refine (show yWW _ _ _ _ _ _ _ (wMs ω 23) _ _ from ?_)
  refine yr_iconst (v := 0) d_M_init_187 (by decide) ?_
  refine yr_istore_n d_M_init_188 (by decide) rfl ?_
  exact c_M_init_loop hk 6 0 rfl
