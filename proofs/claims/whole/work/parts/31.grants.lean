/-! places: calls at a condition, grants, giving up -/
theorem zflt {t : Nat} {b : List Nat} : ((t :: b).filter (fun u => u ≠ t)).length ≤ b.length := by
  rw [List.filter_cons]
  simp
  exact List.length_filter_le _ _
theorem zrw_ne {σ : zS} {j o k : Nat} {l : List Nat} (h : k ≠ j) : zrw (zsrw σ j o l) k o = zrw σ k o := yu_ne _ _ (Or.inl h)
theorem zcall1_len {o j : Nat} {σ : zS} (hj : j ≠ 0) (h : (zrw σ 0 o).length + (zrw σ j o).length ≤ 6) : (zrw (zcall1 o j σ) 0 o).length + (zrw (zcall1 o j σ) j o).length ≤ 6 := by
  unfold zcall1
  cases hl : zrw σ j o with
  | nil => simp only; rw [hl] at h ⊢; exact h
  | cons t b =>
    simp only
    have e1 : zrw (ztake (zsrw σ j o ((t :: b).filter (fun u => u ≠ t))) o t 0) 0 o = zrw σ 0 o ++ [t] := by
      show yu _ _ _ _ _ _ = _
      rw [yu_same, zrw_ne (Ne.symm hj)]
    have e2 : zrw (ztake (zsrw σ j o ((t :: b).filter (fun u => u ≠ t))) o t 0) j o = (t :: b).filter (fun u => u ≠ t) := by
      show yu _ _ _ _ _ _ = _
      rw [yu_ne _ _ (Or.inl hj)]
      exact zrw_same
    rw [e1, e2, List.length_append]
    have := zflt (t := t) (b := b)
    rw [hl] at h
    simp only [List.length_cons, List.length_nil] at h ⊢
    omega

set_option maxHeartbeats 4000000 in
set_option maxRecDepth 20000 in
theorem c_K_call_loop {G : yG} {μ : yW} {o n : Nat} {x : Int32} (hn6 : n ≤ 6) : ∀ (m q : Nat) (σ : zS) (x4 : Option yV), m + q = n → o < zn σ → zkd σ o = 0 → (zrw σ 0 o).length + (zrw σ (zcj x) o).length ≤ 6 → yWP G m_K_call (zQ G m_K_call μ (fun r σ' => r = none ∧ σ' = zcall o (zcj x) m σ)) μ.1 2 [some (yr (kP o)), some (yi x), some (yi (nI n)), some (yi (nI q)), x4] [] (zC σ μ) 0 0 := by
  intro m
  induction m with
  | zero =>
    intro q σ x4 hm ho hk h6
    have hq : q = n := by omega
    refine zr_iload_n d_K_call_2 rfl ?_
    refine zr_iload_n d_K_call_3 rfl ?_
    refine zr_icmp_ge (tgt := 35) d_K_call_4 (by decide) (fun c4 => ?_) (fun c4 => absurd (nI_le (by omega) (by omega)) c4)
    exact zr_retv d_K_call_35 rfl (by decide) (by decide) ⟨rfl, rfl⟩
  | succ m ih =>
    intro q σ x4 hm ho hk h6
    have hk3 : 3 + zkd σ o = 3 := by rw [hk]
    have hv : zrv σ (zcj x) o := zcj_v ho hk
    have hcj : zcj x ≠ 0 := by unfold zcj; split <;> omega
    refine yWP_use (fun ω h => (zlist h hv).2) (fun hall => ?_)
    refine zr_iload_n d_K_call_2 rfl ?_
    refine zr_iload_n d_K_call_3 rfl ?_
    refine zr_icmp_ge (tgt := 35) d_K_call_4 (by decide) (fun c4 => absurd c4 (nI_ge (by omega) (by omega))) (fun c4 => ?_)
    refine zr_aload_n d_K_call_7 rfl ?_
    refine zr_iload_n d_K_call_8 rfl ?_
    refine zr_call (zrunV (As := [yi x]) (rest := []) d_K_call_9 (fun ω h => h.sP' ho hk3) rfl (c_K_condition ho hk) 1 rfl (by decide +kernel) cw_K_condition (Nat.le_of_ble_eq_true rfl) (ycat_of rfl) (by decide) (by decide)) (fun r σ9 hp => ?_)
    obtain ⟨rfl, rfl⟩ := hp
    change yWP _ _ _ _ _ _ [yr (kR (zcj x) o)] _ _ _
    refine zr_call (zrunV (As := []) (rest := []) d_K_call_12 (fun ω h => (h.row hv).2.1) rfl (c_R_removeFirst' hv) 0 rfl (by decide +kernel) cw_R_removeFirst (Nat.le_of_ble_eq_true rfl) (ycat_of rfl) (by decide) (by decide)) (fun r σ8 hp => ?_)
    obtain ⟨rfl, hσ⟩ := hp
    cases hl : zrw σ9 (zcj x) o with
    | nil =>
      rw [hl] at hσ
      have hσ2 : σ8 = zcall1 o (zcj x) σ9 := by rw [hσ]; unfold zcall1; rw [hl]
      subst hσ2
      refine zr_astore d_K_call_15 (by decide) rfl ?_
      refine zr_aload d_K_call_17 rfl ?_
      refine zr_ifnull (tgt := 29) d_K_call_19 (by decide) (fun c19 => ?_) (fun a c19 => nomatch c19)
      refine zr_iinc (v := nI (q + 1)) d_K_call_29 rfl (nI_1 q) (by decide) rfl ?_
      refine zr_goto (tgt := 2) d_K_call_32 (by decide) ?_
      exact ih _ _ _ (by omega) (by rw [zcall1_n.1]; exact ho) (by rw [zcall1_n.2]; exact hk) (zcall1_len hcj h6)
    | cons t b =>
      rw [hl] at hσ
      have ht : t < 6 := hall t (by rw [hl]; exact List.mem_cons_self)
      have ho8 : o < zn σ8 := by rw [hσ]; exact ho
      have hk8 : zkd σ8 o = 0 := by rw [hσ]; exact hk
      have hk38 : 3 + zkd σ8 o = 3 := by rw [hk8]
      have h58 : (zrw σ8 0 o).length < 6 := by
        rw [hσ, zrw_ne (Ne.symm hcj)]
        rw [hl] at h6
        simp only [List.length_cons] at h6
        omega
      refine zr_astore d_K_call_15 (by decide) rfl ?_
      refine zr_aload d_K_call_17 rfl ?_
      refine zr_ifnull (tgt := 29) d_K_call_19 (by decide) (fun c19 => nomatch c19) (fun a c19 => ?_)
      refine zr_aload_n d_K_call_22 rfl ?_
      refine zr_aload d_K_call_23 rfl ?_
      refine zr_iconst (v := 0) d_K_call_25 (by decide) ?_
      refine zr_call (zrunV (As := [yr (10 + t), yi 0]) (rest := []) d_K_call_26 (fun ω h => h.sP' ho8 hk38) rfl (c_K_takeAgain ho8 hk8 ht h58) 2 rfl (by decide +kernel) cw_K_takeAgain (Nat.le_of_ble_eq_true rfl) (ycat_of rfl) (by decide) (by decide)) (fun r σ7 hp => ?_)
      obtain ⟨rfl, rfl⟩ := hp
      refine zr_iinc (v := nI (q + 1)) d_K_call_29 rfl (nI_1 q) (by decide) rfl ?_
      refine zr_goto (tgt := 2) d_K_call_32 (by decide) ?_
      have hσ2 : ztake σ8 o t 0 = zcall1 o (zcj x) σ9 := by
        unfold zcall1
        rw [hl, hσ]
      rw [hσ2]
      exact ih _ _ _ (by omega) (by rw [zcall1_n.1]; exact ho) (by rw [zcall1_n.2]; exact hk) (zcall1_len hcj h6)

set_option maxHeartbeats 4000000 in
set_option maxRecDepth 20000 in
theorem c_K_call {G : yG} {μ : yW} {σ : zS} {o : Nat} {n : Nat} {x : Int32} (ho : o < zn σ) (hk : zkd σ o = 0) (hn6 : n ≤ 6) (h6 : (zrw σ 0 o).length + (zrw σ (zcj x) o).length ≤ 6)  : zCT G m_K_call [yr (kP o), yi x, yi (nI n)] σ μ (fun r σ' => r = none ∧ σ' = zcall o (zcj x) n σ) := by
  refine zCT_of (by decide) rfl (ycat_of rfl) (Nat.le_of_ble_eq_true rfl) ?_
  refine zr_iconst (v := 0) d_K_call_0 (by decide) ?_
  refine zr_istore_n d_K_call_1 (by decide) rfl ?_
  exact c_K_call_loop hn6 n 0 σ _ rfl ho hk h6

def zgrantK (σ : zS) (o t : Nat) : zS := if zth σ 8 t = 0 then zspl (zsho σ o (some t)) 6 o (zpl σ 6 o + 1) else if zth σ 8 t = 1 then zleave σ o else if zth σ 8 t = 2 then zspl (zsho σ o (some t)) 6 o (zth σ 10 t) else if zth σ 8 t = 3 then zcall o (zcj (zth σ 9 t)) 1 σ else zcall o (zcj (zth σ 9 t)) (zrw σ (zcj (zth σ 9 t)) o).length σ
def zgrantA (σ : zS) (o t : Nat) : zS := if zth σ 8 t = 14 then zendAll o 3 (zrw σ 0 o).length (zspl σ 4 o 0) else zendAll o 0 (zrw σ 0 o).length σ
/-- one gave up: a barrier breaks -/
def zgave (σ : zS) (o : Nat) : zS := if zkd σ o = 4 then zendAll o 3 (zrw σ 0 o).length (zspl σ 4 o 1) else σ
def zleaveRow (σ : zS) (o t h : Nat) : zS := zgave (zend (zsrw σ 0 o ((zrw σ 0 o).filter (fun u => u ≠ t))) t h) o
def zgiveUp (σ : zS) (o t h : Nat) : zS := if zkd σ o = 0 ∧ zth σ 2 t = 2 then ztake (zsrw σ (zcj (zth σ 9 t)) o ((zrw σ (zcj (zth σ 9 t)) o).filter (fun u => u ≠ t))) o t (nI h) else zleaveRow σ o t h

set_option maxHeartbeats 4000000 in
set_option maxRecDepth 20000 in
theorem c_K_grant {G : yG} {μ : yW} {σ : zS} {o : Nat} (ho : o < zn σ) (hk : zkd σ o = 0) {t : Nat} (ht : t < 6) (h6 : (zrw σ 0 o).length + (zrw σ (zcj (zth σ 9 t)) o).length ≤ 6)  : zCT G m_K_grant [yr (kP o), yr (10 + t)] σ μ (fun r σ' => r = none ∧ σ' = zgrantK σ o t) := by
  have hk3 : 3 + zkd σ o = 3 := by rw [hk]
  refine zCT_of (by decide) rfl (ycat_of rfl) (Nat.le_of_ble_eq_true rfl) ?_
  refine zr_aload_n d_K_grant_0 rfl ?_
  refine zr_tgeti d_K_grant_1 (by first | assumption | omega) sf_K_grant_1 rfl rfl ?_
  by_cases s0 : zth σ 8 t = 0
  · refine zr_tcase d_K_grant_4 0 s0 (by decide) (by decide) rfl (tgt := 36) (by decide) ?_
    refine zr_aload_n d_K_grant_36 rfl ?_
    refine zr_aload_n d_K_grant_37 rfl ?_
    refine zr_pputho (c := 0) (x := some t) d_K_grant_38 (by assumption) hk (by decide) sf_K_grant_38 (fun _ h => by cases h; exact ht) ?_
    refine zr_aload_n d_K_grant_41 rfl ?_
    refine zr_dup d_K_grant_42 (fun _ => rfl) ?_
    refine zr_pgeti (c := 0) (f := 6) d_K_grant_43 (by first | assumption | omega) hk sf_K_grant_43 rfl rfl ?_
    refine zr_iconst (v := 1) d_K_grant_46 (by decide) ?_
    refine zr_iadd d_K_grant_47 ?_
    refine zr_pputi (c := 0) (f := 6) d_K_grant_48 (by first | assumption | omega) hk sf_K_grant_48 rfl rfl (by decide) rfl ⟨rfl, rfl⟩ ?_
    refine zr_goto (tgt := 105) d_K_grant_51 (by decide) ?_
    refine zr_retv d_K_grant_105 rfl (by decide) (by decide) ?_
    refine ⟨rfl, ?_⟩
    unfold zgrantK
    first | rw [if_pos s0] | rw [if_neg s0]
    try (first | rw [if_pos s1] | rw [if_neg s1])
    try (first | rw [if_pos s2] | rw [if_neg s2])
    try (first | rw [if_pos s3] | rw [if_neg s3])
    try rfl
  · skip
    by_cases s1 : zth σ 8 t = 1
    · refine zr_tcase d_K_grant_4 1 s1 (by decide) (by decide) rfl (tgt := 70) (by decide) ?_
      refine zr_aload_n d_K_grant_70 rfl ?_
      refine zr_call (zrunV (As := []) (rest := []) d_K_grant_71 (fun ω h => h.sP' ho hk3) rfl (c_K_leaveOnce ho hk) 0 rfl (by decide +kernel) cw_K_leaveOnce (Nat.le_of_ble_eq_true rfl) (ycat_of rfl) (by decide) (by decide)) (fun r σ9 hp => ?_)
      obtain ⟨rfl, rfl⟩ := hp
      refine zr_goto (tgt := 105) d_K_grant_74 (by decide) ?_
      refine zr_retv d_K_grant_105 rfl (by decide) (by decide) ?_
      refine ⟨rfl, ?_⟩
      unfold zgrantK
      first | rw [if_pos s0] | rw [if_neg s0]
      try (first | rw [if_pos s1] | rw [if_neg s1])
      try (first | rw [if_pos s2] | rw [if_neg s2])
      try (first | rw [if_pos s3] | rw [if_neg s3])
      try rfl
    · skip
      by_cases s2 : zth σ 8 t = 2
      · refine zr_tcase d_K_grant_4 2 s2 (by decide) (by decide) rfl (tgt := 54) (by decide) ?_
        refine zr_aload_n d_K_grant_54 rfl ?_
        refine zr_aload_n d_K_grant_55 rfl ?_
        refine zr_pputho (c := 0) (x := some t) d_K_grant_56 (by assumption) hk (by decide) sf_K_grant_56 (fun _ h => by cases h; exact ht) ?_
        refine zr_aload_n d_K_grant_59 rfl ?_
        refine zr_aload_n d_K_grant_60 rfl ?_
        refine zr_tgeti d_K_grant_61 (by first | assumption | omega) sf_K_grant_61 rfl rfl ?_
        refine zr_pputi (c := 0) (f := 6) d_K_grant_64 (by first | assumption | omega) hk sf_K_grant_64 rfl rfl (by decide) rfl ⟨rfl, rfl⟩ ?_
        refine zr_goto (tgt := 105) d_K_grant_67 (by decide) ?_
        refine zr_retv d_K_grant_105 rfl (by decide) (by decide) ?_
        refine ⟨rfl, ?_⟩
        unfold zgrantK
        first | rw [if_pos s0] | rw [if_neg s0]
        try (first | rw [if_pos s1] | rw [if_neg s1])
        try (first | rw [if_pos s2] | rw [if_neg s2])
        try (first | rw [if_pos s3] | rw [if_neg s3])
        try rfl
      · skip
        by_cases s3 : zth σ 8 t = 3
        · refine zr_tcase d_K_grant_4 3 s3 (by decide) (by decide) rfl (tgt := 77) (by decide) ?_
          refine zr_aload_n d_K_grant_77 rfl ?_
          refine zr_aload_n d_K_grant_78 rfl ?_
          refine zr_tgeti d_K_grant_79 (by first | assumption | omega) sf_K_grant_79 rfl rfl ?_
          refine zr_iconst (v := 1) d_K_grant_82 (by decide) ?_
          refine zr_call (zrunV (As := [yi (zth σ 9 t), yi 1]) (rest := []) d_K_grant_83 (fun ω h => h.sP' ho hk3) rfl (c_K_call (n := 1) (x := zth σ 9 t) ho hk (by omega) h6) 2 rfl (by decide +kernel) cw_K_call (Nat.le_of_ble_eq_true rfl) (ycat_of rfl) (by decide) (by decide)) (fun r σ9 hp => ?_)
          obtain ⟨rfl, rfl⟩ := hp
          refine zr_goto (tgt := 105) d_K_grant_86 (by decide) ?_
          refine zr_retv d_K_grant_105 rfl (by decide) (by decide) ?_
          refine ⟨rfl, ?_⟩
          unfold zgrantK
          first | rw [if_pos s0] | rw [if_neg s0]
          try (first | rw [if_pos s1] | rw [if_neg s1])
          try (first | rw [if_pos s2] | rw [if_neg s2])
          try (first | rw [if_pos s3] | rw [if_neg s3])
          try rfl
        · skip
          refine zr_tdef d_K_grant_4 (by have q0 := lv_neT s0 (a := 0) (by decide); have q1 := lv_neT s1 (a := 1) (by decide); have q2 := lv_neT s2 (a := 2) (by decide); have q3 := lv_neT s3 (a := 3) (by decide); omega) (tgt := 89) (by decide) ?_
          refine zr_aload_n d_K_grant_89 rfl ?_
          refine zr_aload_n d_K_grant_90 rfl ?_
          refine zr_tgeti d_K_grant_91 (by first | assumption | omega) sf_K_grant_91 rfl rfl ?_
          refine zr_aload_n d_K_grant_94 rfl ?_
          refine zr_aload_n d_K_grant_95 rfl ?_
          refine zr_tgeti d_K_grant_96 (by first | assumption | omega) sf_K_grant_96 rfl rfl ?_
          refine zr_call (zrunV (As := [yi (zth σ 9 t)]) (rest := [yi (zth σ 9 t), yr (kP o)]) d_K_grant_99 (fun ω h => h.sP' ho hk3) rfl (c_K_waitersAt ho hk) 1 rfl (by decide +kernel) cw_K_waitersAt (Nat.le_of_ble_eq_true rfl) (ycat_of rfl) (by decide) (by decide)) (fun r σ9 hp => ?_)
          obtain ⟨rfl, rfl⟩ := hp
          refine zr_call (zrunV (As := [yi (zth σ9 9 t), yi (nI (zrw σ9 (zcj (zth σ9 9 t)) o).length)]) (rest := []) d_K_grant_102 (fun ω h => h.sP' ho hk3) rfl (c_K_call (x := zth σ9 9 t) ho hk (by omega) h6) 2 rfl (by decide +kernel) cw_K_call (Nat.le_of_ble_eq_true rfl) (ycat_of rfl) (by decide) (by decide)) (fun r σ8 hp => ?_)
          obtain ⟨rfl, rfl⟩ := hp
          refine zr_retv d_K_grant_105 rfl (by decide) (by decide) ?_
          refine ⟨rfl, ?_⟩
          unfold zgrantK
          first | rw [if_pos s0] | rw [if_neg s0]
          try (first | rw [if_pos s1] | rw [if_neg s1])
          try (first | rw [if_pos s2] | rw [if_neg s2])
          try (first | rw [if_pos s3] | rw [if_neg s3])
          try rfl

set_option maxHeartbeats 4000000 in
set_option maxRecDepth 20000 in
theorem c_A_grant {G : yG} {μ : yW} {σ : zS} {o : Nat} (ho : o < zn σ) (hk : zkd σ o = 4) {t : Nat} (ht : t < 6)  : zCT G m_A_grant [yr (kP o), yr (10 + t)] σ μ (fun r σ' => r = none ∧ σ' = zgrantA σ o t) := by
  refine zCT_of (by decide) rfl (ycat_of rfl) (Nat.le_of_ble_eq_true rfl) ?_
  refine zr_aload_n d_A_grant_0 rfl ?_
  refine zr_tgeti d_A_grant_1 (by first | assumption | omega) sf_A_grant_1 rfl rfl ?_
  refine zr_bipush (v := 14) d_A_grant_4 (by decide) ?_
  refine zr_icmp_ne (tgt := 22) d_A_grant_6 (by decide) (fun c6 => ?_) (fun c6 => ?_)
  · skip
    refine zr_aload_n d_A_grant_22 rfl ?_
    refine zr_iconst (v := 0) d_A_grant_23 (by decide) ?_
    refine zr_call (zrunC (c := 4) (As := [yi 0]) (rest := []) (x := ⟨"MonitorYard$Barrier", "endAllInRow", "(I)V"⟩) (owner := "MonitorYard$Place") d_A_grant_24 (by assumption) hk (by decide) (c_P_endAllInRow (h := 0) ho (by omega)) 1 rfl (by decide +kernel) cw_P_endAllInRow (zdecl (i' := m_P_endAllInRow) (by decide +kernel) cw_P_endAllInRow) (by decide) (Nat.le_of_ble_eq_true rfl) (ycat_of rfl) (by decide) (by decide)) (fun r σ9 hp => ?_)
    obtain ⟨rfl, rfl⟩ := hp
    refine zr_retv d_A_grant_27 rfl (by decide) (by decide) ?_
    refine ⟨rfl, ?_⟩
    unfold zgrantA
    first | (rw [if_pos c6]; rfl) | (rw [if_neg c6])
  · skip
    refine zr_aload_n d_A_grant_9 rfl ?_
    refine zr_iconst (v := 0) d_A_grant_10 (by decide) ?_
    refine zr_pputi (c := 4) (f := 4) d_A_grant_11 (by first | assumption | omega) hk sf_A_grant_11 rfl rfl (by decide) rfl ⟨rfl, rfl⟩ ?_
    refine zr_aload_n d_A_grant_14 rfl ?_
    refine zr_iconst (v := 3) d_A_grant_15 (by decide) ?_
    refine zr_call (zrunC (c := 4) (As := [yi 3]) (rest := []) (x := ⟨"MonitorYard$Barrier", "endAllInRow", "(I)V"⟩) (owner := "MonitorYard$Place") d_A_grant_16 (by assumption) hk (by decide) (c_P_endAllInRow (σ := zspl σ 4 o 0) (h := 3) ho (by omega)) 1 rfl (by decide +kernel) cw_P_endAllInRow (zdecl (i' := m_P_endAllInRow) (by decide +kernel) cw_P_endAllInRow) (by decide) (Nat.le_of_ble_eq_true rfl) (ycat_of rfl) (by decide) (by decide)) (fun r σ9 hp => ?_)
    obtain ⟨rfl, rfl⟩ := hp
    refine zr_goto (tgt := 27) d_A_grant_19 (by decide) ?_
    refine zr_retv d_A_grant_27 rfl (by decide) (by decide) ?_
    refine ⟨rfl, ?_⟩
    unfold zgrantA
    first | (rw [if_pos c6]; rfl) | (rw [if_neg c6])

set_option maxHeartbeats 4000000 in
set_option maxRecDepth 20000 in
theorem c_A_whenOneGaveUp {G : yG} {μ : yW} {σ : zS} {o : Nat} (ho : o < zn σ) (hk : zkd σ o = 4)  : zCT G m_A_whenOneGaveUp [yr (kP o)] σ μ (fun r σ' => r = none ∧ σ' = zgave σ o) := by
  refine zCT_of (by decide) rfl (ycat_of rfl) (Nat.le_of_ble_eq_true rfl) ?_
  refine zr_aload_n d_A_whenOneGaveUp_0 rfl ?_
  refine zr_iconst (v := 1) d_A_whenOneGaveUp_1 (by decide) ?_
  refine zr_pputi (c := 4) (f := 4) d_A_whenOneGaveUp_2 (by first | assumption | omega) hk sf_A_whenOneGaveUp_2 rfl rfl (by decide) rfl ⟨rfl, rfl⟩ ?_
  refine zr_aload_n d_A_whenOneGaveUp_5 rfl ?_
  refine zr_iconst (v := 3) d_A_whenOneGaveUp_6 (by decide) ?_
  refine zr_call (zrunC (c := 4) (As := [yi 3]) (rest := []) (x := ⟨"MonitorYard$Barrier", "endAllInRow", "(I)V"⟩) (owner := "MonitorYard$Place") d_A_whenOneGaveUp_7 (by assumption) hk (by decide) (c_P_endAllInRow (σ := zspl σ 4 o 1) (h := 3) ho (by omega)) 1 rfl (by decide +kernel) cw_P_endAllInRow (zdecl (i' := m_P_endAllInRow) (by decide +kernel) cw_P_endAllInRow) (by decide) (Nat.le_of_ble_eq_true rfl) (ycat_of rfl) (by decide) (by decide)) (fun r σ9 hp => ?_)
  obtain ⟨rfl, rfl⟩ := hp
  refine zr_retv d_A_whenOneGaveUp_10 rfl (by decide) (by decide) ?_
  refine ⟨rfl, ?_⟩
  unfold zgave
  rw [if_pos hk]
  rfl

section ZCP
variable {G : yG} {i : yM} {Qf : yQT} {pc : Nat} {ls : List (Option yV)} {σ : zS} {μ : yW} {cs sl : Nat} {P : Option yV → zS → Prop}
theorem zr_callP {sel : Nat → yM} {o : Nat} {As rest : List yV} {ix : Nat} {x : MethodName} {owner : String} {priv : Bool} (hd : decode (yMb i) pc = .ok (.invokevirtual ix, 3)) (ho : o < zn σ) (hct : zCT G (sel (zkd σ o)) (yr (kP o) :: As) σ μ P) (n : Nat) (hn : As.length = n) (hf : ∀ c, c < 6 → zUF i (sel c) ix n x owner (zcl c).1 priv = true) (hcode : ∀ c, c < 6 → ycode (sel c) ∈ lw_tbl) (hdecl : ∀ s : State, yGx s → va_Decl s ⟨owner, x.name, x.desc⟩) (hcell : ∀ c, c < 6 → (yMm (sel c)).cells = 0 ∧ (yMm (sel c)).slots = 0) (hrest : rest.length ≤ 8) (hcat : ∀ v ∈ rest, ∀ ad, (ycv ad v).category = 1) (hc : cs ≤ (yMm i).cells) (hs : sl ≤ (yMm i).slots)
    (kk : ∀ r σ', P r σ' → yWP G i Qf μ.1 (pc + 3) ls (r.toList ++ rest) (zC σ' μ) cs sl) : yWP G i Qf μ.1 pc ls (As.reverse ++ yr (kP o) :: rest) (zC σ μ) cs sl := by
  intro ω h
  have h0 := hcell _ (h.kd ho)
  exact zr_call (zrunP hd ho hct n hn hf hcode hdecl hcell hrest hcat hc hs) (fun r σ' hp => by rw [h0.1, h0.2]; exact kk r σ' hp) ω h
end ZCP
def sel_gave (c : Nat) : yM := match c with
  | 4 => m_A_whenOneGaveUp
  | _ => m_P_whenOneGaveUp
/-- by cases on a place's kind -/
theorem zkinds {σ : zS} {μ ω : yW} {o : Nat} (h : zC σ μ ω) (ho : o < zn σ) : zkd σ o = 0 ∨ zkd σ o = 1 ∨ zkd σ o = 2 ∨ zkd σ o = 3 ∨ zkd σ o = 4 ∨ zkd σ o = 5 := by have := h.kd ho; omega
theorem v_gave {G : yG} {μ : yW} {σ : zS} {o : Nat} (ho : o < zn σ) : zCT G (sel_gave (zkd σ o)) [yr (kP o)] σ μ (fun r σ' => r = none ∧ σ' = zgave σ o) := by
  intro ω h
  by_cases e : zkd σ o = 4
  · rw [e]; exact c_A_whenOneGaveUp ho e ω h
  · have h1 : sel_gave (zkd σ o) = m_P_whenOneGaveUp := by
      rcases zkinds h ho with e1 | e1 | e1 | e1 | e1 | e1 <;> first | exact absurd e1 e | (rw [e1]; rfl)
    have h2 : zgave σ o = σ := by unfold zgave; rw [if_neg e]
    rw [h1, h2]
    exact c_P_whenOneGaveUp ho ω h
theorem sel_gave_code : ∀ c, c < 6 → ycode (sel_gave c) ∈ lw_tbl := by
  intro c hc
  rcases (show c = 0 ∨ c = 1 ∨ c = 2 ∨ c = 3 ∨ c = 4 ∨ c = 5 by omega) with rfl | rfl | rfl | rfl | rfl | rfl
  · exact cw_P_whenOneGaveUp
  · exact cw_P_whenOneGaveUp
  · exact cw_P_whenOneGaveUp
  · exact cw_P_whenOneGaveUp
  · exact cw_A_whenOneGaveUp
  · exact cw_P_whenOneGaveUp

set_option maxHeartbeats 4000000 in
set_option maxRecDepth 20000 in
theorem c_P_leaveRow {G : yG} {μ : yW} {σ : zS} {o : Nat} (ho : o < zn σ) {t : Nat} (ht : t < 6) {h : Nat} (hh : h < 5)  : zCT G m_P_leaveRow [yr (kP o), yr (10 + t), yi (nI h)] σ μ (fun r σ' => r = none ∧ σ' = zleaveRow σ o t h) := by
  have hv : zrv σ 0 o := ⟨ho, Or.inl rfl⟩
  refine zCT_of (by decide) rfl (ycat_of rfl) (Nat.le_of_ble_eq_true rfl) ?_
  refine zr_aload_n d_P_leaveRow_0 rfl ?_
  refine zr_prow d_P_leaveRow_1 (by first | assumption | omega) sf_P_leaveRow_1 ?_
  refine zr_aload_n d_P_leaveRow_4 rfl ?_
  refine zr_call (zrunV (As := [yr (10 + t)]) (rest := []) d_P_leaveRow_5 (fun ω h => (h.row (by assumption)).2.1) rfl (c_R_remove' hv ht) 1 rfl (by decide +kernel) cw_R_remove (Nat.le_of_ble_eq_true rfl) (ycat_of rfl) (by decide) (by decide)) (fun r σ9 hp => ?_)
  obtain ⟨rfl, rfl⟩ := hp
  refine zr_aload_n d_P_leaveRow_8 rfl ?_
  refine zr_iload_n d_P_leaveRow_9 rfl ?_
  refine zr_call (zrunV (As := [yi (nI h)]) (rest := []) d_P_leaveRow_10 (fun ω h => h.sT (by assumption)) rfl (c_T_end ht hh) 1 rfl (by decide +kernel) cw_T_end (Nat.le_of_ble_eq_true rfl) (ycat_of rfl) (by decide) (by decide)) (fun r σ9 hp => ?_)
  obtain ⟨rfl, rfl⟩ := hp
  refine zr_aload_n d_P_leaveRow_13 rfl ?_
  refine zr_callP (sel := sel_gave) (o := o) (As := []) (rest := []) (x := yMy m_P_whenOneGaveUp) (owner := "MonitorYard$Place") (priv := false) d_P_leaveRow_14 (by assumption) (v_gave ho) 0 rfl (by decide +kernel) sel_gave_code (zdecl (i' := m_P_whenOneGaveUp) (by decide +kernel) cw_P_whenOneGaveUp) (by decide) (Nat.le_of_ble_eq_true rfl) (ycat_of rfl) (by decide) (by decide) (fun r σ9 hp => ?_)
  obtain ⟨rfl, rfl⟩ := hp
  exact zr_retv d_P_leaveRow_17 rfl (by decide) (by decide) ⟨rfl, rfl⟩

set_option maxHeartbeats 4000000 in
set_option maxRecDepth 20000 in
theorem c_P_giveUp {G : yG} {μ : yW} {σ : zS} {o : Nat} (ho : o < zn σ) {t : Nat} (ht : t < 6) {h : Nat} (hh : h < 5)  : zCT G m_P_giveUp [yr (kP o), yr (10 + t), yi (nI h)] σ μ (fun r σ' => r = none ∧ σ' = zleaveRow σ o t h) := by
  refine zCT_of (by decide) rfl (ycat_of rfl) (Nat.le_of_ble_eq_true rfl) ?_
  refine zr_aload_n d_P_giveUp_0 rfl ?_
  refine zr_aload_n d_P_giveUp_1 rfl ?_
  refine zr_iload_n d_P_giveUp_2 rfl ?_
  refine zr_callP (sel := (fun _ => m_P_leaveRow)) (o := o) (As := [yr (10 + t), yi (nI h)]) (rest := []) (x := yMy m_P_leaveRow) (owner := "MonitorYard$Place") (priv := false) d_P_giveUp_3 (by assumption) (c_P_leaveRow ho ht hh) 2 rfl (by decide +kernel) (fun _ _ => cw_P_leaveRow) (zdecl (i' := m_P_leaveRow) (by decide +kernel) cw_P_leaveRow) (by decide) (Nat.le_of_ble_eq_true rfl) (ycat_of rfl) (by decide) (by decide) (fun r σ9 hp => ?_)
  obtain ⟨rfl, rfl⟩ := hp
  exact zr_retv d_P_giveUp_6 rfl (by decide) (by decide) ⟨rfl, rfl⟩

set_option maxHeartbeats 4000000 in
set_option maxRecDepth 20000 in
theorem c_K_giveUp {G : yG} {μ : yW} {σ : zS} {o : Nat} (ho : o < zn σ) (hk : zkd σ o = 0) {t : Nat} (ht : t < 6) {h : Nat} (hh : h < 5) (h5 : zth σ 2 t = 2 → (zrw σ 0 o).length < 6)  : zCT G m_K_giveUp [yr (kP o), yr (10 + t), yi (nI h)] σ μ (fun r σ' => r = none ∧ σ' = zgiveUp σ o t h) := by
  have hk3 : 3 + zkd σ o = 3 := by rw [hk]
  have hv : zrv σ (zcj (zth σ 9 t)) o := zcj_v ho hk
  refine zCT_of (by decide) rfl (ycat_of rfl) (Nat.le_of_ble_eq_true rfl) ?_
  refine zr_aload_n d_K_giveUp_0 rfl ?_
  refine zr_tgeti d_K_giveUp_1 (by first | assumption | omega) sf_K_giveUp_1 rfl rfl ?_
  refine zr_iconst (v := 2) d_K_giveUp_4 (by decide) ?_
  refine zr_icmp_ne (tgt := 29) d_K_giveUp_5 (by decide) (fun c5 => ?_) (fun c5 => ?_)
  · skip
    refine zr_aload_n d_K_giveUp_29 rfl ?_
    refine zr_aload_n d_K_giveUp_30 rfl ?_
    refine zr_iload_n d_K_giveUp_31 rfl ?_
    refine zr_call (zrunC (c := 0) (As := [yr (10 + t), yi (nI h)]) (rest := []) (x := ⟨"MonitorYard$Lock", "leaveRow", "(LMonitorYard$YardThread;I)V"⟩) (owner := "MonitorYard$Place") d_K_giveUp_32 (by assumption) hk (by decide) (c_P_leaveRow ho ht hh) 2 rfl (by decide +kernel) cw_P_leaveRow (zdecl (i' := m_P_leaveRow) (by decide +kernel) cw_P_leaveRow) (by decide) (Nat.le_of_ble_eq_true rfl) (ycat_of rfl) (by decide) (by decide)) (fun r σ9 hp => ?_)
    obtain ⟨rfl, rfl⟩ := hp
    refine zr_retv d_K_giveUp_35 rfl (by decide) (by decide) ?_
    refine ⟨rfl, ?_⟩
    unfold zgiveUp
    split
    · rename_i z; first | rfl | exact absurd z.2 c5
    · rename_i z; first | rfl | exact absurd ⟨hk, c5⟩ z
  · skip
    refine zr_aload_n d_K_giveUp_8 rfl ?_
    refine zr_aload_n d_K_giveUp_9 rfl ?_
    refine zr_tgeti d_K_giveUp_10 (by first | assumption | omega) sf_K_giveUp_10 rfl rfl ?_
    refine zr_call (zrunV (As := [yi (zth σ 9 t)]) (rest := []) d_K_giveUp_13 (fun ω h => h.sP' ho hk3) rfl (c_K_condition ho hk) 1 rfl (by decide +kernel) cw_K_condition (Nat.le_of_ble_eq_true rfl) (ycat_of rfl) (by decide) (by decide)) (fun r σ9 hp => ?_)
    obtain ⟨rfl, rfl⟩ := hp
    change yWP _ _ _ _ _ _ [yr (kR (zcj (zth σ9 9 t)) o)] _ _ _
    refine zr_aload_n d_K_giveUp_16 rfl ?_
    refine zr_call (zrunV (As := [yr (10 + t)]) (rest := []) d_K_giveUp_17 (fun ω h => (h.row hv).2.1) rfl (c_R_remove' hv ht) 1 rfl (by decide +kernel) cw_R_remove (Nat.le_of_ble_eq_true rfl) (ycat_of rfl) (by decide) (by decide)) (fun r σ8 hp => ?_)
    obtain ⟨rfl, rfl⟩ := hp
    refine zr_aload_n d_K_giveUp_20 rfl ?_
    refine zr_aload_n d_K_giveUp_21 rfl ?_
    refine zr_iload_n d_K_giveUp_22 rfl ?_
    refine zr_call (zrunV (As := [yr (10 + t), yi (nI h)]) (rest := []) d_K_giveUp_23 (fun ω h => h.sP' ho hk3) rfl (c_K_takeAgain (σ := zsrw σ9 (zcj (zth σ9 9 t)) o ((zrw σ9 (zcj (zth σ9 9 t)) o).filter (fun u => u ≠ t))) ho hk ht (by rw [zrw_ne (by unfold zcj; split <;> omega)]; exact h5 c5)) 2 rfl (by decide +kernel) cw_K_takeAgain (Nat.le_of_ble_eq_true rfl) (ycat_of rfl) (by decide) (by decide)) (fun r σ7 hp => ?_)
    obtain ⟨rfl, rfl⟩ := hp
    refine zr_goto (tgt := 35) d_K_giveUp_26 (by decide) ?_
    refine zr_retv d_K_giveUp_35 rfl (by decide) (by decide) ?_
    refine ⟨rfl, ?_⟩
    unfold zgiveUp
    split
    · rename_i z; first | rfl | exact absurd z.2 c5
    · rename_i z; first | rfl | exact absurd ⟨hk, c5⟩ z
