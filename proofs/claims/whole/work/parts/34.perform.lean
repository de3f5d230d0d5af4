/-! a place: the row, what can be, settling, performing -/
def zhas (σ : zS) (o : Nat) (x : Int32) : Bool := (zrw σ 0 o).any (fun u => decide (zsort (zkd σ o) (zth σ 8 u) = x))
def zonce (σ : zS) (o t : Nat) : Bool := zpass σ o t || (zcan σ o t && !zhas σ o (zsort (zkd σ o) (zth σ 8 t)))
theorem zb_t : zb true = 1 := rfl
theorem zb_f : zb false = 0 := rfl
theorem zb_ne {b : Bool} : ¬ zb b = 0 ↔ b = true := by cases b <;> simp [zb]
theorem zb_eq {b : Bool} : zb b = 0 ↔ b = false := by cases b <;> simp [zb]
theorem zb_nar (b : Bool) : narrow .boolean (.int (zb b)) = .int (zb b) := by cases b <;> rfl
theorem zat_nI {l : List Nat} {q : Nat} (h : q < 2 ^ 31) : zat l (nI q) = l[q]? := by
  unfold zat
  rw [if_neg (nI_pos h), nI_clamp h]

set_option maxHeartbeats 4000000 in
set_option maxRecDepth 20000 in
theorem c_P_hasInRow_loop {G : yG} {μ : yW} {σ : zS} {o : Nat} {x : Int32} (ho : o < zn σ) (h6 : (zrw σ 0 o).length ≤ 6) (hall : ∀ u ∈ zrw σ 0 o, u < 6) : ∀ (m q : Nat) (x3 : Option yV), m + q = (zrw σ 0 o).length → ((zrw σ 0 o).take q).any (fun u => decide (zsort (zkd σ o) (zth σ 8 u) = x)) = false → yWP G m_P_hasInRow (zQ G m_P_hasInRow μ (fun r σ' => r = some (yi (zb (zhas σ o x))) ∧ σ' = σ)) μ.1 2 [some (yr (kP o)), some (yi x), some (yi (nI q)), x3] [] (zC σ μ) 0 0 := by
  have hv : zrv σ 0 o := ⟨ho, Or.inl rfl⟩
  intro m
  induction m with
  | zero =>
    intro q x3 hm hf
    refine zr_iload_n d_P_hasInRow_2 rfl ?_
    refine zr_aload_n d_P_hasInRow_3 rfl ?_
    refine zr_prow d_P_hasInRow_4 (by first | assumption | omega) sf_P_hasInRow_4 ?_
    refine zr_rlen d_P_hasInRow_7 (by assumption) sf_P_hasInRow_7 ?_
    refine zr_icmp_ge (tgt := 46) d_P_hasInRow_10 (by decide) (fun c10 => ?_) (fun c10 => absurd (nI_le (by omega) (by omega)) c10)
    refine zr_iconst (v := 0) d_P_hasInRow_46 (by decide) ?_
    refine zr_retz d_P_hasInRow_47 rfl rfl (by decide) (by decide) ⟨?_, rfl⟩
    have e1 : (zrw σ 0 o).take q = zrw σ 0 o := List.take_of_length_le (by omega)
    rw [e1] at hf
    unfold zhas
    rw [hf]; rfl
  | succ m ih =>
    intro q x3 hm hf
    have hq : q < (zrw σ 0 o).length := by omega
    obtain ⟨u, hu⟩ : ∃ u, (zrw σ 0 o)[q]? = some u := ⟨_, List.getElem?_eq_getElem hq⟩
    have hum : u ∈ zrw σ 0 o := List.mem_of_getElem? hu
    have ht : u < 6 := hall u hum
    refine zr_iload_n d_P_hasInRow_2 rfl ?_
    refine zr_aload_n d_P_hasInRow_3 rfl ?_
    refine zr_prow d_P_hasInRow_4 (by first | assumption | omega) sf_P_hasInRow_4 ?_
    refine zr_rlen d_P_hasInRow_7 (by assumption) sf_P_hasInRow_7 ?_
    refine zr_icmp_ge (tgt := 46) d_P_hasInRow_10 (by decide) (fun c10 => absurd c10 (nI_ge hq (by omega))) (fun c10 => ?_)
    refine zr_aload_n d_P_hasInRow_13 rfl ?_
    refine zr_prow d_P_hasInRow_14 (by first | assumption | omega) sf_P_hasInRow_14 ?_
    refine zr_iload_n d_P_hasInRow_17 rfl ?_
    refine zr_call (zrunV (As := [yi (nI q)]) (rest := []) d_P_hasInRow_18 (fun ω h => (h.row hv).2.1) rfl (c_R_at' (x := nI q) hv) 1 rfl (by decide +kernel) cw_R_at (Nat.le_of_ble_eq_true rfl) (ycat_of rfl) (by decide) (by decide)) (fun r σ9 hp => ?_)
    obtain ⟨rfl, rfl⟩ := hp
    rw [zat_nI (by omega), hu]
    refine zr_astore_n d_P_hasInRow_21 (by decide) rfl ?_
    refine zr_aload_n d_P_hasInRow_22 rfl ?_
    refine zr_ifnull (tgt := 40) d_P_hasInRow_23 (by decide) (fun c23 => nomatch c23) (fun a c23 => ?_)
    refine zr_aload_n d_P_hasInRow_26 rfl ?_
    refine zr_aload_n d_P_hasInRow_27 rfl ?_
    refine zr_tgeti d_P_hasInRow_28 (by first | assumption | omega) sf_P_hasInRow_28 rfl rfl ?_
    refine zr_callP (sel := sel_sort) (o := o) (As := [yi (zth σ9 8 u)]) (rest := []) (x := yMy m_P_sortOf) (owner := "MonitorYard$Place") (priv := false) d_P_hasInRow_31 ho (v_sort ho) 1 rfl (by decide +kernel) sel_sort_code (zdecl (i' := m_P_sortOf) (by decide +kernel) cw_P_sortOf) (by decide) (Nat.le_of_ble_eq_true rfl) (ycat_of rfl) (by decide) (by decide) (fun r σ8 hp => ?_)
    obtain ⟨rfl, rfl⟩ := hp
    refine zr_iload_n d_P_hasInRow_34 rfl ?_
    refine zr_icmp_ne (tgt := 40) d_P_hasInRow_35 (by decide) (fun c35 => ?_) (fun c35 => ?_)
    · refine zr_iinc (v := nI (q + 1)) d_P_hasInRow_40 rfl (nI_1 q) (by decide) rfl ?_
      refine zr_goto (tgt := 2) d_P_hasInRow_43 (by decide) ?_
      refine ih (q + 1) _ (by omega) ?_
      rw [List.take_add_one, hu, List.any_append, hf]
      simp [c35]
    · refine zr_iconst (v := 1) d_P_hasInRow_38 (by decide) ?_
      refine zr_retz d_P_hasInRow_39 rfl rfl (by decide) (by decide) ⟨?_, rfl⟩
      have e1 : zhas σ8 o x = true := List.any_eq_true.mpr ⟨u, hum, by simp [c35]⟩
      rw [e1]; rfl

set_option maxHeartbeats 4000000 in
set_option maxRecDepth 20000 in
theorem c_P_hasInRow {G : yG} {μ : yW} {σ : zS} {o : Nat} {x : Int32} (ho : o < zn σ)  : zCT G m_P_hasInRow [yr (kP o), yi x] σ μ (fun r σ' => r = some (yi (zb (zhas σ o x))) ∧ σ' = σ) := by
  have hv : zrv σ 0 o := ⟨ho, Or.inl rfl⟩
  refine zCT_of (by decide) rfl (ycat_of rfl) (Nat.le_of_ble_eq_true rfl) ?_
  refine zr_iconst (v := 0) d_P_hasInRow_0 (by decide) ?_
  refine zr_istore_n d_P_hasInRow_1 (by decide) rfl ?_
  exact yWP_use (fun ω h9 => zlist h9 hv) (fun h6 => c_P_hasInRow_loop ho h6.1 h6.2 _ 0 _ rfl rfl)

set_option maxHeartbeats 4000000 in
set_option maxRecDepth 20000 in
theorem c_P_canBeAtOnce {G : yG} {μ : yW} {σ : zS} {o : Nat} (ho : o < zn σ) {t : Nat} (ht : t < 6)  : zCT G m_P_canBeAtOnce [yr (kP o), yr (10 + t)] σ μ (fun r σ' => r = some (yi (zb (zonce σ o t))) ∧ σ' = σ) := by
  refine zCT_of (by decide) rfl (ycat_of rfl) (Nat.le_of_ble_eq_true rfl) ?_
  refine zr_aload_n d_P_canBeAtOnce_0 rfl ?_
  refine zr_aload_n d_P_canBeAtOnce_1 rfl ?_
  refine zr_callP (sel := sel_passes) (o := o) (As := [yr (10 + t)]) (rest := []) (x := ⟨"MonitorYard$Place", "passesRow", "(LMonitorYard$YardThread;)Z"⟩) (owner := "MonitorYard$Place") (priv := false) d_P_canBeAtOnce_2 ho (v_passes ho ht) 1 rfl (by decide +kernel) sel_passes_code (zdeclA (x := ⟨"MonitorYard$Place", "passesRow", "(LMonitorYard$YardThread;)Z"⟩) (by decide +kernel)) (by decide) (Nat.le_of_ble_eq_true rfl) (ycat_of rfl) (by decide) (by decide) (fun r σ9 hp => ?_)
  obtain ⟨rfl, rfl⟩ := hp
  refine zr_if_ne (tgt := 31) d_P_canBeAtOnce_5 (by decide) (fun c5 => ?_) (fun c5 => ?_)
  · skip
    refine zr_iconst (v := 1) d_P_canBeAtOnce_31 (by decide) ?_
    refine zr_goto (tgt := 36) d_P_canBeAtOnce_32 (by decide) ?_
    refine zr_retz d_P_canBeAtOnce_36 rfl rfl (by decide) (by decide) ?_
    refine ⟨?_, rfl⟩
    unfold zonce
    first
      | (rw [zb_ne] at c5; simp [c5, zb]; done)
      | (rw [zb_eq] at c5 c13; simp [c5, c13, zb]; done)
      | (rw [zb_eq] at c5; rw [zb_ne] at c13 c28; simp [c5, c13, c28, zb]; done)
      | (rw [zb_eq] at c5 c28; rw [zb_ne] at c13; simp [c5, c13, c28, zb]; done)
  · skip
    refine zr_aload_n d_P_canBeAtOnce_8 rfl ?_
    refine zr_aload_n d_P_canBeAtOnce_9 rfl ?_
    refine zr_callP (sel := sel_canBe) (o := o) (As := [yr (10 + t)]) (rest := []) (x := ⟨"MonitorYard$Place", "canBe", "(LMonitorYard$YardThread;)Z"⟩) (owner := "MonitorYard$Place") (priv := false) d_P_canBeAtOnce_10 ho (v_canBe ho ht) 1 rfl (by decide +kernel) sel_canBe_code (zdeclA (x := ⟨"MonitorYard$Place", "canBe", "(LMonitorYard$YardThread;)Z"⟩) (by decide +kernel)) (by decide) (Nat.le_of_ble_eq_true rfl) (ycat_of rfl) (by decide) (by decide) (fun r σ8 hp => ?_)
    obtain ⟨rfl, rfl⟩ := hp
    refine zr_if_eq (tgt := 35) d_P_canBeAtOnce_13 (by decide) (fun c13 => ?_) (fun c13 => ?_)
    · skip
      refine zr_iconst (v := 0) d_P_canBeAtOnce_35 (by decide) ?_
      refine zr_retz d_P_canBeAtOnce_36 rfl rfl (by decide) (by decide) ?_
      refine ⟨?_, rfl⟩
      unfold zonce
      first
        | (rw [zb_ne] at c5; simp [c5, zb]; done)
        | (rw [zb_eq] at c5 c13; simp [c5, c13, zb]; done)
        | (rw [zb_eq] at c5; rw [zb_ne] at c13 c28; simp [c5, c13, c28, zb]; done)
        | (rw [zb_eq] at c5 c28; rw [zb_ne] at c13; simp [c5, c13, c28, zb]; done)
    · skip
      refine zr_aload_n d_P_canBeAtOnce_16 rfl ?_
      refine zr_aload_n d_P_canBeAtOnce_17 rfl ?_
      refine zr_aload_n d_P_canBeAtOnce_18 rfl ?_
      refine zr_tgeti d_P_canBeAtOnce_19 (by first | assumption | omega) sf_P_canBeAtOnce_19 rfl rfl ?_
      refine zr_callP (sel := sel_sort) (o := o) (As := [yi (zth σ8 8 t)]) (rest := [yr (kP o)]) (x := yMy m_P_sortOf) (owner := "MonitorYard$Place") (priv := false) d_P_canBeAtOnce_22 ho (v_sort ho) 1 rfl (by decide +kernel) sel_sort_code (zdecl (i' := m_P_sortOf) (by decide +kernel) cw_P_sortOf) (by decide) (Nat.le_of_ble_eq_true rfl) (ycat_of rfl) (by decide) (by decide) (fun r σ7 hp => ?_)
      obtain ⟨rfl, rfl⟩ := hp
      refine zr_callP (sel := (fun _ => m_P_hasInRow)) (o := o) (As := [yi (zsort (zkd σ7 o) (zth σ7 8 t))]) (rest := []) (x := yMy m_P_hasInRow) (owner := "MonitorYard$Place") (priv := true) d_P_canBeAtOnce_25 ho (c_P_hasInRow ho) 1 rfl (by decide +kernel) (fun _ _ => cw_P_hasInRow) (zdecl (i' := m_P_hasInRow) (by decide +kernel) cw_P_hasInRow) (by decide) (Nat.le_of_ble_eq_true rfl) (ycat_of rfl) (by decide) (by decide) (fun r σ6 hp => ?_)
      obtain ⟨rfl, rfl⟩ := hp
      refine zr_if_ne (tgt := 35) d_P_canBeAtOnce_28 (by decide) (fun c28 => ?_) (fun c28 => ?_)
      · skip
        refine zr_iconst (v := 0) d_P_canBeAtOnce_35 (by decide) ?_
        refine zr_retz d_P_canBeAtOnce_36 rfl rfl (by decide) (by decide) ?_
        refine ⟨?_, rfl⟩
        unfold zonce
        first
          | (rw [zb_ne] at c5; simp [c5, zb]; done)
          | (rw [zb_eq] at c5 c13; simp [c5, c13, zb]; done)
          | (rw [zb_eq] at c5; rw [zb_ne] at c13 c28; simp [c5, c13, c28, zb]; done)
          | (rw [zb_eq] at c5 c28; rw [zb_ne] at c13; simp [c5, c13, c28, zb]; done)
      · skip
        refine zr_iconst (v := 1) d_P_canBeAtOnce_31 (by decide) ?_
        refine zr_goto (tgt := 36) d_P_canBeAtOnce_32 (by decide) ?_
        refine zr_retz d_P_canBeAtOnce_36 rfl rfl (by decide) (by decide) ?_
        refine ⟨?_, rfl⟩
        unfold zonce
        first
          | (rw [zb_ne] at c5; simp [c5, zb]; done)
          | (rw [zb_eq] at c5 c13; simp [c5, c13, zb]; done)
          | (rw [zb_eq] at c5; rw [zb_ne] at c13 c28; simp [c5, c13, c28, zb]; done)
          | (rw [zb_eq] at c5 c28; rw [zb_ne] at c13; simp [c5, c13, c28, zb]; done)
