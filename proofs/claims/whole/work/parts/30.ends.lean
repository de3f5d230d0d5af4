/-! places: ends, calls, giving up -/
theorem yWP_use {G : yG} {i : yM} {Qf : yQT} {pc : Nat} {ls : List (Option yV)} {st : List yV} {cs sl : Nat} {sh0 : Nat → Option ySh} {Φ : yW → Prop} {A : Prop} (hA : ∀ ω, Φ ω → A) (k : A → yWP G i Qf sh0 pc ls st Φ cs sl) : yWP G i Qf sh0 pc ls st Φ cs sl := fun ω h => k (hA ω h) ω h
theorem c_R_removeFirst' {G : yG} {μ : yW} {σ : zS} {j o : Nat} (hv : zrv σ j o) : zCT G m_R_removeFirst [yr (kR j o)] σ μ (fun r σ' => r = some (yo (((zrw σ j o)[0]?).map (10 + ·))) ∧ σ' = (match zrw σ j o with | [] => σ | t :: _ => zsrw σ j o ((zrw σ j o).filter (fun u => u ≠ t)))) := fun ω h => c_R_removeFirst hv (zlist h hv).1 (zlist h hv).2 ω h
theorem c_R_remove' {G : yG} {μ : yW} {σ : zS} {j o t : Nat} (hv : zrv σ j o) (ht : t < 6) : zCT G m_R_remove [yr (kR j o), yr (10 + t)] σ μ (fun r σ' => r = none ∧ σ' = zsrw σ j o ((zrw σ j o).filter (fun u => u ≠ t))) := fun ω h => c_R_remove hv ht (zlist h hv).1 (zlist h hv).2 ω h
theorem c_R_at' {G : yG} {μ : yW} {σ : zS} {j o : Nat} {x : Int32} (hv : zrv σ j o) : zCT G m_R_at [yr (kR j o), yi x] σ μ (fun r σ' => r = some (yo ((zat (zrw σ j o) x).map (10 + ·))) ∧ σ' = σ) := fun ω h => c_R_at hv (zlist h hv).1 ω h
/-- the first of a row goes, ended -/
def zend1 (o h : Nat) (σ : zS) : zS := match zrw σ 0 o with
  | [] => σ
  | t :: _ => zend (zsrw σ 0 o ((zrw σ 0 o).filter (fun u => u ≠ t))) t h
def zendAll (o h : Nat) : Nat → zS → zS
  | 0, σ => σ
  | n + 1, σ => zendAll o h n (zend1 o h σ)
/-- the first at a condition goes to the row -/
def zcall1 (o j : Nat) (σ : zS) : zS := match zrw σ j o with
  | [] => σ
  | t :: _ => ztake (zsrw σ j o ((zrw σ j o).filter (fun u => u ≠ t))) o t 0
def zcall (o j : Nat) : Nat → zS → zS
  | 0, σ => σ
  | n + 1, σ => zcall o j n (zcall1 o j σ)
theorem zend1_n {o h : Nat} {σ : zS} : zn (zend1 o h σ) = zn σ := by
  unfold zend1
  split <;> rfl
theorem zcall1_n {o j : Nat} {σ : zS} : zn (zcall1 o j σ) = zn σ ∧ zkd (zcall1 o j σ) = zkd σ := by
  unfold zcall1
  split <;> exact ⟨rfl, rfl⟩

set_option maxHeartbeats 4000000 in
set_option maxRecDepth 20000 in
theorem c_P_endAll_loop {G : yG} {μ : yW} {o h : Nat} (hh : h < 5) : ∀ (n : Nat) (σ : zS) (x3 : Option yV), n ≤ 6 → o < zn σ → yWP G m_P_endAllInRow (zQ G m_P_endAllInRow μ (fun r σ' => r = none ∧ σ' = zendAll o h n σ)) μ.1 8 [some (yr (kP o)), some (yi (nI h)), some (yi (nI n)), x3] [] (zC σ μ) 0 0 := by
  intro n
  induction n with
  | zero =>
    intro σ x3 hn ho
    refine zr_iload_n d_P_endAllInRow_8 rfl ?_
    refine zr_if_le (tgt := 35) d_P_endAllInRow_9 (by decide) (fun c9 => ?_) (fun c9 => absurd (by decide) c9)
    exact zr_retv d_P_endAllInRow_35 rfl (by decide) (by decide) ⟨rfl, rfl⟩
  | succ n ih =>
    intro σ x3 hn ho
    have hv : zrv σ 0 o := ⟨ho, Or.inl rfl⟩
    refine yWP_use (fun ω h => (zlist h hv).2) (fun hall => ?_)
    refine zr_iload_n d_P_endAllInRow_8 rfl ?_
    refine zr_if_le (tgt := 35) d_P_endAllInRow_9 (by decide) (fun c9 => absurd c9 (nI_nle (by omega) (by omega))) (fun c9 => ?_)
    refine zr_aload_n d_P_endAllInRow_12 rfl ?_
    refine zr_prow d_P_endAllInRow_13 (by first | assumption | omega) sf_P_endAllInRow_13 ?_
    refine zr_call (zrunV (As := []) (rest := []) d_P_endAllInRow_16 (fun ω h => (h.row hv).2.1) rfl (c_R_removeFirst' hv) 0 rfl (by decide +kernel) cw_R_removeFirst (Nat.le_of_ble_eq_true rfl) (ycat_of rfl) (by decide) (by decide)) (fun r σ9 hp => ?_)
    obtain ⟨rfl, hσ⟩ := hp
    cases hl : zrw σ 0 o with
    | nil =>
      rw [hl] at hσ
      have hσ2 : σ9 = zend1 o h σ := by rw [hσ]; unfold zend1; rw [hl]
      subst hσ2
      refine zr_astore_n d_P_endAllInRow_19 (by decide) rfl ?_
      refine zr_aload_n d_P_endAllInRow_20 rfl ?_
      refine zr_ifnull (tgt := 29) d_P_endAllInRow_21 (by decide) (fun c21 => ?_) (fun a c21 => nomatch c21)
      refine zr_iinc (v := nI n) d_P_endAllInRow_29 rfl (pk_m1 n) (by decide) rfl ?_
      refine zr_goto (tgt := 8) d_P_endAllInRow_32 (by decide) ?_
      exact ih _ _ (by omega) (by rw [zend1_n]; exact ho)
    | cons t b =>
      rw [hl] at hσ
      have ht : t < 6 := hall t (by rw [hl]; exact List.mem_cons_self)
      refine zr_astore_n d_P_endAllInRow_19 (by decide) rfl ?_
      refine zr_aload_n d_P_endAllInRow_20 rfl ?_
      refine zr_ifnull (tgt := 29) d_P_endAllInRow_21 (by decide) (fun c21 => nomatch c21) (fun a c21 => ?_)
      refine zr_aload_n d_P_endAllInRow_24 rfl ?_
      refine zr_iload_n d_P_endAllInRow_25 rfl ?_
      refine zr_call (zrunV (As := [yi (nI h)]) (rest := []) d_P_endAllInRow_26 (fun ω h => h.sT ht) rfl (c_T_end (σ := σ9) ht hh) 1 rfl (by decide +kernel) cw_T_end (Nat.le_of_ble_eq_true rfl) (ycat_of rfl) (by decide) (by decide)) (fun r σ8 hp => ?_)
      obtain ⟨rfl, rfl⟩ := hp
      refine zr_iinc (v := nI n) d_P_endAllInRow_29 rfl (pk_m1 n) (by decide) rfl ?_
      refine zr_goto (tgt := 8) d_P_endAllInRow_32 (by decide) ?_
      have hσ2 : zend σ9 t h = zend1 o h σ := by
        unfold zend1
        rw [hl, hσ]
      rw [hσ2]
      exact ih _ _ (by omega) (by rw [zend1_n]; exact ho)

set_option maxHeartbeats 4000000 in
set_option maxRecDepth 20000 in
theorem c_P_endAllInRow {G : yG} {μ : yW} {σ : zS} {o : Nat} (ho : o < zn σ) {h : Nat} (hh : h < 5)  : zCT G m_P_endAllInRow [yr (kP o), yi (nI h)] σ μ (fun r σ' => r = none ∧ σ' = zendAll o h (zrw σ 0 o).length σ) := by
  have hv : zrv σ 0 o := ⟨ho, Or.inl rfl⟩
  refine zCT_of (by decide) rfl (ycat_of rfl) (Nat.le_of_ble_eq_true rfl) ?_
  refine zr_aload_n d_P_endAllInRow_0 rfl ?_
  refine zr_prow d_P_endAllInRow_1 (by first | assumption | omega) sf_P_endAllInRow_1 ?_
  refine zr_rlen d_P_endAllInRow_4 (by assumption) sf_P_endAllInRow_4 ?_
  refine zr_istore_n d_P_endAllInRow_7 (by decide) rfl ?_
  exact yWP_use (fun ω h9 => (zlist h9 hv).1) (fun h6 => c_P_endAll_loop hh _ σ _ h6 ho)
