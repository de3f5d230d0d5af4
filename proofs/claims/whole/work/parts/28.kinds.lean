/-! the kinds of places: what they say -/
theorem zmap_eq {x : Option Nat} {t : Nat} : x.map (10 + ·) = some (10 + t) ↔ x = some t := by
  cases x with
  | none => simp
  | some a =>
    simp
theorem zmap_none {x : Option Nat} : x.map (10 + ·) = none ↔ x = none := by cases x <;> simp
theorem zmap_some {x : Option Nat} {a : Nat} (h : x.map (10 + ·) = some a) : ¬ x = none := by
  intro e
  rw [e] at h
  cases h
theorem zlive_ho {σ : zS} {μ ω : yW} {o t : Nat} (h : zC σ μ ω) (ho : o < zn σ) (ht : t < 6) : ∀ a, (zho σ o).map (10 + ·) = some a ∨ some (10 + t) = some a → ω.1 a ≠ none := by
  intro a ha
  rcases ha with ha | ha
  · cases e : zho σ o with
    | none => rw [e] at ha; cases ha
    | some u =>
      rw [e] at ha
      cases ha
      rw [h.sT ((h.pl ho).2.2.2.2.2.2.2.2.2.2 u e)]
      exact fun z => nomatch z
  · cases ha
    rw [h.sT ht]
    exact fun z => nomatch z
def zleave (σ : zS) (o : Nat) : zS := if zpl σ 6 o - 1 = 0 then zsho (zspl σ 6 o (zpl σ 6 o - 1)) o none else zspl σ 6 o (zpl σ 6 o - 1)
def znum (x : Option Nat) : Int32 := match x with
  | none => -1
  | some t => nI t

set_option maxHeartbeats 4000000 in
set_option maxRecDepth 20000 in
theorem c_K_allows {G : yG} {μ : yW} {σ : zS} {o : Nat} {a g : Int32} (ho : o < zn σ) (hk : zkd σ o = 0) {t : Nat} (ht : t < 6)  : zCT G m_K_allows [yr (kP o), yr (10 + t), yi a, yi g] σ μ (fun r σ' => r = some (yi (if a = 0 ∨ zho σ o = some t then 1 else 0)) ∧ σ' = σ) := by
  refine zCT_of (by decide) rfl (ycat_of rfl) (Nat.le_of_ble_eq_true rfl) ?_
  refine zr_iload_n d_K_allows_0 rfl ?_
  refine zr_if_eq (tgt := 12) d_K_allows_1 (by decide) (fun c1 => ?_) (fun c1 => ?_)
  · skip
    refine zr_iconst (v := 1) d_K_allows_12 (by decide) ?_
    refine zr_goto (tgt := 17) d_K_allows_13 (by decide) ?_
    refine zr_retz d_K_allows_17 rfl rfl (by decide) (by decide) ?_
    simp_all [zmap_eq]
  · skip
    refine zr_aload_n d_K_allows_4 rfl ?_
    refine zr_pho (c := 0) d_K_allows_5 (by first | assumption | omega) hk (by decide) sf_K_allows_5 ?_
    refine zr_aload_n d_K_allows_8 rfl ?_
    refine zr_acmp_ne (tgt := 16) d_K_allows_9 (by decide) (fun ω h => zlive_ho h (by assumption) (by assumption)) (fun c9 => ?_) (fun c9 => ?_)
    · skip
      refine zr_iconst (v := 0) d_K_allows_16 (by decide) ?_
      refine zr_retz d_K_allows_17 rfl rfl (by decide) (by decide) ?_
      simp_all [zmap_eq]
    · skip
      refine zr_iconst (v := 1) d_K_allows_12 (by decide) ?_
      refine zr_goto (tgt := 17) d_K_allows_13 (by decide) ?_
      refine zr_retz d_K_allows_17 rfl rfl (by decide) (by decide) ?_
      simp_all [zmap_eq]

set_option maxHeartbeats 4000000 in
set_option maxRecDepth 20000 in
theorem c_K_canBe {G : yG} {μ : yW} {σ : zS} {o : Nat} (ho : o < zn σ) (hk : zkd σ o = 0) {t : Nat} (ht : t < 6)  : zCT G m_K_canBe [yr (kP o), yr (10 + t)] σ μ (fun r σ' => r = some (yi (if zho σ o = none then 1 else 0)) ∧ σ' = σ) := by
  refine zCT_of (by decide) rfl (ycat_of rfl) (Nat.le_of_ble_eq_true rfl) ?_
  refine zr_aload_n d_K_canBe_0 rfl ?_
  refine zr_pho (c := 0) d_K_canBe_1 (by first | assumption | omega) hk (by decide) sf_K_canBe_1 ?_
  refine zr_ifnonnull (tgt := 11) d_K_canBe_4 (by decide) (fun a4 c4 => ?_) (fun c4 => ?_)
  · skip
    refine zr_iconst (v := 0) d_K_canBe_11 (by decide) ?_
    refine zr_retz d_K_canBe_12 rfl rfl (by decide) (by decide) ?_
    first | (have e9 := zmap_some c4; simp [e9]; done) | (rw [zmap_none] at c4; simp [c4])
  · skip
    refine zr_iconst (v := 1) d_K_canBe_7 (by decide) ?_
    refine zr_goto (tgt := 12) d_K_canBe_8 (by decide) ?_
    refine zr_retz d_K_canBe_12 rfl rfl (by decide) (by decide) ?_
    first | (have e9 := zmap_some c4; simp [e9]; done) | (rw [zmap_none] at c4; simp [c4])

set_option maxHeartbeats 4000000 in
set_option maxRecDepth 20000 in
theorem c_K_passesRow {G : yG} {μ : yW} {σ : zS} {o : Nat} (ho : o < zn σ) (hk : zkd σ o = 0) {t : Nat} (ht : t < 6)  : zCT G m_K_passesRow [yr (kP o), yr (10 + t)] σ μ (fun r σ' => r = some (yi (if zho σ o = some t ∧ ¬ zth σ 8 t = 2 then 1 else 0)) ∧ σ' = σ) := by
  refine zCT_of (by decide) rfl (ycat_of rfl) (Nat.le_of_ble_eq_true rfl) ?_
  refine zr_aload_n d_K_passesRow_0 rfl ?_
  refine zr_pho (c := 0) d_K_passesRow_1 (by first | assumption | omega) hk (by decide) sf_K_passesRow_1 ?_
  refine zr_aload_n d_K_passesRow_4 rfl ?_
  refine zr_acmp_ne (tgt := 20) d_K_passesRow_5 (by decide) (fun ω h => zlive_ho h (by assumption) (by assumption)) (fun c5 => ?_) (fun c5 => ?_)
  · skip
    refine zr_iconst (v := 0) d_K_passesRow_20 (by decide) ?_
    refine zr_retz d_K_passesRow_21 rfl rfl (by decide) (by decide) ?_
    simp_all [zmap_eq]
  · skip
    refine zr_aload_n d_K_passesRow_8 rfl ?_
    refine zr_tgeti d_K_passesRow_9 (by first | assumption | omega) sf_K_passesRow_9 rfl rfl ?_
    refine zr_iconst (v := 2) d_K_passesRow_12 (by decide) ?_
    refine zr_icmp_eq (tgt := 20) d_K_passesRow_13 (by decide) (fun c13 => ?_) (fun c13 => ?_)
    · skip
      refine zr_iconst (v := 0) d_K_passesRow_20 (by decide) ?_
      refine zr_retz d_K_passesRow_21 rfl rfl (by decide) (by decide) ?_
      simp_all [zmap_eq]
    · skip
      refine zr_iconst (v := 1) d_K_passesRow_16 (by decide) ?_
      refine zr_goto (tgt := 21) d_K_passesRow_17 (by decide) ?_
      refine zr_retz d_K_passesRow_21 rfl rfl (by decide) (by decide) ?_
      simp_all [zmap_eq]

set_option maxHeartbeats 4000000 in
set_option maxRecDepth 20000 in
theorem c_K_level {G : yG} {μ : yW} {σ : zS} {o : Nat} (ho : o < zn σ) (hk : zkd σ o = 0)  : zCT G m_K_level [yr (kP o)] σ μ (fun r σ' => r = some (yi (zpl σ 6 o)) ∧ σ' = σ) := by
  refine zCT_of (by decide) rfl (ycat_of rfl) (Nat.le_of_ble_eq_true rfl) ?_
  refine zr_aload_n d_K_level_0 rfl ?_
  refine zr_pgeti (c := 0) (f := 6) d_K_level_1 (by first | assumption | omega) hk sf_K_level_1 rfl rfl ?_
  exact zr_reti d_K_level_4 rfl (by decide) (by decide) ⟨rfl, rfl⟩

set_option maxHeartbeats 4000000 in
set_option maxRecDepth 20000 in
theorem c_K_leanedOn {G : yG} {μ : yW} {σ : zS} {o : Nat} (ho : o < zn σ) (hk : zkd σ o = 0)  : zCT G m_K_leanedOn [yr (kP o)] σ μ (fun r σ' => r = some (yo ((zho σ o).map (10 + ·))) ∧ σ' = σ) := by
  refine zCT_of (by decide) rfl (ycat_of rfl) (Nat.le_of_ble_eq_true rfl) ?_
  refine zr_aload_n d_K_leanedOn_0 rfl ?_
  refine zr_pho (c := 0) d_K_leanedOn_1 (by first | assumption | omega) hk (by decide) sf_K_leanedOn_1 ?_
  exact zr_reta d_K_leanedOn_4 rfl (Or.inl ⟨_, rfl⟩) (by decide) (by decide) ⟨rfl, rfl⟩

set_option maxHeartbeats 4000000 in
set_option maxRecDepth 20000 in
theorem c_K_condition {G : yG} {μ : yW} {σ : zS} {o : Nat} {x : Int32} (ho : o < zn σ) (hk : zkd σ o = 0)  : zCT G m_K_condition [yr (kP o), yi x] σ μ (fun r σ' => r = some (yr (kR (if x = 0 then 1 else 2) o)) ∧ σ' = σ) := by
  refine zCT_of (by decide) rfl (ycat_of rfl) (Nat.le_of_ble_eq_true rfl) ?_
  refine zr_iload_n d_K_condition_0 rfl ?_
  refine zr_if_ne (tgt := 11) d_K_condition_1 (by decide) (fun c1 => ?_) (fun c1 => ?_)
  · skip
    refine zr_aload_n d_K_condition_11 rfl ?_
    refine zr_pc1 d_K_condition_12 (by first | assumption | omega) hk sf_K_condition_12 ?_
    refine zr_reta d_K_condition_15 rfl (Or.inl ⟨_, rfl⟩) (by decide) (by decide) ?_
    simp [c1]
  · skip
    refine zr_aload_n d_K_condition_4 rfl ?_
    refine zr_pc0 d_K_condition_5 (by first | assumption | omega) hk sf_K_condition_5 ?_
    refine zr_goto (tgt := 15) d_K_condition_8 (by decide) ?_
    refine zr_reta d_K_condition_15 rfl (Or.inl ⟨_, rfl⟩) (by decide) (by decide) ?_
    simp [c1]

set_option maxHeartbeats 4000000 in
set_option maxRecDepth 20000 in
theorem c_K_leaveOnce {G : yG} {μ : yW} {σ : zS} {o : Nat} (ho : o < zn σ) (hk : zkd σ o = 0)  : zCT G m_K_leaveOnce [yr (kP o)] σ μ (fun r σ' => r = none ∧ σ' = zleave σ o) := by
  refine zCT_of (by decide) rfl (ycat_of rfl) (Nat.le_of_ble_eq_true rfl) ?_
  refine zr_aload_n d_K_leaveOnce_0 rfl ?_
  refine zr_dup d_K_leaveOnce_1 (fun _ => rfl) ?_
  refine zr_pgeti (c := 0) (f := 6) d_K_leaveOnce_2 (by first | assumption | omega) hk sf_K_leaveOnce_2 rfl rfl ?_
  refine zr_iconst (v := 1) d_K_leaveOnce_5 (by decide) ?_
  refine zr_isub d_K_leaveOnce_6 ?_
  refine zr_pputi (c := 0) (f := 6) d_K_leaveOnce_7 (by first | assumption | omega) hk sf_K_leaveOnce_7 rfl rfl (by decide) rfl ⟨rfl, rfl⟩ ?_
  refine zr_aload_n d_K_leaveOnce_10 rfl ?_
  refine zr_pgeti (c := 0) (f := 6) d_K_leaveOnce_11 (by first | assumption | omega) hk sf_K_leaveOnce_11 rfl rfl ?_
  refine zr_if_ne (tgt := 22) d_K_leaveOnce_14 (by decide) (fun c14 => ?_) (fun c14 => ?_)
  · skip
    refine zr_retv d_K_leaveOnce_22 rfl (by decide) (by decide) ?_
    rw [zpl_same] at c14
    exact ⟨rfl, by simp [zleave, c14]⟩
  · skip
    refine zr_aload_n d_K_leaveOnce_17 rfl ?_
    refine zr_null d_K_leaveOnce_18 ?_
    refine zr_pputho (c := 0) (x := none) d_K_leaveOnce_19 (by assumption) hk (by decide) sf_K_leaveOnce_19 (fun _ h => nomatch h) ?_
    refine zr_retv d_K_leaveOnce_22 rfl (by decide) (by decide) ?_
    rw [zpl_same] at c14
    exact ⟨rfl, by simp [zleave, c14]⟩

set_option maxHeartbeats 4000000 in
set_option maxRecDepth 20000 in
theorem c_B_allows {G : yG} {μ : yW} {σ : zS} {o : Nat} {a g : Int32} (ho : o < zn σ) (hk : zkd σ o = 1) {t : Nat} (ht : t < 6)  : zCT G m_B_allows [yr (kP o), yr (10 + t), yi a, yi g] σ μ (fun r σ' => r = some (yi (if a = 6 then (if 0 < zrd σ o t then 1 else 0) else if a = 8 then (if zho σ o = some t then 1 else 0) else 1)) ∧ σ' = σ) := by
  refine zCT_of (by decide) rfl (ycat_of rfl) (Nat.le_of_ble_eq_true rfl) ?_
  refine zr_iload_n d_B_allows_0 rfl ?_
  by_cases c6 : a = 6
  · refine zr_look (off := 27) (tgt := 28) d_B_allows_1 (by decide) (by rw [c6]; decide) (by decide) ?_
    refine zr_aload_n d_B_allows_28 rfl ?_
    refine zr_prds d_B_allows_29 (by first | assumption | omega) hk sf_B_allows_29 ?_
    refine zr_aload_n d_B_allows_32 rfl ?_
    refine zr_tnum d_B_allows_33 (by first | assumption | omega) sf_B_allows_33 ?_
    refine zr_rdld d_B_allows_36 (by assumption) hk ht rfl ?_
    refine zr_if_le (tgt := 44) d_B_allows_37 (by decide) (fun c37 => ?_) (fun c37 => ?_)
    · skip
      refine zr_iconst (v := 0) d_B_allows_44 (by decide) ?_
      refine zr_retz d_B_allows_45 rfl rfl (by decide) (by decide) ?_
      simp_all
    · skip
      refine zr_iconst (v := 1) d_B_allows_40 (by decide) ?_
      refine zr_goto (tgt := 45) d_B_allows_41 (by decide) ?_
      refine zr_retz d_B_allows_45 rfl rfl (by decide) (by decide) ?_
      simp_all
  · by_cases c8 : a = 8
    · refine zr_look (off := 45) (tgt := 46) d_B_allows_1 (by decide) (by rw [c8]; decide) (by decide) ?_
      refine zr_aload_n d_B_allows_46 rfl ?_
      refine zr_pho (c := 1) d_B_allows_47 (by first | assumption | omega) hk (by decide) sf_B_allows_47 ?_
      refine zr_aload_n d_B_allows_50 rfl ?_
      refine zr_acmp_ne (tgt := 58) d_B_allows_51 (by decide) (fun ω h => zlive_ho h (by assumption) (by assumption)) (fun c51 => ?_) (fun c51 => ?_)
      · skip
        refine zr_iconst (v := 0) d_B_allows_58 (by decide) ?_
        refine zr_retz d_B_allows_59 rfl rfl (by decide) (by decide) ?_
        simp_all [zmap_eq]
      · skip
        refine zr_iconst (v := 1) d_B_allows_54 (by decide) ?_
        refine zr_goto (tgt := 59) d_B_allows_55 (by decide) ?_
        refine zr_retz d_B_allows_59 rfl rfl (by decide) (by decide) ?_
        simp_all [zmap_eq]
    · refine zr_look (off := 59) (tgt := 60) d_B_allows_1 (by decide) ((lv_osw c6 (by decide)).trans ((lv_osw c8 (by decide)).trans rfl)) (by decide) ?_
      refine zr_iconst (v := 1) d_B_allows_60 (by decide) ?_
      refine zr_retz d_B_allows_61 rfl rfl (by decide) (by decide) ?_
      simp_all

set_option maxHeartbeats 4000000 in
set_option maxRecDepth 20000 in
theorem c_B_passesRow {G : yG} {μ : yW} {σ : zS} {o : Nat} (ho : o < zn σ) (hk : zkd σ o = 1) {t : Nat} (ht : t < 6)  : zCT G m_B_passesRow [yr (kP o), yr (10 + t)] σ μ (fun r σ' => r = some (yi (if zho σ o = some t ∨ zth σ 8 t = 6 then 1 else 0)) ∧ σ' = σ) := by
  refine zCT_of (by decide) rfl (ycat_of rfl) (Nat.le_of_ble_eq_true rfl) ?_
  refine zr_aload_n d_B_passesRow_0 rfl ?_
  refine zr_pho (c := 1) d_B_passesRow_1 (by first | assumption | omega) hk (by decide) sf_B_passesRow_1 ?_
  refine zr_aload_n d_B_passesRow_4 rfl ?_
  refine zr_acmp_eq (tgt := 17) d_B_passesRow_5 (by decide) (fun ω h => zlive_ho h (by assumption) (by assumption)) (fun c5 => ?_) (fun c5 => ?_)
  · skip
    refine zr_iconst (v := 1) d_B_passesRow_17 (by decide) ?_
    refine zr_goto (tgt := 22) d_B_passesRow_18 (by decide) ?_
    refine zr_retz d_B_passesRow_22 rfl rfl (by decide) (by decide) ?_
    simp_all [zmap_eq]
  · skip
    refine zr_aload_n d_B_passesRow_8 rfl ?_
    refine zr_tgeti d_B_passesRow_9 (by first | assumption | omega) sf_B_passesRow_9 rfl rfl ?_
    refine zr_bipush (v := 6) d_B_passesRow_12 (by decide) ?_
    refine zr_icmp_ne (tgt := 21) d_B_passesRow_14 (by decide) (fun c14 => ?_) (fun c14 => ?_)
    · skip
      refine zr_iconst (v := 0) d_B_passesRow_21 (by decide) ?_
      refine zr_retz d_B_passesRow_22 rfl rfl (by decide) (by decide) ?_
      simp_all [zmap_eq]
    · skip
      refine zr_iconst (v := 1) d_B_passesRow_17 (by decide) ?_
      refine zr_goto (tgt := 22) d_B_passesRow_18 (by decide) ?_
      refine zr_retz d_B_passesRow_22 rfl rfl (by decide) (by decide) ?_
      simp_all [zmap_eq]

set_option maxHeartbeats 4000000 in
set_option maxRecDepth 20000 in
theorem c_B_level {G : yG} {μ : yW} {σ : zS} {o : Nat} (ho : o < zn σ) (hk : zkd σ o = 1)  : zCT G m_B_level [yr (kP o)] σ μ (fun r σ' => r = some (yi (zpl σ 6 o)) ∧ σ' = σ) := by
  refine zCT_of (by decide) rfl (ycat_of rfl) (Nat.le_of_ble_eq_true rfl) ?_
  refine zr_aload_n d_B_level_0 rfl ?_
  refine zr_pgeti (c := 1) (f := 6) d_B_level_1 (by first | assumption | omega) hk sf_B_level_1 rfl rfl ?_
  exact zr_reti d_B_level_4 rfl (by decide) (by decide) ⟨rfl, rfl⟩

set_option maxHeartbeats 4000000 in
set_option maxRecDepth 20000 in
theorem c_B_timesRead {G : yG} {μ : yW} {σ : zS} {o : Nat} (ho : o < zn σ) (hk : zkd σ o = 1)  : zCT G m_B_timesRead [yr (kP o)] σ μ (fun r σ' => r = some (yi (zpl σ 4 o)) ∧ σ' = σ) := by
  refine zCT_of (by decide) rfl (ycat_of rfl) (Nat.le_of_ble_eq_true rfl) ?_
  refine zr_aload_n d_B_timesRead_0 rfl ?_
  refine zr_pgeti (c := 1) (f := 4) d_B_timesRead_1 (by first | assumption | omega) hk sf_B_timesRead_1 rfl rfl ?_
  exact zr_reti d_B_timesRead_4 rfl (by decide) (by decide) ⟨rfl, rfl⟩

set_option maxHeartbeats 4000000 in
set_option maxRecDepth 20000 in
theorem c_B_countReads {G : yG} {μ : yW} {σ : zS} {o : Nat} {x : Int32} (ho : o < zn σ) (hk : zkd σ o = 1) {t : Nat} (ht : t < 6)  : zCT G m_B_countReads [yr (kP o), yr (10 + t), yi x] σ μ (fun r σ' => r = none ∧ σ' = zspl (zsrd σ o t (zrd σ o t + x)) 4 o (zpl σ 4 o + x)) := by
  refine zCT_of (by decide) rfl (ycat_of rfl) (Nat.le_of_ble_eq_true rfl) ?_
  refine zr_aload_n d_B_countReads_0 rfl ?_
  refine zr_prds d_B_countReads_1 (by first | assumption | omega) hk sf_B_countReads_1 ?_
  refine zr_aload_n d_B_countReads_4 rfl ?_
  refine zr_tnum d_B_countReads_5 (by first | assumption | omega) sf_B_countReads_5 ?_
  refine zr_dup2 d_B_countReads_8 (fun _ => rfl) (fun _ => rfl) ?_
  refine zr_rdld d_B_countReads_9 (by assumption) hk ht rfl ?_
  refine zr_iload_n d_B_countReads_10 rfl ?_
  refine zr_iadd d_B_countReads_11 ?_
  refine zr_rdst d_B_countReads_12 (by assumption) hk ht rfl ?_
  refine zr_aload_n d_B_countReads_13 rfl ?_
  refine zr_dup d_B_countReads_14 (fun _ => rfl) ?_
  refine zr_pgeti (c := 1) (f := 4) d_B_countReads_15 (by first | assumption | omega) hk sf_B_countReads_15 rfl rfl ?_
  refine zr_iload_n d_B_countReads_18 rfl ?_
  refine zr_iadd d_B_countReads_19 ?_
  refine zr_pputi (c := 1) (f := 4) d_B_countReads_20 (by first | assumption | omega) hk sf_B_countReads_20 rfl rfl (by decide) rfl ⟨rfl, rfl⟩ ?_
  exact zr_retv d_B_countReads_23 rfl (by decide) (by decide) ⟨rfl, rfl⟩

set_option maxHeartbeats 4000000 in
set_option maxRecDepth 20000 in
theorem c_B_closeWritingOnce {G : yG} {μ : yW} {σ : zS} {o : Nat} (ho : o < zn σ) (hk : zkd σ o = 1)  : zCT G m_B_closeWritingOnce [yr (kP o)] σ μ (fun r σ' => r = none ∧ σ' = zleave σ o) := by
  refine zCT_of (by decide) rfl (ycat_of rfl) (Nat.le_of_ble_eq_true rfl) ?_
  refine zr_aload_n d_B_closeWritingOnce_0 rfl ?_
  refine zr_dup d_B_closeWritingOnce_1 (fun _ => rfl) ?_
  refine zr_pgeti (c := 1) (f := 6) d_B_closeWritingOnce_2 (by first | assumption | omega) hk sf_B_closeWritingOnce_2 rfl rfl ?_
  refine zr_iconst (v := 1) d_B_closeWritingOnce_5 (by decide) ?_
  refine zr_isub d_B_closeWritingOnce_6 ?_
  refine zr_pputi (c := 1) (f := 6) d_B_closeWritingOnce_7 (by first | assumption | omega) hk sf_B_closeWritingOnce_7 rfl rfl (by decide) rfl ⟨rfl, rfl⟩ ?_
  refine zr_aload_n d_B_closeWritingOnce_10 rfl ?_
  refine zr_pgeti (c := 1) (f := 6) d_B_closeWritingOnce_11 (by first | assumption | omega) hk sf_B_closeWritingOnce_11 rfl rfl ?_
  refine zr_if_ne (tgt := 22) d_B_closeWritingOnce_14 (by decide) (fun c14 => ?_) (fun c14 => ?_)
  · skip
    refine zr_retv d_B_closeWritingOnce_22 rfl (by decide) (by decide) ?_
    rw [zpl_same] at c14
    exact ⟨rfl, by simp [zleave, c14]⟩
  · skip
    refine zr_aload_n d_B_closeWritingOnce_17 rfl ?_
    refine zr_null d_B_closeWritingOnce_18 ?_
    refine zr_pputho (c := 1) (x := none) d_B_closeWritingOnce_19 (by assumption) hk (by decide) sf_B_closeWritingOnce_19 (fun _ h => nomatch h) ?_
    refine zr_retv d_B_closeWritingOnce_22 rfl (by decide) (by decide) ?_
    rw [zpl_same] at c14
    exact ⟨rfl, by simp [zleave, c14]⟩

set_option maxHeartbeats 4000000 in
set_option maxRecDepth 20000 in
theorem c_S_allows {G : yG} {μ : yW} {σ : zS} {o : Nat} {a g : Int32} (ho : o < zn σ) (hk : zkd σ o = 2) {t : Nat} (ht : t < 6)  : zCT G m_S_allows [yr (kP o), yr (10 + t), yi a, yi g] σ μ (fun r σ' => r = some (yi (if ¬ a = 10 ∨ ¬ 50 < zpl σ 3 o + g then 1 else 0)) ∧ σ' = σ) := by
  refine zCT_of (by decide) rfl (ycat_of rfl) (Nat.le_of_ble_eq_true rfl) ?_
  refine zr_iload_n d_S_allows_0 rfl ?_
  refine zr_bipush (v := 10) d_S_allows_1 (by decide) ?_
  refine zr_icmp_ne (tgt := 17) d_S_allows_3 (by decide) (fun c3 => ?_) (fun c3 => ?_)
  · skip
    refine zr_iconst (v := 1) d_S_allows_17 (by decide) ?_
    refine zr_goto (tgt := 22) d_S_allows_18 (by decide) ?_
    refine zr_retz d_S_allows_22 rfl rfl (by decide) (by decide) ?_
    simp_all
  · skip
    refine zr_aload_n d_S_allows_6 rfl ?_
    refine zr_pgeti (c := 2) (f := 3) d_S_allows_7 (by first | assumption | omega) hk sf_S_allows_7 rfl rfl ?_
    refine zr_iload_n d_S_allows_10 rfl ?_
    refine zr_iadd d_S_allows_11 ?_
    refine zr_bipush (v := 50) d_S_allows_12 (by decide) ?_
    refine zr_icmp_gt (tgt := 21) d_S_allows_14 (by decide) (fun c14 => ?_) (fun c14 => ?_)
    · skip
      refine zr_iconst (v := 0) d_S_allows_21 (by decide) ?_
      refine zr_retz d_S_allows_22 rfl rfl (by decide) (by decide) ?_
      simp_all
    · skip
      refine zr_iconst (v := 1) d_S_allows_17 (by decide) ?_
      refine zr_goto (tgt := 22) d_S_allows_18 (by decide) ?_
      refine zr_retz d_S_allows_22 rfl rfl (by decide) (by decide) ?_
      simp_all

set_option maxHeartbeats 4000000 in
set_option maxRecDepth 20000 in
theorem c_S_canBe {G : yG} {μ : yW} {σ : zS} {o : Nat} (ho : o < zn σ) (hk : zkd σ o = 2) {t : Nat} (ht : t < 6)  : zCT G m_S_canBe [yr (kP o), yr (10 + t)] σ μ (fun r σ' => r = some (yi (if zpl σ 3 o < zth σ 9 t then 0 else 1)) ∧ σ' = σ) := by
  refine zCT_of (by decide) rfl (ycat_of rfl) (Nat.le_of_ble_eq_true rfl) ?_
  refine zr_aload_n d_S_canBe_0 rfl ?_
  refine zr_pgeti (c := 2) (f := 3) d_S_canBe_1 (by first | assumption | omega) hk sf_S_canBe_1 rfl rfl ?_
  refine zr_aload_n d_S_canBe_4 rfl ?_
  refine zr_tgeti d_S_canBe_5 (by first | assumption | omega) sf_S_canBe_5 rfl rfl ?_
  refine zr_icmp_lt (tgt := 15) d_S_canBe_8 (by decide) (fun c8 => ?_) (fun c8 => ?_)
  · skip
    refine zr_iconst (v := 0) d_S_canBe_15 (by decide) ?_
    refine zr_retz d_S_canBe_16 rfl rfl (by decide) (by decide) ?_
    simp [c8]
  · skip
    refine zr_iconst (v := 1) d_S_canBe_11 (by decide) ?_
    refine zr_goto (tgt := 16) d_S_canBe_12 (by decide) ?_
    refine zr_retz d_S_canBe_16 rfl rfl (by decide) (by decide) ?_
    simp [c8]

set_option maxHeartbeats 4000000 in
set_option maxRecDepth 20000 in
theorem c_S_passesRow {G : yG} {μ : yW} {σ : zS} {o : Nat} (ho : o < zn σ) (hk : zkd σ o = 2) {t : Nat} (ht : t < 6)  : zCT G m_S_passesRow [yr (kP o), yr (10 + t)] σ μ (fun r σ' => r = some (yi (if zth σ 8 t = 10 then 1 else 0)) ∧ σ' = σ) := by
  refine zCT_of (by decide) rfl (ycat_of rfl) (Nat.le_of_ble_eq_true rfl) ?_
  refine zr_aload_n d_S_passesRow_0 rfl ?_
  refine zr_tgeti d_S_passesRow_1 (by first | assumption | omega) sf_S_passesRow_1 rfl rfl ?_
  refine zr_bipush (v := 10) d_S_passesRow_4 (by decide) ?_
  refine zr_icmp_ne (tgt := 13) d_S_passesRow_6 (by decide) (fun c6 => ?_) (fun c6 => ?_)
  · skip
    refine zr_iconst (v := 0) d_S_passesRow_13 (by decide) ?_
    refine zr_retz d_S_passesRow_14 rfl rfl (by decide) (by decide) ?_
    simp [c6]
  · skip
    refine zr_iconst (v := 1) d_S_passesRow_9 (by decide) ?_
    refine zr_goto (tgt := 14) d_S_passesRow_10 (by decide) ?_
    refine zr_retz d_S_passesRow_14 rfl rfl (by decide) (by decide) ?_
    simp [c6]

set_option maxHeartbeats 4000000 in
set_option maxRecDepth 20000 in
theorem c_S_grant {G : yG} {μ : yW} {σ : zS} {o : Nat} (ho : o < zn σ) (hk : zkd σ o = 2) {t : Nat} (ht : t < 6)  : zCT G m_S_grant [yr (kP o), yr (10 + t)] σ μ (fun r σ' => r = none ∧ σ' = zspl σ 3 o (zpl σ 3 o + (if zth σ 8 t = 10 then zth σ 9 t else -(zth σ 9 t)))) := by
  refine zCT_of (by decide) rfl (ycat_of rfl) (Nat.le_of_ble_eq_true rfl) ?_
  refine zr_aload_n d_S_grant_0 rfl ?_
  refine zr_dup d_S_grant_1 (fun _ => rfl) ?_
  refine zr_pgeti (c := 2) (f := 3) d_S_grant_2 (by first | assumption | omega) hk sf_S_grant_2 rfl rfl ?_
  refine zr_aload_n d_S_grant_5 rfl ?_
  refine zr_tgeti d_S_grant_6 (by first | assumption | omega) sf_S_grant_6 rfl rfl ?_
  refine zr_bipush (v := 10) d_S_grant_9 (by decide) ?_
  refine zr_icmp_ne (tgt := 21) d_S_grant_11 (by decide) (fun c11 => ?_) (fun c11 => ?_)
  · skip
    refine zr_aload_n d_S_grant_21 rfl ?_
    refine zr_tgeti d_S_grant_22 (by first | assumption | omega) sf_S_grant_22 rfl rfl ?_
    refine zr_ineg d_S_grant_25 ?_
    refine zr_iadd d_S_grant_26 ?_
    refine zr_pputi (c := 2) (f := 3) d_S_grant_27 (by first | assumption | omega) hk sf_S_grant_27 rfl rfl (by decide) rfl ⟨rfl, rfl⟩ ?_
    refine zr_retv d_S_grant_30 rfl (by decide) (by decide) ?_
    simp [c11]
  · skip
    refine zr_aload_n d_S_grant_14 rfl ?_
    refine zr_tgeti d_S_grant_15 (by first | assumption | omega) sf_S_grant_15 rfl rfl ?_
    refine zr_goto (tgt := 26) d_S_grant_18 (by decide) ?_
    refine zr_iadd d_S_grant_26 ?_
    refine zr_pputi (c := 2) (f := 3) d_S_grant_27 (by first | assumption | omega) hk sf_S_grant_27 rfl rfl (by decide) rfl ⟨rfl, rfl⟩ ?_
    refine zr_retv d_S_grant_30 rfl (by decide) (by decide) ?_
    simp [c11]

set_option maxHeartbeats 4000000 in
set_option maxRecDepth 20000 in
theorem c_S_level {G : yG} {μ : yW} {σ : zS} {o : Nat} (ho : o < zn σ) (hk : zkd σ o = 2)  : zCT G m_S_level [yr (kP o)] σ μ (fun r σ' => r = some (yi (zpl σ 3 o)) ∧ σ' = σ) := by
  refine zCT_of (by decide) rfl (ycat_of rfl) (Nat.le_of_ble_eq_true rfl) ?_
  refine zr_aload_n d_S_level_0 rfl ?_
  refine zr_pgeti (c := 2) (f := 3) d_S_level_1 (by first | assumption | omega) hk sf_S_level_1 rfl rfl ?_
  exact zr_reti d_S_level_4 rfl (by decide) (by decide) ⟨rfl, rfl⟩

set_option maxHeartbeats 4000000 in
set_option maxRecDepth 20000 in
theorem c_L_canBe {G : yG} {μ : yW} {σ : zS} {o : Nat} (ho : o < zn σ) (hk : zkd σ o = 3) {t : Nat} (ht : t < 6)  : zCT G m_L_canBe [yr (kP o), yr (10 + t)] σ μ (fun r σ' => r = some (yi (if zpl σ 3 o = 0 then 1 else 0)) ∧ σ' = σ) := by
  refine zCT_of (by decide) rfl (ycat_of rfl) (Nat.le_of_ble_eq_true rfl) ?_
  refine zr_aload_n d_L_canBe_0 rfl ?_
  refine zr_pgeti (c := 3) (f := 3) d_L_canBe_1 (by first | assumption | omega) hk sf_L_canBe_1 rfl rfl ?_
  refine zr_if_ne (tgt := 11) d_L_canBe_4 (by decide) (fun c4 => ?_) (fun c4 => ?_)
  · skip
    refine zr_iconst (v := 0) d_L_canBe_11 (by decide) ?_
    refine zr_retz d_L_canBe_12 rfl rfl (by decide) (by decide) ?_
    simp [c4]
  · skip
    refine zr_iconst (v := 1) d_L_canBe_7 (by decide) ?_
    refine zr_goto (tgt := 12) d_L_canBe_8 (by decide) ?_
    refine zr_retz d_L_canBe_12 rfl rfl (by decide) (by decide) ?_
    simp [c4]

set_option maxHeartbeats 4000000 in
set_option maxRecDepth 20000 in
theorem c_L_passesRow {G : yG} {μ : yW} {σ : zS} {o : Nat} (ho : o < zn σ) (hk : zkd σ o = 3) {t : Nat} (ht : t < 6)  : zCT G m_L_passesRow [yr (kP o), yr (10 + t)] σ μ (fun r σ' => r = some (yi (if zth σ 8 t = 12 then 1 else 0)) ∧ σ' = σ) := by
  refine zCT_of (by decide) rfl (ycat_of rfl) (Nat.le_of_ble_eq_true rfl) ?_
  refine zr_aload_n d_L_passesRow_0 rfl ?_
  refine zr_tgeti d_L_passesRow_1 (by first | assumption | omega) sf_L_passesRow_1 rfl rfl ?_
  refine zr_bipush (v := 12) d_L_passesRow_4 (by decide) ?_
  refine zr_icmp_ne (tgt := 13) d_L_passesRow_6 (by decide) (fun c6 => ?_) (fun c6 => ?_)
  · skip
    refine zr_iconst (v := 0) d_L_passesRow_13 (by decide) ?_
    refine zr_retz d_L_passesRow_14 rfl rfl (by decide) (by decide) ?_
    simp [c6]
  · skip
    refine zr_iconst (v := 1) d_L_passesRow_9 (by decide) ?_
    refine zr_goto (tgt := 14) d_L_passesRow_10 (by decide) ?_
    refine zr_retz d_L_passesRow_14 rfl rfl (by decide) (by decide) ?_
    simp [c6]

set_option maxHeartbeats 4000000 in
set_option maxRecDepth 20000 in
theorem c_L_grant {G : yG} {μ : yW} {σ : zS} {o : Nat} (ho : o < zn σ) (hk : zkd σ o = 3) {t : Nat} (ht : t < 6)  : zCT G m_L_grant [yr (kP o), yr (10 + t)] σ μ (fun r σ' => r = none ∧ σ' = (if zth σ 8 t = 12 ∧ ¬ zpl σ 3 o ≤ 0 then zspl σ 3 o (zpl σ 3 o - 1) else σ)) := by
  refine zCT_of (by decide) rfl (ycat_of rfl) (Nat.le_of_ble_eq_true rfl) ?_
  refine zr_aload_n d_L_grant_0 rfl ?_
  refine zr_tgeti d_L_grant_1 (by first | assumption | omega) sf_L_grant_1 rfl rfl ?_
  refine zr_bipush (v := 12) d_L_grant_4 (by decide) ?_
  refine zr_icmp_ne (tgt := 26) d_L_grant_6 (by decide) (fun c6 => ?_) (fun c6 => ?_)
  · skip
    refine zr_retv d_L_grant_26 rfl (by decide) (by decide) ?_
    simp [*]
  · skip
    refine zr_aload_n d_L_grant_9 rfl ?_
    refine zr_pgeti (c := 3) (f := 3) d_L_grant_10 (by first | assumption | omega) hk sf_L_grant_10 rfl rfl ?_
    refine zr_if_le (tgt := 26) d_L_grant_13 (by decide) (fun c13 => ?_) (fun c13 => ?_)
    · skip
      refine zr_retv d_L_grant_26 rfl (by decide) (by decide) ?_
      simp [*]
    · skip
      refine zr_aload_n d_L_grant_16 rfl ?_
      refine zr_dup d_L_grant_17 (fun _ => rfl) ?_
      refine zr_pgeti (c := 3) (f := 3) d_L_grant_18 (by first | assumption | omega) hk sf_L_grant_18 rfl rfl ?_
      refine zr_iconst (v := 1) d_L_grant_21 (by decide) ?_
      refine zr_isub d_L_grant_22 ?_
      refine zr_pputi (c := 3) (f := 3) d_L_grant_23 (by first | assumption | omega) hk sf_L_grant_23 rfl rfl (by decide) rfl ⟨rfl, rfl⟩ ?_
      refine zr_retv d_L_grant_26 rfl (by decide) (by decide) ?_
      simp [*]

set_option maxHeartbeats 4000000 in
set_option maxRecDepth 20000 in
theorem c_L_level {G : yG} {μ : yW} {σ : zS} {o : Nat} (ho : o < zn σ) (hk : zkd σ o = 3)  : zCT G m_L_level [yr (kP o)] σ μ (fun r σ' => r = some (yi (zpl σ 3 o)) ∧ σ' = σ) := by
  refine zCT_of (by decide) rfl (ycat_of rfl) (Nat.le_of_ble_eq_true rfl) ?_
  refine zr_aload_n d_L_level_0 rfl ?_
  refine zr_pgeti (c := 3) (f := 3) d_L_level_1 (by first | assumption | omega) hk sf_L_level_1 rfl rfl ?_
  exact zr_reti d_L_level_4 rfl (by decide) (by decide) ⟨rfl, rfl⟩

set_option maxHeartbeats 4000000 in
set_option maxRecDepth 20000 in
theorem c_A_refuses {G : yG} {μ : yW} {σ : zS} {o : Nat} (ho : o < zn σ) (hk : zkd σ o = 4) {t : Nat} (ht : t < 6)  : zCT G m_A_refuses [yr (kP o), yr (10 + t)] σ μ (fun r σ' => r = some (yi (if zth σ 8 t = 13 ∧ ¬ zpl σ 4 o = 0 then 1 else 0)) ∧ σ' = σ) := by
  refine zCT_of (by decide) rfl (ycat_of rfl) (Nat.le_of_ble_eq_true rfl) ?_
  refine zr_aload_n d_A_refuses_0 rfl ?_
  refine zr_tgeti d_A_refuses_1 (by first | assumption | omega) sf_A_refuses_1 rfl rfl ?_
  refine zr_bipush (v := 13) d_A_refuses_4 (by decide) ?_
  refine zr_icmp_ne (tgt := 20) d_A_refuses_6 (by decide) (fun c6 => ?_) (fun c6 => ?_)
  · skip
    refine zr_iconst (v := 0) d_A_refuses_20 (by decide) ?_
    refine zr_retz d_A_refuses_21 rfl rfl (by decide) (by decide) ?_
    simp [*]
  · skip
    refine zr_aload_n d_A_refuses_9 rfl ?_
    refine zr_pgeti (c := 4) (f := 4) d_A_refuses_10 (by first | assumption | omega) hk sf_A_refuses_10 rfl rfl ?_
    refine zr_if_eq (tgt := 20) d_A_refuses_13 (by decide) (fun c13 => ?_) (fun c13 => ?_)
    · skip
      refine zr_iconst (v := 0) d_A_refuses_20 (by decide) ?_
      refine zr_retz d_A_refuses_21 rfl rfl (by decide) (by decide) ?_
      simp [*]
    · skip
      refine zr_iconst (v := 1) d_A_refuses_16 (by decide) ?_
      refine zr_goto (tgt := 21) d_A_refuses_17 (by decide) ?_
      refine zr_retz d_A_refuses_21 rfl rfl (by decide) (by decide) ?_
      simp [*]

set_option maxHeartbeats 4000000 in
set_option maxRecDepth 20000 in
theorem c_A_canBe {G : yG} {μ : yW} {σ : zS} {o : Nat} (ho : o < zn σ) (hk : zkd σ o = 4) {t : Nat} (ht : t < 6)  : zCT G m_A_canBe [yr (kP o), yr (10 + t)] σ μ (fun r σ' => r = some (yi 0) ∧ σ' = σ) := by
  refine zCT_of (by decide) rfl (ycat_of rfl) (Nat.le_of_ble_eq_true rfl) ?_
  refine zr_iconst (v := 0) d_A_canBe_0 (by decide) ?_
  exact zr_retz d_A_canBe_1 rfl rfl (by decide) (by decide) ⟨rfl, rfl⟩

set_option maxHeartbeats 4000000 in
set_option maxRecDepth 20000 in
theorem c_A_passesRow {G : yG} {μ : yW} {σ : zS} {o : Nat} (ho : o < zn σ) (hk : zkd σ o = 4) (hv : zrv σ 0 o) {t : Nat} (ht : t < 6)  : zCT G m_A_passesRow [yr (kP o), yr (10 + t)] σ μ (fun r σ' => r = some (yi (if zth σ 8 t = 14 ∨ ¬ nI (zrw σ 0 o).length + 1 < nI (zcp σ o) then 1 else 0)) ∧ σ' = σ) := by
  refine zCT_of (by decide) rfl (ycat_of rfl) (Nat.le_of_ble_eq_true rfl) ?_
  refine zr_aload_n d_A_passesRow_0 rfl ?_
  refine zr_tgeti d_A_passesRow_1 (by first | assumption | omega) sf_A_passesRow_1 rfl rfl ?_
  refine zr_bipush (v := 14) d_A_passesRow_4 (by decide) ?_
  refine zr_icmp_eq (tgt := 25) d_A_passesRow_6 (by decide) (fun c6 => ?_) (fun c6 => ?_)
  · skip
    refine zr_iconst (v := 1) d_A_passesRow_25 (by decide) ?_
    refine zr_goto (tgt := 30) d_A_passesRow_26 (by decide) ?_
    refine zr_retz d_A_passesRow_30 rfl rfl (by decide) (by decide) ?_
    simp [*]
  · skip
    refine zr_aload_n d_A_passesRow_9 rfl ?_
    refine zr_prow' (c := 4) d_A_passesRow_10 (by first | assumption | omega) hk (by decide) sf_A_passesRow_10 ?_
    refine zr_rlen d_A_passesRow_13 (by assumption) sf_A_passesRow_13 ?_
    refine zr_iconst (v := 1) d_A_passesRow_16 (by decide) ?_
    refine zr_iadd d_A_passesRow_17 ?_
    refine zr_aload_n d_A_passesRow_18 rfl ?_
    refine zr_psize d_A_passesRow_19 (by first | assumption | omega) hk sf_A_passesRow_19 ?_
    refine zr_icmp_lt (tgt := 29) d_A_passesRow_22 (by decide) (fun c22 => ?_) (fun c22 => ?_)
    · skip
      refine zr_iconst (v := 0) d_A_passesRow_29 (by decide) ?_
      refine zr_retz d_A_passesRow_30 rfl rfl (by decide) (by decide) ?_
      simp [*]
    · skip
      refine zr_iconst (v := 1) d_A_passesRow_25 (by decide) ?_
      refine zr_goto (tgt := 30) d_A_passesRow_26 (by decide) ?_
      refine zr_retz d_A_passesRow_30 rfl rfl (by decide) (by decide) ?_
      simp [*]

set_option maxHeartbeats 4000000 in
set_option maxRecDepth 20000 in
theorem c_A_level {G : yG} {μ : yW} {σ : zS} {o : Nat} (ho : o < zn σ) (hk : zkd σ o = 4) (hv : zrv σ 0 o)  : zCT G m_A_level [yr (kP o)] σ μ (fun r σ' => r = some (yi (nI (zrw σ 0 o).length)) ∧ σ' = σ) := by
  refine zCT_of (by decide) rfl (ycat_of rfl) (Nat.le_of_ble_eq_true rfl) ?_
  refine zr_aload_n d_A_level_0 rfl ?_
  refine zr_prow' (c := 4) d_A_level_1 (by first | assumption | omega) hk (by decide) sf_A_level_1 ?_
  refine zr_rlen d_A_level_4 (by assumption) sf_A_level_4 ?_
  exact zr_reti d_A_level_7 rfl (by decide) (by decide) ⟨rfl, rfl⟩

set_option maxHeartbeats 4000000 in
set_option maxRecDepth 20000 in
theorem c_A_isBroken {G : yG} {μ : yW} {σ : zS} {o : Nat} (ho : o < zn σ) (hk : zkd σ o = 4) (hb : narrow .boolean (.int (zpl σ 4 o)) = .int (zpl σ 4 o))  : zCT G m_A_isBroken [yr (kP o)] σ μ (fun r σ' => r = some (yi (zpl σ 4 o)) ∧ σ' = σ) := by
  refine zCT_of (by decide) rfl (ycat_of rfl) (Nat.le_of_ble_eq_true rfl) ?_
  refine zr_aload_n d_A_isBroken_0 rfl ?_
  refine zr_pgeti (c := 4) (f := 4) d_A_isBroken_1 (by first | assumption | omega) hk sf_A_isBroken_1 rfl rfl ?_
  exact zr_retz d_A_isBroken_4 rfl hb (by decide) (by decide) ⟨rfl, rfl⟩

set_option maxHeartbeats 4000000 in
set_option maxRecDepth 20000 in
theorem c_Q_sortOf {G : yG} {μ : yW} {σ : zS} {o : Nat} {x : Int32} (ho : o < zn σ) (hk : zkd σ o = 5)  : zCT G m_Q_sortOf [yr (kP o), yi x] σ μ (fun r σ' => r = some (yi (if x = 16 then 1 else 0)) ∧ σ' = σ) := by
  refine zCT_of (by decide) rfl (ycat_of rfl) (Nat.le_of_ble_eq_true rfl) ?_
  refine zr_iload_n d_Q_sortOf_0 rfl ?_
  refine zr_bipush (v := 16) d_Q_sortOf_1 (by decide) ?_
  refine zr_icmp_ne (tgt := 10) d_Q_sortOf_3 (by decide) (fun c3 => ?_) (fun c3 => ?_)
  · skip
    refine zr_iconst (v := 0) d_Q_sortOf_10 (by decide) ?_
    refine zr_reti d_Q_sortOf_11 rfl (by decide) (by decide) ?_
    simp [c3]
  · skip
    refine zr_iconst (v := 1) d_Q_sortOf_6 (by decide) ?_
    refine zr_goto (tgt := 11) d_Q_sortOf_7 (by decide) ?_
    refine zr_reti d_Q_sortOf_11 rfl (by decide) (by decide) ?_
    simp [c3]

set_option maxHeartbeats 4000000 in
set_option maxRecDepth 20000 in
theorem c_Q_passesRow {G : yG} {μ : yW} {σ : zS} {o : Nat} (ho : o < zn σ) (hk : zkd σ o = 5) {t : Nat} (ht : t < 6)  : zCT G m_Q_passesRow [yr (kP o), yr (10 + t)] σ μ (fun r σ' => r = some (yi 0) ∧ σ' = σ) := by
  refine zCT_of (by decide) rfl (ycat_of rfl) (Nat.le_of_ble_eq_true rfl) ?_
  refine zr_iconst (v := 0) d_Q_passesRow_0 (by decide) ?_
  exact zr_retz d_Q_passesRow_1 rfl rfl (by decide) (by decide) ⟨rfl, rfl⟩

set_option maxHeartbeats 4000000 in
set_option maxRecDepth 20000 in
theorem c_P_allows {G : yG} {μ : yW} {σ : zS} {o : Nat} {a g : Int32} (ho : o < zn σ) {t : Nat} (ht : t < 6)  : zCT G m_P_allows [yr (kP o), yr (10 + t), yi a, yi g] σ μ (fun r σ' => r = some (yi 1) ∧ σ' = σ) := by
  refine zCT_of (by decide) rfl (ycat_of rfl) (Nat.le_of_ble_eq_true rfl) ?_
  refine zr_iconst (v := 1) d_P_allows_0 (by decide) ?_
  exact zr_retz d_P_allows_1 rfl rfl (by decide) (by decide) ⟨rfl, rfl⟩

set_option maxHeartbeats 4000000 in
set_option maxRecDepth 20000 in
theorem c_P_refuses {G : yG} {μ : yW} {σ : zS} {o : Nat} (ho : o < zn σ) {t : Nat} (ht : t < 6)  : zCT G m_P_refuses [yr (kP o), yr (10 + t)] σ μ (fun r σ' => r = some (yi 0) ∧ σ' = σ) := by
  refine zCT_of (by decide) rfl (ycat_of rfl) (Nat.le_of_ble_eq_true rfl) ?_
  refine zr_iconst (v := 0) d_P_refuses_0 (by decide) ?_
  exact zr_retz d_P_refuses_1 rfl rfl (by decide) (by decide) ⟨rfl, rfl⟩

set_option maxHeartbeats 4000000 in
set_option maxRecDepth 20000 in
theorem c_P_sortOf {G : yG} {μ : yW} {σ : zS} {o : Nat} {a : Int32} (ho : o < zn σ)  : zCT G m_P_sortOf [yr (kP o), yi a] σ μ (fun r σ' => r = some (yi 0) ∧ σ' = σ) := by
  refine zCT_of (by decide) rfl (ycat_of rfl) (Nat.le_of_ble_eq_true rfl) ?_
  refine zr_iconst (v := 0) d_P_sortOf_0 (by decide) ?_
  exact zr_reti d_P_sortOf_1 rfl (by decide) (by decide) ⟨rfl, rfl⟩

set_option maxHeartbeats 4000000 in
set_option maxRecDepth 20000 in
theorem c_P_owner {G : yG} {μ : yW} {σ : zS} {o : Nat} (ho : o < zn σ)  : zCT G m_P_owner [yr (kP o)] σ μ (fun r σ' => r = some (yi 0) ∧ σ' = σ) := by
  refine zCT_of (by decide) rfl (ycat_of rfl) (Nat.le_of_ble_eq_true rfl) ?_
  refine zr_iconst (v := 0) d_P_owner_0 (by decide) ?_
  exact zr_reti d_P_owner_1 rfl (by decide) (by decide) ⟨rfl, rfl⟩

set_option maxHeartbeats 4000000 in
set_option maxRecDepth 20000 in
theorem c_P_waitersAt {G : yG} {μ : yW} {σ : zS} {o : Nat} {a : Int32} (ho : o < zn σ)  : zCT G m_P_waitersAt [yr (kP o), yi a] σ μ (fun r σ' => r = some (yi 0) ∧ σ' = σ) := by
  refine zCT_of (by decide) rfl (ycat_of rfl) (Nat.le_of_ble_eq_true rfl) ?_
  refine zr_iconst (v := 0) d_P_waitersAt_0 (by decide) ?_
  exact zr_reti d_P_waitersAt_1 rfl (by decide) (by decide) ⟨rfl, rfl⟩

set_option maxHeartbeats 4000000 in
set_option maxRecDepth 20000 in
theorem c_P_timesRead {G : yG} {μ : yW} {σ : zS} {o : Nat} (ho : o < zn σ)  : zCT G m_P_timesRead [yr (kP o)] σ μ (fun r σ' => r = some (yi 0) ∧ σ' = σ) := by
  refine zCT_of (by decide) rfl (ycat_of rfl) (Nat.le_of_ble_eq_true rfl) ?_
  refine zr_iconst (v := 0) d_P_timesRead_0 (by decide) ?_
  exact zr_reti d_P_timesRead_1 rfl (by decide) (by decide) ⟨rfl, rfl⟩

set_option maxHeartbeats 4000000 in
set_option maxRecDepth 20000 in
theorem c_P_isBroken {G : yG} {μ : yW} {σ : zS} {o : Nat} (ho : o < zn σ)  : zCT G m_P_isBroken [yr (kP o)] σ μ (fun r σ' => r = some (yi 0) ∧ σ' = σ) := by
  refine zCT_of (by decide) rfl (ycat_of rfl) (Nat.le_of_ble_eq_true rfl) ?_
  refine zr_iconst (v := 0) d_P_isBroken_0 (by decide) ?_
  exact zr_retz d_P_isBroken_1 rfl rfl (by decide) (by decide) ⟨rfl, rfl⟩

set_option maxHeartbeats 4000000 in
set_option maxRecDepth 20000 in
theorem c_P_leanedOn {G : yG} {μ : yW} {σ : zS} {o : Nat} (ho : o < zn σ)  : zCT G m_P_leanedOn [yr (kP o)] σ μ (fun r σ' => r = some (yn) ∧ σ' = σ) := by
  refine zCT_of (by decide) rfl (ycat_of rfl) (Nat.le_of_ble_eq_true rfl) ?_
  refine zr_null d_P_leanedOn_0 ?_
  exact zr_reta d_P_leanedOn_1 rfl (Or.inl ⟨_, rfl⟩) (by decide) (by decide) ⟨rfl, rfl⟩

set_option maxHeartbeats 4000000 in
set_option maxRecDepth 20000 in
theorem c_P_whenOneGaveUp {G : yG} {μ : yW} {σ : zS} {o : Nat} (ho : o < zn σ)  : zCT G m_P_whenOneGaveUp [yr (kP o)] σ μ (fun r σ' => r = none ∧ σ' = σ) := by
  refine zCT_of (by decide) rfl (ycat_of rfl) (Nat.le_of_ble_eq_true rfl) ?_
  exact zr_retv d_P_whenOneGaveUp_0 rfl (by decide) (by decide) ⟨rfl, rfl⟩

set_option maxHeartbeats 4000000 in
set_option maxRecDepth 20000 in
theorem c_Y_numberOf {G : yG} {μ : yW} {σ : zS} {x : Option Nat} (hx : ∀ t, x = some t → t < 6) : zCT G m_Y_numberOf [yo (x.map (10 + ·))] σ μ (fun r σ' => r = some (yi (znum x)) ∧ σ' = σ) := by
  refine zCT_of (by decide) rfl (ycat_of rfl) (Nat.le_of_ble_eq_true rfl) ?_
  refine zr_aload_n d_Y_numberOf_0 rfl ?_
  cases x with
  | none =>
    refine zr_ifnonnull (tgt := 8) d_Y_numberOf_1 (by decide) (fun a c1 => nomatch c1) (fun c1 => ?_)
    refine zr_iconst (v := -1) d_Y_numberOf_4 (by decide) ?_
    refine zr_goto (tgt := 12) d_Y_numberOf_5 (by decide) ?_
    exact zr_reti d_Y_numberOf_12 rfl (by decide) (by decide) ⟨rfl, rfl⟩
  | some t =>
    have ht : t < 6 := hx t rfl
    refine zr_ifnonnull (tgt := 8) d_Y_numberOf_1 (by decide) (fun a c1 => ?_) (fun c1 => nomatch c1)
    refine zr_aload_n d_Y_numberOf_8 rfl ?_
    refine zr_tnum d_Y_numberOf_9 (by first | assumption | omega) sf_Y_numberOf_9 ?_
    exact zr_reti d_Y_numberOf_12 rfl (by decide) (by decide) ⟨rfl, rfl⟩
