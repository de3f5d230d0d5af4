/-! the yard: who leans on whom -/
def zlean (σ : zS) (t : Nat) : Option Nat := if zth σ 2 t = 1 then (match zwh σ t with | some o => zleaned σ o | none => none) else none
theorem zlean_lt {σ : zS} {μ ω : yW} (h : zC σ μ ω) {t u : Nat} (ht : t < 6) (hu : zlean σ t = some u) : u < 6 := by
  unfold zlean at hu
  split at hu
  · cases hw : zwh σ t with
    | none => rw [hw] at hu; cases hu
    | some o =>
      rw [hw] at hu
      have ho : o < zn σ := (h.th ht).2.2.2.2.2 o hw
      have hu2 : zleanedC (zkd σ o) σ o = some u := hu
      unfold zleanedC at hu2
      split at hu2
      · exact (h.pl ho).2.2.2.2.2.2.2.2.2.2 u hu2
      · cases hu2
  · cases hu
def zchase (σ : zS) (t : Nat) : Nat → Option Nat → Option Nat
  | 0, x => x
  | n + 1, x => match x with
    | none => none
    | some u => if u = t then some t else zchase σ t n (zlean σ u)
def zcomes (σ : zS) (t : Nat) : Bool := decide (zchase σ t 5 (zlean σ t) = some t)

set_option maxHeartbeats 4000000 in
set_option maxRecDepth 20000 in
theorem c_T_leansOn {G : yG} {μ : yW} {σ : zS} {t : Nat} (ht : t < 6)  : zCT G m_T_leansOn [yr (10 + t)] σ μ (fun r σ' => r = some (yo ((zlean σ t).map (10 + ·))) ∧ σ' = σ) := by
  refine zCT_of (by decide) rfl (ycat_of rfl) (Nat.le_of_ble_eq_true rfl) ?_
  refine zr_aload_n d_T_leansOn_0 rfl ?_
  refine zr_tgeti d_T_leansOn_1 (by first | assumption | omega) sf_T_leansOn_1 rfl rfl ?_
  refine zr_iconst (v := 1) d_T_leansOn_4 (by decide) ?_
  refine zr_icmp_ne (tgt := 25) d_T_leansOn_5 (by decide) (fun c5 => ?_) (fun c5 => ?_)
  · skip
    refine zr_null d_T_leansOn_25 ?_
    refine zr_reta d_T_leansOn_26 rfl (Or.inl ⟨_, rfl⟩) (by decide) (by decide) ?_
    exact ⟨by simp [zlean, c5], rfl⟩
  · skip
    refine zr_aload_n d_T_leansOn_8 rfl ?_
    refine zr_tplace d_T_leansOn_9 (by first | assumption | omega) sf_T_leansOn_9 ?_
    cases hw : zwh σ t with
    | none =>
      refine zr_ifnull (tgt := 25) d_T_leansOn_12 (by decide) (fun c12 => ?_) (fun a c12 => nomatch c12)
      refine zr_null d_T_leansOn_25 ?_
      exact zr_reta d_T_leansOn_26 rfl (Or.inl ⟨_, rfl⟩) (by decide) (by decide) ⟨by simp [zlean, c5, hw], rfl⟩
    | some o =>
      refine yWP_use (fun ω h => (h.th ht).2.2.2.2.2 o hw) (fun ho => ?_)
      refine zr_ifnull (tgt := 25) d_T_leansOn_12 (by decide) (fun c12 => nomatch c12) (fun a c12 => ?_)
      refine zr_aload_n d_T_leansOn_15 rfl ?_
      refine zr_tplace d_T_leansOn_16 ht sf_T_leansOn_16 ?_
      rw [hw]
      refine zr_callP (sel := sel_leanedOn) (o := o) (As := []) (rest := []) (x := yMy m_P_leanedOn) (owner := "MonitorYard$Place") (priv := false) d_T_leansOn_19 ho (v_leanedOn ho) 0 rfl (by decide +kernel) sel_leanedOn_code (zdecl (i' := m_P_leanedOn) (by decide +kernel) cw_P_leanedOn) (by decide) (Nat.le_of_ble_eq_true rfl) (ycat_of rfl) (by decide) (by decide) (fun r σ9 hp => ?_)
      obtain ⟨rfl, rfl⟩ := hp
      refine zr_goto (tgt := 26) d_T_leansOn_22 (by decide) ?_
      exact zr_reta d_T_leansOn_26 rfl (Or.inl ⟨_, rfl⟩) (by decide) (by decide) ⟨by simp [zlean, c5, hw], rfl⟩

theorem zlive_x {σ : zS} {μ ω : yW} {x : Option Nat} {t : Nat} (h : zC σ μ ω) (hx : ∀ u, x = some u → u < 6) (ht : t < 6) : ∀ a, x.map (10 + ·) = some a ∨ some (10 + t) = some a → ω.1 a ≠ none := by
  intro a ha
  rcases ha with ha | ha
  · cases x with
    | none => cases ha
    | some u =>
      cases ha
      rw [h.sT (hx u rfl)]
      exact fun z => nomatch z
  · cases ha
    rw [h.sT ht]
    exact fun z => nomatch z

set_option maxHeartbeats 4000000 in
set_option maxRecDepth 20000 in
theorem c_Y_comes_loop {G : yG} {μ : yW} {σ : zS} {t : Nat} (ht : t < 6) : ∀ (m q : Nat) (x : Option Nat), m + q = 6 → (∀ u, x = some u → u < 6) → yWP G m_Y_comesBackByLeaning (zQ G m_Y_comesBackByLeaning μ (fun r σ' => r = some (yi (zb (decide (zchase σ t m x = some t)))) ∧ σ' = σ)) μ.1 7 [some (yr (10 + t)), some (yo (x.map (10 + ·))), some (yi (nI q))] [] (zC σ μ) 0 0 := by
  intro m
  induction m with
  | zero =>
    intro q x hm hx
    have hz : zchase σ t 0 x = x := rfl
    refine zr_iload_n d_Y_comesBackByLeaning_7 rfl ?_
    refine zr_bipush (v := 6) d_Y_comesBackByLeaning_8 (by decide) ?_
    refine zr_icmp_ge (tgt := 33) d_Y_comesBackByLeaning_10 (by decide) (fun c10 => ?_) (fun c10 => absurd (show nI 6 ≤ nI q from nI_le (by omega) (by omega)) c10)
    refine zr_aload_n d_Y_comesBackByLeaning_33 rfl ?_
    refine zr_aload_n d_Y_comesBackByLeaning_34 rfl ?_
    refine zr_acmp_ne (tgt := 42) d_Y_comesBackByLeaning_35 (by decide) (fun ω h => zlive_x h hx ht) (fun c35 => ?_) (fun c35 => ?_)
    · refine zr_iconst (v := 0) d_Y_comesBackByLeaning_42 (by decide) ?_
      refine zr_retz d_Y_comesBackByLeaning_43 rfl rfl (by decide) (by decide) ⟨?_, rfl⟩
      rw [zmap_eq] at c35
      first | exact absurd rfl c35 | (rw [hz]; simp [c35, zb])
    · refine zr_iconst (v := 1) d_Y_comesBackByLeaning_38 (by decide) ?_
      refine zr_goto (tgt := 43) d_Y_comesBackByLeaning_39 (by decide) ?_
      refine zr_retz d_Y_comesBackByLeaning_43 rfl rfl (by decide) (by decide) ⟨?_, rfl⟩
      rw [zmap_eq] at c35
      rw [hz]; simp [c35, zb]
  | succ m ih =>
    intro q x hm hx
    refine zr_iload_n d_Y_comesBackByLeaning_7 rfl ?_
    refine zr_bipush (v := 6) d_Y_comesBackByLeaning_8 (by decide) ?_
    refine zr_icmp_ge (tgt := 33) d_Y_comesBackByLeaning_10 (by decide) (fun c10 => absurd c10 (show ¬ nI 6 ≤ nI q from nI_ge (by omega) (by omega))) (fun c10 => ?_)
    refine zr_aload_n d_Y_comesBackByLeaning_13 rfl ?_
    cases hxe : x with
    | none =>
      subst hxe
      have hz : zchase σ t (m + 1) none = none := rfl
      refine zr_ifnull (tgt := 33) d_Y_comesBackByLeaning_14 (by decide) (fun c14 => ?_) (fun a c14 => nomatch c14)
      refine zr_aload_n d_Y_comesBackByLeaning_33 rfl ?_
      refine zr_aload_n d_Y_comesBackByLeaning_34 rfl ?_
      refine zr_acmp_ne (tgt := 42) d_Y_comesBackByLeaning_35 (by decide) (fun ω h => zlive_x h hx ht) (fun c35 => ?_) (fun c35 => ?_)
      · refine zr_iconst (v := 0) d_Y_comesBackByLeaning_42 (by decide) ?_
        refine zr_retz d_Y_comesBackByLeaning_43 rfl rfl (by decide) (by decide) ⟨?_, rfl⟩
        rw [zmap_eq] at c35
        first | exact absurd rfl c35 | (rw [hz]; simp [c35, zb])
      · refine zr_iconst (v := 1) d_Y_comesBackByLeaning_38 (by decide) ?_
        refine zr_goto (tgt := 43) d_Y_comesBackByLeaning_39 (by decide) ?_
        refine zr_retz d_Y_comesBackByLeaning_43 rfl rfl (by decide) (by decide) ⟨?_, rfl⟩
        rw [zmap_eq] at c35
        rw [hz]; simp [c35, zb]
    | some u =>
      subst hxe
      have hu : u < 6 := hx u rfl
      refine zr_ifnull (tgt := 33) d_Y_comesBackByLeaning_14 (by decide) (fun c14 => nomatch c14) (fun a c14 => ?_)
      refine zr_aload_n d_Y_comesBackByLeaning_17 rfl ?_
      refine zr_aload_n d_Y_comesBackByLeaning_18 rfl ?_
      refine zr_acmp_eq (tgt := 33) d_Y_comesBackByLeaning_19 (by decide) (fun ω h => zlive_x (x := some u) h hx ht) (fun c19 => ?_) (fun c19 => ?_)
      · have e9 : u = t := Option.some.inj (zmap_eq.mp c19)
        subst e9
        have hz : zchase σ u (m + 1) (some u) = some u := if_pos rfl
        refine zr_aload_n d_Y_comesBackByLeaning_33 rfl ?_
        refine zr_aload_n d_Y_comesBackByLeaning_34 rfl ?_
        refine zr_acmp_ne (tgt := 42) d_Y_comesBackByLeaning_35 (by decide) (fun ω h => zlive_x h hx ht) (fun c35 => ?_) (fun c35 => ?_)
        · refine zr_iconst (v := 0) d_Y_comesBackByLeaning_42 (by decide) ?_
          refine zr_retz d_Y_comesBackByLeaning_43 rfl rfl (by decide) (by decide) ⟨?_, rfl⟩
          rw [zmap_eq] at c35
          first | exact absurd rfl c35 | (rw [hz]; simp [c35, zb])
        · refine zr_iconst (v := 1) d_Y_comesBackByLeaning_38 (by decide) ?_
          refine zr_goto (tgt := 43) d_Y_comesBackByLeaning_39 (by decide) ?_
          refine zr_retz d_Y_comesBackByLeaning_43 rfl rfl (by decide) (by decide) ⟨?_, rfl⟩
          rw [zmap_eq] at c35
          rw [hz]; simp [c35, zb]
      · have e9 : ¬ u = t := fun z => c19 (zmap_eq.mpr (by rw [z]))
        refine zr_aload_n d_Y_comesBackByLeaning_22 rfl ?_
        refine zr_call (zrunV (As := []) (rest := []) d_Y_comesBackByLeaning_23 (fun ω h => h.sT hu) rfl (c_T_leansOn hu) 0 rfl (by decide +kernel) cw_T_leansOn (Nat.le_of_ble_eq_true rfl) (ycat_of rfl) (by decide) (by decide)) (fun r σ9 hp => ?_)
        obtain ⟨rfl, rfl⟩ := hp
        refine zr_astore_n d_Y_comesBackByLeaning_26 (by decide) rfl ?_
        refine zr_iinc (v := nI (q + 1)) d_Y_comesBackByLeaning_27 rfl (nI_1 q) (by decide) rfl ?_
        refine zr_goto (tgt := 7) d_Y_comesBackByLeaning_30 (by decide) ?_
        have hz : zchase σ9 t (m + 1) (some u) = zchase σ9 t m (zlean σ9 u) := if_neg e9
        rw [hz]
        exact yWP_use (fun ω h => fun w hw => zlean_lt h hu hw) (fun hx2 => ih (q + 1) (zlean σ9 u) (by omega) hx2)

set_option maxHeartbeats 4000000 in
set_option maxRecDepth 20000 in
theorem c_Y_comesBackByLeaning {G : yG} {μ : yW} {σ : zS} {t : Nat} (ht : t < 6)  : zCT G m_Y_comesBackByLeaning [yr (10 + t)] σ μ (fun r σ' => r = some (yi (zb (zcomes σ t))) ∧ σ' = σ) := by
  refine zCT_of (by decide) rfl (ycat_of rfl) (Nat.le_of_ble_eq_true rfl) ?_
  refine zr_aload_n d_Y_comesBackByLeaning_0 rfl ?_
  refine zr_call (zrunV (As := []) (rest := []) d_Y_comesBackByLeaning_1 (fun ω h => h.sT ht) rfl (c_T_leansOn ht) 0 rfl (by decide +kernel) cw_T_leansOn (Nat.le_of_ble_eq_true rfl) (ycat_of rfl) (by decide) (by decide)) (fun r σ9 hp => ?_)
  obtain ⟨rfl, rfl⟩ := hp
  refine zr_astore_n d_Y_comesBackByLeaning_4 (by decide) rfl ?_
  refine zr_iconst (v := 1) d_Y_comesBackByLeaning_5 (by decide) ?_
  refine zr_istore_n d_Y_comesBackByLeaning_6 (by decide) rfl ?_
  exact yWP_use (fun ω h => fun w hw => zlean_lt h ht hw) (fun hx2 => c_Y_comes_loop ht 5 1 (zlean σ9 t) rfl hx2)

set_option maxHeartbeats 4000000 in
set_option maxRecDepth 20000 in
theorem c_Y_stuck_loop {G : yG} {μ : yW} {σ : zS}  : ∀ (m q : Nat) (x : Option yV), m + q = 6 → yWP G m_Y_stuck (zQ G m_Y_stuck μ (fun r σ' => r = some (yi (zcnt (fun t => zcomes σ t) 6)) ∧ σ' = σ)) μ.1 13 [some (yr 0), some (yi (zcnt (fun t => zcomes σ t) q)), some (yr 1), some (yi (nI 6)), some (yi (nI q)), x] [] (zC σ μ) 0 0 := by
  intro m
  induction m with
  | zero =>
    intro q x hm
    have hq : q = 6 := by omega
    subst hq
    refine zr_iload d_Y_stuck_13 rfl ?_
    refine zr_iload_n d_Y_stuck_15 rfl ?_
    refine zr_icmp_ge (tgt := 42) d_Y_stuck_16 (by decide) (fun c18 => ?_) (fun c18 => absurd (by decide) c18)
    refine zr_iload_n d_Y_stuck_42 rfl ?_
    exact zr_reti d_Y_stuck_43 rfl (by decide) (by decide) ⟨rfl, rfl⟩
  | succ m ih =>
    intro q x hm
    have ht : q < 6 := by omega
    refine zr_iload d_Y_stuck_13 rfl ?_
    refine zr_iload_n d_Y_stuck_15 rfl ?_
    refine zr_icmp_ge (tgt := 42) d_Y_stuck_16 (by decide) (fun c18 => absurd c18 (nI_ge ht (by omega))) (fun c18 => ?_)
    refine zr_aload_n d_Y_stuck_19 rfl ?_
    refine zr_iload d_Y_stuck_20 rfl ?_
    refine zr_thld d_Y_stuck_22 rfl ht ?_
    refine zr_astore d_Y_stuck_23 (by decide) rfl ?_
    refine zr_aload d_Y_stuck_25 rfl ?_
    refine zr_call (zrunS (As := [yr (10 + q)]) (rest := []) d_Y_stuck_27 (c_Y_comesBackByLeaning ht) 1 rfl (by decide +kernel) cw_Y_comesBackByLeaning (Nat.le_of_ble_eq_true rfl) (ycat_of rfl) (by decide) (by decide)) (fun r σ9 hp => ?_)
    obtain ⟨rfl, rfl⟩ := hp
    refine zr_if_eq (tgt := 36) d_Y_stuck_30 (by decide) (fun c30 => ?_) (fun c30 => ?_)
    · skip
      refine zr_iinc (v := nI (q + 1)) d_Y_stuck_36 rfl (nI_1 q) (by decide) rfl ?_
      refine zr_goto (tgt := 13) d_Y_stuck_39 (by decide) ?_
      have k := ih (q + 1) (some (yr (10 + q))) (by omega)
      have e1 : zcnt (fun t => zcomes σ9 t) (q + 1) = (if zcomes σ9 q = true then zcnt (fun t => zcomes σ9 t) q + 1 else zcnt (fun t => zcomes σ9 t) q) := rfl
      rw [e1] at k
      first
        | (rw [zb_ne] at c30; rw [if_pos c30] at k; exact k)
        | (rw [zb_eq] at c30; rw [if_neg (by rw [c30]; decide)] at k; exact k)
    · skip
      refine zr_iinc d_Y_stuck_33 rfl rfl (by decide) rfl ?_
      refine zr_iinc (v := nI (q + 1)) d_Y_stuck_36 rfl (nI_1 q) (by decide) rfl ?_
      refine zr_goto (tgt := 13) d_Y_stuck_39 (by decide) ?_
      have k := ih (q + 1) (some (yr (10 + q))) (by omega)
      have e1 : zcnt (fun t => zcomes σ9 t) (q + 1) = (if zcomes σ9 q = true then zcnt (fun t => zcomes σ9 t) q + 1 else zcnt (fun t => zcomes σ9 t) q) := rfl
      rw [e1] at k
      first
        | (rw [zb_ne] at c30; rw [if_pos c30] at k; exact k)
        | (rw [zb_eq] at c30; rw [if_neg (by rw [c30]; decide)] at k; exact k)

set_option maxHeartbeats 4000000 in
set_option maxRecDepth 20000 in
theorem c_Y_stuck {G : yG} {μ : yW} {σ : zS}  : zCT G m_Y_stuck [yr 0] σ μ (fun r σ' => r = some (yi (zcnt (fun t => zcomes σ t) 6)) ∧ σ' = σ) := by
  refine zCT_of (by decide) rfl (ycat_of rfl) (Nat.le_of_ble_eq_true rfl) ?_
  refine zr_iconst (v := 0) d_Y_stuck_0 (by decide) ?_
  refine zr_istore_n d_Y_stuck_1 (by decide) rfl ?_
  refine zr_aload_n d_Y_stuck_2 rfl ?_
  refine zr_ythr d_Y_stuck_3 sf_Y_stuck_3 ?_
  refine zr_astore_n d_Y_stuck_6 (by decide) rfl ?_
  refine zr_aload_n d_Y_stuck_7 rfl ?_
  refine zr_thlen d_Y_stuck_8 ?_
  refine zr_istore_n d_Y_stuck_9 (by decide) rfl ?_
  refine zr_iconst (v := 0) d_Y_stuck_10 (by decide) ?_
  refine zr_istore d_Y_stuck_11 (by decide) rfl ?_
  exact c_Y_stuck_loop 6 0 _ rfl
