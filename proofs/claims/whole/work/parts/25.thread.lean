/-! threads: their methods -/
def ync (v : yV) : Bool := match v with
  | .inr (.inr _) => false
  | _ => true
theorem ycat_of {l : List yV} (h : l.all ync = true) : ∀ v ∈ l, ∀ ad, (ycv ad v).category = 1 := by
  intro v hv ad
  have h1 := List.all_eq_true.mp h v hv
  rcases v with x | (o | z)
  · rfl
  · cases o with
    | none => rfl
    | some a => rfl
  · cases h1
def zbegin (σ : zS) (t : Nat) (a g : Int32) : zS := zsth (zsth (zsth (zsth σ 8 t a) 9 t g) 3 t 1) 11 t 0
def zstay (σ : zS) (t : Nat) (x : Option Nat) (s p : Int32) : zS := zsth (zsth (zswh σ t x) 2 t s) 7 t p
def zend (σ : zS) (t h : Nat) : zS := zsen (zsth (zsth (zsth (zswh σ t none) 2 t 0) 7 t (-1)) 3 t (nI h)) t h (zen σ t h + 1)
def zlose (σ : zS) (t : Nat) : zS := if zth σ 7 t ≤ 0 then σ else zsth σ 7 t (zth σ 7 t - 1)

set_option maxHeartbeats 4000000 in
set_option maxRecDepth 20000 in
theorem c_T_begin {G : yG} {μ : yW} {σ : zS} {t : Nat} {a g : Int32} (ht : t < 6) : zCT G m_T_begin [yr (10 + t), yi a, yi g] σ μ (fun r σ' => r = none ∧ σ' = zbegin σ t a g) := by
  refine zCT_of (by decide) rfl (ycat_of rfl) (Nat.le_of_ble_eq_true rfl) ?_
  refine zr_aload_n d_T_begin_0 rfl ?_
  refine zr_iload_n d_T_begin_1 rfl ?_
  refine zr_tputi d_T_begin_2 (by first | assumption | omega) sf_T_begin_2 rfl rfl ⟨rfl, rfl⟩ ?_
  refine zr_aload_n d_T_begin_5 rfl ?_
  refine zr_iload_n d_T_begin_6 rfl ?_
  refine zr_tputi d_T_begin_7 (by first | assumption | omega) sf_T_begin_7 rfl rfl ⟨rfl, rfl⟩ ?_
  refine zr_aload_n d_T_begin_10 rfl ?_
  refine zr_iconst (v := 1) d_T_begin_11 (by decide) ?_
  refine zr_tputi d_T_begin_12 (by first | assumption | omega) sf_T_begin_12 rfl rfl ⟨rfl, rfl⟩ ?_
  refine zr_aload_n d_T_begin_15 rfl ?_
  refine zr_iconst (v := 0) d_T_begin_16 (by decide) ?_
  refine zr_tputi d_T_begin_17 (by first | assumption | omega) sf_T_begin_17 rfl rfl ⟨rfl, rfl⟩ ?_
  exact zr_retv d_T_begin_20 rfl (by decide) (by decide) ⟨rfl, rfl⟩

set_option maxHeartbeats 4000000 in
set_option maxRecDepth 20000 in
theorem c_T_stay {G : yG} {μ : yW} {σ : zS} {t o : Nat} {s p : Int32} (ht : t < 6) (ho : o < zn σ) : zCT G m_T_stay [yr (10 + t), yr (kP o), yi s, yi p] σ μ (fun r σ' => r = none ∧ σ' = zstay σ t (some o) s p) := by
  refine zCT_of (by decide) rfl (ycat_of rfl) (Nat.le_of_ble_eq_true rfl) ?_
  refine zr_aload_n d_T_stay_0 rfl ?_
  refine zr_aload_n d_T_stay_1 rfl ?_
  refine zr_tputp (x := some o) d_T_stay_2 (by first | assumption | omega) sf_T_stay_2 (fun _ h => by cases h; exact ho) ?_
  refine zr_aload_n d_T_stay_5 rfl ?_
  refine zr_iload_n d_T_stay_6 rfl ?_
  refine zr_tputi d_T_stay_7 (by first | assumption | omega) sf_T_stay_7 rfl rfl ⟨rfl, rfl⟩ ?_
  refine zr_aload_n d_T_stay_10 rfl ?_
  refine zr_iload_n d_T_stay_11 rfl ?_
  refine zr_tputi d_T_stay_12 (by first | assumption | omega) sf_T_stay_12 rfl rfl ⟨rfl, rfl⟩ ?_
  exact zr_retv d_T_stay_15 rfl (by decide) (by decide) ⟨rfl, rfl⟩

set_option maxHeartbeats 4000000 in
set_option maxRecDepth 20000 in
theorem c_T_end {G : yG} {μ : yW} {σ : zS} {t h : Nat} (ht : t < 6) (hh : h < 5) : zCT G m_T_end [yr (10 + t), yi (nI h)] σ μ (fun r σ' => r = none ∧ σ' = zend σ t h) := by
  refine zCT_of (by decide) rfl (ycat_of rfl) (Nat.le_of_ble_eq_true rfl) ?_
  refine zr_aload_n d_T_end_0 rfl ?_
  refine zr_null d_T_end_1 ?_
  refine zr_tputp (x := none) d_T_end_2 (by first | assumption | omega) sf_T_end_2 (fun _ h => nomatch h) ?_
  refine zr_aload_n d_T_end_5 rfl ?_
  refine zr_iconst (v := 0) d_T_end_6 (by decide) ?_
  refine zr_tputi d_T_end_7 (by first | assumption | omega) sf_T_end_7 rfl rfl ⟨rfl, rfl⟩ ?_
  refine zr_aload_n d_T_end_10 rfl ?_
  refine zr_iconst (v := -1) d_T_end_11 (by decide) ?_
  refine zr_tputi d_T_end_12 (by first | assumption | omega) sf_T_end_12 rfl rfl ⟨rfl, rfl⟩ ?_
  refine zr_aload_n d_T_end_15 rfl ?_
  refine zr_iload_n d_T_end_16 rfl ?_
  refine zr_tputi d_T_end_17 (by first | assumption | omega) sf_T_end_17 rfl rfl ⟨rfl, rfl⟩ ?_
  refine zr_aload_n d_T_end_20 rfl ?_
  refine zr_tended d_T_end_21 (by first | assumption | omega) sf_T_end_21 ?_
  refine zr_iload_n d_T_end_24 rfl ?_
  refine zr_dup2 d_T_end_25 (fun _ => rfl) (fun _ => rfl) ?_
  refine zr_eld d_T_end_26 ht rfl hh ?_
  refine zr_iconst (v := 1) d_T_end_27 (by decide) ?_
  refine zr_iadd d_T_end_28 ?_
  refine zr_est d_T_end_29 ht rfl hh ?_
  exact zr_retv d_T_end_30 rfl (by decide) (by decide) ⟨rfl, rfl⟩

theorem zth_same {σ : zS} {f t : Nat} {x : Int32} : zth (zsth σ f t x) f t = x := yu_same _ _ _ _
theorem zth_ne {σ : zS} {f t g u : Nat} {x : Int32} (h : g ≠ f ∨ u ≠ t) : zth (zsth σ f t x) g u = zth σ g u := yu_ne _ _ h

set_option maxHeartbeats 4000000 in
set_option maxRecDepth 20000 in
theorem c_T_losesPatience {G : yG} {μ : yW} {σ : zS} {t : Nat} (ht : t < 6) : zCT G m_T_losesPatience [yr (10 + t)] σ μ (fun r σ' => (¬ 0 < zth σ 7 t ∧ r = some (yi 0) ∧ σ' = σ) ∨ (0 < zth σ 7 t ∧ σ' = zsth σ 7 t (zth σ 7 t - 1) ∧ r = some (yi (if zth σ 7 t - 1 = 0 then 1 else 0)))) := by
  refine zCT_of (by decide) rfl (ycat_of rfl) (Nat.le_of_ble_eq_true rfl) ?_
  refine zr_aload_n d_T_losesPatience_0 rfl ?_
  refine zr_tgeti d_T_losesPatience_1 (by first | assumption | omega) sf_T_losesPatience_1 rfl rfl ?_
  refine zr_if_gt (tgt := 9) d_T_losesPatience_4 (by decide) (fun c4 => ?_) (fun c4 => ?_)
  · skip
    refine zr_aload_n d_T_losesPatience_9 rfl ?_
    refine zr_dup d_T_losesPatience_10 (fun _ => rfl) ?_
    refine zr_tgeti d_T_losesPatience_11 (by first | assumption | omega) sf_T_losesPatience_11 rfl rfl ?_
    refine zr_iconst (v := 1) d_T_losesPatience_14 (by decide) ?_
    refine zr_isub d_T_losesPatience_15 ?_
    refine zr_tputi d_T_losesPatience_16 (by first | assumption | omega) sf_T_losesPatience_16 rfl rfl ⟨rfl, rfl⟩ ?_
    refine zr_aload_n d_T_losesPatience_19 rfl ?_
    refine zr_tgeti d_T_losesPatience_20 (by first | assumption | omega) sf_T_losesPatience_20 rfl rfl ?_
    refine zr_if_ne (tgt := 30) d_T_losesPatience_23 (by decide) (fun c23 => ?_) (fun c23 => ?_)
    · skip
      refine zr_iconst (v := 0) d_T_losesPatience_30 (by decide) ?_
      refine zr_retz d_T_losesPatience_31 rfl rfl (by decide) (by decide) ?_
      first | exact Or.inl ⟨c4, rfl, rfl⟩ | (rw [zth_same] at c23; exact Or.inr ⟨c4, rfl, by simp [c23]⟩)
    · skip
      refine zr_iconst (v := 1) d_T_losesPatience_26 (by decide) ?_
      refine zr_goto (tgt := 31) d_T_losesPatience_27 (by decide) ?_
      refine zr_retz d_T_losesPatience_31 rfl rfl (by decide) (by decide) ?_
      first | exact Or.inl ⟨c4, rfl, rfl⟩ | (rw [zth_same] at c23; exact Or.inr ⟨c4, rfl, by simp [c23]⟩)
  · skip
    refine zr_iconst (v := 0) d_T_losesPatience_7 (by decide) ?_
    refine zr_retz d_T_losesPatience_8 rfl rfl (by decide) (by decide) ?_
    first | exact Or.inl ⟨c4, rfl, rfl⟩ | (rw [zth_same] at c23; exact Or.inr ⟨c4, rfl, by simp [c23]⟩)

set_option maxHeartbeats 4000000 in
set_option maxRecDepth 20000 in
theorem c_T_takesAgain {G : yG} {μ : yW} {σ : zS} {t : Nat} (ht : t < 6) : zCT G m_T_takesAgain [yr (10 + t)] σ μ (fun r σ' => r = some (yi (if zth σ 2 t = 1 ∧ zth σ 8 t = 2 then 1 else 0)) ∧ σ' = σ) := by
  refine zCT_of (by decide) rfl (ycat_of rfl) (Nat.le_of_ble_eq_true rfl) ?_
  refine zr_aload_n d_T_takesAgain_0 rfl ?_
  refine zr_tgeti d_T_takesAgain_1 (by first | assumption | omega) sf_T_takesAgain_1 rfl rfl ?_
  refine zr_iconst (v := 1) d_T_takesAgain_4 (by decide) ?_
  refine zr_icmp_ne (tgt := 20) d_T_takesAgain_5 (by decide) (fun c5 => ?_) (fun c5 => ?_)
  · skip
    refine zr_iconst (v := 0) d_T_takesAgain_20 (by decide) ?_
    refine zr_retz d_T_takesAgain_21 rfl rfl (by decide) (by decide) ?_
    simp [*]
  · skip
    refine zr_aload_n d_T_takesAgain_8 rfl ?_
    refine zr_tgeti d_T_takesAgain_9 (by first | assumption | omega) sf_T_takesAgain_9 rfl rfl ?_
    refine zr_iconst (v := 2) d_T_takesAgain_12 (by decide) ?_
    refine zr_icmp_ne (tgt := 20) d_T_takesAgain_13 (by decide) (fun c13 => ?_) (fun c13 => ?_)
    · skip
      refine zr_iconst (v := 0) d_T_takesAgain_20 (by decide) ?_
      refine zr_retz d_T_takesAgain_21 rfl rfl (by decide) (by decide) ?_
      simp [*]
    · skip
      refine zr_iconst (v := 1) d_T_takesAgain_16 (by decide) ?_
      refine zr_goto (tgt := 21) d_T_takesAgain_17 (by decide) ?_
      refine zr_retz d_T_takesAgain_21 rfl rfl (by decide) (by decide) ?_
      simp [*]
