/-! the yard: rows, readers -/
theorem zC_stk {σ : zS} {μ ω : yW} {x : Int32} (h : zC σ μ ω) : zC (zstk σ x) μ (ysi ω 0 3 x) := by
  obtain ⟨a1, a2, a3, a4, a5, a6, a7, a8, a9, a10, a11, a12⟩ := h
  have g : ∀ j, j ≠ 0 → zAg ω (ysi ω 0 3 x) j := fun j hj => zAg_si ω _ 3 x hj
  have n2 : (ysi ω 0 3 x).2.1 0 2 = ω.2.1 0 2 := yu_ne ω.2.1 (k := 0) (i := 3) (k' := 0) (i' := 2) x (Or.inr (by decide))
  have n3 : (ysi ω 0 3 x).2.1 0 3 = x := yu_same ω.2.1 0 3 x
  refine ⟨a1, a2, fun k hk => ?_, a4, a5, n2.trans a6, n3, a8, a9, fun t ht => ?_, fun o ho => ?_, a12⟩
  · rw [(g k (by omega)).1, (g k (by omega)).2]; exact a3 k hk
  · exact (a10 t ht).kept (zSt.rf σ t) rfl (g _ (by omega)) (g _ (by omega))
  · exact (a11 o ho).kept (zSp.rf σ o) (fun d hd => g _ (by unfold kP; omega))
section ZY
variable {G : yG} {i : yM} {Qf : yQT} {pc : Nat} {ls : List (Option yV)} {st : List yV} {σ : zS} {μ : yW} {cs sl : Nat} {sh0 : Nat → Option ySh}
theorem zr_ythr {ix : Nat} {ref host : String} (hd : decode (yMb i) pc = .ok (.getfield ix, 3)) (site : ySF (yMy i).cls ix ref host 0 0 = true) (k : yWP G i Qf sh0 (pc + 3) ls (yr 1 :: st) (zC σ μ) cs sl) : yWP G i Qf sh0 pc ls (yr 0 :: st) (zC σ μ) cs sl := by
  intro ω h
  refine yr_getr hd h.1.1 site rfl ?_
  rw [h.2.2.2.1]
  exact k ω h
theorem zr_ypls {ix : Nat} {ref host : String} (hd : decode (yMb i) pc = .ok (.getfield ix, 3)) (site : ySF (yMy i).cls ix ref host 0 1 = true) (k : yWP G i Qf sh0 (pc + 3) ls (yr 2 :: st) (zC σ μ) cs sl) : yWP G i Qf sh0 pc ls (yr 0 :: st) (zC σ μ) cs sl := by
  intro ω h
  refine yr_getr hd h.1.1 site rfl ?_
  rw [h.2.2.2.2.1]
  exact k ω h
theorem zr_ycnt {ix : Nat} {ref host : String} (hd : decode (yMb i) pc = .ok (.getfield ix, 3)) (site : ySF (yMy i).cls ix ref host 0 2 = true) (k : yWP G i Qf sh0 (pc + 3) ls (yi (nI (zn σ)) :: st) (zC σ μ) cs sl) : yWP G i Qf sh0 pc ls (yr 0 :: st) (zC σ μ) cs sl := by
  intro ω h
  refine yr_geti hd h.1.1 site rfl ?_
  rw [h.2.2.2.2.2.1]
  exact k ω h
theorem zr_ytk {ix : Nat} {ref host : String} (hd : decode (yMb i) pc = .ok (.getfield ix, 3)) (site : ySF (yMy i).cls ix ref host 0 3 = true) (k : yWP G i Qf sh0 (pc + 3) ls (yi (ztk σ) :: st) (zC σ μ) cs sl) : yWP G i Qf sh0 pc ls (yr 0 :: st) (zC σ μ) cs sl := by
  intro ω h
  refine yr_geti hd h.1.1 site rfl ?_
  rw [h.2.2.2.2.2.2.1]
  exact k ω h
theorem zr_yptk {ix : Nat} {x : Int32} {ref host : String} (hd : decode (yMb i) pc = .ok (.putfield ix, 3)) (site : ySF (yMy i).cls ix ref host 0 3 = true) (k : yWP G i Qf sh0 (pc + 3) ls st (zC (zstk σ x) μ) cs sl) : yWP G i Qf sh0 pc ls (yi x :: yr 0 :: st) (zC σ μ) cs sl := by
  intro ω h
  exact yr_puti hd h.1.1 site rfl rfl rfl ⟨rfl, rfl⟩ (k _ (zC_stk h))
theorem zr_thld {t : Nat} {x : Int32} (hd : decode (yMb i) pc = .ok (.aaload, 1)) (hx : x = nI t) (ht : t < 6) (k : yWP G i Qf sh0 (pc + 1) ls (yr (10 + t) :: st) (zC σ μ) cs sl) : yWP G i Qf sh0 pc ls (yi x :: yr 1 :: st) (zC σ μ) cs sl := by
  intro ω h
  refine yr_aald3 (n := 6) (j := t) hd h.1.2.1 (by rw [hx]; exact nI_pos (by omega)) (by rw [hx]; exact nI_clamp (by omega)) ht ?_
  rw [h.2.2.2.2.2.2.2.1 t ht]
  exact k ω h
theorem zr_plld {o : Nat} {x : Int32} (hd : decode (yMb i) pc = .ok (.aaload, 1)) (hx : x = nI o) (ho : o < zn σ) (k : yWP G i Qf sh0 (pc + 1) ls (yr (kP o) :: st) (zC σ μ) cs sl) : yWP G i Qf sh0 pc ls (yi x :: yr 2 :: st) (zC σ μ) cs sl := by
  intro ω h
  have h6 : zn σ ≤ 6 := h.1.2.2.2.2.1
  refine yr_aald4 (n := 6) (j := o) hd h.1.2.2.1 (by rw [hx]; exact nI_pos (by omega)) (by rw [hx]; exact nI_clamp (by omega)) (by omega) ?_
  rw [h.2.2.2.2.2.2.2.2.1 o (by omega), if_pos ho]
  exact k ω h
theorem zr_thlen (hd : decode (yMb i) pc = .ok (.arraylength, 1)) (k : yWP G i Qf sh0 (pc + 1) ls (yi (nI 6) :: st) (zC σ μ) cs sl) : yWP G i Qf sh0 pc ls (yr 1 :: st) (zC σ μ) cs sl := by
  intro ω h
  exact yr_alen (tc := 3) hd (by omega) h.1.2.1 (k ω h)
end ZY
def ztat (x : Int32) : Option Nat := if ¬ x < 0 ∧ x < 6 then some x.toNatClampNeg else none
def zpat (n : Nat) (x : Int32) : Option Nat := if ¬ x < 0 ∧ x < nI n then some x.toNatClampNeg else none
theorem zpat_lt {n : Nat} {x : Int32} {o : Nat} (hn : n < 2 ^ 31) (h : zpat n x = some o) : o < n ∧ x = nI o := by
  unfold zpat at h
  split at h
  · rename_i hc
    obtain ⟨q, hq, hx⟩ := nI_of hc.1
    rw [hx, nI_clamp hq] at h
    cases h
    have := hc.2
    rw [hx, nI_ltI hq hn] at this
    exact ⟨this, hx⟩
  · cases h
theorem ztat_lt {x : Int32} {t : Nat} (h : ztat x = some t) : t < 6 ∧ x = nI t := zpat_lt (n := 6) (by omega) h
def zisAct (a g : Int32) : Bool := if a = 2 ∨ a = 3 ∨ a = 4 then decide (g = 0 ∨ g = 1) else if a = 9 ∨ a = 10 then decide (¬ g < 1 ∧ ¬ 3 < g) else decide (¬ a < 0 ∧ ¬ 17 ≤ a)
def zisPat (p : Int32) : Bool := decide (¬ p < -1 ∧ ¬ 100 < p)

set_option maxHeartbeats 4000000 in
set_option maxRecDepth 20000 in
theorem c_Y_threadAt {G : yG} {μ : yW} {σ : zS} {x : Int32}  : zCT G m_Y_threadAt [yr 0, yi x] σ μ (fun r σ' => r = some (yo ((ztat x).map (10 + ·))) ∧ σ' = σ) := by
  refine zCT_of (by decide) rfl (ycat_of rfl) (Nat.le_of_ble_eq_true rfl) ?_
  refine zr_iload_n d_Y_threadAt_0 rfl ?_
  refine zr_if_lt (tgt := 10) d_Y_threadAt_1 (by decide) (fun c1 => ?_) (fun c1 => ?_)
  · skip
    refine zr_null d_Y_threadAt_10 ?_
    refine zr_goto (tgt := 20) d_Y_threadAt_11 (by decide) ?_
    refine zr_reta d_Y_threadAt_20 rfl (Or.inl ⟨_, rfl⟩) (by decide) (by decide) ?_
    refine ⟨?_, rfl⟩
    unfold ztat
    first
      | (simp [c1]; done)
      | (simp [c1, c7]; done)
      | (rw [if_pos ⟨c1, c7⟩, hx, nI_clamp hq]; rfl)
  · skip
    refine zr_iload_n d_Y_threadAt_4 rfl ?_
    refine zr_bipush (v := 6) d_Y_threadAt_5 (by decide) ?_
    refine zr_icmp_lt (tgt := 14) d_Y_threadAt_7 (by decide) (fun c7 => ?_) (fun c7 => ?_)
    · skip
      refine zr_aload_n d_Y_threadAt_14 rfl ?_
      refine zr_ythr d_Y_threadAt_15 sf_Y_threadAt_15 ?_
      refine zr_iload_n d_Y_threadAt_18 rfl ?_
      obtain ⟨q, hq, hx⟩ := nI_of c1
      have hq6 : q < 6 := by
        rw [hx, show (6 : Int32) = nI 6 from rfl, nI_ltI hq (by omega)] at c7
        exact c7
      refine zr_thld d_Y_threadAt_19 hx hq6 ?_
      refine zr_reta d_Y_threadAt_20 rfl (Or.inl ⟨_, rfl⟩) (by decide) (by decide) ?_
      refine ⟨?_, rfl⟩
      unfold ztat
      first
        | (simp [c1]; done)
        | (simp [c1, c7]; done)
        | (rw [if_pos ⟨c1, c7⟩, hx, nI_clamp hq]; rfl)
    · skip
      refine zr_null d_Y_threadAt_10 ?_
      refine zr_goto (tgt := 20) d_Y_threadAt_11 (by decide) ?_
      refine zr_reta d_Y_threadAt_20 rfl (Or.inl ⟨_, rfl⟩) (by decide) (by decide) ?_
      refine ⟨?_, rfl⟩
      unfold ztat
      first
        | (simp [c1]; done)
        | (simp [c1, c7]; done)
        | (rw [if_pos ⟨c1, c7⟩, hx, nI_clamp hq]; rfl)

set_option maxHeartbeats 4000000 in
set_option maxRecDepth 20000 in
theorem c_Y_placeAt {G : yG} {μ : yW} {σ : zS} {x : Int32}  : zCT G m_Y_placeAt [yr 0, yi x] σ μ (fun r σ' => r = some (yo ((zpat (zn σ) x).map kP)) ∧ σ' = σ) := by
  refine zCT_of (by decide) rfl (ycat_of rfl) (Nat.le_of_ble_eq_true rfl) ?_
  refine zr_iload_n d_Y_placeAt_0 rfl ?_
  refine zr_if_lt (tgt := 12) d_Y_placeAt_1 (by decide) (fun c1 => ?_) (fun c1 => ?_)
  · skip
    refine zr_null d_Y_placeAt_12 ?_
    refine zr_goto (tgt := 22) d_Y_placeAt_13 (by decide) ?_
    refine zr_reta d_Y_placeAt_22 rfl (Or.inl ⟨_, rfl⟩) (by decide) (by decide) ?_
    refine ⟨?_, rfl⟩
    unfold zpat
    first
      | (simp [c1]; done)
      | (simp [c1, c9]; done)
      | (rw [if_pos ⟨c1, c9⟩, hx, nI_clamp hq]; rfl)
  · skip
    refine zr_iload_n d_Y_placeAt_4 rfl ?_
    refine zr_aload_n d_Y_placeAt_5 rfl ?_
    refine zr_ycnt d_Y_placeAt_6 sf_Y_placeAt_6 ?_
    refine zr_icmp_lt (tgt := 16) d_Y_placeAt_9 (by decide) (fun c9 => ?_) (fun c9 => ?_)
    · skip
      refine zr_aload_n d_Y_placeAt_16 rfl ?_
      refine zr_ypls d_Y_placeAt_17 sf_Y_placeAt_17 ?_
      refine zr_iload_n d_Y_placeAt_20 rfl ?_
      refine yWP_use (fun ω h => h.1.2.2.2.2.1) (fun h6 => ?_)
      obtain ⟨q, hq, hx⟩ := nI_of c1
      have hqn : q < zn σ := by
        rw [hx, nI_ltI hq (by omega)] at c9
        exact c9
      refine zr_plld d_Y_placeAt_21 hx hqn ?_
      refine zr_reta d_Y_placeAt_22 rfl (Or.inl ⟨_, rfl⟩) (by decide) (by decide) ?_
      refine ⟨?_, rfl⟩
      unfold zpat
      first
        | (simp [c1]; done)
        | (simp [c1, c9]; done)
        | (rw [if_pos ⟨c1, c9⟩, hx, nI_clamp hq]; rfl)
    · skip
      refine zr_null d_Y_placeAt_12 ?_
      refine zr_goto (tgt := 22) d_Y_placeAt_13 (by decide) ?_
      refine zr_reta d_Y_placeAt_22 rfl (Or.inl ⟨_, rfl⟩) (by decide) (by decide) ?_
      refine ⟨?_, rfl⟩
      unfold zpat
      first
        | (simp [c1]; done)
        | (simp [c1, c9]; done)
        | (rw [if_pos ⟨c1, c9⟩, hx, nI_clamp hq]; rfl)

set_option maxHeartbeats 4000000 in
set_option maxRecDepth 20000 in
theorem c_Y_isAct {G : yG} {μ : yW} {σ : zS} {a g : Int32}  : zCT G m_Y_isAct [yi a, yi g] σ μ (fun r σ' => r = some (yi (zb (zisAct a g))) ∧ σ' = σ) := by
  refine zCT_of (by decide) rfl (ycat_of rfl) (Nat.le_of_ble_eq_true rfl) ?_
  refine zr_iload_n d_Y_isAct_0 rfl ?_
  by_cases s2 : a = 2
  · refine zr_tcase d_Y_isAct_1 2 s2 (by decide) (by decide) rfl (tgt := 52) (by decide) ?_
    refine zr_iload_n d_Y_isAct_52 rfl ?_
    refine zr_if_eq (tgt := 61) d_Y_isAct_53 (by decide) (fun c53 => ?_) (fun c53 => ?_)
    · skip
      refine zr_iconst (v := 1) d_Y_isAct_61 (by decide) ?_
      refine zr_goto (tgt := 66) d_Y_isAct_62 (by decide) ?_
      refine zr_retz d_Y_isAct_66 rfl rfl (by decide) (by decide) ?_
      refine ⟨?_, rfl⟩
      unfold zisAct
      simp_all [zb]
    · skip
      refine zr_iload_n d_Y_isAct_56 rfl ?_
      refine zr_iconst (v := 1) d_Y_isAct_57 (by decide) ?_
      refine zr_icmp_ne (tgt := 65) d_Y_isAct_58 (by decide) (fun c58 => ?_) (fun c58 => ?_)
      · skip
        refine zr_iconst (v := 0) d_Y_isAct_65 (by decide) ?_
        refine zr_retz d_Y_isAct_66 rfl rfl (by decide) (by decide) ?_
        refine ⟨?_, rfl⟩
        unfold zisAct
        simp_all [zb]
      · skip
        refine zr_iconst (v := 1) d_Y_isAct_61 (by decide) ?_
        refine zr_goto (tgt := 66) d_Y_isAct_62 (by decide) ?_
        refine zr_retz d_Y_isAct_66 rfl rfl (by decide) (by decide) ?_
        refine ⟨?_, rfl⟩
        unfold zisAct
        simp_all [zb]
  · skip
    by_cases s3 : a = 3
    · refine zr_tcase d_Y_isAct_1 3 s3 (by decide) (by decide) rfl (tgt := 52) (by decide) ?_
      refine zr_iload_n d_Y_isAct_52 rfl ?_
      refine zr_if_eq (tgt := 61) d_Y_isAct_53 (by decide) (fun c53 => ?_) (fun c53 => ?_)
      · skip
        refine zr_iconst (v := 1) d_Y_isAct_61 (by decide) ?_
        refine zr_goto (tgt := 66) d_Y_isAct_62 (by decide) ?_
        refine zr_retz d_Y_isAct_66 rfl rfl (by decide) (by decide) ?_
        refine ⟨?_, rfl⟩
        unfold zisAct
        simp_all [zb]
      · skip
        refine zr_iload_n d_Y_isAct_56 rfl ?_
        refine zr_iconst (v := 1) d_Y_isAct_57 (by decide) ?_
        refine zr_icmp_ne (tgt := 65) d_Y_isAct_58 (by decide) (fun c58 => ?_) (fun c58 => ?_)
        · skip
          refine zr_iconst (v := 0) d_Y_isAct_65 (by decide) ?_
          refine zr_retz d_Y_isAct_66 rfl rfl (by decide) (by decide) ?_
          refine ⟨?_, rfl⟩
          unfold zisAct
          simp_all [zb]
        · skip
          refine zr_iconst (v := 1) d_Y_isAct_61 (by decide) ?_
          refine zr_goto (tgt := 66) d_Y_isAct_62 (by decide) ?_
          refine zr_retz d_Y_isAct_66 rfl rfl (by decide) (by decide) ?_
          refine ⟨?_, rfl⟩
          unfold zisAct
          simp_all [zb]
    · skip
      by_cases s4 : a = 4
      · refine zr_tcase d_Y_isAct_1 4 s4 (by decide) (by decide) rfl (tgt := 52) (by decide) ?_
        refine zr_iload_n d_Y_isAct_52 rfl ?_
        refine zr_if_eq (tgt := 61) d_Y_isAct_53 (by decide) (fun c53 => ?_) (fun c53 => ?_)
        · skip
          refine zr_iconst (v := 1) d_Y_isAct_61 (by decide) ?_
          refine zr_goto (tgt := 66) d_Y_isAct_62 (by decide) ?_
          refine zr_retz d_Y_isAct_66 rfl rfl (by decide) (by decide) ?_
          refine ⟨?_, rfl⟩
          unfold zisAct
          simp_all [zb]
        · skip
          refine zr_iload_n d_Y_isAct_56 rfl ?_
          refine zr_iconst (v := 1) d_Y_isAct_57 (by decide) ?_
          refine zr_icmp_ne (tgt := 65) d_Y_isAct_58 (by decide) (fun c58 => ?_) (fun c58 => ?_)
          · skip
            refine zr_iconst (v := 0) d_Y_isAct_65 (by decide) ?_
            refine zr_retz d_Y_isAct_66 rfl rfl (by decide) (by decide) ?_
            refine ⟨?_, rfl⟩
            unfold zisAct
            simp_all [zb]
          · skip
            refine zr_iconst (v := 1) d_Y_isAct_61 (by decide) ?_
            refine zr_goto (tgt := 66) d_Y_isAct_62 (by decide) ?_
            refine zr_retz d_Y_isAct_66 rfl rfl (by decide) (by decide) ?_
            refine ⟨?_, rfl⟩
            unfold zisAct
            simp_all [zb]
      · skip
        by_cases s9 : a = 9
        · refine zr_tcase d_Y_isAct_1 9 s9 (by decide) (by decide) rfl (tgt := 67) (by decide) ?_
          refine zr_iload_n d_Y_isAct_67 rfl ?_
          refine zr_iconst (v := 1) d_Y_isAct_68 (by decide) ?_
          refine zr_icmp_lt (tgt := 81) d_Y_isAct_69 (by decide) (fun c69 => ?_) (fun c69 => ?_)
          · skip
            refine zr_iconst (v := 0) d_Y_isAct_81 (by decide) ?_
            refine zr_retz d_Y_isAct_82 rfl rfl (by decide) (by decide) ?_
            refine ⟨?_, rfl⟩
            unfold zisAct
            simp_all [zb]
          · skip
            refine zr_iload_n d_Y_isAct_72 rfl ?_
            refine zr_iconst (v := 3) d_Y_isAct_73 (by decide) ?_
            refine zr_icmp_gt (tgt := 81) d_Y_isAct_74 (by decide) (fun c74 => ?_) (fun c74 => ?_)
            · skip
              refine zr_iconst (v := 0) d_Y_isAct_81 (by decide) ?_
              refine zr_retz d_Y_isAct_82 rfl rfl (by decide) (by decide) ?_
              refine ⟨?_, rfl⟩
              unfold zisAct
              simp_all [zb]
            · skip
              refine zr_iconst (v := 1) d_Y_isAct_77 (by decide) ?_
              refine zr_goto (tgt := 82) d_Y_isAct_78 (by decide) ?_
              refine zr_retz d_Y_isAct_82 rfl rfl (by decide) (by decide) ?_
              refine ⟨?_, rfl⟩
              unfold zisAct
              simp_all [zb]
        · skip
          by_cases s10 : a = 10
          · refine zr_tcase d_Y_isAct_1 10 s10 (by decide) (by decide) rfl (tgt := 67) (by decide) ?_
            refine zr_iload_n d_Y_isAct_67 rfl ?_
            refine zr_iconst (v := 1) d_Y_isAct_68 (by decide) ?_
            refine zr_icmp_lt (tgt := 81) d_Y_isAct_69 (by decide) (fun c69 => ?_) (fun c69 => ?_)
            · skip
              refine zr_iconst (v := 0) d_Y_isAct_81 (by decide) ?_
              refine zr_retz d_Y_isAct_82 rfl rfl (by decide) (by decide) ?_
              refine ⟨?_, rfl⟩
              unfold zisAct
              simp_all [zb]
            · skip
              refine zr_iload_n d_Y_isAct_72 rfl ?_
              refine zr_iconst (v := 3) d_Y_isAct_73 (by decide) ?_
              refine zr_icmp_gt (tgt := 81) d_Y_isAct_74 (by decide) (fun c74 => ?_) (fun c74 => ?_)
              · skip
                refine zr_iconst (v := 0) d_Y_isAct_81 (by decide) ?_
                refine zr_retz d_Y_isAct_82 rfl rfl (by decide) (by decide) ?_
                refine ⟨?_, rfl⟩
                unfold zisAct
                simp_all [zb]
              · skip
                refine zr_iconst (v := 1) d_Y_isAct_77 (by decide) ?_
                refine zr_goto (tgt := 82) d_Y_isAct_78 (by decide) ?_
                refine zr_retz d_Y_isAct_82 rfl rfl (by decide) (by decide) ?_
                refine ⟨?_, rfl⟩
                unfold zisAct
                simp_all [zb]
          · skip
            by_cases s5 : a = 5
            · refine zr_tcase d_Y_isAct_1 5 s5 (by decide) (by decide) rfl (tgt := 83) (by decide) ?_
              refine zr_iload_n d_Y_isAct_83 rfl ?_
              refine zr_if_lt (tgt := 99) d_Y_isAct_84 (by decide) (fun c84 => ?_) (fun c84 => ?_)
              · skip
                refine zr_iconst (v := 0) d_Y_isAct_99 (by decide) ?_
                refine zr_retz d_Y_isAct_100 rfl rfl (by decide) (by decide) ?_
                refine ⟨?_, rfl⟩
                unfold zisAct
                simp_all [zb]
              · skip
                refine zr_iload_n d_Y_isAct_87 rfl ?_
                refine zr_gslen d_Y_isAct_88 d_Y_isAct_91 (by decide +kernel) ?_
                refine zr_icmp_ge (tgt := 99) d_Y_isAct_92 (by decide) (fun c92 => ?_) (fun c92 => ?_)
                · skip
                  refine zr_iconst (v := 0) d_Y_isAct_99 (by decide) ?_
                  refine zr_retz d_Y_isAct_100 rfl rfl (by decide) (by decide) ?_
                  refine ⟨?_, rfl⟩
                  unfold zisAct
                  simp_all [zb]
                · skip
                  refine zr_iconst (v := 1) d_Y_isAct_95 (by decide) ?_
                  refine zr_goto (tgt := 100) d_Y_isAct_96 (by decide) ?_
                  refine zr_retz d_Y_isAct_100 rfl rfl (by decide) (by decide) ?_
                  refine ⟨?_, rfl⟩
                  unfold zisAct
                  simp_all [zb]
            · by_cases s6 : a = 6
              · refine zr_tcase d_Y_isAct_1 6 s6 (by decide) (by decide) rfl (tgt := 83) (by decide) ?_
                refine zr_iload_n d_Y_isAct_83 rfl ?_
                refine zr_if_lt (tgt := 99) d_Y_isAct_84 (by decide) (fun c84 => ?_) (fun c84 => ?_)
                · skip
                  refine zr_iconst (v := 0) d_Y_isAct_99 (by decide) ?_
                  refine zr_retz d_Y_isAct_100 rfl rfl (by decide) (by decide) ?_
                  refine ⟨?_, rfl⟩
                  unfold zisAct
                  simp_all [zb]
                · skip
                  refine zr_iload_n d_Y_isAct_87 rfl ?_
                  refine zr_gslen d_Y_isAct_88 d_Y_isAct_91 (by decide +kernel) ?_
                  refine zr_icmp_ge (tgt := 99) d_Y_isAct_92 (by decide) (fun c92 => ?_) (fun c92 => ?_)
                  · skip
                    refine zr_iconst (v := 0) d_Y_isAct_99 (by decide) ?_
                    refine zr_retz d_Y_isAct_100 rfl rfl (by decide) (by decide) ?_
                    refine ⟨?_, rfl⟩
                    unfold zisAct
                    simp_all [zb]
                  · skip
                    refine zr_iconst (v := 1) d_Y_isAct_95 (by decide) ?_
                    refine zr_goto (tgt := 100) d_Y_isAct_96 (by decide) ?_
                    refine zr_retz d_Y_isAct_100 rfl rfl (by decide) (by decide) ?_
                    refine ⟨?_, rfl⟩
                    unfold zisAct
                    simp_all [zb]
              · by_cases s7 : a = 7
                · refine zr_tcase d_Y_isAct_1 7 s7 (by decide) (by decide) rfl (tgt := 83) (by decide) ?_
                  refine zr_iload_n d_Y_isAct_83 rfl ?_
                  refine zr_if_lt (tgt := 99) d_Y_isAct_84 (by decide) (fun c84 => ?_) (fun c84 => ?_)
                  · skip
                    refine zr_iconst (v := 0) d_Y_isAct_99 (by decide) ?_
                    refine zr_retz d_Y_isAct_100 rfl rfl (by decide) (by decide) ?_
                    refine ⟨?_, rfl⟩
                    unfold zisAct
                    simp_all [zb]
                  · skip
                    refine zr_iload_n d_Y_isAct_87 rfl ?_
                    refine zr_gslen d_Y_isAct_88 d_Y_isAct_91 (by decide +kernel) ?_
                    refine zr_icmp_ge (tgt := 99) d_Y_isAct_92 (by decide) (fun c92 => ?_) (fun c92 => ?_)
                    · skip
                      refine zr_iconst (v := 0) d_Y_isAct_99 (by decide) ?_
                      refine zr_retz d_Y_isAct_100 rfl rfl (by decide) (by decide) ?_
                      refine ⟨?_, rfl⟩
                      unfold zisAct
                      simp_all [zb]
                    · skip
                      refine zr_iconst (v := 1) d_Y_isAct_95 (by decide) ?_
                      refine zr_goto (tgt := 100) d_Y_isAct_96 (by decide) ?_
                      refine zr_retz d_Y_isAct_100 rfl rfl (by decide) (by decide) ?_
                      refine ⟨?_, rfl⟩
                      unfold zisAct
                      simp_all [zb]
                · by_cases s8 : a = 8
                  · refine zr_tcase d_Y_isAct_1 8 s8 (by decide) (by decide) rfl (tgt := 83) (by decide) ?_
                    refine zr_iload_n d_Y_isAct_83 rfl ?_
                    refine zr_if_lt (tgt := 99) d_Y_isAct_84 (by decide) (fun c84 => ?_) (fun c84 => ?_)
                    · skip
                      refine zr_iconst (v := 0) d_Y_isAct_99 (by decide) ?_
                      refine zr_retz d_Y_isAct_100 rfl rfl (by decide) (by decide) ?_
                      refine ⟨?_, rfl⟩
                      unfold zisAct
                      simp_all [zb]
                    · skip
                      refine zr_iload_n d_Y_isAct_87 rfl ?_
                      refine zr_gslen d_Y_isAct_88 d_Y_isAct_91 (by decide +kernel) ?_
                      refine zr_icmp_ge (tgt := 99) d_Y_isAct_92 (by decide) (fun c92 => ?_) (fun c92 => ?_)
                      · skip
                        refine zr_iconst (v := 0) d_Y_isAct_99 (by decide) ?_
                        refine zr_retz d_Y_isAct_100 rfl rfl (by decide) (by decide) ?_
                        refine ⟨?_, rfl⟩
                        unfold zisAct
                        simp_all [zb]
                      · skip
                        refine zr_iconst (v := 1) d_Y_isAct_95 (by decide) ?_
                        refine zr_goto (tgt := 100) d_Y_isAct_96 (by decide) ?_
                        refine zr_retz d_Y_isAct_100 rfl rfl (by decide) (by decide) ?_
                        refine ⟨?_, rfl⟩
                        unfold zisAct
                        simp_all [zb]
                  · refine zr_tdef d_Y_isAct_1 (by have q2 := lv_neT s2 (a := 2) (by decide); have q3 := lv_neT s3 (a := 3) (by decide); have q4 := lv_neT s4 (a := 4) (by decide); have q5 := lv_neT s5 (a := 5) (by decide); have q6 := lv_neT s6 (a := 6) (by decide); have q7 := lv_neT s7 (a := 7) (by decide); have q8 := lv_neT s8 (a := 8) (by decide); have q9 := lv_neT s9 (a := 9) (by decide); have q10 := lv_neT s10 (a := 10) (by decide); omega) (tgt := 83) (by decide) ?_
                    refine zr_iload_n d_Y_isAct_83 rfl ?_
                    refine zr_if_lt (tgt := 99) d_Y_isAct_84 (by decide) (fun c84 => ?_) (fun c84 => ?_)
                    · skip
                      refine zr_iconst (v := 0) d_Y_isAct_99 (by decide) ?_
                      refine zr_retz d_Y_isAct_100 rfl rfl (by decide) (by decide) ?_
                      refine ⟨?_, rfl⟩
                      unfold zisAct
                      simp_all [zb]
                    · skip
                      refine zr_iload_n d_Y_isAct_87 rfl ?_
                      refine zr_gslen d_Y_isAct_88 d_Y_isAct_91 (by decide +kernel) ?_
                      refine zr_icmp_ge (tgt := 99) d_Y_isAct_92 (by decide) (fun c92 => ?_) (fun c92 => ?_)
                      · skip
                        refine zr_iconst (v := 0) d_Y_isAct_99 (by decide) ?_
                        refine zr_retz d_Y_isAct_100 rfl rfl (by decide) (by decide) ?_
                        refine ⟨?_, rfl⟩
                        unfold zisAct
                        simp_all [zb]
                      · skip
                        refine zr_iconst (v := 1) d_Y_isAct_95 (by decide) ?_
                        refine zr_goto (tgt := 100) d_Y_isAct_96 (by decide) ?_
                        refine zr_retz d_Y_isAct_100 rfl rfl (by decide) (by decide) ?_
                        refine ⟨?_, rfl⟩
                        unfold zisAct
                        simp_all [zb]

set_option maxHeartbeats 4000000 in
set_option maxRecDepth 20000 in
theorem c_Y_isPatience {G : yG} {μ : yW} {σ : zS} {p : Int32}  : zCT G m_Y_isPatience [yi p] σ μ (fun r σ' => r = some (yi (zb (zisPat p))) ∧ σ' = σ) := by
  refine zCT_of (by decide) rfl (ycat_of rfl) (Nat.le_of_ble_eq_true rfl) ?_
  refine zr_iload_n d_Y_isPatience_0 rfl ?_
  refine zr_iconst (v := -1) d_Y_isPatience_1 (by decide) ?_
  refine zr_icmp_lt (tgt := 15) d_Y_isPatience_2 (by decide) (fun c2 => ?_) (fun c2 => ?_)
  · skip
    refine zr_iconst (v := 0) d_Y_isPatience_15 (by decide) ?_
    refine zr_retz d_Y_isPatience_16 rfl rfl (by decide) (by decide) ?_
    refine ⟨?_, rfl⟩
    unfold zisPat
    simp_all [zb]
  · skip
    refine zr_iload_n d_Y_isPatience_5 rfl ?_
    refine zr_bipush (v := 100) d_Y_isPatience_6 (by decide) ?_
    refine zr_icmp_gt (tgt := 15) d_Y_isPatience_8 (by decide) (fun c8 => ?_) (fun c8 => ?_)
    · skip
      refine zr_iconst (v := 0) d_Y_isPatience_15 (by decide) ?_
      refine zr_retz d_Y_isPatience_16 rfl rfl (by decide) (by decide) ?_
      refine ⟨?_, rfl⟩
      unfold zisPat
      simp_all [zb]
    · skip
      refine zr_iconst (v := 1) d_Y_isPatience_11 (by decide) ?_
      refine zr_goto (tgt := 16) d_Y_isPatience_12 (by decide) ?_
      refine zr_retz d_Y_isPatience_16 rfl rfl (by decide) (by decide) ?_
      refine ⟨?_, rfl⟩
      unfold zisPat
      simp_all [zb]

def zsum (f : Nat → Int32) : Nat → Int32
  | 0 => 0
  | n + 1 => zsum f n + f n
def zcnt (f : Nat → Bool) : Nat → Int32
  | 0 => 0
  | n + 1 => if f n = true then zcnt f n + 1 else zcnt f n

set_option maxHeartbeats 4000000 in
set_option maxRecDepth 20000 in
theorem c_Y_actsEnded_loop {G : yG} {μ : yW} {σ : zS} {h : Nat} (hh : h < 5) : ∀ (m q : Nat) (x : Option yV), m + q = 6 → yWP G m_Y_actsEnded (zQ G m_Y_actsEnded μ (fun r σ' => r = some (yi (zsum (fun t => zen σ t h) 6)) ∧ σ' = σ)) μ.1 14 [some (yr 0), some (yi (nI h)), some (yi (zsum (fun t => zen σ t h) q)), some (yr 1), some (yi (nI 6)), some (yi (nI q)), x] [] (zC σ μ) 0 0 := by
  intro m
  induction m with
  | zero =>
    intro q x hm
    have hq : q = 6 := by omega
    subst hq
    refine zr_iload d_Y_actsEnded_14 rfl ?_
    refine zr_iload d_Y_actsEnded_16 rfl ?_
    refine zr_icmp_ge (tgt := 43) d_Y_actsEnded_18 (by decide) (fun c18 => ?_) (fun c18 => absurd (by decide) c18)
    refine zr_iload_n d_Y_actsEnded_43 rfl ?_
    exact zr_reti d_Y_actsEnded_44 rfl (by decide) (by decide) ⟨rfl, rfl⟩
  | succ m ih =>
    intro q x hm
    have ht : q < 6 := by omega
    refine zr_iload d_Y_actsEnded_14 rfl ?_
    refine zr_iload d_Y_actsEnded_16 rfl ?_
    refine zr_icmp_ge (tgt := 43) d_Y_actsEnded_18 (by decide) (fun c18 => absurd c18 (nI_ge ht (by omega))) (fun c18 => ?_)
    refine zr_aload_n d_Y_actsEnded_21 rfl ?_
    refine zr_iload d_Y_actsEnded_22 rfl ?_
    refine zr_thld d_Y_actsEnded_24 rfl ht ?_
    refine zr_astore d_Y_actsEnded_25 (by decide) rfl ?_
    refine zr_iload_n d_Y_actsEnded_27 rfl ?_
    refine zr_aload d_Y_actsEnded_28 rfl ?_
    refine zr_tended d_Y_actsEnded_30 (by first | assumption | omega) sf_Y_actsEnded_30 ?_
    refine zr_iload_n d_Y_actsEnded_33 rfl ?_
    refine zr_eld d_Y_actsEnded_34 ht rfl hh ?_
    refine zr_iadd d_Y_actsEnded_35 ?_
    refine zr_istore_n d_Y_actsEnded_36 (by decide) rfl ?_
    refine zr_iinc (v := nI (q + 1)) d_Y_actsEnded_37 rfl (nI_1 q) (by decide) rfl ?_
    refine zr_goto (tgt := 14) d_Y_actsEnded_40 (by decide) ?_
    exact ih (q + 1) _ (by omega)

set_option maxHeartbeats 4000000 in
set_option maxRecDepth 20000 in
theorem c_Y_actsEnded {G : yG} {μ : yW} {σ : zS} {h : Nat} (hh : h < 5)  : zCT G m_Y_actsEnded [yr 0, yi (nI h)] σ μ (fun r σ' => r = some (yi (zsum (fun t => zen σ t h) 6)) ∧ σ' = σ) := by
  refine zCT_of (by decide) rfl (ycat_of rfl) (Nat.le_of_ble_eq_true rfl) ?_
  refine zr_iconst (v := 0) d_Y_actsEnded_0 (by decide) ?_
  refine zr_istore_n d_Y_actsEnded_1 (by decide) rfl ?_
  refine zr_aload_n d_Y_actsEnded_2 rfl ?_
  refine zr_ythr d_Y_actsEnded_3 sf_Y_actsEnded_3 ?_
  refine zr_astore_n d_Y_actsEnded_6 (by decide) rfl ?_
  refine zr_aload_n d_Y_actsEnded_7 rfl ?_
  refine zr_thlen d_Y_actsEnded_8 ?_
  refine zr_istore d_Y_actsEnded_9 (by decide) rfl ?_
  refine zr_iconst (v := 0) d_Y_actsEnded_11 (by decide) ?_
  refine zr_istore d_Y_actsEnded_12 (by decide) rfl ?_
  exact c_Y_actsEnded_loop hh 6 0 _ rfl

set_option maxHeartbeats 4000000 in
set_option maxRecDepth 20000 in
theorem c_Y_runningThreads_loop {G : yG} {μ : yW} {σ : zS}  : ∀ (m q : Nat) (x : Option yV), m + q = 6 → yWP G m_Y_runningThreads (zQ G m_Y_runningThreads μ (fun r σ' => r = some (yi (zcnt (fun t => decide (zth σ 2 t = 0)) 6)) ∧ σ' = σ)) μ.1 13 [some (yr 0), some (yi (zcnt (fun t => decide (zth σ 2 t = 0)) q)), some (yr 1), some (yi (nI 6)), some (yi (nI q)), x] [] (zC σ μ) 0 0 := by
  intro m
  induction m with
  | zero =>
    intro q x hm
    have hq : q = 6 := by omega
    subst hq
    refine zr_iload d_Y_runningThreads_13 rfl ?_
    refine zr_iload_n d_Y_runningThreads_15 rfl ?_
    refine zr_icmp_ge (tgt := 42) d_Y_runningThreads_16 (by decide) (fun c18 => ?_) (fun c18 => absurd (by decide) c18)
    refine zr_iload_n d_Y_runningThreads_42 rfl ?_
    exact zr_reti d_Y_runningThreads_43 rfl (by decide) (by decide) ⟨rfl, rfl⟩
  | succ m ih =>
    intro q x hm
    have ht : q < 6 := by omega
    refine zr_iload d_Y_runningThreads_13 rfl ?_
    refine zr_iload_n d_Y_runningThreads_15 rfl ?_
    refine zr_icmp_ge (tgt := 42) d_Y_runningThreads_16 (by decide) (fun c18 => absurd c18 (nI_ge ht (by omega))) (fun c18 => ?_)
    refine zr_aload_n d_Y_runningThreads_19 rfl ?_
    refine zr_iload d_Y_runningThreads_20 rfl ?_
    refine zr_thld d_Y_runningThreads_22 rfl ht ?_
    refine zr_astore d_Y_runningThreads_23 (by decide) rfl ?_
    refine zr_aload d_Y_runningThreads_25 rfl ?_
    refine zr_tgeti d_Y_runningThreads_27 (by first | assumption | omega) sf_Y_runningThreads_27 rfl rfl ?_
    refine zr_if_ne (tgt := 36) d_Y_runningThreads_30 (by decide) (fun c30 => ?_) (fun c30 => ?_)
    · skip
      refine zr_iinc (v := nI (q + 1)) d_Y_runningThreads_36 rfl (nI_1 q) (by decide) rfl ?_
      refine zr_goto (tgt := 13) d_Y_runningThreads_39 (by decide) ?_
      have k := ih (q + 1) (some (yr (10 + q))) (by omega)
      have e1 : zcnt (fun t => decide (zth σ 2 t = 0)) (q + 1) = (if zth σ 2 q = 0 then zcnt (fun t => decide (zth σ 2 t = 0)) q + 1 else zcnt (fun t => decide (zth σ 2 t = 0)) q) := by simp [zcnt]
      rw [e1] at k
      first
        | (rw [if_pos c30] at k; exact k)
        | (rw [if_neg c30] at k; exact k)
    · skip
      refine zr_iinc d_Y_runningThreads_33 rfl rfl (by decide) rfl ?_
      refine zr_iinc (v := nI (q + 1)) d_Y_runningThreads_36 rfl (nI_1 q) (by decide) rfl ?_
      refine zr_goto (tgt := 13) d_Y_runningThreads_39 (by decide) ?_
      have k := ih (q + 1) (some (yr (10 + q))) (by omega)
      have e1 : zcnt (fun t => decide (zth σ 2 t = 0)) (q + 1) = (if zth σ 2 q = 0 then zcnt (fun t => decide (zth σ 2 t = 0)) q + 1 else zcnt (fun t => decide (zth σ 2 t = 0)) q) := by simp [zcnt]
      rw [e1] at k
      first
        | (rw [if_pos c30] at k; exact k)
        | (rw [if_neg c30] at k; exact k)

set_option maxHeartbeats 4000000 in
set_option maxRecDepth 20000 in
theorem c_Y_runningThreads {G : yG} {μ : yW} {σ : zS}  : zCT G m_Y_runningThreads [yr 0] σ μ (fun r σ' => r = some (yi (zcnt (fun t => decide (zth σ 2 t = 0)) 6)) ∧ σ' = σ) := by
  refine zCT_of (by decide) rfl (ycat_of rfl) (Nat.le_of_ble_eq_true rfl) ?_
  refine zr_iconst (v := 0) d_Y_runningThreads_0 (by decide) ?_
  refine zr_istore_n d_Y_runningThreads_1 (by decide) rfl ?_
  refine zr_aload_n d_Y_runningThreads_2 rfl ?_
  refine zr_ythr d_Y_runningThreads_3 sf_Y_runningThreads_3 ?_
  refine zr_astore_n d_Y_runningThreads_6 (by decide) rfl ?_
  refine zr_aload_n d_Y_runningThreads_7 rfl ?_
  refine zr_thlen d_Y_runningThreads_8 ?_
  refine zr_istore_n d_Y_runningThreads_9 (by decide) rfl ?_
  refine zr_iconst (v := 0) d_Y_runningThreads_10 (by decide) ?_
  refine zr_istore d_Y_runningThreads_11 (by decide) rfl ?_
  exact c_Y_runningThreads_loop 6 0 _ rfl

def zcount (σ : zS) (x : Int32) : Int32 := if x = 0 then nI (zn σ) else if x = 1 then zsum (fun t => zen σ t 0) 6 else if x = 2 then zsum (fun t => zen σ t 2) 6 else if x = 3 then zsum (fun t => zen σ t 3) 6 else if x = 4 then zsum (fun t => zen σ t 4) 6 else if x = 5 then ztk σ else if x = 6 then zcnt (fun t => decide (zth σ 2 t = 0)) 6 else -1

set_option maxHeartbeats 4000000 in
set_option maxRecDepth 20000 in
theorem c_Y_count {G : yG} {μ : yW} {σ : zS} {x : Int32}  : zCT G m_Y_count [yr 0, yi x] σ μ (fun r σ' => r = some (yi (zcount σ x)) ∧ σ' = σ) := by
  refine zCT_of (by decide) rfl (ycat_of rfl) (Nat.le_of_ble_eq_true rfl) ?_
  refine zr_iload_n d_Y_count_0 rfl ?_
  by_cases s0 : x = 0
  · refine zr_tcase d_Y_count_1 0 s0 (by decide) (by decide) rfl (tgt := 44) (by decide) ?_
    refine zr_aload_n d_Y_count_44 rfl ?_
    refine zr_ycnt d_Y_count_45 sf_Y_count_45 ?_
    refine zr_reti d_Y_count_48 rfl (by decide) (by decide) ?_
    refine ⟨?_, rfl⟩
    simp only [zcount, *]
    first | rfl | (simp; done) | (simp; rfl)
  · skip
    by_cases s1 : x = 1
    · refine zr_tcase d_Y_count_1 1 s1 (by decide) (by decide) rfl (tgt := 49) (by decide) ?_
      refine zr_aload_n d_Y_count_49 rfl ?_
      refine zr_iconst (v := 0) d_Y_count_50 (by decide) ?_
      refine zr_call (zrunV (As := [yi 0]) (rest := []) d_Y_count_51 (fun ω h => h.1.1) rfl (c_Y_actsEnded (h := 0) (by omega)) 1 rfl (by decide +kernel) cw_Y_actsEnded (Nat.le_of_ble_eq_true rfl) (ycat_of rfl) (by decide) (by decide)) (fun r σ9 hp => ?_)
      obtain ⟨rfl, rfl⟩ := hp
      refine zr_reti d_Y_count_54 rfl (by decide) (by decide) ?_
      refine ⟨?_, rfl⟩
      simp only [zcount, *]
      first | rfl | (simp; done) | (simp; rfl)
    · skip
      by_cases s2 : x = 2
      · refine zr_tcase d_Y_count_1 2 s2 (by decide) (by decide) rfl (tgt := 55) (by decide) ?_
        refine zr_aload_n d_Y_count_55 rfl ?_
        refine zr_iconst (v := 2) d_Y_count_56 (by decide) ?_
        refine zr_call (zrunV (As := [yi 2]) (rest := []) d_Y_count_57 (fun ω h => h.1.1) rfl (c_Y_actsEnded (h := 2) (by omega)) 1 rfl (by decide +kernel) cw_Y_actsEnded (Nat.le_of_ble_eq_true rfl) (ycat_of rfl) (by decide) (by decide)) (fun r σ9 hp => ?_)
        obtain ⟨rfl, rfl⟩ := hp
        refine zr_reti d_Y_count_60 rfl (by decide) (by decide) ?_
        refine ⟨?_, rfl⟩
        simp only [zcount, *]
        first | rfl | (simp; done) | (simp; rfl)
      · skip
        by_cases s3 : x = 3
        · refine zr_tcase d_Y_count_1 3 s3 (by decide) (by decide) rfl (tgt := 61) (by decide) ?_
          refine zr_aload_n d_Y_count_61 rfl ?_
          refine zr_iconst (v := 3) d_Y_count_62 (by decide) ?_
          refine zr_call (zrunV (As := [yi 3]) (rest := []) d_Y_count_63 (fun ω h => h.1.1) rfl (c_Y_actsEnded (h := 3) (by omega)) 1 rfl (by decide +kernel) cw_Y_actsEnded (Nat.le_of_ble_eq_true rfl) (ycat_of rfl) (by decide) (by decide)) (fun r σ9 hp => ?_)
          obtain ⟨rfl, rfl⟩ := hp
          refine zr_reti d_Y_count_66 rfl (by decide) (by decide) ?_
          refine ⟨?_, rfl⟩
          simp only [zcount, *]
          first | rfl | (simp; done) | (simp; rfl)
        · skip
          by_cases s4 : x = 4
          · refine zr_tcase d_Y_count_1 4 s4 (by decide) (by decide) rfl (tgt := 67) (by decide) ?_
            refine zr_aload_n d_Y_count_67 rfl ?_
            refine zr_iconst (v := 4) d_Y_count_68 (by decide) ?_
            refine zr_call (zrunV (As := [yi 4]) (rest := []) d_Y_count_69 (fun ω h => h.1.1) rfl (c_Y_actsEnded (h := 4) (by omega)) 1 rfl (by decide +kernel) cw_Y_actsEnded (Nat.le_of_ble_eq_true rfl) (ycat_of rfl) (by decide) (by decide)) (fun r σ9 hp => ?_)
            obtain ⟨rfl, rfl⟩ := hp
            refine zr_reti d_Y_count_72 rfl (by decide) (by decide) ?_
            refine ⟨?_, rfl⟩
            simp only [zcount, *]
            first | rfl | (simp; done) | (simp; rfl)
          · skip
            by_cases s5 : x = 5
            · refine zr_tcase d_Y_count_1 5 s5 (by decide) (by decide) rfl (tgt := 73) (by decide) ?_
              refine zr_aload_n d_Y_count_73 rfl ?_
              refine zr_ytk d_Y_count_74 sf_Y_count_74 ?_
              refine zr_reti d_Y_count_77 rfl (by decide) (by decide) ?_
              refine ⟨?_, rfl⟩
              simp only [zcount, *]
              first | rfl | (simp; done) | (simp; rfl)
            · skip
              by_cases s6 : x = 6
              · refine zr_tcase d_Y_count_1 6 s6 (by decide) (by decide) rfl (tgt := 78) (by decide) ?_
                refine zr_aload_n d_Y_count_78 rfl ?_
                refine zr_call (zrunV (As := []) (rest := []) d_Y_count_79 (fun ω h => h.1.1) rfl (c_Y_runningThreads) 0 rfl (by decide +kernel) cw_Y_runningThreads (Nat.le_of_ble_eq_true rfl) (ycat_of rfl) (by decide) (by decide)) (fun r σ9 hp => ?_)
                obtain ⟨rfl, rfl⟩ := hp
                refine zr_reti d_Y_count_82 rfl (by decide) (by decide) ?_
                refine ⟨?_, rfl⟩
                simp only [zcount, *]
                first | rfl | (simp; done) | (simp; rfl)
              · skip
                refine zr_tdef d_Y_count_1 (by have q0 := lv_neT s0 (a := 0) (by decide); have q1 := lv_neT s1 (a := 1) (by decide); have q2 := lv_neT s2 (a := 2) (by decide); have q3 := lv_neT s3 (a := 3) (by decide); have q4 := lv_neT s4 (a := 4) (by decide); have q5 := lv_neT s5 (a := 5) (by decide); have q6 := lv_neT s6 (a := 6) (by decide); omega) (tgt := 83) (by decide) ?_
                refine zr_iconst (v := -1) d_Y_count_83 (by decide) ?_
                refine zr_reti d_Y_count_84 rfl (by decide) (by decide) ?_
                refine ⟨?_, rfl⟩
                simp only [zcount, *]
                first | rfl | (simp; done) | (simp; rfl)
