/-! the model: tick, interrupt -/
def mTk (G : yG) (s : Nat → Option ySh) (F : Nat → Nat → Option Nat) (R : zS → mM → Prop) : Prop := ∀ σ M t, R σ M → t < 6 → (M 205 t ≤ 0 ∧ ztk1 σ t = (σ, false)) ∨ (¬ M 205 t ≤ 0 ∧ ¬ M 205 t - 1 ≤ 0 ∧ (ztk1 σ t).2 = false ∧ R (ztk1 σ t).1 (yu M 205 t (M 205 t - 1))) ∨ (¬ M 205 t ≤ 0 ∧ M 205 t - 1 ≤ 0 ∧ (ztk1 σ t).2 = true ∧ mCT G m_M_leave [yr 200, yi (nI t), yi 2] s F (yu M 205 t (M 205 t - 1)) (fun r M' => r = none ∧ R (ztk1 σ t).1 M'))
theorem ztkL_c : ∀ (m q : Nat) (c : Int32) (σ : zS), ztkL m q c σ = ((ztkL m q 0 σ).1, c + (ztkL m q 0 σ).2)
  | 0, q, c, σ => by show (σ, c) = (σ, c + 0); rw [Int32.add_zero]
  | m + 1, q, c, σ => by
    show ztkL m (q + 1) (if (ztk1 σ q).2 = true then c + 1 else c) (ztk1 σ q).1 = ((ztkL m (q + 1) (if (ztk1 σ q).2 = true then 0 + 1 else 0) (ztk1 σ q).1).1, c + (ztkL m (q + 1) (if (ztk1 σ q).2 = true then 0 + 1 else 0) (ztk1 σ q).1).2)
    rw [ztkL_c m (q + 1) (if (ztk1 σ q).2 = true then c + 1 else c), ztkL_c m (q + 1) (if (ztk1 σ q).2 = true then 0 + 1 else 0)]
    refine Prod.ext rfl ?_
    show (if (ztk1 σ q).2 = true then c + 1 else c) + _ = c + ((if (ztk1 σ q).2 = true then 0 + 1 else 0) + _)
    by_cases h : (ztk1 σ q).2 = true
    · rw [if_pos h, if_pos h, Int32.zero_add, Int32.add_assoc]
    · rw [if_neg h, if_neg h, Int32.zero_add]

set_option maxHeartbeats 4000000 in
set_option maxRecDepth 20000 in
theorem c_M_tick_in {G : yG} {s : Nat → Option ySh} {F : Nat → Nat → Option Nat} (hS : mSh s F) {R : zS → mM → Prop} (hTk : mTk G s F R) {n k : Nat} {POST : Option yV → mM → Prop} : ∀ (m q : Nat) (c : Int32) (σ : zS) (M : mM), m + q = 6 → R σ M → (∀ M', R (ztkL m q c σ).1 M' → yWW G m_M_tick (mQ G m_M_tick s F POST) s 98 [some (yr 200), some (yi (nI n)), some (yi (ztkL m q c σ).2), some (yi (nI k)), some (yi (nI 6))] [] (mw s F M') 0 0) → yWW G m_M_tick (mQ G m_M_tick s F POST) s 38 [some (yr 200), some (yi (nI n)), some (yi c), some (yi (nI k)), some (yi (nI q))] [] (mw s F M) 0 0 := by
  intro m
  induction m with
  | zero =>
    intro q c σ M hm hRM hk
    have hq : q = 6 := by omega
    subst hq
    refine yr_iload d_M_tick_38 rfl ?_
    refine yr_bipush (v := 6) d_M_tick_40 (by decide) ?_
    refine yr_icmp_ge (tgt := 98) d_M_tick_42 (by decide) (fun c42 => ?_) (fun c42 => absurd (nI_le (a := 6) (by omega) (by omega)) c42)
    exact hk M hRM
  | succ m ih =>
    intro q c σ M hm hRM hk
    rcases hTk σ M q hRM (by omega) with ⟨h1, hz⟩ | ⟨h1, h2, h3, h4⟩ | ⟨h1, h2, h3, h4⟩
    · skip
      refine yr_iload d_M_tick_38 rfl ?_
      refine yr_bipush (v := 6) d_M_tick_40 (by decide) ?_
      refine yr_icmp_ge (tgt := 98) d_M_tick_42 (by decide) (fun c42 => absurd c42 (nI_ge (b := 6) (by omega) (by omega))) (fun c42 => ?_)
      refine yr_aload_n d_M_tick_45 rfl ?_
      refine mr_arr (a := 4) (K := 205) hS d_M_tick_46 sf_M_tick_46 rfl (by decide) rfl ?_
      refine yr_iload d_M_tick_49 rfl ?_
      refine mr_ld (a := 4) (K := 205) (n := 6) (j := q) hS d_M_tick_51 (by decide) rfl rfl rfl (by simp only [nI0, nI1, nI2, nI3, nI4, nI6, nI_mulN, nI_add]) (by omega) ?_
      refine yr_if_gt (tgt := 58) d_M_tick_52 (by decide) (fun c52 => absurd c52 (Int32.not_lt.mpr h1)) (fun c52 => ?_)
      refine yr_goto (tgt := 92) d_M_tick_55 (by decide) ?_
      refine yr_iinc (v := nI (q + 1)) d_M_tick_92 rfl (nI_1 (q)) (by decide) rfl ?_
      refine yr_goto (tgt := 38) d_M_tick_95 (by decide) ?_
      refine ih (q + 1) c σ M (by omega) hRM (fun M' h9 => ?_)
      rw [show ztkL (m + 1) q c σ = ztkL m (q + 1) c σ by show ztkL m (q + 1) (if (ztk1 σ q).2 = true then c + 1 else c) (ztk1 σ q).1 = _; rw [hz]; rfl] at hk
      exact hk M' h9
    · skip
      refine yr_iload d_M_tick_38 rfl ?_
      refine yr_bipush (v := 6) d_M_tick_40 (by decide) ?_
      refine yr_icmp_ge (tgt := 98) d_M_tick_42 (by decide) (fun c42 => absurd c42 (nI_ge (b := 6) (by omega) (by omega))) (fun c42 => ?_)
      refine yr_aload_n d_M_tick_45 rfl ?_
      refine mr_arr (a := 4) (K := 205) hS d_M_tick_46 sf_M_tick_46 rfl (by decide) rfl ?_
      refine yr_iload d_M_tick_49 rfl ?_
      refine mr_ld (a := 4) (K := 205) (n := 6) (j := q) hS d_M_tick_51 (by decide) rfl rfl rfl (by simp only [nI0, nI1, nI2, nI3, nI4, nI6, nI_mulN, nI_add]) (by omega) ?_
      refine yr_if_gt (tgt := 58) d_M_tick_52 (by decide) (fun c52 => ?_) (fun c52 => absurd (Int32.not_le.mp h1) c52)
      refine yr_aload_n d_M_tick_58 rfl ?_
      refine mr_arr (a := 4) (K := 205) hS d_M_tick_59 sf_M_tick_59 rfl (by decide) rfl ?_
      refine yr_iload d_M_tick_62 rfl ?_
      refine yr_dup2 d_M_tick_64 (fun _ => rfl) (fun _ => rfl) ?_
      refine mr_ld (a := 4) (K := 205) (n := 6) (j := q) hS d_M_tick_65 (by decide) rfl rfl rfl (by simp only [nI0, nI1, nI2, nI3, nI4, nI6, nI_mulN, nI_add]) (by omega) ?_
      refine yr_iconst (v := 1) d_M_tick_66 (by decide) ?_
      refine yr_isub d_M_tick_67 ?_
      refine mr_st (a := 4) (K := 205) (n := 6) (j := q) hS d_M_tick_68 (by decide) rfl rfl rfl (by simp only [nI0, nI1, nI2, nI3, nI4, nI6, nI_mulN, nI_add]) (by omega) ?_
      refine yr_aload_n d_M_tick_69 rfl ?_
      refine mr_arr (a := 4) (K := 205) hS d_M_tick_70 sf_M_tick_70 rfl (by decide) rfl ?_
      refine yr_iload d_M_tick_73 rfl ?_
      refine mr_ld (a := 4) (K := 205) (n := 6) (j := q) hS d_M_tick_75 (by decide) rfl rfl rfl (by simp only [nI0, nI1, nI2, nI3, nI4, nI6, nI_mulN, nI_add]) (by omega) ?_
      rw [yu_same]
      refine yr_if_le (tgt := 82) d_M_tick_76 (by decide) (fun c76 => absurd c76 h2) (fun c76 => ?_)
      refine yr_goto (tgt := 92) d_M_tick_79 (by decide) ?_
      refine yr_iinc (v := nI (q + 1)) d_M_tick_92 rfl (nI_1 (q)) (by decide) rfl ?_
      refine yr_goto (tgt := 38) d_M_tick_95 (by decide) ?_
      refine ih (q + 1) c (ztk1 σ q).1 _ (by omega) h4 (fun M' h9 => ?_)
      rw [show ztkL (m + 1) q c σ = ztkL m (q + 1) c (ztk1 σ q).1 by show ztkL m (q + 1) (if (ztk1 σ q).2 = true then c + 1 else c) (ztk1 σ q).1 = _; rw [if_neg (by rw [h3]; decide)]] at hk
      exact hk M' h9
    · skip
      refine yr_iload d_M_tick_38 rfl ?_
      refine yr_bipush (v := 6) d_M_tick_40 (by decide) ?_
      refine yr_icmp_ge (tgt := 98) d_M_tick_42 (by decide) (fun c42 => absurd c42 (nI_ge (b := 6) (by omega) (by omega))) (fun c42 => ?_)
      refine yr_aload_n d_M_tick_45 rfl ?_
      refine mr_arr (a := 4) (K := 205) hS d_M_tick_46 sf_M_tick_46 rfl (by decide) rfl ?_
      refine yr_iload d_M_tick_49 rfl ?_
      refine mr_ld (a := 4) (K := 205) (n := 6) (j := q) hS d_M_tick_51 (by decide) rfl rfl rfl (by simp only [nI0, nI1, nI2, nI3, nI4, nI6, nI_mulN, nI_add]) (by omega) ?_
      refine yr_if_gt (tgt := 58) d_M_tick_52 (by decide) (fun c52 => ?_) (fun c52 => absurd (Int32.not_le.mp h1) c52)
      refine yr_aload_n d_M_tick_58 rfl ?_
      refine mr_arr (a := 4) (K := 205) hS d_M_tick_59 sf_M_tick_59 rfl (by decide) rfl ?_
      refine yr_iload d_M_tick_62 rfl ?_
      refine yr_dup2 d_M_tick_64 (fun _ => rfl) (fun _ => rfl) ?_
      refine mr_ld (a := 4) (K := 205) (n := 6) (j := q) hS d_M_tick_65 (by decide) rfl rfl rfl (by simp only [nI0, nI1, nI2, nI3, nI4, nI6, nI_mulN, nI_add]) (by omega) ?_
      refine yr_iconst (v := 1) d_M_tick_66 (by decide) ?_
      refine yr_isub d_M_tick_67 ?_
      refine mr_st (a := 4) (K := 205) (n := 6) (j := q) hS d_M_tick_68 (by decide) rfl rfl rfl (by simp only [nI0, nI1, nI2, nI3, nI4, nI6, nI_mulN, nI_add]) (by omega) ?_
      refine yr_aload_n d_M_tick_69 rfl ?_
      refine mr_arr (a := 4) (K := 205) hS d_M_tick_70 sf_M_tick_70 rfl (by decide) rfl ?_
      refine yr_iload d_M_tick_73 rfl ?_
      refine mr_ld (a := 4) (K := 205) (n := 6) (j := q) hS d_M_tick_75 (by decide) rfl rfl rfl (by simp only [nI0, nI1, nI2, nI3, nI4, nI6, nI_mulN, nI_add]) (by omega) ?_
      rw [yu_same]
      refine yr_if_le (tgt := 82) d_M_tick_76 (by decide) (fun c76 => ?_) (fun c76 => absurd h2 c76)
      refine yr_iinc d_M_tick_82 rfl rfl (by decide) rfl ?_
      refine yr_aload_n d_M_tick_85 rfl ?_
      refine yr_iload d_M_tick_86 rfl ?_
      refine yr_iconst (v := 2) d_M_tick_88 (by decide) ?_
      refine mr_call (yrunV (X := yNX) (k := 200) (As := [yi (nI q), yi 2]) (rest := []) d_M_tick_89 (h4) hS.1 rfl (show yck (yMm m_M_tick) m_M_leave 2 = true by decide +kernel) cw_M_leave (by decide +kernel) (by decide +kernel) (by decide +kernel) (by decide +kernel) (Nat.le_of_ble_eq_true rfl) (ycat_of rfl) (by decide) (by decide)) (fun r M9 hp => ?_)
      obtain ⟨rfl, hR9⟩ := hp
      refine yr_iinc (v := nI (q + 1)) d_M_tick_92 rfl (nI_1 (q)) (by decide) rfl ?_
      refine yr_goto (tgt := 38) d_M_tick_95 (by decide) ?_
      refine ih (q + 1) (c + 1) (ztk1 σ q).1 _ (by omega) hR9 (fun M' h9 => ?_)
      rw [show ztkL (m + 1) q c σ = ztkL m (q + 1) (c + 1) (ztk1 σ q).1 by show ztkL m (q + 1) (if (ztk1 σ q).2 = true then c + 1 else c) (ztk1 σ q).1 = _; rw [if_pos h3]] at hk
      exact hk M' h9

set_option maxHeartbeats 4000000 in
set_option maxRecDepth 20000 in
theorem c_M_tick_out {G : yG} {s : Nat → Option ySh} {F : Nat → Nat → Option Nat} (hS : mSh s F) {R : zS → mM → Prop} (hTk : mTk G s F R) {n : Nat} (hn : n ≤ 50) (hE : ∀ σ M, R σ M → R (zstk σ (ztk σ + 1)) (yu M 200 24 (M 200 24 + 1))) : ∀ (m k : Nat) (c : Int32) (σ : zS) (M : mM) (x4 : Option yV), m + k = n → R σ M → yWW G m_M_tick (mQ G m_M_tick s F (fun r M' => r = some (yi (ztickL m c σ).2) ∧ R (ztickL m c σ).1 M')) s 20 [some (yr 200), some (yi (nI n)), some (yi c), some (yi (nI k)), x4] [] (mw s F M) 0 0 := by
  intro m
  induction m with
  | zero =>
    intro k c σ M x4 hm hRM
    refine yr_iload_n d_M_tick_20 rfl ?_
    refine yr_iload_n d_M_tick_21 rfl ?_
    refine yr_icmp_ge (tgt := 104) d_M_tick_22 (by decide) (fun c22 => ?_) (fun c22 => absurd (nI_le (by omega) (by omega)) c22)
    refine yr_iload_n d_M_tick_104 rfl ?_
    exact yr_reti d_M_tick_105 rfl (by decide) (by decide) ⟨_, rfl, rfl, hRM⟩
  | succ m ih =>
    intro k c σ M x4 hm hRM
    refine yr_iload_n d_M_tick_20 rfl ?_
    refine yr_iload_n d_M_tick_21 rfl ?_
    refine yr_icmp_ge (tgt := 104) d_M_tick_22 (by decide) (fun c22 => absurd c22 (nI_ge (by omega) (by omega))) (fun c22 => ?_)
    refine yr_aload_n d_M_tick_25 rfl ?_
    refine yr_dup d_M_tick_26 (fun _ => rfl) ?_
    refine mr_geti (f := 24) hS d_M_tick_27 sf_M_tick_27 rfl ?_
    refine yr_iconst (v := 1) d_M_tick_30 (by decide) ?_
    refine yr_iadd d_M_tick_31 ?_
    refine mr_puti (f := 24) hS d_M_tick_32 sf_M_tick_32 rfl rfl ⟨rfl, rfl⟩ ?_
    refine yr_iconst (v := 0) d_M_tick_35 (by decide) ?_
    refine yr_istore d_M_tick_36 (by decide) rfl ?_
    refine c_M_tick_in hS hTk 6 0 c (zstk σ (ztk σ + 1)) _ rfl (hE σ M hRM) (fun M' h9 => ?_)
    rw [ztkL_c] at h9 ⊢
    refine yr_iinc (v := nI (k + 1)) d_M_tick_98 rfl (nI_1 k) (by decide) rfl ?_
    refine yr_goto (tgt := 20) d_M_tick_101 (by decide) ?_
    exact ih (k + 1) _ _ M' _ (by omega) h9

set_option maxHeartbeats 4000000 in
set_option maxRecDepth 20000 in
theorem c_M_tick {G : yG} {s : Nat → Option ySh} {F : Nat → Nat → Option Nat} (hS : mSh s F) {R : zS → mM → Prop} (hTk : mTk G s F R) {M : mM} {x : Int32} {σ : zS} (hE : ∀ σ M, R σ M → R (zstk σ (ztk σ + 1)) (yu M 200 24 (M 200 24 + 1))) (hRM : R σ (yu M 200 26 0)) : mCT G m_M_tick [yr 200, yi x] s F M (fun r M' => ((x < 1 ∨ ¬ x ≤ 50) ∧ M' = yu M 200 26 1 ∧ ∃ v, r = some (yi v)) ∨ (¬ x < 1 ∧ x ≤ 50 ∧ r = some (yi (ztickL x.toNatClampNeg 0 σ).2) ∧ R (ztickL x.toNatClampNeg 0 σ).1 M')) := by
  refine yCT_of (by decide) rfl (ycat_of rfl) (Nat.le_of_ble_eq_true rfl) ?_
  cases h1 : mIn x 1 50 with
  | false =>
    refine yr_aload_n d_M_tick_0 rfl ?_
    refine yr_iload_n d_M_tick_1 rfl ?_
    refine yr_iconst (v := 1) d_M_tick_2 (by decide) ?_
    refine yr_bipush (v := 50) d_M_tick_3 (by decide) ?_
    refine mr_call (yrunS (X := yNX) (As := [yi x, yi 1, yi 50]) (rest := [yr 200]) d_M_tick_5 (c_M_in hS) (show yck (yMm m_M_tick) m_M_in 3 = true by decide +kernel) cw_M_in (by decide +kernel) (by decide +kernel) (by decide +kernel) (Nat.le_of_ble_eq_true rfl) (ycat_of rfl) (by decide) (by decide)) (fun r M9 hp => ?_)
    obtain ⟨rfl, hM9⟩ := hp
    rw [hM9, h1]
    refine mr_call (yrunV (X := yNX) (k := 200) (As := [yi (zb false)]) (rest := []) d_M_tick_8 (c_M_bad (b := false) hS) hS.1 rfl (show yck (yMm m_M_tick) m_M_bad 1 = true by decide +kernel) cw_M_bad (by decide +kernel) (by decide +kernel) (by decide +kernel) (by decide +kernel) (Nat.le_of_ble_eq_true rfl) (ycat_of rfl) (by decide) (by decide)) (fun r M9 hp => ?_)
    obtain ⟨rfl, hM9⟩ := hp
    rw [hM9, show mBad M false = yu M 200 26 1 from rfl]
    refine yr_if_eq (tgt := 16) d_M_tick_11 (by decide) (fun c11 => absurd c11 (by decide)) (fun c11 => ?_)
    refine yr_iconst (v := 0) d_M_tick_14 (by decide) ?_
    exact yr_reti d_M_tick_15 rfl (by decide) (by decide) ⟨_, rfl, Or.inl ⟨by by_cases h9 : x < 1; exact Or.inl h9; exact Or.inr (fun z => by rw [mIn_rng.mpr ⟨Int32.not_lt.mp h9, z⟩] at h1; cases h1), rfl, _, rfl⟩⟩
  | true =>
    have c2 : ¬ x < 1 := Int32.not_lt.mpr (mIn_rng.mp h1).1
    have c8 := (mIn_rng.mp h1).2
    obtain ⟨n, hn, rfl⟩ := nI_of2 (M := 50) (n := 50) rfl (fun z => c2 (Int32.lt_trans z (by decide))) c8
    refine yr_aload_n d_M_tick_0 rfl ?_
    refine yr_iload_n d_M_tick_1 rfl ?_
    refine yr_iconst (v := 1) d_M_tick_2 (by decide) ?_
    refine yr_bipush (v := 50) d_M_tick_3 (by decide) ?_
    refine mr_call (yrunS (X := yNX) (As := [yi (nI n), yi 1, yi 50]) (rest := [yr 200]) d_M_tick_5 (c_M_in hS) (show yck (yMm m_M_tick) m_M_in 3 = true by decide +kernel) cw_M_in (by decide +kernel) (by decide +kernel) (by decide +kernel) (Nat.le_of_ble_eq_true rfl) (ycat_of rfl) (by decide) (by decide)) (fun r M9 hp => ?_)
    obtain ⟨rfl, hM9⟩ := hp
    rw [hM9, h1]
    refine mr_call (yrunV (X := yNX) (k := 200) (As := [yi (zb true)]) (rest := []) d_M_tick_8 (c_M_bad (b := true) hS) hS.1 rfl (show yck (yMm m_M_tick) m_M_bad 1 = true by decide +kernel) cw_M_bad (by decide +kernel) (by decide +kernel) (by decide +kernel) (by decide +kernel) (Nat.le_of_ble_eq_true rfl) (ycat_of rfl) (by decide) (by decide)) (fun r M9 hp => ?_)
    obtain ⟨rfl, hM9⟩ := hp
    rw [hM9, show mBad M true = yu M 200 26 0 from rfl]
    refine yr_if_eq (tgt := 16) d_M_tick_11 (by decide) (fun c11 => ?_) (fun c11 => absurd rfl c11)
    refine yr_iconst (v := 0) d_M_tick_16 (by decide) ?_
    refine yr_istore_n d_M_tick_17 (by decide) rfl ?_
    refine yr_iconst (v := 0) d_M_tick_18 (by decide) ?_
    refine yr_istore_n d_M_tick_19 (by decide) rfl ?_
    refine yWW_postM (c_M_tick_out hS hTk hn hE n 0 0 σ _ _ rfl hRM) (fun r M9 hp => ?_)
    rw [nI_clamp (by omega)]
    exact Or.inr ⟨c2, c8, hp⟩

set_option maxHeartbeats 4000000 in
set_option maxRecDepth 20000 in
theorem c_M_interrupt {G : yG} {s : Nat → Option ySh} {F : Nat → Nat → Option Nat} (hS : mSh s F) {R : zS → mM → Prop} {M : mM} {x : Int32} {σ : zS} (hI : ∀ t, t < 6 → ((M 201 t = 0 ∨ ¬ M 211 t = 0) → R (zint σ t) (yu (yu M 200 26 0) 210 t 1)) ∧ (¬ (M 201 t = 0 ∨ ¬ M 211 t = 0) → mCT G m_M_leave [yr 200, yi (nI t), yi 4] s F (yu M 200 26 0) (fun r M' => r = none ∧ R (zint σ t) M'))) : mCT G m_M_interrupt [yr 200, yi x] s F M (fun r M' => r = none ∧ ((ztat x = none ∧ M' = yu M 200 26 1) ∨ ∃ t, ztat x = some t ∧ R (zint σ t) M')) := by
  refine yCT_of (by decide) rfl (ycat_of rfl) (Nat.le_of_ble_eq_true rfl) ?_
  cases h1 : mIn x 0 5 with
  | false =>
    refine yr_aload_n d_M_interrupt_0 rfl ?_
    refine yr_iload_n d_M_interrupt_1 rfl ?_
    refine yr_iconst (v := 0) d_M_interrupt_2 (by decide) ?_
    refine yr_iconst (v := 5) d_M_interrupt_3 (by decide) ?_
    refine mr_call (yrunS (X := yNX) (As := [yi x, yi 0, yi 5]) (rest := [yr 200]) d_M_interrupt_4 (c_M_in hS) (show yck (yMm m_M_interrupt) m_M_in 3 = true by decide +kernel) cw_M_in (by decide +kernel) (by decide +kernel) (by decide +kernel) (Nat.le_of_ble_eq_true rfl) (ycat_of rfl) (by decide) (by decide)) (fun r M9 hp => ?_)
    obtain ⟨rfl, hM9⟩ := hp
    rw [hM9, h1]
    refine mr_call (yrunV (X := yNX) (k := 200) (As := [yi (zb false)]) (rest := []) d_M_interrupt_7 (c_M_bad (b := false) hS) hS.1 rfl (show yck (yMm m_M_interrupt) m_M_bad 1 = true by decide +kernel) cw_M_bad (by decide +kernel) (by decide +kernel) (by decide +kernel) (by decide +kernel) (Nat.le_of_ble_eq_true rfl) (ycat_of rfl) (by decide) (by decide)) (fun r M9 hp => ?_)
    obtain ⟨rfl, hM9⟩ := hp
    rw [hM9, show mBad M false = yu M 200 26 1 from rfl]
    refine yr_if_eq (tgt := 14) d_M_interrupt_10 (by decide) (fun c10 => absurd c10 (by decide)) (fun c10 => ?_)
    exact yr_retv d_M_interrupt_13 rfl (by decide) (by decide) ⟨_, rfl, rfl, Or.inl ⟨mIn_f (n := 6) (by decide) h1, rfl⟩⟩
  | true =>
    obtain ⟨t, htt, ht, rfl⟩ := mIn_t (n := 6) (by decide) h1
    refine yr_aload_n d_M_interrupt_0 rfl ?_
    refine yr_iload_n d_M_interrupt_1 rfl ?_
    refine yr_iconst (v := 0) d_M_interrupt_2 (by decide) ?_
    refine yr_iconst (v := 5) d_M_interrupt_3 (by decide) ?_
    refine mr_call (yrunS (X := yNX) (As := [yi (nI t), yi 0, yi 5]) (rest := [yr 200]) d_M_interrupt_4 (c_M_in hS) (show yck (yMm m_M_interrupt) m_M_in 3 = true by decide +kernel) cw_M_in (by decide +kernel) (by decide +kernel) (by decide +kernel) (Nat.le_of_ble_eq_true rfl) (ycat_of rfl) (by decide) (by decide)) (fun r M9 hp => ?_)
    obtain ⟨rfl, hM9⟩ := hp
    rw [hM9, h1]
    refine mr_call (yrunV (X := yNX) (k := 200) (As := [yi (zb true)]) (rest := []) d_M_interrupt_7 (c_M_bad (b := true) hS) hS.1 rfl (show yck (yMm m_M_interrupt) m_M_bad 1 = true by decide +kernel) cw_M_bad (by decide +kernel) (by decide +kernel) (by decide +kernel) (by decide +kernel) (Nat.le_of_ble_eq_true rfl) (ycat_of rfl) (by decide) (by decide)) (fun r M9 hp => ?_)
    obtain ⟨rfl, hM9⟩ := hp
    rw [hM9, show mBad M true = yu M 200 26 0 from rfl]
    refine yr_if_eq (tgt := 14) d_M_interrupt_10 (by decide) (fun c10 => ?_) (fun c10 => absurd rfl c10)
    refine yr_aload_n d_M_interrupt_14 rfl ?_
    refine mr_arr (a := 0) (K := 201) hS d_M_interrupt_15 sf_M_interrupt_15 rfl (by decide) rfl ?_
    refine yr_iload_n d_M_interrupt_18 rfl ?_
    refine mr_ld (a := 0) (K := 201) (n := 6) (j := t) hS d_M_interrupt_19 (by decide) rfl rfl rfl (by simp only [nI0, nI1, nI2, nI3, nI4, nI6, nI_mulN, nI_add]) (by omega) ?_
    rw [yu_ne _ _ (Or.inl (by decide))]
    refine yr_if_eq (tgt := 32) d_M_interrupt_20 (by decide) (fun c20 => ?_) (fun c20 => ?_)
    · skip
      refine yr_aload_n d_M_interrupt_32 rfl ?_
      refine mr_arr (a := 9) (K := 210) hS d_M_interrupt_33 sf_M_interrupt_33 rfl (by decide) rfl ?_
      refine yr_iload_n d_M_interrupt_36 rfl ?_
      refine yr_iconst (v := 1) d_M_interrupt_37 (by decide) ?_
      refine mr_stz (a := 9) (K := 210) (n := 6) (j := t) hS d_M_interrupt_38 (by decide) rfl rfl rfl (by simp only [nI0, nI1, nI2, nI3, nI4, nI6, nI_mulN, nI_add]) (by omega) rfl ?_
      refine yr_goto (tgt := 48) d_M_interrupt_39 (by decide) ?_
      refine yr_retv d_M_interrupt_48 rfl (by decide) (by decide) ?_
      first
      | exact ⟨_, rfl, rfl, Or.inr ⟨t, htt, hR9⟩⟩
      | exact ⟨_, rfl, rfl, Or.inr ⟨t, htt, (hI t ht).1 (by first | exact Or.inl c20 | exact Or.inr c29)⟩⟩
    · skip
      refine yr_aload_n d_M_interrupt_23 rfl ?_
      refine mr_arr (a := 10) (K := 211) hS d_M_interrupt_24 sf_M_interrupt_24 rfl (by decide) rfl ?_
      refine yr_iload_n d_M_interrupt_27 rfl ?_
      refine mr_ldz (a := 10) (K := 211) (n := 6) (j := t) hS d_M_interrupt_28 (by decide) rfl rfl rfl (by simp only [nI0, nI1, nI2, nI3, nI4, nI6, nI_mulN, nI_add]) (by omega) ?_
      rw [yu_ne _ _ (Or.inl (by decide))]
      refine yr_if_eq (tgt := 42) d_M_interrupt_29 (by decide) (fun c29 => ?_) (fun c29 => ?_)
      · skip
        refine yr_aload_n d_M_interrupt_42 rfl ?_
        refine yr_iload_n d_M_interrupt_43 rfl ?_
        refine yr_iconst (v := 4) d_M_interrupt_44 (by decide) ?_
        refine mr_call (yrunV (X := yNX) (k := 200) (As := [yi (nI t), yi 4]) (rest := []) d_M_interrupt_45 ((hI t ht).2 (fun z => z.elim c20 (fun w => w c29))) hS.1 rfl (show yck (yMm m_M_interrupt) m_M_leave 2 = true by decide +kernel) cw_M_leave (by decide +kernel) (by decide +kernel) (by decide +kernel) (by decide +kernel) (Nat.le_of_ble_eq_true rfl) (ycat_of rfl) (by decide) (by decide)) (fun r M9 hp => ?_)
        obtain ⟨rfl, hR9⟩ := hp
        refine yr_retv d_M_interrupt_48 rfl (by decide) (by decide) ?_
        first
        | exact ⟨_, rfl, rfl, Or.inr ⟨t, htt, hR9⟩⟩
        | exact ⟨_, rfl, rfl, Or.inr ⟨t, htt, (hI t ht).1 (by first | exact Or.inl c20 | exact Or.inr c29)⟩⟩
      · skip
        refine yr_aload_n d_M_interrupt_32 rfl ?_
        refine mr_arr (a := 9) (K := 210) hS d_M_interrupt_33 sf_M_interrupt_33 rfl (by decide) rfl ?_
        refine yr_iload_n d_M_interrupt_36 rfl ?_
        refine yr_iconst (v := 1) d_M_interrupt_37 (by decide) ?_
        refine mr_stz (a := 9) (K := 210) (n := 6) (j := t) hS d_M_interrupt_38 (by decide) rfl rfl rfl (by simp only [nI0, nI1, nI2, nI3, nI4, nI6, nI_mulN, nI_add]) (by omega) rfl ?_
        refine yr_goto (tgt := 48) d_M_interrupt_39 (by decide) ?_
        refine yr_retv d_M_interrupt_48 rfl (by decide) (by decide) ?_
        first
        | exact ⟨_, rfl, rfl, Or.inr ⟨t, htt, hR9⟩⟩
        | exact ⟨_, rfl, rfl, Or.inr ⟨t, htt, (hI t ht).1 (by first | exact Or.inl c20 | exact Or.inr c29)⟩⟩
