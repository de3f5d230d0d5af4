/-! the model: leans, stuck, count, leave, waitAt -/
def mLean (M : mM) (L : Nat → Option Nat) : Prop := ∀ t, t < 6 → (M 201 t = 1 → ∃ w, w < 6 ∧ M 203 t = nI w ∧ (M 212 w = 0 → M 215 w = znum (L t)) ∧ (¬ M 212 w = 0 → L t = none)) ∧ (¬ M 201 t = 1 → L t = none) ∧ ∀ u, L t = some u → u < 6
def gch (L : Nat → Option Nat) (t : Nat) : Nat → Option Nat → Option Nat
  | 0, x => x
  | n + 1, x => match x with
    | none => none
    | some u => if u = t then some t else gch L t n (L u)
theorem mLean.thrown {M : mM} {L : Nat → Option Nat} (h : mLean M L) (f : Nat) (x : Int32) : mLean (yu M 200 f x) L := by
  intro t ht
  obtain ⟨a1, a2, a3⟩ := h t ht
  have e : ∀ K j, K ≠ 200 → yu M 200 f x K j = M K j := fun K j hK => yu_ne _ _ (Or.inl hK)
  refine ⟨fun hs => ?_, fun hs => a2 (by rw [e 201 t (by decide)] at hs; exact hs), a3⟩
  rw [e 201 t (by decide)] at hs
  obtain ⟨w, b1, b2, b3, b4⟩ := a1 hs
  refine ⟨w, b1, ?_, ?_, ?_⟩
  · rw [e 203 t (by decide)]; exact b2
  · rw [e 212 w (by decide), e 215 w (by decide)]; exact b3
  · rw [e 212 w (by decide)]; exact b4
theorem znum_eq {x : Option Nat} {t : Nat} (hx : ∀ u, x = some u → u < 6) (ht : t < 6) : znum x = nI t ↔ x = some t := by
  cases x with
  | none =>
    constructor
    · intro h
      have h9 : (-1 : Int32) = nI t := h
      exact absurd (by rw [← h9]; decide : nI t < 0) (nI_pos (by omega))
    · intro h; cases h
  | some u =>
    have hu := hx u rfl
    show nI u = nI t ↔ _
    rw [nI_eq (by omega) (by omega)]
    constructor
    · intro h; rw [h]
    · intro h; exact Option.some.inj h
theorem gch_lt {L : Nat → Option Nat} {t : Nat} (ht : t < 6) (hL : ∀ v, v < 6 → ∀ u, L v = some u → u < 6) : ∀ (n : Nat) (x : Option Nat), (∀ u, x = some u → u < 6) → ∀ u, gch L t n x = some u → u < 6
  | 0, x, hx, u, h => hx u h
  | n + 1, none, hx, u, h => by cases h
  | n + 1, some v, hx, u, h => by
    unfold gch at h
    split at h
    · cases h
    · rename_i v' hv
      cases hv
      by_cases e : v = t
      · rw [if_pos e] at h; cases h; exact ht
      · rw [if_neg e] at h
        exact gch_lt ht hL n _ (hL v (hx v rfl)) u h

set_option maxHeartbeats 4000000 in
set_option maxRecDepth 20000 in
theorem c_M_leans {G : yG} {s : Nat → Option ySh} {F : Nat → Nat → Option Nat} {M : mM} (hS : mSh s F) {t : Nat} {L : Nat → Option Nat} (ht : t < 6) (hL : mLean M L) : mCT G m_M_leans [yr 200, yi (nI t)] s F M (fun r M' => r = some (yi (znum (L t))) ∧ M' = M) := by
  refine yCT_of (by decide) rfl (ycat_of rfl) (Nat.le_of_ble_eq_true rfl) ?_
  by_cases h1 : M 201 t = 1
  · obtain ⟨w, hw, h3, h4, h5⟩ := (hL t ht).1 h1
    refine yr_aload_n d_M_leans_0 rfl ?_
    refine mr_arr (a := 0) (K := 201) hS d_M_leans_1 sf_M_leans_1 rfl (by decide) rfl ?_
    refine yr_iload_n d_M_leans_4 rfl ?_
    refine mr_ld (a := 0) (K := 201) (n := 6) (j := t) hS d_M_leans_5 (by decide) rfl rfl rfl (by simp only [nI0, nI1, nI2, nI3, nI4, nI6, nI_mulN, nI_add]) (by omega) ?_
    refine yr_iconst (v := 1) d_M_leans_6 (by decide) ?_
    refine yr_icmp_ne (tgt := 38) d_M_leans_7 (by decide) (fun c7 => absurd h1 c7) (fun c7 => ?_)
    refine yr_aload_n d_M_leans_10 rfl ?_
    refine mr_arr (a := 11) (K := 212) hS d_M_leans_11 sf_M_leans_11 rfl (by decide) rfl ?_
    refine yr_aload_n d_M_leans_14 rfl ?_
    refine mr_arr (a := 2) (K := 203) hS d_M_leans_15 sf_M_leans_15 rfl (by decide) rfl ?_
    refine yr_iload_n d_M_leans_18 rfl ?_
    refine mr_ld (a := 2) (K := 203) (n := 6) (j := t) hS d_M_leans_19 (by decide) rfl rfl rfl (by simp only [nI0, nI1, nI2, nI3, nI4, nI6, nI_mulN, nI_add]) (by omega) ?_
    rw [h3]
    refine mr_ld (a := 11) (K := 212) (n := 6) (j := w) hS d_M_leans_20 (by decide) rfl rfl rfl (by simp only [nI0, nI1, nI2, nI3, nI4, nI6, nI_mulN, nI_add]) (by omega) ?_
    refine yr_if_ne (tgt := 38) d_M_leans_21 (by decide) (fun c21 => ?_) (fun c21 => ?_)
    · skip
      refine yr_iconst (v := -1) d_M_leans_38 (by decide) ?_
      refine yr_reti d_M_leans_39 rfl (by decide) (by decide) ?_
      refine ⟨_, rfl, ?_, rfl⟩
      first | rfl | (rw [h5 c21]; rfl)
    · skip
      refine yr_aload_n d_M_leans_24 rfl ?_
      refine mr_arr (a := 14) (K := 215) hS d_M_leans_25 sf_M_leans_25 rfl (by decide) rfl ?_
      refine yr_aload_n d_M_leans_28 rfl ?_
      refine mr_arr (a := 2) (K := 203) hS d_M_leans_29 sf_M_leans_29 rfl (by decide) rfl ?_
      refine yr_iload_n d_M_leans_32 rfl ?_
      refine mr_ld (a := 2) (K := 203) (n := 6) (j := t) hS d_M_leans_33 (by decide) rfl rfl rfl (by simp only [nI0, nI1, nI2, nI3, nI4, nI6, nI_mulN, nI_add]) (by omega) ?_
      rw [h3]
      refine mr_ld (a := 14) (K := 215) (n := 6) (j := w) hS d_M_leans_34 (by decide) rfl rfl rfl (by simp only [nI0, nI1, nI2, nI3, nI4, nI6, nI_mulN, nI_add]) (by omega) ?_
      rw [h4 c21]
      refine yr_goto (tgt := 39) d_M_leans_35 (by decide) ?_
      refine yr_reti d_M_leans_39 rfl (by decide) (by decide) ?_
      refine ⟨_, rfl, ?_, rfl⟩
      first | rfl | (rw [h5 c21]; rfl)
  · skip
    refine yr_aload_n d_M_leans_0 rfl ?_
    refine mr_arr (a := 0) (K := 201) hS d_M_leans_1 sf_M_leans_1 rfl (by decide) rfl ?_
    refine yr_iload_n d_M_leans_4 rfl ?_
    refine mr_ld (a := 0) (K := 201) (n := 6) (j := t) hS d_M_leans_5 (by decide) rfl rfl rfl (by simp only [nI0, nI1, nI2, nI3, nI4, nI6, nI_mulN, nI_add]) (by omega) ?_
    refine yr_iconst (v := 1) d_M_leans_6 (by decide) ?_
    refine yr_icmp_ne (tgt := 38) d_M_leans_7 (by decide) (fun c7 => ?_) (fun c7 => absurd c7 h1)
    refine yr_iconst (v := -1) d_M_leans_38 (by decide) ?_
    exact yr_reti d_M_leans_39 rfl (by decide) (by decide) ⟨_, rfl, by rw [(hL t ht).2.1 h1]; rfl, rfl⟩

set_option maxHeartbeats 4000000 in
set_option maxRecDepth 20000 in
theorem c_M_stuck_in {G : yG} {s : Nat → Option ySh} {F : Nat → Nat → Option Nat} {M : mM} (hS : mSh s F) {t : Nat} {c : Int32} {L : Nat → Option Nat} (ht : t < 6) (hL : mLean M L) {POST : Option yV → mM → Prop} : ∀ (m q : Nat) (x : Option Nat), m + q = 6 → (∀ u, x = some u → u < 6) → (∀ q', yWW G m_M_stuck (mQ G m_M_stuck s F POST) s 52 [some (yr 200), some (yi c), some (yi (nI t)), some (yi (znum (gch L t m x))), some (yi (nI q'))] [] (mw s F M) 0 0) → yWW G m_M_stuck (mQ G m_M_stuck s F POST) s 24 [some (yr 200), some (yi c), some (yi (nI t)), some (yi (znum x)), some (yi (nI q))] [] (mw s F M) 0 0 := by
  intro m
  induction m with
  | zero =>
    intro q x hm hx hk
    refine yr_iload d_M_stuck_24 rfl ?_
    refine yr_bipush (v := 6) d_M_stuck_26 (by decide) ?_
    refine yr_icmp_ge (tgt := 52) d_M_stuck_28 (by decide) (fun c28 => ?_) (fun c28 => absurd (nI_le (a := 6) (by omega) (by omega)) c28)
    exact hk q
  | succ m ih =>
    intro q x hm hx hk
    cases x with
    | none =>
      refine yr_iload d_M_stuck_24 rfl ?_
      refine yr_bipush (v := 6) d_M_stuck_26 (by decide) ?_
      refine yr_icmp_ge (tgt := 52) d_M_stuck_28 (by decide) (fun c28 => absurd c28 (nI_ge (b := 6) (by omega) (by omega))) (fun c28 => ?_)
      refine yr_iload_n d_M_stuck_31 rfl ?_
      refine yr_if_lt (tgt := 52) d_M_stuck_32 (by decide) (fun c32 => ?_) (fun c32 => absurd (show (-1 : Int32) < 0 by decide) c32)
      exact hk q
    | some u =>
      have hu := hx u rfl
      by_cases e : u = t
      · have hk2 := hk q
        rw [show gch L t (m + 1) (some u) = some u from (if_pos e).trans (by rw [e])] at hk2
        refine yr_iload d_M_stuck_24 rfl ?_
        refine yr_bipush (v := 6) d_M_stuck_26 (by decide) ?_
        refine yr_icmp_ge (tgt := 52) d_M_stuck_28 (by decide) (fun c28 => absurd c28 (nI_ge (b := 6) (by omega) (by omega))) (fun c28 => ?_)
        refine yr_iload_n d_M_stuck_31 rfl ?_
        refine yr_if_lt (tgt := 52) d_M_stuck_32 (by decide) (fun c32 => absurd c32 (nI_pos (by omega))) (fun c32 => ?_)
        refine yr_iload_n d_M_stuck_35 rfl ?_
        refine yr_iload_n d_M_stuck_36 rfl ?_
        refine yr_icmp_eq (tgt := 52) d_M_stuck_37 (by decide) (fun c37 => ?_) (fun c37 => absurd (show nI u = nI t by rw [e]) c37)
        exact hk2
      · have hgc : gch L t (m + 1) (some u) = gch L t m (L u) := by
          conv => lhs; unfold gch
          exact if_neg e
        refine yr_iload d_M_stuck_24 rfl ?_
        refine yr_bipush (v := 6) d_M_stuck_26 (by decide) ?_
        refine yr_icmp_ge (tgt := 52) d_M_stuck_28 (by decide) (fun c28 => absurd c28 (nI_ge (b := 6) (by omega) (by omega))) (fun c28 => ?_)
        refine yr_iload_n d_M_stuck_31 rfl ?_
        refine yr_if_lt (tgt := 52) d_M_stuck_32 (by decide) (fun c32 => absurd c32 (nI_pos (by omega))) (fun c32 => ?_)
        refine yr_iload_n d_M_stuck_35 rfl ?_
        refine yr_iload_n d_M_stuck_36 rfl ?_
        refine yr_icmp_eq (tgt := 52) d_M_stuck_37 (by decide) (fun c37 => absurd c37 (show ¬ nI u = nI t by rw [nI_eq (by omega) (by omega)]; exact e)) (fun c37 => ?_)
        refine yr_aload_n d_M_stuck_40 rfl ?_
        refine yr_iload_n d_M_stuck_41 rfl ?_
        refine mr_call (yrunV (X := yNX) (k := 200) (As := [yi (nI u)]) (rest := []) d_M_stuck_42 (c_M_leans hS hu hL) hS.1 rfl (show yck (yMm m_M_stuck) m_M_leans 1 = true by decide +kernel) cw_M_leans (by decide +kernel) (by decide +kernel) (by decide +kernel) (by decide +kernel) (Nat.le_of_ble_eq_true rfl) (ycat_of rfl) (by decide) (by decide)) (fun r M9 hp => ?_)
        obtain ⟨rfl, hM9⟩ := hp
        rw [hM9]
        refine yr_istore_n d_M_stuck_45 (by decide) rfl ?_
        refine yr_iinc (v := nI (q + 1)) d_M_stuck_46 rfl (nI_1 (q)) (by decide) rfl ?_
        refine yr_goto (tgt := 24) d_M_stuck_49 (by decide) ?_
        refine ih (q + 1) (L u) (by omega) (hL u hu).2.2 (fun q' => ?_)
        rw [← hgc]
        exact hk q'

set_option maxHeartbeats 4000000 in
set_option maxRecDepth 20000 in
theorem c_M_stuck_out {G : yG} {s : Nat → Option ySh} {F : Nat → Nat → Option Nat} {M : mM} (hS : mSh s F) {L : Nat → Option Nat} (hL : mLean M L) : ∀ (m q : Nat) (x3 x4 : Option yV), m + q = 6 → yWW G m_M_stuck (mQ G m_M_stuck s F (fun r M' => r = some (yi (zcnt (fun t => decide (gch L t 6 (L t) = some t)) 6)) ∧ M' = M)) s 9 [some (yr 200), some (yi (zcnt (fun t => decide (gch L t 6 (L t) = some t)) q)), some (yi (nI q)), x3, x4] [] (mw s F M) 0 0 := by
  intro m
  induction m with
  | zero =>
    intro q x3 x4 hm
    refine yr_iload_n d_M_stuck_9 rfl ?_
    refine yr_bipush (v := 6) d_M_stuck_10 (by decide) ?_
    refine yr_icmp_ge (tgt := 66) d_M_stuck_12 (by decide) (fun c12 => ?_) (fun c12 => absurd (nI_le (a := 6) (by omega) (by omega)) c12)
    refine yr_iload_n d_M_stuck_66 rfl ?_
    exact yr_reti d_M_stuck_67 rfl (by decide) (by decide) ⟨_, rfl, by rw [show q = 6 by omega], rfl⟩
  | succ m ih =>
    intro q x3 x4 hm
    have hq : q < 6 := by omega
    have hb := gch_lt hq (fun v hv => (hL v hv).2.2) 6 (L q) (hL q hq).2.2
    refine yr_iload_n d_M_stuck_9 rfl ?_
    refine yr_bipush (v := 6) d_M_stuck_10 (by decide) ?_
    refine yr_icmp_ge (tgt := 66) d_M_stuck_12 (by decide) (fun c12 => absurd c12 (nI_ge (b := 6) (by omega) (by omega))) (fun c12 => ?_)
    refine yr_aload_n d_M_stuck_15 rfl ?_
    refine yr_iload_n d_M_stuck_16 rfl ?_
    refine mr_call (yrunV (X := yNX) (k := 200) (As := [yi (nI q)]) (rest := []) d_M_stuck_17 (c_M_leans hS hq hL) hS.1 rfl (show yck (yMm m_M_stuck) m_M_leans 1 = true by decide +kernel) cw_M_leans (by decide +kernel) (by decide +kernel) (by decide +kernel) (by decide +kernel) (Nat.le_of_ble_eq_true rfl) (ycat_of rfl) (by decide) (by decide)) (fun r M9 hp => ?_)
    obtain ⟨rfl, hM9⟩ := hp
    rw [hM9]
    refine yr_istore_n d_M_stuck_20 (by decide) rfl ?_
    refine yr_iconst (v := 0) d_M_stuck_21 (by decide) ?_
    refine yr_istore d_M_stuck_22 (by decide) rfl ?_
    refine c_M_stuck_in hS hq hL 6 0 (L q) rfl (hL q hq).2.2 (fun q' => ?_)
    refine yr_iload_n d_M_stuck_52 rfl ?_
    refine yr_iload_n d_M_stuck_53 rfl ?_
    refine yr_icmp_ne (tgt := 60) d_M_stuck_54 (by decide) (fun c54 => ?_) (fun c54 => ?_)
    · refine yr_iinc (v := nI (q + 1)) d_M_stuck_60 rfl (nI_1 q) (by decide) rfl ?_
      refine yr_goto (tgt := 9) d_M_stuck_63 (by decide) ?_
      have k := ih (q + 1) (some (yi (znum (gch L q 6 (L q))))) (some (yi (nI q'))) (by omega)
      rw [show zcnt (fun t => decide (gch L t 6 (L t) = some t)) (q + 1) = zcnt (fun t => decide (gch L t 6 (L t) = some t)) q from if_neg (by rw [decide_eq_true_eq]; exact fun z => c54 ((znum_eq hb hq).mpr z))] at k
      exact k
    · refine yr_iinc (v := zcnt (fun t => decide (gch L t 6 (L t) = some t)) q + 1) d_M_stuck_57 rfl rfl (by decide) rfl ?_
      refine yr_iinc (v := nI (q + 1)) d_M_stuck_60 rfl (nI_1 q) (by decide) rfl ?_
      refine yr_goto (tgt := 9) d_M_stuck_63 (by decide) ?_
      have k := ih (q + 1) (some (yi (znum (gch L q 6 (L q))))) (some (yi (nI q'))) (by omega)
      rw [show zcnt (fun t => decide (gch L t 6 (L t) = some t)) (q + 1) = zcnt (fun t => decide (gch L t 6 (L t) = some t)) q + 1 from if_pos (decide_eq_true ((znum_eq hb hq).mp c54))] at k
      exact k

set_option maxHeartbeats 4000000 in
set_option maxRecDepth 20000 in
theorem c_M_stuck {G : yG} {s : Nat → Option ySh} {F : Nat → Nat → Option Nat} {M : mM} (hS : mSh s F) {L : Nat → Option Nat} (hL : mLean M L) : mCT G m_M_stuck [yr 200] s F M (fun r M' => r = some (yi (zcnt (fun t => decide (gch L t 6 (L t) = some t)) 6)) ∧ M' = yu M 200 26 0) := by
  refine yCT_of (by decide) rfl (ycat_of rfl) (Nat.le_of_ble_eq_true rfl) ?_
  refine yr_aload_n d_M_stuck_0 rfl ?_
  refine yr_iconst (v := 0) d_M_stuck_1 (by decide) ?_
  refine mr_puti (f := 26) hS d_M_stuck_2 sf_M_stuck_2 rfl rfl ⟨rfl, rfl⟩ ?_
  refine yr_iconst (v := 0) d_M_stuck_5 (by decide) ?_
  refine yr_istore_n d_M_stuck_6 (by decide) rfl ?_
  refine yr_iconst (v := 0) d_M_stuck_7 (by decide) ?_
  refine yr_istore_n d_M_stuck_8 (by decide) rfl ?_
  exact c_M_stuck_out hS (hL.thrown 26 0) 6 0 _ _ rfl

set_option maxHeartbeats 4000000 in
set_option maxRecDepth 20000 in
theorem c_M_count_loop {G : yG} {s : Nat → Option ySh} {F : Nat → Nat → Option Nat} {M : mM} (hS : mSh s F) {x : Int32} : ∀ (m q : Nat), m + q = 6 → yWW G m_M_count (mQ G m_M_count s F (fun r M' => r = some (yi (mcount M x)) ∧ M' = M)) s 9 [some (yr 200), some (yi x), some (yi (zcnt (fun t => decide (M 201 t = 0)) q)), some (yi (nI q))] [] (mw s F M) 0 0 := by
  intro m
  induction m with
  | zero =>
    intro q hm
    have hq6 : q = 6 := by omega
    subst hq6
    refine yr_iload_n d_M_count_9 rfl ?_
    refine yr_bipush (v := 6) d_M_count_10 (by decide) ?_
    refine yr_icmp_ge (tgt := 33) d_M_count_12 (by decide) (fun c12 => ?_) (fun c12 => absurd (nI_le (a := 6) (by omega) (by omega)) c12)
    refine yr_iload_n d_M_count_33 rfl ?_
    by_cases s0 : x = 0
    · refine yr_tcase d_M_count_34 0 s0 (by decide) (by decide) rfl (tgt := 76) (by decide) ?_
      refine yr_aload_n d_M_count_76 rfl ?_
      refine mr_geti (f := 23) hS d_M_count_77 sf_M_count_77 rfl ?_
      refine yr_reti d_M_count_80 rfl (by decide) (by decide) ?_
      refine ⟨_, rfl, ?_, rfl⟩
      subst s0
      simp [mcount, *]
    · skip
      by_cases s1 : x = 1
      · refine yr_tcase d_M_count_34 1 s1 (by decide) (by decide) rfl (tgt := 81) (by decide) ?_
        refine yr_aload_n d_M_count_81 rfl ?_
        refine mr_arr (a := 21) (K := 222) hS d_M_count_82 sf_M_count_82 rfl (by decide) rfl ?_
        refine yr_iconst (v := 0) d_M_count_85 (by decide) ?_
        refine mr_ld (a := 21) (K := 222) (n := 5) (j := 0) hS d_M_count_86 (by decide) rfl rfl rfl (by simp only [nI0, nI1, nI2, nI3, nI4, nI6, nI_mulN, nI_add]) (by omega) ?_
        refine yr_reti d_M_count_87 rfl (by decide) (by decide) ?_
        refine ⟨_, rfl, ?_, rfl⟩
        subst s1
        simp [mcount, *]
      · skip
        by_cases s2 : x = 2
        · refine yr_tcase d_M_count_34 2 s2 (by decide) (by decide) rfl (tgt := 88) (by decide) ?_
          refine yr_aload_n d_M_count_88 rfl ?_
          refine mr_arr (a := 21) (K := 222) hS d_M_count_89 sf_M_count_89 rfl (by decide) rfl ?_
          refine yr_iconst (v := 2) d_M_count_92 (by decide) ?_
          refine mr_ld (a := 21) (K := 222) (n := 5) (j := 2) hS d_M_count_93 (by decide) rfl rfl rfl (by simp only [nI0, nI1, nI2, nI3, nI4, nI6, nI_mulN, nI_add]) (by omega) ?_
          refine yr_reti d_M_count_94 rfl (by decide) (by decide) ?_
          refine ⟨_, rfl, ?_, rfl⟩
          subst s2
          simp [mcount, *]
        · skip
          by_cases s3 : x = 3
          · refine yr_tcase d_M_count_34 3 s3 (by decide) (by decide) rfl (tgt := 95) (by decide) ?_
            refine yr_aload_n d_M_count_95 rfl ?_
            refine mr_arr (a := 21) (K := 222) hS d_M_count_96 sf_M_count_96 rfl (by decide) rfl ?_
            refine yr_iconst (v := 3) d_M_count_99 (by decide) ?_
            refine mr_ld (a := 21) (K := 222) (n := 5) (j := 3) hS d_M_count_100 (by decide) rfl rfl rfl (by simp only [nI0, nI1, nI2, nI3, nI4, nI6, nI_mulN, nI_add]) (by omega) ?_
            refine yr_reti d_M_count_101 rfl (by decide) (by decide) ?_
            refine ⟨_, rfl, ?_, rfl⟩
            subst s3
            simp [mcount, *]
          · skip
            by_cases s4 : x = 4
            · refine yr_tcase d_M_count_34 4 s4 (by decide) (by decide) rfl (tgt := 102) (by decide) ?_
              refine yr_aload_n d_M_count_102 rfl ?_
              refine mr_arr (a := 21) (K := 222) hS d_M_count_103 sf_M_count_103 rfl (by decide) rfl ?_
              refine yr_iconst (v := 4) d_M_count_106 (by decide) ?_
              refine mr_ld (a := 21) (K := 222) (n := 5) (j := 4) hS d_M_count_107 (by decide) rfl rfl rfl (by simp only [nI0, nI1, nI2, nI3, nI4, nI6, nI_mulN, nI_add]) (by omega) ?_
              refine yr_reti d_M_count_108 rfl (by decide) (by decide) ?_
              refine ⟨_, rfl, ?_, rfl⟩
              subst s4
              simp [mcount, *]
            · skip
              by_cases s5 : x = 5
              · refine yr_tcase d_M_count_34 5 s5 (by decide) (by decide) rfl (tgt := 109) (by decide) ?_
                refine yr_aload_n d_M_count_109 rfl ?_
                refine mr_geti (f := 24) hS d_M_count_110 sf_M_count_110 rfl ?_
                refine yr_reti d_M_count_113 rfl (by decide) (by decide) ?_
                refine ⟨_, rfl, ?_, rfl⟩
                subst s5
                simp [mcount, *]
              · skip
                by_cases s6 : x = 6
                · refine yr_tcase d_M_count_34 6 s6 (by decide) (by decide) rfl (tgt := 114) (by decide) ?_
                  refine yr_iload_n d_M_count_114 rfl ?_
                  refine yr_reti d_M_count_115 rfl (by decide) (by decide) ?_
                  refine ⟨_, rfl, ?_, rfl⟩
                  subst s6
                  simp [mcount, *]
                · skip
                  refine yr_tdef d_M_count_34 (by have q0 := lv_neT s0 (a := 0) (by decide); have q1 := lv_neT s1 (a := 1) (by decide); have q2 := lv_neT s2 (a := 2) (by decide); have q3 := lv_neT s3 (a := 3) (by decide); have q4 := lv_neT s4 (a := 4) (by decide); have q5 := lv_neT s5 (a := 5) (by decide); have q6 := lv_neT s6 (a := 6) (by decide); omega) (tgt := 116) (by decide) ?_
                  refine yr_iconst (v := -1) d_M_count_116 (by decide) ?_
                  refine yr_reti d_M_count_117 rfl (by decide) (by decide) ?_
                  refine ⟨_, rfl, ?_, rfl⟩
                  simp [mcount, s0, s1, s2, s3, s4, s5, s6, *]
  | succ m ih =>
    intro q hm
    refine yr_iload_n d_M_count_9 rfl ?_
    refine yr_bipush (v := 6) d_M_count_10 (by decide) ?_
    refine yr_icmp_ge (tgt := 33) d_M_count_12 (by decide) (fun c12 => absurd c12 (nI_ge (b := 6) (by omega) (by omega))) (fun c12 => ?_)
    refine yr_aload_n d_M_count_15 rfl ?_
    refine mr_arr (a := 0) (K := 201) hS d_M_count_16 sf_M_count_16 rfl (by decide) rfl ?_
    refine yr_iload_n d_M_count_19 rfl ?_
    refine mr_ld (a := 0) (K := 201) (n := 6) (j := q) hS d_M_count_20 (by decide) rfl rfl rfl (by simp only [nI0, nI1, nI2, nI3, nI4, nI6, nI_mulN, nI_add]) (by omega) ?_
    refine yr_if_ne (tgt := 27) d_M_count_21 (by decide) (fun c21 => ?_) (fun c21 => ?_)
    · skip
      refine yr_iinc (v := nI (q + 1)) d_M_count_27 rfl (nI_1 (q)) (by decide) rfl ?_
      refine yr_goto (tgt := 9) d_M_count_30 (by decide) ?_
      have k := ih (q + 1) (by omega)
      first
      | (rw [show zcnt (fun t => decide (M 201 t = 0)) (q + 1) = zcnt (fun t => decide (M 201 t = 0)) q from if_neg (by rw [decide_eq_true_eq]; exact c21)] at k
         exact k)
      | (rw [show zcnt (fun t => decide (M 201 t = 0)) (q + 1) = zcnt (fun t => decide (M 201 t = 0)) q + 1 from if_pos (decide_eq_true c21)] at k
         exact k)
    · skip
      refine yr_iinc d_M_count_24 rfl rfl (by decide) rfl ?_
      refine yr_iinc (v := nI (q + 1)) d_M_count_27 rfl (nI_1 (q)) (by decide) rfl ?_
      refine yr_goto (tgt := 9) d_M_count_30 (by decide) ?_
      have k := ih (q + 1) (by omega)
      first
      | (rw [show zcnt (fun t => decide (M 201 t = 0)) (q + 1) = zcnt (fun t => decide (M 201 t = 0)) q from if_neg (by rw [decide_eq_true_eq]; exact c21)] at k
         exact k)
      | (rw [show zcnt (fun t => decide (M 201 t = 0)) (q + 1) = zcnt (fun t => decide (M 201 t = 0)) q + 1 from if_pos (decide_eq_true c21)] at k
         exact k)

set_option maxHeartbeats 4000000 in
set_option maxRecDepth 20000 in
theorem c_M_count {G : yG} {s : Nat → Option ySh} {F : Nat → Nat → Option Nat} {M : mM} (hS : mSh s F) {x : Int32} : mCT G m_M_count [yr 200, yi x] s F M (fun r M' => r = some (yi (mcount (yu M 200 26 0) x)) ∧ M' = yu M 200 26 0) := by
  refine yCT_of (by decide) rfl (ycat_of rfl) (Nat.le_of_ble_eq_true rfl) ?_
  refine yr_aload_n d_M_count_0 rfl ?_
  refine yr_iconst (v := 0) d_M_count_1 (by decide) ?_
  refine mr_puti (f := 26) hS d_M_count_2 sf_M_count_2 rfl rfl ⟨rfl, rfl⟩ ?_
  refine yr_iconst (v := 0) d_M_count_5 (by decide) ?_
  refine yr_istore_n d_M_count_6 (by decide) rfl ?_
  refine yr_iconst (v := 0) d_M_count_7 (by decide) ?_
  refine yr_istore_n d_M_count_8 (by decide) rfl ?_
  exact c_M_count_loop hS 6 0 rfl
