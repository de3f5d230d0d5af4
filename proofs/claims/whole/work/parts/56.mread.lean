/-! the model: readers of its state -/
theorem mIn_pat {n : Nat} (hn : n < 2 ^ 31) (x : Int32) : (mIn x 0 (nI n - 1) = true ↔ ∃ o, zpat n x = some o) := by
  unfold mIn zpat
  rw [decide_eq_true_eq]
  by_cases hx : x < 0
  · constructor
    · intro h; exact absurd hx (Int32.not_lt.mpr h.1)
    · intro ⟨o, h⟩
      rw [if_neg (fun z => z.1 hx)] at h
      cases h
  · obtain ⟨j, hj, rfl⟩ := nI_of hx
    have h0 : (0 : Int32) ≤ nI j := Int32.not_lt.mp hx
    cases n with
    | zero =>
      constructor
      · intro h
        have h9 : nI j ≤ -1 := h.2
        exact absurd (Int32.le_trans h0 h9) (by decide)
      · intro ⟨o, h⟩
        rw [if_neg (fun z => absurd z.2 (nI_nlt (b := 0) (Nat.zero_le j) hj))] at h
        cases h
    | succ n =>
      rw [nI_pred]
      constructor
      · intro h
        have h9 := (nI_leI hj (by omega)).mp h.2
        exact ⟨_, if_pos ⟨hx, (nI_ltI hj hn).mpr (by omega)⟩⟩
      · intro ⟨o, h⟩
        refine ⟨h0, ?_⟩
        by_cases h9 : nI j < nI (n + 1)
        · exact (nI_leI hj (by omega)).mpr (by have := (nI_ltI hj hn).mp h9; omega)
        · rw [if_neg (fun z => h9 z.2)] at h; cases h
theorem mIn_f {n : Nat} (hn : n < 2 ^ 31) {x : Int32} (h : mIn x 0 (nI n - 1) = false) : zpat n x = none := by
  cases h9 : zpat n x with
  | none => rfl
  | some o => rw [(mIn_pat hn x).mpr ⟨o, h9⟩] at h; cases h
theorem mIn_t {n : Nat} (hn : n < 2 ^ 31) {x : Int32} (h : mIn x 0 (nI n - 1) = true) : ∃ o, zpat n x = some o ∧ o < n ∧ x = nI o := by
  obtain ⟨o, h9⟩ := (mIn_pat hn x).mp h
  exact ⟨o, h9, zpat_lt hn h9⟩
theorem mIn_rng {x a b : Int32} : (mIn x a b = true ↔ a ≤ x ∧ x ≤ b) := by unfold mIn; exact decide_eq_true_iff
def mtold (M : mM) (t : Nat) (y : Int32) : Int32 := if y = 0 then M 201 t else if y = 1 then M 202 t else if y = 2 then M 203 t else if y = 3 then M 204 t else if y = 4 then (if M 210 t = 0 then 0 else 1) else M 205 t
def mobj (M : mM) (o : Nat) (y : Int32) : Int32 := if y = 0 then M 212 o else if y = 1 then (if M 212 o = 4 then M 216 o else M 214 o) else if y = 2 then (if M 212 o < 2 then M 215 o else 0) else if y = 3 then M 216 o else if y = 4 then M 218 (o * 2) else if y = 5 then M 218 (o * 2 + 1) else if y = 6 then mrd M o (-1) else (if M 223 o = 0 then 0 else 1)
def mcount (M : mM) (x : Int32) : Int32 := if x = 0 then M 200 23 else if x = 1 then M 222 0 else if x = 2 then M 222 2 else if x = 3 then M 222 3 else if x = 4 then M 222 4 else if x = 5 then M 200 24 else if x = 6 then zcnt (fun t => decide (M 201 t = 0)) 6 else -1
def mMake (M : mM) (c s n : Nat) : mM := yu (yu (yu (yu (yu (yu M 200 26 0) 212 n (nI c)) 213 n (nI s)) 214 n (if nI c = 2 ∨ nI c = 3 then nI s else 0)) 215 n (-1)) 200 23 (nI (n + 1))

set_option maxHeartbeats 4000000 in
set_option maxRecDepth 20000 in
theorem c_M_told {G : yG} {s : Nat → Option ySh} {F : Nat → Nat → Option Nat} {M : mM} (hS : mSh s F) {x y : Int32} : mCT G m_M_told [yr 200, yi x, yi y] s F M (fun r M' => (∃ t, ztat x = some t ∧ ¬ y < 0 ∧ y ≤ 5 ∧ r = some (yi (mtold (yu M 200 26 0) t y)) ∧ M' = yu M 200 26 0) ∨ ((ztat x = none ∨ y < 0 ∨ ¬ y ≤ 5) ∧ M' = yu M 200 26 1 ∧ ∃ v, r = some (yi v))) := by
  refine yCT_of (by decide) rfl (ycat_of rfl) (Nat.le_of_ble_eq_true rfl) ?_
  cases h1 : mIn x 0 5 with
  | false =>
    refine yr_aload_n d_M_told_0 rfl ?_
    refine yr_iload_n d_M_told_1 rfl ?_
    refine yr_iconst (v := 0) d_M_told_2 (by decide) ?_
    refine yr_iconst (v := 5) d_M_told_3 (by decide) ?_
    refine mr_call (yrunS (X := yNX) (As := [yi x, yi 0, yi 5]) (rest := [yr 200]) d_M_told_4 (c_M_in hS) (show yck (yMm m_M_told) m_M_in 3 = true by decide +kernel) cw_M_in (by decide +kernel) (by decide +kernel) (by decide +kernel) (Nat.le_of_ble_eq_true rfl) (ycat_of rfl) (by decide) (by decide)) (fun r M9 hp => ?_)
    obtain ⟨rfl, hM9⟩ := hp
    rw [hM9, h1]
    refine yr_if_eq (tgt := 23) d_M_told_7 (by decide) (fun c7 => ?_) (fun c7 => absurd rfl c7)
    refine yr_iconst (v := 0) d_M_told_23 (by decide) ?_
    refine mr_call (yrunV (X := yNX) (k := 200) (As := [yi (zb false)]) (rest := []) d_M_told_24 (c_M_bad (b := false) hS) hS.1 rfl (show yck (yMm m_M_told) m_M_bad 1 = true by decide +kernel) cw_M_bad (by decide +kernel) (by decide +kernel) (by decide +kernel) (by decide +kernel) (Nat.le_of_ble_eq_true rfl) (ycat_of rfl) (by decide) (by decide)) (fun r M9 hp => ?_)
    obtain ⟨rfl, hM9⟩ := hp
    rw [hM9, show mBad M false = yu M 200 26 1 from rfl]
    refine yr_if_eq (tgt := 32) d_M_told_27 (by decide) (fun c27 => absurd c27 (by decide)) (fun c27 => ?_)
    refine yr_iconst (v := 0) d_M_told_30 (by decide) ?_
    exact yr_reti d_M_told_31 rfl (by decide) (by decide) ⟨_, rfl, Or.inr ⟨Or.inl (mIn_f (n := 6) (by decide) h1), rfl, _, rfl⟩⟩
  | true =>
    cases h2 : mIn y 0 5 with
    | false =>
      refine yr_aload_n d_M_told_0 rfl ?_
      refine yr_iload_n d_M_told_1 rfl ?_
      refine yr_iconst (v := 0) d_M_told_2 (by decide) ?_
      refine yr_iconst (v := 5) d_M_told_3 (by decide) ?_
      refine mr_call (yrunS (X := yNX) (As := [yi x, yi 0, yi 5]) (rest := [yr 200]) d_M_told_4 (c_M_in hS) (show yck (yMm m_M_told) m_M_in 3 = true by decide +kernel) cw_M_in (by decide +kernel) (by decide +kernel) (by decide +kernel) (Nat.le_of_ble_eq_true rfl) (ycat_of rfl) (by decide) (by decide)) (fun r M9 hp => ?_)
      obtain ⟨rfl, hM9⟩ := hp
      rw [hM9, h1]
      refine yr_if_eq (tgt := 23) d_M_told_7 (by decide) (fun c7 => absurd c7 (by decide)) (fun c7 => ?_)
      refine yr_iload_n d_M_told_10 rfl ?_
      refine yr_iconst (v := 0) d_M_told_11 (by decide) ?_
      refine yr_iconst (v := 5) d_M_told_12 (by decide) ?_
      refine mr_call (yrunS (X := yNX) (As := [yi y, yi 0, yi 5]) (rest := [yr 200]) d_M_told_13 (c_M_in hS) (show yck (yMm m_M_told) m_M_in 3 = true by decide +kernel) cw_M_in (by decide +kernel) (by decide +kernel) (by decide +kernel) (Nat.le_of_ble_eq_true rfl) (ycat_of rfl) (by decide) (by decide)) (fun r M9 hp => ?_)
      obtain ⟨rfl, hM9⟩ := hp
      rw [hM9, h2]
      refine yr_if_eq (tgt := 23) d_M_told_16 (by decide) (fun c16 => ?_) (fun c16 => absurd rfl c16)
      refine yr_iconst (v := 0) d_M_told_23 (by decide) ?_
      refine mr_call (yrunV (X := yNX) (k := 200) (As := [yi (zb false)]) (rest := []) d_M_told_24 (c_M_bad (b := false) hS) hS.1 rfl (show yck (yMm m_M_told) m_M_bad 1 = true by decide +kernel) cw_M_bad (by decide +kernel) (by decide +kernel) (by decide +kernel) (by decide +kernel) (Nat.le_of_ble_eq_true rfl) (ycat_of rfl) (by decide) (by decide)) (fun r M9 hp => ?_)
      obtain ⟨rfl, hM9⟩ := hp
      rw [hM9, show mBad M false = yu M 200 26 1 from rfl]
      refine yr_if_eq (tgt := 32) d_M_told_27 (by decide) (fun c27 => absurd c27 (by decide)) (fun c27 => ?_)
      refine yr_iconst (v := 0) d_M_told_30 (by decide) ?_
      exact yr_reti d_M_told_31 rfl (by decide) (by decide) ⟨_, rfl, Or.inr ⟨Or.inr (by by_cases h9 : y < 0; exact Or.inl h9; exact Or.inr (fun z => by rw [mIn_rng.mpr ⟨Int32.not_lt.mp h9, z⟩] at h2; cases h2)), rfl, _, rfl⟩⟩
    | true =>
      obtain ⟨t, htt, ht, rfl⟩ := mIn_t (n := 6) (by decide) h1
      have hy : ¬ y < 0 ∧ y ≤ 5 := ⟨Int32.not_lt.mpr (mIn_rng.mp h2).1, (mIn_rng.mp h2).2⟩
      refine yr_aload_n d_M_told_0 rfl ?_
      refine yr_iload_n d_M_told_1 rfl ?_
      refine yr_iconst (v := 0) d_M_told_2 (by decide) ?_
      refine yr_iconst (v := 5) d_M_told_3 (by decide) ?_
      refine mr_call (yrunS (X := yNX) (As := [yi (nI t), yi 0, yi 5]) (rest := [yr 200]) d_M_told_4 (c_M_in hS) (show yck (yMm m_M_told) m_M_in 3 = true by decide +kernel) cw_M_in (by decide +kernel) (by decide +kernel) (by decide +kernel) (Nat.le_of_ble_eq_true rfl) (ycat_of rfl) (by decide) (by decide)) (fun r M9 hp => ?_)
      obtain ⟨rfl, hM9⟩ := hp
      rw [hM9, h1]
      refine yr_if_eq (tgt := 23) d_M_told_7 (by decide) (fun c7 => absurd c7 (by decide)) (fun c7 => ?_)
      refine yr_iload_n d_M_told_10 rfl ?_
      refine yr_iconst (v := 0) d_M_told_11 (by decide) ?_
      refine yr_iconst (v := 5) d_M_told_12 (by decide) ?_
      refine mr_call (yrunS (X := yNX) (As := [yi y, yi 0, yi 5]) (rest := [yr 200]) d_M_told_13 (c_M_in hS) (show yck (yMm m_M_told) m_M_in 3 = true by decide +kernel) cw_M_in (by decide +kernel) (by decide +kernel) (by decide +kernel) (Nat.le_of_ble_eq_true rfl) (ycat_of rfl) (by decide) (by decide)) (fun r M9 hp => ?_)
      obtain ⟨rfl, hM9⟩ := hp
      rw [hM9, h2]
      refine yr_if_eq (tgt := 23) d_M_told_16 (by decide) (fun c16 => absurd c16 (by decide)) (fun c16 => ?_)
      refine yr_iconst (v := 1) d_M_told_19 (by decide) ?_
      refine yr_goto (tgt := 24) d_M_told_20 (by decide) ?_
      refine mr_call (yrunV (X := yNX) (k := 200) (As := [yi (zb true)]) (rest := []) d_M_told_24 (c_M_bad (b := true) hS) hS.1 rfl (show yck (yMm m_M_told) m_M_bad 1 = true by decide +kernel) cw_M_bad (by decide +kernel) (by decide +kernel) (by decide +kernel) (by decide +kernel) (Nat.le_of_ble_eq_true rfl) (ycat_of rfl) (by decide) (by decide)) (fun r M9 hp => ?_)
      obtain ⟨rfl, hM9⟩ := hp
      rw [hM9, show mBad M true = yu M 200 26 0 from rfl]
      refine yr_if_eq (tgt := 32) d_M_told_27 (by decide) (fun c27 => ?_) (fun c27 => absurd rfl c27)
      refine yr_iload_n d_M_told_32 rfl ?_
      by_cases s0 : y = 0
      · refine yr_tcase d_M_told_33 0 s0 (by decide) (by decide) rfl (tgt := 68) (by decide) ?_
        refine yr_aload_n d_M_told_68 rfl ?_
        refine mr_arr (a := 0) (K := 201) hS d_M_told_69 sf_M_told_69 rfl (by decide) rfl ?_
        refine yr_iload_n d_M_told_72 rfl ?_
        refine mr_ld (a := 0) (K := 201) (n := 6) (j := t) hS d_M_told_73 (by decide) rfl rfl rfl (by simp only [nI0, nI1, nI2, nI3, nI4, nI6, nI_mulN, nI_add]) (by omega) ?_
        refine yr_reti d_M_told_74 rfl (by decide) (by decide) ?_
        refine ⟨_, rfl, Or.inl ⟨t, htt, hy.1, hy.2, ?_, rfl⟩⟩
        subst s0
        simp [mtold, *]
      · skip
        by_cases s1 : y = 1
        · refine yr_tcase d_M_told_33 1 s1 (by decide) (by decide) rfl (tgt := 75) (by decide) ?_
          refine yr_aload_n d_M_told_75 rfl ?_
          refine mr_arr (a := 1) (K := 202) hS d_M_told_76 sf_M_told_76 rfl (by decide) rfl ?_
          refine yr_iload_n d_M_told_79 rfl ?_
          refine mr_ld (a := 1) (K := 202) (n := 6) (j := t) hS d_M_told_80 (by decide) rfl rfl rfl (by simp only [nI0, nI1, nI2, nI3, nI4, nI6, nI_mulN, nI_add]) (by omega) ?_
          refine yr_reti d_M_told_81 rfl (by decide) (by decide) ?_
          refine ⟨_, rfl, Or.inl ⟨t, htt, hy.1, hy.2, ?_, rfl⟩⟩
          subst s1
          simp [mtold, *]
        · skip
          by_cases s2 : y = 2
          · refine yr_tcase d_M_told_33 2 s2 (by decide) (by decide) rfl (tgt := 82) (by decide) ?_
            refine yr_aload_n d_M_told_82 rfl ?_
            refine mr_arr (a := 2) (K := 203) hS d_M_told_83 sf_M_told_83 rfl (by decide) rfl ?_
            refine yr_iload_n d_M_told_86 rfl ?_
            refine mr_ld (a := 2) (K := 203) (n := 6) (j := t) hS d_M_told_87 (by decide) rfl rfl rfl (by simp only [nI0, nI1, nI2, nI3, nI4, nI6, nI_mulN, nI_add]) (by omega) ?_
            refine yr_reti d_M_told_88 rfl (by decide) (by decide) ?_
            refine ⟨_, rfl, Or.inl ⟨t, htt, hy.1, hy.2, ?_, rfl⟩⟩
            subst s2
            simp [mtold, *]
          · skip
            by_cases s3 : y = 3
            · refine yr_tcase d_M_told_33 3 s3 (by decide) (by decide) rfl (tgt := 89) (by decide) ?_
              refine yr_aload_n d_M_told_89 rfl ?_
              refine mr_arr (a := 3) (K := 204) hS d_M_told_90 sf_M_told_90 rfl (by decide) rfl ?_
              refine yr_iload_n d_M_told_93 rfl ?_
              refine mr_ld (a := 3) (K := 204) (n := 6) (j := t) hS d_M_told_94 (by decide) rfl rfl rfl (by simp only [nI0, nI1, nI2, nI3, nI4, nI6, nI_mulN, nI_add]) (by omega) ?_
              refine yr_reti d_M_told_95 rfl (by decide) (by decide) ?_
              refine ⟨_, rfl, Or.inl ⟨t, htt, hy.1, hy.2, ?_, rfl⟩⟩
              subst s3
              simp [mtold, *]
            · skip
              by_cases s4 : y = 4
              · refine yr_tcase d_M_told_33 4 s4 (by decide) (by decide) rfl (tgt := 96) (by decide) ?_
                refine yr_aload_n d_M_told_96 rfl ?_
                refine mr_arr (a := 9) (K := 210) hS d_M_told_97 sf_M_told_97 rfl (by decide) rfl ?_
                refine yr_iload_n d_M_told_100 rfl ?_
                refine mr_ldz (a := 9) (K := 210) (n := 6) (j := t) hS d_M_told_101 (by decide) rfl rfl rfl (by simp only [nI0, nI1, nI2, nI3, nI4, nI6, nI_mulN, nI_add]) (by omega) ?_
                refine yr_if_eq (tgt := 109) d_M_told_102 (by decide) (fun c102 => ?_) (fun c102 => ?_)
                · skip
                  refine yr_iconst (v := 0) d_M_told_109 (by decide) ?_
                  refine yr_reti d_M_told_110 rfl (by decide) (by decide) ?_
                  refine ⟨_, rfl, Or.inl ⟨t, htt, hy.1, hy.2, ?_, rfl⟩⟩
                  subst s4
                  simp [mtold, *]
                · skip
                  refine yr_iconst (v := 1) d_M_told_105 (by decide) ?_
                  refine yr_goto (tgt := 110) d_M_told_106 (by decide) ?_
                  refine yr_reti d_M_told_110 rfl (by decide) (by decide) ?_
                  refine ⟨_, rfl, Or.inl ⟨t, htt, hy.1, hy.2, ?_, rfl⟩⟩
                  subst s4
                  simp [mtold, *]
              · skip
                refine yr_tdef d_M_told_33 (by have q0 := lv_neT s0 (a := 0) (by decide); have q1 := lv_neT s1 (a := 1) (by decide); have q2 := lv_neT s2 (a := 2) (by decide); have q3 := lv_neT s3 (a := 3) (by decide); have q4 := lv_neT s4 (a := 4) (by decide); omega) (tgt := 111) (by decide) ?_
                refine yr_aload_n d_M_told_111 rfl ?_
                refine mr_arr (a := 4) (K := 205) hS d_M_told_112 sf_M_told_112 rfl (by decide) rfl ?_
                refine yr_iload_n d_M_told_115 rfl ?_
                refine mr_ld (a := 4) (K := 205) (n := 6) (j := t) hS d_M_told_116 (by decide) rfl rfl rfl (by simp only [nI0, nI1, nI2, nI3, nI4, nI6, nI_mulN, nI_add]) (by omega) ?_
                refine yr_reti d_M_told_117 rfl (by decide) (by decide) ?_
                refine ⟨_, rfl, Or.inl ⟨t, htt, hy.1, hy.2, ?_, rfl⟩⟩
                simp [mtold, s0, s1, s2, s3, s4]

theorem nI_sub4 (n : Nat) : nI n + 4 - 4 = nI n := Int32.add_sub_cancel _ _
theorem nI_sub45 (n : Nat) : nI n + 5 - 4 = nI (n + 1) := by
  rw [← nI_1, show (5 : Int32) = 1 + 4 from rfl, ← Int32.add_assoc]
  exact Int32.add_sub_cancel _ _

set_option maxHeartbeats 4000000 in
set_option maxRecDepth 20000 in
theorem c_M_object {G : yG} {s : Nat → Option ySh} {F : Nat → Nat → Option Nat} {M : mM} (hS : mSh s F) {x y : Int32} {n : Nat} (hn : n ≤ 6) (hob : M 200 23 = nI n) : mCT G m_M_object [yr 200, yi x, yi y] s F M (fun r M' => (∃ o, zpat n x = some o ∧ ¬ y < 0 ∧ y ≤ 7 ∧ r = some (yi (mobj (yu M 200 26 0) o y)) ∧ M' = yu M 200 26 0) ∨ ((zpat n x = none ∨ y < 0 ∨ ¬ y ≤ 7) ∧ M' = yu M 200 26 1 ∧ ∃ v, r = some (yi v))) := by
  refine yCT_of (by decide) rfl (ycat_of rfl) (Nat.le_of_ble_eq_true rfl) ?_
  cases h1 : mIn x 0 (nI n - 1) with
  | false =>
    refine yr_aload_n d_M_object_0 rfl ?_
    refine yr_iload_n d_M_object_1 rfl ?_
    refine yr_iconst (v := 0) d_M_object_2 (by decide) ?_
    refine yr_aload_n d_M_object_3 rfl ?_
    refine mr_geti (f := 23) hS d_M_object_4 sf_M_object_4 rfl ?_
    rw [hob]
    refine yr_iconst (v := 1) d_M_object_7 (by decide) ?_
    refine yr_isub d_M_object_8 ?_
    refine mr_call (yrunS (X := yNX) (As := [yi x, yi 0, yi (nI n - 1)]) (rest := [yr 200]) d_M_object_9 (c_M_in hS) (show yck (yMm m_M_object) m_M_in 3 = true by decide +kernel) cw_M_in (by decide +kernel) (by decide +kernel) (by decide +kernel) (Nat.le_of_ble_eq_true rfl) (ycat_of rfl) (by decide) (by decide)) (fun r M9 hp => ?_)
    obtain ⟨rfl, hM9⟩ := hp
    rw [hM9, h1]
    refine yr_if_eq (tgt := 29) d_M_object_12 (by decide) (fun c12 => ?_) (fun c12 => absurd rfl c12)
    refine yr_iconst (v := 0) d_M_object_29 (by decide) ?_
    refine mr_call (yrunV (X := yNX) (k := 200) (As := [yi (zb false)]) (rest := []) d_M_object_30 (c_M_bad (b := false) hS) hS.1 rfl (show yck (yMm m_M_object) m_M_bad 1 = true by decide +kernel) cw_M_bad (by decide +kernel) (by decide +kernel) (by decide +kernel) (by decide +kernel) (Nat.le_of_ble_eq_true rfl) (ycat_of rfl) (by decide) (by decide)) (fun r M9 hp => ?_)
    obtain ⟨rfl, hM9⟩ := hp
    rw [hM9, show mBad M false = yu M 200 26 1 from rfl]
    refine yr_if_eq (tgt := 38) d_M_object_33 (by decide) (fun c33 => absurd c33 (by decide)) (fun c33 => ?_)
    refine yr_iconst (v := 0) d_M_object_36 (by decide) ?_
    exact yr_reti d_M_object_37 rfl (by decide) (by decide) ⟨_, rfl, Or.inr ⟨Or.inl (mIn_f (by omega) h1), rfl, _, rfl⟩⟩
  | true =>
    cases h2 : mIn y 0 7 with
    | false =>
      refine yr_aload_n d_M_object_0 rfl ?_
      refine yr_iload_n d_M_object_1 rfl ?_
      refine yr_iconst (v := 0) d_M_object_2 (by decide) ?_
      refine yr_aload_n d_M_object_3 rfl ?_
      refine mr_geti (f := 23) hS d_M_object_4 sf_M_object_4 rfl ?_
      rw [hob]
      refine yr_iconst (v := 1) d_M_object_7 (by decide) ?_
      refine yr_isub d_M_object_8 ?_
      refine mr_call (yrunS (X := yNX) (As := [yi x, yi 0, yi (nI n - 1)]) (rest := [yr 200]) d_M_object_9 (c_M_in hS) (show yck (yMm m_M_object) m_M_in 3 = true by decide +kernel) cw_M_in (by decide +kernel) (by decide +kernel) (by decide +kernel) (Nat.le_of_ble_eq_true rfl) (ycat_of rfl) (by decide) (by decide)) (fun r M9 hp => ?_)
      obtain ⟨rfl, hM9⟩ := hp
      rw [hM9, h1]
      refine yr_if_eq (tgt := 29) d_M_object_12 (by decide) (fun c12 => absurd c12 (by decide)) (fun c12 => ?_)
      refine yr_iload_n d_M_object_15 rfl ?_
      refine yr_iconst (v := 0) d_M_object_16 (by decide) ?_
      refine yr_bipush (v := 7) d_M_object_17 (by decide) ?_
      refine mr_call (yrunS (X := yNX) (As := [yi y, yi 0, yi 7]) (rest := [yr 200]) d_M_object_19 (c_M_in hS) (show yck (yMm m_M_object) m_M_in 3 = true by decide +kernel) cw_M_in (by decide +kernel) (by decide +kernel) (by decide +kernel) (Nat.le_of_ble_eq_true rfl) (ycat_of rfl) (by decide) (by decide)) (fun r M9 hp => ?_)
      obtain ⟨rfl, hM9⟩ := hp
      rw [hM9, h2]
      refine yr_if_eq (tgt := 29) d_M_object_22 (by decide) (fun c22 => ?_) (fun c22 => absurd rfl c22)
      refine yr_iconst (v := 0) d_M_object_29 (by decide) ?_
      refine mr_call (yrunV (X := yNX) (k := 200) (As := [yi (zb false)]) (rest := []) d_M_object_30 (c_M_bad (b := false) hS) hS.1 rfl (show yck (yMm m_M_object) m_M_bad 1 = true by decide +kernel) cw_M_bad (by decide +kernel) (by decide +kernel) (by decide +kernel) (by decide +kernel) (Nat.le_of_ble_eq_true rfl) (ycat_of rfl) (by decide) (by decide)) (fun r M9 hp => ?_)
      obtain ⟨rfl, hM9⟩ := hp
      rw [hM9, show mBad M false = yu M 200 26 1 from rfl]
      refine yr_if_eq (tgt := 38) d_M_object_33 (by decide) (fun c33 => absurd c33 (by decide)) (fun c33 => ?_)
      refine yr_iconst (v := 0) d_M_object_36 (by decide) ?_
      exact yr_reti d_M_object_37 rfl (by decide) (by decide) ⟨_, rfl, Or.inr ⟨Or.inr (by by_cases h9 : y < 0; exact Or.inl h9; exact Or.inr (fun z => by rw [mIn_rng.mpr ⟨Int32.not_lt.mp h9, z⟩] at h2; cases h2)), rfl, _, rfl⟩⟩
    | true =>
      obtain ⟨o, hoo, hon, rfl⟩ := mIn_t (by omega) h1
      have ho : o < 6 := by omega
      have hy : ¬ y < 0 ∧ y ≤ 7 := ⟨Int32.not_lt.mpr (mIn_rng.mp h2).1, (mIn_rng.mp h2).2⟩
      refine yr_aload_n d_M_object_0 rfl ?_
      refine yr_iload_n d_M_object_1 rfl ?_
      refine yr_iconst (v := 0) d_M_object_2 (by decide) ?_
      refine yr_aload_n d_M_object_3 rfl ?_
      refine mr_geti (f := 23) hS d_M_object_4 sf_M_object_4 rfl ?_
      rw [hob]
      refine yr_iconst (v := 1) d_M_object_7 (by decide) ?_
      refine yr_isub d_M_object_8 ?_
      refine mr_call (yrunS (X := yNX) (As := [yi (nI o), yi 0, yi (nI n - 1)]) (rest := [yr 200]) d_M_object_9 (c_M_in hS) (show yck (yMm m_M_object) m_M_in 3 = true by decide +kernel) cw_M_in (by decide +kernel) (by decide +kernel) (by decide +kernel) (Nat.le_of_ble_eq_true rfl) (ycat_of rfl) (by decide) (by decide)) (fun r M9 hp => ?_)
      obtain ⟨rfl, hM9⟩ := hp
      rw [hM9, h1]
      refine yr_if_eq (tgt := 29) d_M_object_12 (by decide) (fun c12 => absurd c12 (by decide)) (fun c12 => ?_)
      refine yr_iload_n d_M_object_15 rfl ?_
      refine yr_iconst (v := 0) d_M_object_16 (by decide) ?_
      refine yr_bipush (v := 7) d_M_object_17 (by decide) ?_
      refine mr_call (yrunS (X := yNX) (As := [yi y, yi 0, yi 7]) (rest := [yr 200]) d_M_object_19 (c_M_in hS) (show yck (yMm m_M_object) m_M_in 3 = true by decide +kernel) cw_M_in (by decide +kernel) (by decide +kernel) (by decide +kernel) (Nat.le_of_ble_eq_true rfl) (ycat_of rfl) (by decide) (by decide)) (fun r M9 hp => ?_)
      obtain ⟨rfl, hM9⟩ := hp
      rw [hM9, h2]
      refine yr_if_eq (tgt := 29) d_M_object_22 (by decide) (fun c22 => absurd c22 (by decide)) (fun c22 => ?_)
      refine yr_iconst (v := 1) d_M_object_25 (by decide) ?_
      refine yr_goto (tgt := 30) d_M_object_26 (by decide) ?_
      refine mr_call (yrunV (X := yNX) (k := 200) (As := [yi (zb true)]) (rest := []) d_M_object_30 (c_M_bad (b := true) hS) hS.1 rfl (show yck (yMm m_M_object) m_M_bad 1 = true by decide +kernel) cw_M_bad (by decide +kernel) (by decide +kernel) (by decide +kernel) (by decide +kernel) (Nat.le_of_ble_eq_true rfl) (ycat_of rfl) (by decide) (by decide)) (fun r M9 hp => ?_)
      obtain ⟨rfl, hM9⟩ := hp
      rw [hM9, show mBad M true = yu M 200 26 0 from rfl]
      refine yr_if_eq (tgt := 38) d_M_object_33 (by decide) (fun c33 => ?_) (fun c33 => absurd rfl c33)
      refine yr_aload_n d_M_object_38 rfl ?_
      refine mr_arr (a := 11) (K := 212) hS d_M_object_39 sf_M_object_39 rfl (by decide) rfl ?_
      refine yr_iload_n d_M_object_42 rfl ?_
      refine mr_ld (a := 11) (K := 212) (n := 6) (j := o) hS d_M_object_43 (by decide) rfl rfl rfl (by simp only [nI0, nI1, nI2, nI3, nI4, nI6, nI_mulN, nI_add]) (by omega) ?_
      refine yr_istore_n d_M_object_44 (by decide) rfl ?_
      refine yr_iload_n d_M_object_45 rfl ?_
      by_cases s0 : y = 0
      · refine yr_tcase d_M_object_46 0 s0 (by decide) (by decide) rfl (tgt := 88) (by decide) ?_
        refine yr_iload_n d_M_object_88 rfl ?_
        refine yr_reti d_M_object_89 rfl (by decide) (by decide) ?_
        refine ⟨_, rfl, Or.inl ⟨o, hoo, hy.1, hy.2, ?_, rfl⟩⟩
        subst s0
        simp [mobj, *]
      · skip
        by_cases s1 : y = 1
        · refine yr_tcase d_M_object_46 1 s1 (by decide) (by decide) rfl (tgt := 90) (by decide) ?_
          refine yr_iload_n d_M_object_90 rfl ?_
          refine yr_iconst (v := 4) d_M_object_91 (by decide) ?_
          refine yr_icmp_ne (tgt := 104) d_M_object_92 (by decide) (fun c92 => ?_) (fun c92 => ?_)
          · skip
            refine yr_aload_n d_M_object_104 rfl ?_
            refine mr_arr (a := 13) (K := 214) hS d_M_object_105 sf_M_object_105 rfl (by decide) rfl ?_
            refine yr_iload_n d_M_object_108 rfl ?_
            refine mr_ld (a := 13) (K := 214) (n := 6) (j := o) hS d_M_object_109 (by decide) rfl rfl rfl (by simp only [nI0, nI1, nI2, nI3, nI4, nI6, nI_mulN, nI_add]) (by omega) ?_
            refine yr_reti d_M_object_110 rfl (by decide) (by decide) ?_
            refine ⟨_, rfl, Or.inl ⟨o, hoo, hy.1, hy.2, ?_, rfl⟩⟩
            subst s1
            simp [mobj, *]
          · skip
            refine yr_aload_n d_M_object_95 rfl ?_
            refine mr_arr (a := 15) (K := 216) hS d_M_object_96 sf_M_object_96 rfl (by decide) rfl ?_
            refine yr_iload_n d_M_object_99 rfl ?_
            refine mr_ld (a := 15) (K := 216) (n := 6) (j := o) hS d_M_object_100 (by decide) rfl rfl rfl (by simp only [nI0, nI1, nI2, nI3, nI4, nI6, nI_mulN, nI_add]) (by omega) ?_
            refine yr_goto (tgt := 110) d_M_object_101 (by decide) ?_
            refine yr_reti d_M_object_110 rfl (by decide) (by decide) ?_
            refine ⟨_, rfl, Or.inl ⟨o, hoo, hy.1, hy.2, ?_, rfl⟩⟩
            subst s1
            simp [mobj, *]
        · skip
          by_cases s2 : y = 2
          · refine yr_tcase d_M_object_46 2 s2 (by decide) (by decide) rfl (tgt := 111) (by decide) ?_
            refine yr_iload_n d_M_object_111 rfl ?_
            refine yr_iconst (v := 2) d_M_object_112 (by decide) ?_
            refine yr_icmp_ge (tgt := 125) d_M_object_113 (by decide) (fun c113 => ?_) (fun c113 => ?_)
            · skip
              refine yr_iconst (v := 0) d_M_object_125 (by decide) ?_
              refine yr_reti d_M_object_126 rfl (by decide) (by decide) ?_
              refine ⟨_, rfl, Or.inl ⟨o, hoo, hy.1, hy.2, ?_, rfl⟩⟩
              subst s2
              unfold mobj
              rw [if_neg (by decide), if_neg (by decide), if_pos rfl]
              first | rw [if_neg (Int32.not_lt.mpr c113)] | rw [if_pos (Int32.not_le.mp c113)]
            · skip
              refine yr_aload_n d_M_object_116 rfl ?_
              refine mr_arr (a := 14) (K := 215) hS d_M_object_117 sf_M_object_117 rfl (by decide) rfl ?_
              refine yr_iload_n d_M_object_120 rfl ?_
              refine mr_ld (a := 14) (K := 215) (n := 6) (j := o) hS d_M_object_121 (by decide) rfl rfl rfl (by simp only [nI0, nI1, nI2, nI3, nI4, nI6, nI_mulN, nI_add]) (by omega) ?_
              refine yr_goto (tgt := 126) d_M_object_122 (by decide) ?_
              refine yr_reti d_M_object_126 rfl (by decide) (by decide) ?_
              refine ⟨_, rfl, Or.inl ⟨o, hoo, hy.1, hy.2, ?_, rfl⟩⟩
              subst s2
              unfold mobj
              rw [if_neg (by decide), if_neg (by decide), if_pos rfl]
              first | rw [if_neg (Int32.not_lt.mpr c113)] | rw [if_pos (Int32.not_le.mp c113)]
          · skip
            by_cases s3 : y = 3
            · refine yr_tcase d_M_object_46 3 s3 (by decide) (by decide) rfl (tgt := 127) (by decide) ?_
              refine yr_aload_n d_M_object_127 rfl ?_
              refine mr_arr (a := 15) (K := 216) hS d_M_object_128 sf_M_object_128 rfl (by decide) rfl ?_
              refine yr_iload_n d_M_object_131 rfl ?_
              refine mr_ld (a := 15) (K := 216) (n := 6) (j := o) hS d_M_object_132 (by decide) rfl rfl rfl (by simp only [nI0, nI1, nI2, nI3, nI4, nI6, nI_mulN, nI_add]) (by omega) ?_
              refine yr_reti d_M_object_133 rfl (by decide) (by decide) ?_
              refine ⟨_, rfl, Or.inl ⟨o, hoo, hy.1, hy.2, ?_, rfl⟩⟩
              subst s3
              simp [mobj, *]
            · skip
              by_cases s4 : y = 4
              · refine yr_tcase d_M_object_46 4 s4 (by decide) (by decide) rfl (tgt := 134) (by decide) ?_
                subst s4
                refine yr_aload_n d_M_object_134 rfl ?_
                refine mr_arr (a := 17) (K := 218) hS d_M_object_135 sf_M_object_135 rfl (by decide) rfl ?_
                refine yr_iload_n d_M_object_138 rfl ?_
                refine yr_iconst (v := 2) d_M_object_139 (by decide) ?_
                refine yr_imul d_M_object_140 ?_
                refine yr_iload_n d_M_object_141 rfl ?_
                refine yr_iadd d_M_object_142 ?_
                refine yr_iconst (v := 4) d_M_object_143 (by decide) ?_
                refine yr_isub d_M_object_144 ?_
                rw [show nI o * 2 + 4 - 4 = nI (o * 2) by rw [nI2, nI_mulN]; exact nI_sub4 _]
                refine mr_ld (a := 17) (K := 218) (n := 12) (j := (o * 2)) hS d_M_object_145 (by decide) rfl rfl rfl (by simp only [nI0, nI1, nI2, nI3, nI4, nI6, nI_mulN, nI_add]) (by omega) ?_
                refine yr_reti d_M_object_146 rfl (by decide) (by decide) ?_
                refine ⟨_, rfl, Or.inl ⟨o, hoo, hy.1, hy.2, ?_, rfl⟩⟩
                simp [mobj, *]
              · skip
                by_cases s5 : y = 5
                · refine yr_tcase d_M_object_46 5 s5 (by decide) (by decide) rfl (tgt := 134) (by decide) ?_
                  subst s5
                  refine yr_aload_n d_M_object_134 rfl ?_
                  refine mr_arr (a := 17) (K := 218) hS d_M_object_135 sf_M_object_135 rfl (by decide) rfl ?_
                  refine yr_iload_n d_M_object_138 rfl ?_
                  refine yr_iconst (v := 2) d_M_object_139 (by decide) ?_
                  refine yr_imul d_M_object_140 ?_
                  refine yr_iload_n d_M_object_141 rfl ?_
                  refine yr_iadd d_M_object_142 ?_
                  refine yr_iconst (v := 4) d_M_object_143 (by decide) ?_
                  refine yr_isub d_M_object_144 ?_
                  rw [show nI o * 2 + 5 - 4 = nI (o * 2 + 1) by rw [nI2, nI_mulN]; exact nI_sub45 _]
                  refine mr_ld (a := 17) (K := 218) (n := 12) (j := (o * 2 + 1)) hS d_M_object_145 (by decide) rfl rfl rfl (by simp only [nI0, nI1, nI2, nI3, nI4, nI6, nI_mulN, nI_add]) (by omega) ?_
                  refine yr_reti d_M_object_146 rfl (by decide) (by decide) ?_
                  refine ⟨_, rfl, Or.inl ⟨o, hoo, hy.1, hy.2, ?_, rfl⟩⟩
                  simp [mobj, *]
                · skip
                  by_cases s6 : y = 6
                  · refine yr_tcase d_M_object_46 6 s6 (by decide) (by decide) rfl (tgt := 147) (by decide) ?_
                    refine yr_aload_n d_M_object_147 rfl ?_
                    refine yr_iload_n d_M_object_148 rfl ?_
                    refine yr_iconst (v := -1) d_M_object_149 (by decide) ?_
                    refine mr_call (yrunV (X := yNX) (k := 200) (As := [yi (nI o), yi (-1)]) (rest := []) d_M_object_150 (c_M_readers hS ho) hS.1 rfl (show yck (yMm m_M_object) m_M_readers 2 = true by decide +kernel) cw_M_readers (by decide +kernel) (by decide +kernel) (by decide +kernel) (by decide +kernel) (Nat.le_of_ble_eq_true rfl) (ycat_of rfl) (by decide) (by decide)) (fun r M9 hp => ?_)
                    obtain ⟨rfl, hM9⟩ := hp
                    rw [hM9]
                    refine yr_reti d_M_object_153 rfl (by decide) (by decide) ?_
                    refine ⟨_, rfl, Or.inl ⟨o, hoo, hy.1, hy.2, ?_, rfl⟩⟩
                    subst s6
                    simp [mobj, *]
                  · skip
                    refine yr_tdef d_M_object_46 (by have q0 := lv_neT s0 (a := 0) (by decide); have q1 := lv_neT s1 (a := 1) (by decide); have q2 := lv_neT s2 (a := 2) (by decide); have q3 := lv_neT s3 (a := 3) (by decide); have q4 := lv_neT s4 (a := 4) (by decide); have q5 := lv_neT s5 (a := 5) (by decide); have q6 := lv_neT s6 (a := 6) (by decide); omega) (tgt := 154) (by decide) ?_
                    refine yr_aload_n d_M_object_154 rfl ?_
                    refine mr_arr (a := 22) (K := 223) hS d_M_object_155 sf_M_object_155 rfl (by decide) rfl ?_
                    refine yr_iload_n d_M_object_158 rfl ?_
                    refine mr_ldz (a := 22) (K := 223) (n := 6) (j := o) hS d_M_object_159 (by decide) rfl rfl rfl (by simp only [nI0, nI1, nI2, nI3, nI4, nI6, nI_mulN, nI_add]) (by omega) ?_
                    refine yr_if_eq (tgt := 167) d_M_object_160 (by decide) (fun c160 => ?_) (fun c160 => ?_)
                    · skip
                      refine yr_iconst (v := 0) d_M_object_167 (by decide) ?_
                      refine yr_reti d_M_object_168 rfl (by decide) (by decide) ?_
                      refine ⟨_, rfl, Or.inl ⟨o, hoo, hy.1, hy.2, ?_, rfl⟩⟩
                      simp [mobj, s0, s1, s2, s3, s4, s5, s6, *]
                    · skip
                      refine yr_iconst (v := 1) d_M_object_163 (by decide) ?_
                      refine yr_goto (tgt := 168) d_M_object_164 (by decide) ?_
                      refine yr_reti d_M_object_168 rfl (by decide) (by decide) ?_
                      refine ⟨_, rfl, Or.inl ⟨o, hoo, hy.1, hy.2, ?_, rfl⟩⟩
                      simp [mobj, s0, s1, s2, s3, s4, s5, s6, *]

set_option maxHeartbeats 4000000 in
set_option maxRecDepth 20000 in
theorem c_M_waiter {G : yG} {s : Nat → Option ySh} {F : Nat → Nat → Option Nat} {M : mM} (hS : mSh s F) {x y : Int32} {n : Nat} {L : Nat → List Nat} (hn : n ≤ 6) (hob : M 200 23 = nI n) (hrow : ∀ o, o < n → (L o).length ≤ 6 ∧ M 216 o = nI (L o).length ∧ mL M 217 (o * 6) (L o)) : mCT G m_M_waiter [yr 200, yi x, yi y] s F M (fun r M' => (zpat n x = none ∧ M' = yu M 200 26 1 ∧ ∃ v, r = some (yi v)) ∨ ∃ o, zpat n x = some o ∧ ((zpat (L o).length y = none ∧ M' = yu (yu M 200 26 0) 200 26 2 ∧ ∃ v, r = some (yi v)) ∨ ∃ j, ∃ hj : j < (L o).length, zpat (L o).length y = some j ∧ r = some (yi (nI (L o)[j])) ∧ M' = yu M 200 26 0)) := by
  refine yCT_of (by decide) rfl (ycat_of rfl) (Nat.le_of_ble_eq_true rfl) ?_
  cases h1 : mIn x 0 (nI n - 1) with
  | false =>
    refine yr_aload_n d_M_waiter_0 rfl ?_
    refine yr_iload_n d_M_waiter_1 rfl ?_
    refine yr_iconst (v := 0) d_M_waiter_2 (by decide) ?_
    refine yr_aload_n d_M_waiter_3 rfl ?_
    refine mr_geti (f := 23) hS d_M_waiter_4 sf_M_waiter_4 rfl ?_
    rw [hob]
    refine yr_iconst (v := 1) d_M_waiter_7 (by decide) ?_
    refine yr_isub d_M_waiter_8 ?_
    refine mr_call (yrunS (X := yNX) (As := [yi x, yi 0, yi (nI n - 1)]) (rest := [yr 200]) d_M_waiter_9 (c_M_in hS) (show yck (yMm m_M_waiter) m_M_in 3 = true by decide +kernel) cw_M_in (by decide +kernel) (by decide +kernel) (by decide +kernel) (Nat.le_of_ble_eq_true rfl) (ycat_of rfl) (by decide) (by decide)) (fun r M9 hp => ?_)
    obtain ⟨rfl, hM9⟩ := hp
    rw [hM9, h1]
    refine mr_call (yrunV (X := yNX) (k := 200) (As := [yi (zb false)]) (rest := []) d_M_waiter_12 (c_M_bad (b := false) hS) hS.1 rfl (show yck (yMm m_M_waiter) m_M_bad 1 = true by decide +kernel) cw_M_bad (by decide +kernel) (by decide +kernel) (by decide +kernel) (by decide +kernel) (Nat.le_of_ble_eq_true rfl) (ycat_of rfl) (by decide) (by decide)) (fun r M9 hp => ?_)
    obtain ⟨rfl, hM9⟩ := hp
    rw [hM9, show mBad M false = yu M 200 26 1 from rfl]
    refine yr_if_eq (tgt := 20) d_M_waiter_15 (by decide) (fun c15 => absurd c15 (by decide)) (fun c15 => ?_)
    refine yr_iconst (v := 0) d_M_waiter_18 (by decide) ?_
    exact yr_reti d_M_waiter_19 rfl (by decide) (by decide) ⟨_, rfl, Or.inl ⟨mIn_f (by omega) h1, rfl, _, rfl⟩⟩
  | true =>
    obtain ⟨o, hoo, hon, rfl⟩ := mIn_t (by omega) h1
    have ho : o < 6 := by omega
    obtain ⟨hl6, hrs, hL⟩ := hrow o hon
    cases h2 : mIn y 0 (nI (L o).length - 1) with
    | false =>
      refine yr_aload_n d_M_waiter_0 rfl ?_
      refine yr_iload_n d_M_waiter_1 rfl ?_
      refine yr_iconst (v := 0) d_M_waiter_2 (by decide) ?_
      refine yr_aload_n d_M_waiter_3 rfl ?_
      refine mr_geti (f := 23) hS d_M_waiter_4 sf_M_waiter_4 rfl ?_
      rw [hob]
      refine yr_iconst (v := 1) d_M_waiter_7 (by decide) ?_
      refine yr_isub d_M_waiter_8 ?_
      refine mr_call (yrunS (X := yNX) (As := [yi (nI o), yi 0, yi (nI n - 1)]) (rest := [yr 200]) d_M_waiter_9 (c_M_in hS) (show yck (yMm m_M_waiter) m_M_in 3 = true by decide +kernel) cw_M_in (by decide +kernel) (by decide +kernel) (by decide +kernel) (Nat.le_of_ble_eq_true rfl) (ycat_of rfl) (by decide) (by decide)) (fun r M9 hp => ?_)
      obtain ⟨rfl, hM9⟩ := hp
      rw [hM9, h1]
      refine mr_call (yrunV (X := yNX) (k := 200) (As := [yi (zb true)]) (rest := []) d_M_waiter_12 (c_M_bad (b := true) hS) hS.1 rfl (show yck (yMm m_M_waiter) m_M_bad 1 = true by decide +kernel) cw_M_bad (by decide +kernel) (by decide +kernel) (by decide +kernel) (by decide +kernel) (Nat.le_of_ble_eq_true rfl) (ycat_of rfl) (by decide) (by decide)) (fun r M9 hp => ?_)
      obtain ⟨rfl, hM9⟩ := hp
      rw [hM9, show mBad M true = yu M 200 26 0 from rfl]
      refine yr_if_eq (tgt := 20) d_M_waiter_15 (by decide) (fun c15 => ?_) (fun c15 => absurd rfl c15)
      refine yr_iload_n d_M_waiter_20 rfl ?_
      refine yr_iconst (v := 0) d_M_waiter_21 (by decide) ?_
      refine yr_aload_n d_M_waiter_22 rfl ?_
      refine mr_arr (a := 15) (K := 216) hS d_M_waiter_23 sf_M_waiter_23 rfl (by decide) rfl ?_
      refine yr_iload_n d_M_waiter_26 rfl ?_
      refine mr_ld (a := 15) (K := 216) (n := 6) (j := o) hS d_M_waiter_27 (by decide) rfl rfl rfl (by simp only [nI0, nI1, nI2, nI3, nI4, nI6, nI_mulN, nI_add]) (by omega) ?_
      rw [yu_ne (k := 200) (k' := 216) _ _ (Or.inl (by decide)), hrs]
      refine yr_iconst (v := 1) d_M_waiter_28 (by decide) ?_
      refine yr_isub d_M_waiter_29 ?_
      refine mr_call (yrunS (X := yNX) (As := [yi y, yi 0, yi (nI (L o).length - 1)]) (rest := []) d_M_waiter_30 (c_M_in hS) (show yck (yMm m_M_waiter) m_M_in 3 = true by decide +kernel) cw_M_in (by decide +kernel) (by decide +kernel) (by decide +kernel) (Nat.le_of_ble_eq_true rfl) (ycat_of rfl) (by decide) (by decide)) (fun r M9 hp => ?_)
      obtain ⟨rfl, hM9⟩ := hp
      rw [hM9, h2]
      refine yr_if_ne (tgt := 43) d_M_waiter_33 (by decide) (fun c33 => absurd rfl c33) (fun c33 => ?_)
      refine yr_aload_n d_M_waiter_36 rfl ?_
      refine yr_iconst (v := 2) d_M_waiter_37 (by decide) ?_
      refine mr_puti (f := 26) hS d_M_waiter_38 sf_M_waiter_38 rfl rfl ⟨rfl, rfl⟩ ?_
      refine yr_iconst (v := 0) d_M_waiter_41 (by decide) ?_
      exact yr_reti d_M_waiter_42 rfl (by decide) (by decide) ⟨_, rfl, Or.inr ⟨o, hoo, Or.inl ⟨mIn_f (by omega) h2, rfl, _, rfl⟩⟩⟩
    | true =>
      obtain ⟨j, hjj, hj, rfl⟩ := mIn_t (by omega) h2
      refine yr_aload_n d_M_waiter_0 rfl ?_
      refine yr_iload_n d_M_waiter_1 rfl ?_
      refine yr_iconst (v := 0) d_M_waiter_2 (by decide) ?_
      refine yr_aload_n d_M_waiter_3 rfl ?_
      refine mr_geti (f := 23) hS d_M_waiter_4 sf_M_waiter_4 rfl ?_
      rw [hob]
      refine yr_iconst (v := 1) d_M_waiter_7 (by decide) ?_
      refine yr_isub d_M_waiter_8 ?_
      refine mr_call (yrunS (X := yNX) (As := [yi (nI o), yi 0, yi (nI n - 1)]) (rest := [yr 200]) d_M_waiter_9 (c_M_in hS) (show yck (yMm m_M_waiter) m_M_in 3 = true by decide +kernel) cw_M_in (by decide +kernel) (by decide +kernel) (by decide +kernel) (Nat.le_of_ble_eq_true rfl) (ycat_of rfl) (by decide) (by decide)) (fun r M9 hp => ?_)
      obtain ⟨rfl, hM9⟩ := hp
      rw [hM9, h1]
      refine mr_call (yrunV (X := yNX) (k := 200) (As := [yi (zb true)]) (rest := []) d_M_waiter_12 (c_M_bad (b := true) hS) hS.1 rfl (show yck (yMm m_M_waiter) m_M_bad 1 = true by decide +kernel) cw_M_bad (by decide +kernel) (by decide +kernel) (by decide +kernel) (by decide +kernel) (Nat.le_of_ble_eq_true rfl) (ycat_of rfl) (by decide) (by decide)) (fun r M9 hp => ?_)
      obtain ⟨rfl, hM9⟩ := hp
      rw [hM9, show mBad M true = yu M 200 26 0 from rfl]
      refine yr_if_eq (tgt := 20) d_M_waiter_15 (by decide) (fun c15 => ?_) (fun c15 => absurd rfl c15)
      refine yr_iload_n d_M_waiter_20 rfl ?_
      refine yr_iconst (v := 0) d_M_waiter_21 (by decide) ?_
      refine yr_aload_n d_M_waiter_22 rfl ?_
      refine mr_arr (a := 15) (K := 216) hS d_M_waiter_23 sf_M_waiter_23 rfl (by decide) rfl ?_
      refine yr_iload_n d_M_waiter_26 rfl ?_
      refine mr_ld (a := 15) (K := 216) (n := 6) (j := o) hS d_M_waiter_27 (by decide) rfl rfl rfl (by simp only [nI0, nI1, nI2, nI3, nI4, nI6, nI_mulN, nI_add]) (by omega) ?_
      rw [yu_ne (k := 200) (k' := 216) _ _ (Or.inl (by decide)), hrs]
      refine yr_iconst (v := 1) d_M_waiter_28 (by decide) ?_
      refine yr_isub d_M_waiter_29 ?_
      refine mr_call (yrunS (X := yNX) (As := [yi (nI j), yi 0, yi (nI (L o).length - 1)]) (rest := []) d_M_waiter_30 (c_M_in hS) (show yck (yMm m_M_waiter) m_M_in 3 = true by decide +kernel) cw_M_in (by decide +kernel) (by decide +kernel) (by decide +kernel) (Nat.le_of_ble_eq_true rfl) (ycat_of rfl) (by decide) (by decide)) (fun r M9 hp => ?_)
      obtain ⟨rfl, hM9⟩ := hp
      rw [hM9, h2]
      refine yr_if_ne (tgt := 43) d_M_waiter_33 (by decide) (fun c33 => ?_) (fun c33 => absurd c33 (by decide))
      refine yr_aload_n d_M_waiter_43 rfl ?_
      refine mr_arr (a := 16) (K := 217) hS d_M_waiter_44 sf_M_waiter_44 rfl (by decide) rfl ?_
      refine yr_iload_n d_M_waiter_47 rfl ?_
      refine yr_bipush (v := 6) d_M_waiter_48 (by decide) ?_
      refine yr_imul d_M_waiter_50 ?_
      refine yr_iload_n d_M_waiter_51 rfl ?_
      refine yr_iadd d_M_waiter_52 ?_
      refine mr_ld (a := 16) (K := 217) (n := 36) (j := ((o * 6) + j)) hS d_M_waiter_53 (by decide) rfl rfl rfl (by simp only [nI0, nI1, nI2, nI3, nI4, nI6, nI_mulN, nI_add]) (by omega) ?_
      rw [yu_ne (k := 200) (k' := 217) _ _ (Or.inl (by decide)), hL j hj]
      exact yr_reti d_M_waiter_54 rfl (by decide) (by decide) ⟨_, rfl, Or.inr ⟨o, hoo, Or.inr ⟨j, hj, hjj, rfl, rfl⟩⟩⟩

set_option maxHeartbeats 4000000 in
set_option maxRecDepth 20000 in
theorem c_M_make {G : yG} {s : Nat → Option ySh} {F : Nat → Nat → Option Nat} {M : mM} (hS : mSh s F) {x y : Int32} {n : Nat} (hn : n ≤ 6) (hob : M 200 23 = nI n) : mCT G m_M_make [yr 200, yi x, yi y] s F M (fun r M' => ((x < 0 ∨ 5 < x ∨ y < 1 ∨ ¬ y ≤ 3) ∧ M' = yu M 200 26 1 ∧ ∃ v, r = some (yi v)) ∨ ∃ c s, c < 6 ∧ 1 ≤ s ∧ s ≤ 3 ∧ x = nI c ∧ y = nI s ∧ ((n = 6 ∧ M' = yu (yu M 200 26 0) 200 26 2 ∧ ∃ v, r = some (yi v)) ∨ (n < 6 ∧ r = some (yi (nI n)) ∧ M' = mMake M c s n))) := by
  refine yCT_of (by decide) rfl (ycat_of rfl) (Nat.le_of_ble_eq_true rfl) ?_
  cases h1 : mIn x 0 5 with
  | false =>
    refine yr_aload_n d_M_make_0 rfl ?_
    refine yr_iload_n d_M_make_1 rfl ?_
    refine yr_iconst (v := 0) d_M_make_2 (by decide) ?_
    refine yr_iconst (v := 5) d_M_make_3 (by decide) ?_
    refine mr_call (yrunS (X := yNX) (As := [yi x, yi 0, yi 5]) (rest := [yr 200]) d_M_make_4 (c_M_in hS) (show yck (yMm m_M_make) m_M_in 3 = true by decide +kernel) cw_M_in (by decide +kernel) (by decide +kernel) (by decide +kernel) (Nat.le_of_ble_eq_true rfl) (ycat_of rfl) (by decide) (by decide)) (fun r M9 hp => ?_)
    obtain ⟨rfl, hM9⟩ := hp
    rw [hM9, h1]
    refine yr_if_eq (tgt := 23) d_M_make_7 (by decide) (fun c7 => ?_) (fun c7 => absurd rfl c7)
    refine yr_iconst (v := 0) d_M_make_23 (by decide) ?_
    refine mr_call (yrunV (X := yNX) (k := 200) (As := [yi (zb false)]) (rest := []) d_M_make_24 (c_M_bad (b := false) hS) hS.1 rfl (show yck (yMm m_M_make) m_M_bad 1 = true by decide +kernel) cw_M_bad (by decide +kernel) (by decide +kernel) (by decide +kernel) (by decide +kernel) (Nat.le_of_ble_eq_true rfl) (ycat_of rfl) (by decide) (by decide)) (fun r M9 hp => ?_)
    obtain ⟨rfl, hM9⟩ := hp
    rw [hM9, show mBad M false = yu M 200 26 1 from rfl]
    refine yr_if_eq (tgt := 32) d_M_make_27 (by decide) (fun c27 => absurd c27 (by decide)) (fun c27 => ?_)
    refine yr_iconst (v := 0) d_M_make_30 (by decide) ?_
    exact yr_reti d_M_make_31 rfl (by decide) (by decide) ⟨_, rfl, Or.inl ⟨by by_cases h9 : x < 0; exact Or.inl h9; exact Or.inr (Or.inl (Int32.not_le.mp (fun z => by rw [mIn_rng.mpr ⟨Int32.not_lt.mp h9, z⟩] at h1; cases h1))), rfl, _, rfl⟩⟩
  | true =>
    cases h2 : mIn y 1 3 with
    | false =>
      refine yr_aload_n d_M_make_0 rfl ?_
      refine yr_iload_n d_M_make_1 rfl ?_
      refine yr_iconst (v := 0) d_M_make_2 (by decide) ?_
      refine yr_iconst (v := 5) d_M_make_3 (by decide) ?_
      refine mr_call (yrunS (X := yNX) (As := [yi x, yi 0, yi 5]) (rest := [yr 200]) d_M_make_4 (c_M_in hS) (show yck (yMm m_M_make) m_M_in 3 = true by decide +kernel) cw_M_in (by decide +kernel) (by decide +kernel) (by decide +kernel) (Nat.le_of_ble_eq_true rfl) (ycat_of rfl) (by decide) (by decide)) (fun r M9 hp => ?_)
      obtain ⟨rfl, hM9⟩ := hp
      rw [hM9, h1]
      refine yr_if_eq (tgt := 23) d_M_make_7 (by decide) (fun c7 => absurd c7 (by decide)) (fun c7 => ?_)
      refine yr_iload_n d_M_make_10 rfl ?_
      refine yr_iconst (v := 1) d_M_make_11 (by decide) ?_
      refine yr_iconst (v := 3) d_M_make_12 (by decide) ?_
      refine mr_call (yrunS (X := yNX) (As := [yi y, yi 1, yi 3]) (rest := [yr 200]) d_M_make_13 (c_M_in hS) (show yck (yMm m_M_make) m_M_in 3 = true by decide +kernel) cw_M_in (by decide +kernel) (by decide +kernel) (by decide +kernel) (Nat.le_of_ble_eq_true rfl) (ycat_of rfl) (by decide) (by decide)) (fun r M9 hp => ?_)
      obtain ⟨rfl, hM9⟩ := hp
      rw [hM9, h2]
      refine yr_if_eq (tgt := 23) d_M_make_16 (by decide) (fun c16 => ?_) (fun c16 => absurd rfl c16)
      refine yr_iconst (v := 0) d_M_make_23 (by decide) ?_
      refine mr_call (yrunV (X := yNX) (k := 200) (As := [yi (zb false)]) (rest := []) d_M_make_24 (c_M_bad (b := false) hS) hS.1 rfl (show yck (yMm m_M_make) m_M_bad 1 = true by decide +kernel) cw_M_bad (by decide +kernel) (by decide +kernel) (by decide +kernel) (by decide +kernel) (Nat.le_of_ble_eq_true rfl) (ycat_of rfl) (by decide) (by decide)) (fun r M9 hp => ?_)
      obtain ⟨rfl, hM9⟩ := hp
      rw [hM9, show mBad M false = yu M 200 26 1 from rfl]
      refine yr_if_eq (tgt := 32) d_M_make_27 (by decide) (fun c27 => absurd c27 (by decide)) (fun c27 => ?_)
      refine yr_iconst (v := 0) d_M_make_30 (by decide) ?_
      exact yr_reti d_M_make_31 rfl (by decide) (by decide) ⟨_, rfl, Or.inl ⟨by by_cases h9 : y < 1; exact Or.inr (Or.inr (Or.inl h9)); exact Or.inr (Or.inr (Or.inr (fun z => by rw [mIn_rng.mpr ⟨Int32.not_lt.mp h9, z⟩] at h2; cases h2))), rfl, _, rfl⟩⟩
    | true =>
      obtain ⟨c, hc5, rfl⟩ := nI_of2 (M := 5) (n := 5) rfl (Int32.not_lt.mpr (mIn_rng.mp h1).1) (mIn_rng.mp h1).2
      have hy1 := (mIn_rng.mp h2).1
      have hy0 : ¬ y < 0 := fun z => absurd (Int32.lt_of_le_of_lt hy1 z) (by decide)
      obtain ⟨s9, hs3, rfl⟩ := nI_of2 (M := 3) (n := 3) rfl hy0 (mIn_rng.mp h2).2
      have hs1 : 1 ≤ s9 := (nI_leI (a := 1) (by omega) (by omega)).mp hy1
      by_cases h6 : n = 6
      · skip
        refine yr_aload_n d_M_make_0 rfl ?_
        refine yr_iload_n d_M_make_1 rfl ?_
        refine yr_iconst (v := 0) d_M_make_2 (by decide) ?_
        refine yr_iconst (v := 5) d_M_make_3 (by decide) ?_
        refine mr_call (yrunS (X := yNX) (As := [yi (nI c), yi 0, yi 5]) (rest := [yr 200]) d_M_make_4 (c_M_in hS) (show yck (yMm m_M_make) m_M_in 3 = true by decide +kernel) cw_M_in (by decide +kernel) (by decide +kernel) (by decide +kernel) (Nat.le_of_ble_eq_true rfl) (ycat_of rfl) (by decide) (by decide)) (fun r M9 hp => ?_)
        obtain ⟨rfl, hM9⟩ := hp
        rw [hM9, h1]
        refine yr_if_eq (tgt := 23) d_M_make_7 (by decide) (fun c7 => absurd c7 (by decide)) (fun c7 => ?_)
        refine yr_iload_n d_M_make_10 rfl ?_
        refine yr_iconst (v := 1) d_M_make_11 (by decide) ?_
        refine yr_iconst (v := 3) d_M_make_12 (by decide) ?_
        refine mr_call (yrunS (X := yNX) (As := [yi (nI s9), yi 1, yi 3]) (rest := [yr 200]) d_M_make_13 (c_M_in hS) (show yck (yMm m_M_make) m_M_in 3 = true by decide +kernel) cw_M_in (by decide +kernel) (by decide +kernel) (by decide +kernel) (Nat.le_of_ble_eq_true rfl) (ycat_of rfl) (by decide) (by decide)) (fun r M9 hp => ?_)
        obtain ⟨rfl, hM9⟩ := hp
        rw [hM9, h2]
        refine yr_if_eq (tgt := 23) d_M_make_16 (by decide) (fun c16 => absurd c16 (by decide)) (fun c16 => ?_)
        refine yr_iconst (v := 1) d_M_make_19 (by decide) ?_
        refine yr_goto (tgt := 24) d_M_make_20 (by decide) ?_
        refine mr_call (yrunV (X := yNX) (k := 200) (As := [yi (zb true)]) (rest := []) d_M_make_24 (c_M_bad (b := true) hS) hS.1 rfl (show yck (yMm m_M_make) m_M_bad 1 = true by decide +kernel) cw_M_bad (by decide +kernel) (by decide +kernel) (by decide +kernel) (by decide +kernel) (Nat.le_of_ble_eq_true rfl) (ycat_of rfl) (by decide) (by decide)) (fun r M9 hp => ?_)
        obtain ⟨rfl, hM9⟩ := hp
        rw [hM9, show mBad M true = yu M 200 26 0 from rfl]
        refine yr_if_eq (tgt := 32) d_M_make_27 (by decide) (fun c27 => ?_) (fun c27 => absurd rfl c27)
        refine yr_aload_n d_M_make_32 rfl ?_
        refine mr_geti (f := 23) hS d_M_make_33 sf_M_make_33 rfl ?_
        rw [yu_ne (k' := 200) (i' := 23) _ _ (Or.inr (by decide)), hob]
        refine yr_bipush (v := 6) d_M_make_36 (by decide) ?_
        refine yr_icmp_ne (tgt := 48) d_M_make_38 (by decide) (fun c38 => absurd (by rw [h6]; rfl) c38) (fun c38 => ?_)
        refine yr_aload_n d_M_make_41 rfl ?_
        refine yr_iconst (v := 2) d_M_make_42 (by decide) ?_
        refine mr_puti (f := 26) hS d_M_make_43 sf_M_make_43 rfl rfl ⟨rfl, rfl⟩ ?_
        refine yr_iconst (v := 0) d_M_make_46 (by decide) ?_
        exact yr_reti d_M_make_47 rfl (by decide) (by decide) ⟨_, rfl, Or.inr ⟨c, s9, by omega, hs1, hs3, rfl, rfl, Or.inl ⟨h6, rfl, _, rfl⟩⟩⟩
      · skip
        refine yr_aload_n d_M_make_0 rfl ?_
        refine yr_iload_n d_M_make_1 rfl ?_
        refine yr_iconst (v := 0) d_M_make_2 (by decide) ?_
        refine yr_iconst (v := 5) d_M_make_3 (by decide) ?_
        refine mr_call (yrunS (X := yNX) (As := [yi (nI c), yi 0, yi 5]) (rest := [yr 200]) d_M_make_4 (c_M_in hS) (show yck (yMm m_M_make) m_M_in 3 = true by decide +kernel) cw_M_in (by decide +kernel) (by decide +kernel) (by decide +kernel) (Nat.le_of_ble_eq_true rfl) (ycat_of rfl) (by decide) (by decide)) (fun r M9 hp => ?_)
        obtain ⟨rfl, hM9⟩ := hp
        rw [hM9, h1]
        refine yr_if_eq (tgt := 23) d_M_make_7 (by decide) (fun c7 => absurd c7 (by decide)) (fun c7 => ?_)
        refine yr_iload_n d_M_make_10 rfl ?_
        refine yr_iconst (v := 1) d_M_make_11 (by decide) ?_
        refine yr_iconst (v := 3) d_M_make_12 (by decide) ?_
        refine mr_call (yrunS (X := yNX) (As := [yi (nI s9), yi 1, yi 3]) (rest := [yr 200]) d_M_make_13 (c_M_in hS) (show yck (yMm m_M_make) m_M_in 3 = true by decide +kernel) cw_M_in (by decide +kernel) (by decide +kernel) (by decide +kernel) (Nat.le_of_ble_eq_true rfl) (ycat_of rfl) (by decide) (by decide)) (fun r M9 hp => ?_)
        obtain ⟨rfl, hM9⟩ := hp
        rw [hM9, h2]
        refine yr_if_eq (tgt := 23) d_M_make_16 (by decide) (fun c16 => absurd c16 (by decide)) (fun c16 => ?_)
        refine yr_iconst (v := 1) d_M_make_19 (by decide) ?_
        refine yr_goto (tgt := 24) d_M_make_20 (by decide) ?_
        refine mr_call (yrunV (X := yNX) (k := 200) (As := [yi (zb true)]) (rest := []) d_M_make_24 (c_M_bad (b := true) hS) hS.1 rfl (show yck (yMm m_M_make) m_M_bad 1 = true by decide +kernel) cw_M_bad (by decide +kernel) (by decide +kernel) (by decide +kernel) (by decide +kernel) (Nat.le_of_ble_eq_true rfl) (ycat_of rfl) (by decide) (by decide)) (fun r M9 hp => ?_)
        obtain ⟨rfl, hM9⟩ := hp
        rw [hM9, show mBad M true = yu M 200 26 0 from rfl]
        refine yr_if_eq (tgt := 32) d_M_make_27 (by decide) (fun c27 => ?_) (fun c27 => absurd rfl c27)
        refine yr_aload_n d_M_make_32 rfl ?_
        refine mr_geti (f := 23) hS d_M_make_33 sf_M_make_33 rfl ?_
        rw [yu_ne (k' := 200) (i' := 23) _ _ (Or.inr (by decide)), hob]
        refine yr_bipush (v := 6) d_M_make_36 (by decide) ?_
        refine yr_icmp_ne (tgt := 48) d_M_make_38 (by decide) (fun c38 => ?_) (fun c38 => absurd c38 (fun z => h6 ((nI_eq (b := 6) (by omega) (by omega)).mp z)))
        refine yr_aload_n d_M_make_48 rfl ?_
        refine mr_arr (a := 11) (K := 212) hS d_M_make_49 sf_M_make_49 rfl (by decide) rfl ?_
        refine yr_aload_n d_M_make_52 rfl ?_
        refine mr_geti (f := 23) hS d_M_make_53 sf_M_make_53 rfl ?_
        rw [yu_ne (k' := 200) (i' := 23) _ _ (Or.inr (by decide)), hob]
        refine yr_iload_n d_M_make_56 rfl ?_
        refine mr_st (a := 11) (K := 212) (n := 6) (j := n) hS d_M_make_57 (by decide) rfl rfl rfl (by simp only [nI0, nI1, nI2, nI3, nI4, nI6, nI_mulN, nI_add]) (by omega) ?_
        refine yr_aload_n d_M_make_58 rfl ?_
        refine mr_arr (a := 12) (K := 213) hS d_M_make_59 sf_M_make_59 rfl (by decide) rfl ?_
        refine yr_aload_n d_M_make_62 rfl ?_
        refine mr_geti (f := 23) hS d_M_make_63 sf_M_make_63 rfl ?_
        rw [yu_ne (k' := 200) _ _ (Or.inl (by decide)), yu_ne (k' := 200) (i' := 23) _ _ (Or.inr (by decide)), hob]
        refine yr_iload_n d_M_make_66 rfl ?_
        refine mr_st (a := 12) (K := 213) (n := 6) (j := n) hS d_M_make_67 (by decide) rfl rfl rfl (by simp only [nI0, nI1, nI2, nI3, nI4, nI6, nI_mulN, nI_add]) (by omega) ?_
        refine yr_aload_n d_M_make_68 rfl ?_
        refine mr_arr (a := 13) (K := 214) hS d_M_make_69 sf_M_make_69 rfl (by decide) rfl ?_
        refine yr_aload_n d_M_make_72 rfl ?_
        refine mr_geti (f := 23) hS d_M_make_73 sf_M_make_73 rfl ?_
        rw [yu_ne (k' := 200) _ _ (Or.inl (by decide)), yu_ne (k' := 200) _ _ (Or.inl (by decide)), yu_ne (k' := 200) (i' := 23) _ _ (Or.inr (by decide)), hob]
        refine yr_iload_n d_M_make_76 rfl ?_
        refine yr_iconst (v := 2) d_M_make_77 (by decide) ?_
        refine yr_icmp_eq (tgt := 86) d_M_make_78 (by decide) (fun c78 => ?_) (fun c78 => ?_)
        · skip
          refine yr_iload_n d_M_make_86 rfl ?_
          refine yr_goto (tgt := 91) d_M_make_87 (by decide) ?_
          refine mr_st (a := 13) (K := 214) (n := 6) (j := n) hS d_M_make_91 (by decide) rfl rfl rfl (by simp only [nI0, nI1, nI2, nI3, nI4, nI6, nI_mulN, nI_add]) (by omega) ?_
          refine yr_aload_n d_M_make_92 rfl ?_
          refine mr_arr (a := 14) (K := 215) hS d_M_make_93 sf_M_make_93 rfl (by decide) rfl ?_
          refine yr_aload_n d_M_make_96 rfl ?_
          refine mr_geti (f := 23) hS d_M_make_97 sf_M_make_97 rfl ?_
          rw [yu_ne (k' := 200) _ _ (Or.inl (by decide)), yu_ne (k' := 200) _ _ (Or.inl (by decide)), yu_ne (k' := 200) _ _ (Or.inl (by decide)), yu_ne (k' := 200) (i' := 23) _ _ (Or.inr (by decide)), hob]
          refine yr_iconst (v := -1) d_M_make_100 (by decide) ?_
          refine mr_st (a := 14) (K := 215) (n := 6) (j := n) hS d_M_make_101 (by decide) rfl rfl rfl (by simp only [nI0, nI1, nI2, nI3, nI4, nI6, nI_mulN, nI_add]) (by omega) ?_
          refine yr_aload_n d_M_make_102 rfl ?_
          refine yr_dup d_M_make_103 (fun _ => rfl) ?_
          refine mr_geti (f := 23) hS d_M_make_104 sf_M_make_104 rfl ?_
          rw [yu_ne (k' := 200) _ _ (Or.inl (by decide)), yu_ne (k' := 200) _ _ (Or.inl (by decide)), yu_ne (k' := 200) _ _ (Or.inl (by decide)), yu_ne (k' := 200) _ _ (Or.inl (by decide)), yu_ne (k' := 200) (i' := 23) _ _ (Or.inr (by decide)), hob]
          refine yr_iconst (v := 1) d_M_make_107 (by decide) ?_
          refine yr_iadd d_M_make_108 ?_
          rw [nI_1]
          refine mr_puti (f := 23) hS d_M_make_109 sf_M_make_109 rfl rfl ⟨rfl, rfl⟩ ?_
          refine yr_aload_n d_M_make_112 rfl ?_
          refine mr_geti (f := 23) hS d_M_make_113 sf_M_make_113 rfl ?_
          rw [yu_same]
          refine yr_iconst (v := 1) d_M_make_116 (by decide) ?_
          refine yr_isub d_M_make_117 ?_
          rw [nI_pred]
          exact yr_reti d_M_make_118 rfl (by decide) (by decide) ⟨_, rfl, Or.inr ⟨c, s9, by omega, hs1, hs3, rfl, rfl, Or.inr ⟨by omega, rfl, by unfold mMake; simp [*]⟩⟩⟩
        · skip
          refine yr_iload_n d_M_make_81 rfl ?_
          refine yr_iconst (v := 3) d_M_make_82 (by decide) ?_
          refine yr_icmp_ne (tgt := 90) d_M_make_83 (by decide) (fun c83 => ?_) (fun c83 => ?_)
          · skip
            refine yr_iconst (v := 0) d_M_make_90 (by decide) ?_
            refine mr_st (a := 13) (K := 214) (n := 6) (j := n) hS d_M_make_91 (by decide) rfl rfl rfl (by simp only [nI0, nI1, nI2, nI3, nI4, nI6, nI_mulN, nI_add]) (by omega) ?_
            refine yr_aload_n d_M_make_92 rfl ?_
            refine mr_arr (a := 14) (K := 215) hS d_M_make_93 sf_M_make_93 rfl (by decide) rfl ?_
            refine yr_aload_n d_M_make_96 rfl ?_
            refine mr_geti (f := 23) hS d_M_make_97 sf_M_make_97 rfl ?_
            rw [yu_ne (k' := 200) _ _ (Or.inl (by decide)), yu_ne (k' := 200) _ _ (Or.inl (by decide)), yu_ne (k' := 200) _ _ (Or.inl (by decide)), yu_ne (k' := 200) (i' := 23) _ _ (Or.inr (by decide)), hob]
            refine yr_iconst (v := -1) d_M_make_100 (by decide) ?_
            refine mr_st (a := 14) (K := 215) (n := 6) (j := n) hS d_M_make_101 (by decide) rfl rfl rfl (by simp only [nI0, nI1, nI2, nI3, nI4, nI6, nI_mulN, nI_add]) (by omega) ?_
            refine yr_aload_n d_M_make_102 rfl ?_
            refine yr_dup d_M_make_103 (fun _ => rfl) ?_
            refine mr_geti (f := 23) hS d_M_make_104 sf_M_make_104 rfl ?_
            rw [yu_ne (k' := 200) _ _ (Or.inl (by decide)), yu_ne (k' := 200) _ _ (Or.inl (by decide)), yu_ne (k' := 200) _ _ (Or.inl (by decide)), yu_ne (k' := 200) _ _ (Or.inl (by decide)), yu_ne (k' := 200) (i' := 23) _ _ (Or.inr (by decide)), hob]
            refine yr_iconst (v := 1) d_M_make_107 (by decide) ?_
            refine yr_iadd d_M_make_108 ?_
            rw [nI_1]
            refine mr_puti (f := 23) hS d_M_make_109 sf_M_make_109 rfl rfl ⟨rfl, rfl⟩ ?_
            refine yr_aload_n d_M_make_112 rfl ?_
            refine mr_geti (f := 23) hS d_M_make_113 sf_M_make_113 rfl ?_
            rw [yu_same]
            refine yr_iconst (v := 1) d_M_make_116 (by decide) ?_
            refine yr_isub d_M_make_117 ?_
            rw [nI_pred]
            exact yr_reti d_M_make_118 rfl (by decide) (by decide) ⟨_, rfl, Or.inr ⟨c, s9, by omega, hs1, hs3, rfl, rfl, Or.inr ⟨by omega, rfl, by unfold mMake; simp [*]⟩⟩⟩
          · skip
            refine yr_iload_n d_M_make_86 rfl ?_
            refine yr_goto (tgt := 91) d_M_make_87 (by decide) ?_
            refine mr_st (a := 13) (K := 214) (n := 6) (j := n) hS d_M_make_91 (by decide) rfl rfl rfl (by simp only [nI0, nI1, nI2, nI3, nI4, nI6, nI_mulN, nI_add]) (by omega) ?_
            refine yr_aload_n d_M_make_92 rfl ?_
            refine mr_arr (a := 14) (K := 215) hS d_M_make_93 sf_M_make_93 rfl (by decide) rfl ?_
            refine yr_aload_n d_M_make_96 rfl ?_
            refine mr_geti (f := 23) hS d_M_make_97 sf_M_make_97 rfl ?_
            rw [yu_ne (k' := 200) _ _ (Or.inl (by decide)), yu_ne (k' := 200) _ _ (Or.inl (by decide)), yu_ne (k' := 200) _ _ (Or.inl (by decide)), yu_ne (k' := 200) (i' := 23) _ _ (Or.inr (by decide)), hob]
            refine yr_iconst (v := -1) d_M_make_100 (by decide) ?_
            refine mr_st (a := 14) (K := 215) (n := 6) (j := n) hS d_M_make_101 (by decide) rfl rfl rfl (by simp only [nI0, nI1, nI2, nI3, nI4, nI6, nI_mulN, nI_add]) (by omega) ?_
            refine yr_aload_n d_M_make_102 rfl ?_
            refine yr_dup d_M_make_103 (fun _ => rfl) ?_
            refine mr_geti (f := 23) hS d_M_make_104 sf_M_make_104 rfl ?_
            rw [yu_ne (k' := 200) _ _ (Or.inl (by decide)), yu_ne (k' := 200) _ _ (Or.inl (by decide)), yu_ne (k' := 200) _ _ (Or.inl (by decide)), yu_ne (k' := 200) _ _ (Or.inl (by decide)), yu_ne (k' := 200) (i' := 23) _ _ (Or.inr (by decide)), hob]
            refine yr_iconst (v := 1) d_M_make_107 (by decide) ?_
            refine yr_iadd d_M_make_108 ?_
            rw [nI_1]
            refine mr_puti (f := 23) hS d_M_make_109 sf_M_make_109 rfl rfl ⟨rfl, rfl⟩ ?_
            refine yr_aload_n d_M_make_112 rfl ?_
            refine mr_geti (f := 23) hS d_M_make_113 sf_M_make_113 rfl ?_
            rw [yu_same]
            refine yr_iconst (v := 1) d_M_make_116 (by decide) ?_
            refine yr_isub d_M_make_117 ?_
            rw [nI_pred]
            exact yr_reti d_M_make_118 rfl (by decide) (by decide) ⟨_, rfl, Or.inr ⟨c, s9, by omega, hs1, hs3, rfl, rfl, Or.inr ⟨by omega, rfl, by unfold mMake; simp [*]⟩⟩⟩
