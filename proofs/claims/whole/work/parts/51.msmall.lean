/-! the model: small methods -/
def mEnd (M : mM) (t h : Nat) : mM := yu (yu (yu (yu (yu (yu M 201 t 0) 202 t (nI h)) 203 t (-1)) 205 t (-1)) 211 t 0) 222 h (M 222 h + 1)
def mEnter (M : mM) (t o n : Nat) : mM := yu (yu (yu (yu M 217 (o * 6 + n) (nI t)) 216 o (nI (n + 1))) 201 t 1) 203 t (nI o)
def mIn (v a b : Int32) : Bool := decide (a ≤ v ∧ v ≤ b)
def mBad (M : mM) (b : Bool) : mM := yu M 200 26 (if b = true then 0 else 1)
def mLess (M : mM) (o : Nat) : mM := if M 214 o - 1 = 0 then yu (yu M 214 o (M 214 o - 1)) 215 o (-1) else yu M 214 o (M 214 o - 1)

set_option maxHeartbeats 4000000 in
set_option maxRecDepth 20000 in
theorem c_M_thrown {G : yG} {s : Nat → Option ySh} {F : Nat → Nat → Option Nat} {M : mM} (hS : mSh s F)  : mCT G m_M_thrown [yr 200] s F M (fun r M' => r = some (yi (M 200 26)) ∧ M' = M) := by
  refine yCT_of (by decide) rfl (ycat_of rfl) (Nat.le_of_ble_eq_true rfl) ?_
  refine yr_aload_n d_M_thrown_0 rfl ?_
  refine mr_geti (f := 26) hS d_M_thrown_1 sf_M_thrown_1 rfl ?_
  exact yr_reti d_M_thrown_4 rfl (by decide) (by decide) ⟨_, rfl, rfl, rfl⟩

set_option maxHeartbeats 4000000 in
set_option maxRecDepth 20000 in
theorem c_M_end {G : yG} {s : Nat → Option ySh} {F : Nat → Nat → Option Nat} {M : mM} (hS : mSh s F) {t h : Nat} (ht : t < 6) (hh : h < 5) : mCT G m_M_end [yr 200, yi (nI t), yi (nI h)] s F M (fun r M' => r = some (yi (nI h)) ∧ M' = mEnd M t h) := by
  refine yCT_of (by decide) rfl (ycat_of rfl) (Nat.le_of_ble_eq_true rfl) ?_
  refine yr_aload_n d_M_end_0 rfl ?_
  refine mr_arr (a := 0) (K := 201) hS d_M_end_1 sf_M_end_1 rfl (by decide) rfl ?_
  refine yr_iload_n d_M_end_4 rfl ?_
  refine yr_iconst (v := 0) d_M_end_5 (by decide) ?_
  refine mr_st (a := 0) (K := 201) (n := 6) (j := t) hS d_M_end_6 (by decide) rfl rfl rfl (by simp only [nI0, nI1, nI2, nI3, nI4, nI6, nI_mulN, nI_add]) (by omega) ?_
  refine yr_aload_n d_M_end_7 rfl ?_
  refine mr_arr (a := 1) (K := 202) hS d_M_end_8 sf_M_end_8 rfl (by decide) rfl ?_
  refine yr_iload_n d_M_end_11 rfl ?_
  refine yr_iload_n d_M_end_12 rfl ?_
  refine mr_st (a := 1) (K := 202) (n := 6) (j := t) hS d_M_end_13 (by decide) rfl rfl rfl (by simp only [nI0, nI1, nI2, nI3, nI4, nI6, nI_mulN, nI_add]) (by omega) ?_
  refine yr_aload_n d_M_end_14 rfl ?_
  refine mr_arr (a := 2) (K := 203) hS d_M_end_15 sf_M_end_15 rfl (by decide) rfl ?_
  refine yr_iload_n d_M_end_18 rfl ?_
  refine yr_iconst (v := -1) d_M_end_19 (by decide) ?_
  refine mr_st (a := 2) (K := 203) (n := 6) (j := t) hS d_M_end_20 (by decide) rfl rfl rfl (by simp only [nI0, nI1, nI2, nI3, nI4, nI6, nI_mulN, nI_add]) (by omega) ?_
  refine yr_aload_n d_M_end_21 rfl ?_
  refine mr_arr (a := 4) (K := 205) hS d_M_end_22 sf_M_end_22 rfl (by decide) rfl ?_
  refine yr_iload_n d_M_end_25 rfl ?_
  refine yr_iconst (v := -1) d_M_end_26 (by decide) ?_
  refine mr_st (a := 4) (K := 205) (n := 6) (j := t) hS d_M_end_27 (by decide) rfl rfl rfl (by simp only [nI0, nI1, nI2, nI3, nI4, nI6, nI_mulN, nI_add]) (by omega) ?_
  refine yr_aload_n d_M_end_28 rfl ?_
  refine mr_arr (a := 10) (K := 211) hS d_M_end_29 sf_M_end_29 rfl (by decide) rfl ?_
  refine yr_iload_n d_M_end_32 rfl ?_
  refine yr_iconst (v := 0) d_M_end_33 (by decide) ?_
  refine mr_stz (a := 10) (K := 211) (n := 6) (j := t) hS d_M_end_34 (by decide) rfl rfl rfl (by simp only [nI0, nI1, nI2, nI3, nI4, nI6, nI_mulN, nI_add]) (by omega) rfl ?_
  refine yr_aload_n d_M_end_35 rfl ?_
  refine mr_arr (a := 21) (K := 222) hS d_M_end_36 sf_M_end_36 rfl (by decide) rfl ?_
  refine yr_iload_n d_M_end_39 rfl ?_
  refine yr_dup2 d_M_end_40 (fun _ => rfl) (fun _ => rfl) ?_
  refine mr_ld (a := 21) (K := 222) (n := 5) (j := h) hS d_M_end_41 (by decide) rfl rfl rfl (by simp only [nI0, nI1, nI2, nI3, nI4, nI6, nI_mulN, nI_add]) (by omega) ?_
  refine yr_iconst (v := 1) d_M_end_42 (by decide) ?_
  refine yr_iadd d_M_end_43 ?_
  refine mr_st (a := 21) (K := 222) (n := 5) (j := h) hS d_M_end_44 (by decide) rfl rfl rfl (by simp only [nI0, nI1, nI2, nI3, nI4, nI6, nI_mulN, nI_add]) (by omega) ?_
  refine yr_iload_n d_M_end_45 rfl ?_
  exact yr_reti d_M_end_46 rfl (by decide) (by decide) ⟨_, rfl, rfl, rfl⟩

set_option maxHeartbeats 4000000 in
set_option maxRecDepth 20000 in
theorem c_M_in {G : yG} {s : Nat → Option ySh} {F : Nat → Nat → Option Nat} {M : mM} (hS : mSh s F) {v a b : Int32} : mCT G m_M_in [yi v, yi a, yi b] s F M (fun r M' => r = some (yi (zb (mIn v a b))) ∧ M' = M) := by
  refine yCT_of (by decide) rfl (ycat_of rfl) (Nat.le_of_ble_eq_true rfl) ?_
  refine yr_iload_n d_M_in_0 rfl ?_
  refine yr_iload_n d_M_in_1 rfl ?_
  refine yr_icmp_lt (tgt := 14) d_M_in_2 (by decide) (fun c2 => ?_) (fun c2 => ?_)
  · skip
    refine yr_iconst (v := 0) d_M_in_14 (by decide) ?_
    refine yr_retz d_M_in_15 rfl rfl (by decide) (by decide) ?_
    refine ⟨_, rfl, ?_, rfl⟩
    simp [mIn, zb]
    first
    | (have := Int32.not_lt.mp c2; have := Int32.not_lt.mp c7; simp [*]; done)
    | (intro h9; exact absurd h9 (Int32.not_le.mpr c2))
    | (intro h9; exact c7)
  · skip
    refine yr_iload_n d_M_in_5 rfl ?_
    refine yr_iload_n d_M_in_6 rfl ?_
    refine yr_icmp_gt (tgt := 14) d_M_in_7 (by decide) (fun c7 => ?_) (fun c7 => ?_)
    · skip
      refine yr_iconst (v := 0) d_M_in_14 (by decide) ?_
      refine yr_retz d_M_in_15 rfl rfl (by decide) (by decide) ?_
      refine ⟨_, rfl, ?_, rfl⟩
      simp [mIn, zb]
      first
      | (have := Int32.not_lt.mp c2; have := Int32.not_lt.mp c7; simp [*]; done)
      | (intro h9; exact absurd h9 (Int32.not_le.mpr c2))
      | (intro h9; exact c7)
    · skip
      refine yr_iconst (v := 1) d_M_in_10 (by decide) ?_
      refine yr_goto (tgt := 15) d_M_in_11 (by decide) ?_
      refine yr_retz d_M_in_15 rfl rfl (by decide) (by decide) ?_
      refine ⟨_, rfl, ?_, rfl⟩
      simp [mIn, zb]
      first
      | (have := Int32.not_lt.mp c2; have := Int32.not_lt.mp c7; simp [*]; done)
      | (intro h9; exact absurd h9 (Int32.not_le.mpr c2))
      | (intro h9; exact c7)

set_option maxHeartbeats 4000000 in
set_option maxRecDepth 20000 in
theorem c_M_bad {G : yG} {s : Nat → Option ySh} {F : Nat → Nat → Option Nat} {M : mM} (hS : mSh s F) {b : Bool} : mCT G m_M_bad [yr 200, yi (zb b)] s F M (fun r M' => r = some (yi (zb (!b))) ∧ M' = mBad M b) := by
  refine yCT_of (by decide) rfl (ycat_of rfl) (Nat.le_of_ble_eq_true rfl) ?_
  refine yr_aload_n d_M_bad_0 rfl ?_
  refine yr_iload_n d_M_bad_1 rfl ?_
  refine yr_if_eq (tgt := 9) d_M_bad_2 (by decide) (fun c2 => ?_) (fun c2 => ?_)
  · skip
    refine yr_iconst (v := 1) d_M_bad_9 (by decide) ?_
    refine mr_puti (f := 26) hS d_M_bad_10 sf_M_bad_10 rfl rfl ⟨rfl, rfl⟩ ?_
    refine yr_iload_n d_M_bad_13 rfl ?_
    refine yr_if_ne (tgt := 21) d_M_bad_14 (by decide) (fun c14 => ?_) (fun c14 => ?_)
    · skip
      refine yr_iconst (v := 0) d_M_bad_21 (by decide) ?_
      refine yr_retz d_M_bad_22 rfl rfl (by decide) (by decide) ?_
      cases b <;> first | exact ⟨_, rfl, rfl, rfl⟩ | exact absurd rfl c2 | exact absurd c2 (by decide) | exact absurd rfl c14 | exact absurd c14 (by decide)
    · skip
      refine yr_iconst (v := 1) d_M_bad_17 (by decide) ?_
      refine yr_goto (tgt := 22) d_M_bad_18 (by decide) ?_
      refine yr_retz d_M_bad_22 rfl rfl (by decide) (by decide) ?_
      cases b <;> first | exact ⟨_, rfl, rfl, rfl⟩ | exact absurd rfl c2 | exact absurd c2 (by decide) | exact absurd rfl c14 | exact absurd c14 (by decide)
  · skip
    refine yr_iconst (v := 0) d_M_bad_5 (by decide) ?_
    refine yr_goto (tgt := 10) d_M_bad_6 (by decide) ?_
    refine mr_puti (f := 26) hS d_M_bad_10 sf_M_bad_10 rfl rfl ⟨rfl, rfl⟩ ?_
    refine yr_iload_n d_M_bad_13 rfl ?_
    refine yr_if_ne (tgt := 21) d_M_bad_14 (by decide) (fun c14 => ?_) (fun c14 => ?_)
    · skip
      refine yr_iconst (v := 0) d_M_bad_21 (by decide) ?_
      refine yr_retz d_M_bad_22 rfl rfl (by decide) (by decide) ?_
      cases b <;> first | exact ⟨_, rfl, rfl, rfl⟩ | exact absurd rfl c2 | exact absurd c2 (by decide) | exact absurd rfl c14 | exact absurd c14 (by decide)
    · skip
      refine yr_iconst (v := 1) d_M_bad_17 (by decide) ?_
      refine yr_goto (tgt := 22) d_M_bad_18 (by decide) ?_
      refine yr_retz d_M_bad_22 rfl rfl (by decide) (by decide) ?_
      cases b <;> first | exact ⟨_, rfl, rfl, rfl⟩ | exact absurd rfl c2 | exact absurd c2 (by decide) | exact absurd rfl c14 | exact absurd c14 (by decide)

set_option maxHeartbeats 4000000 in
set_option maxRecDepth 20000 in
theorem c_M_enter {G : yG} {s : Nat → Option ySh} {F : Nat → Nat → Option Nat} {M : mM} (hS : mSh s F) {t o n : Nat} (ht : t < 6) (ho : o < 6) (hn : n < 6) (hr : M 216 o = nI n) : mCT G m_M_enter [yr 200, yi (nI t), yi (nI o)] s F M (fun r M' => r = none ∧ M' = mEnter M t o n) := by
  refine yCT_of (by decide) rfl (ycat_of rfl) (Nat.le_of_ble_eq_true rfl) ?_
  refine yr_aload_n d_M_enter_0 rfl ?_
  refine mr_arr (a := 16) (K := 217) hS d_M_enter_1 sf_M_enter_1 rfl (by decide) rfl ?_
  refine yr_iload_n d_M_enter_4 rfl ?_
  refine yr_bipush (v := 6) d_M_enter_5 (by decide) ?_
  refine yr_imul d_M_enter_7 ?_
  refine yr_aload_n d_M_enter_8 rfl ?_
  refine mr_arr (a := 15) (K := 216) hS d_M_enter_9 sf_M_enter_9 rfl (by decide) rfl ?_
  refine yr_iload_n d_M_enter_12 rfl ?_
  refine mr_ld (a := 15) (K := 216) (n := 6) (j := o) hS d_M_enter_13 (by decide) rfl rfl rfl (by simp only [nI0, nI1, nI2, nI3, nI4, nI6, nI_mulN, nI_add]) (by omega) ?_
  rw [hr]
  refine yr_iadd d_M_enter_14 ?_
  refine yr_iload_n d_M_enter_15 rfl ?_
  refine mr_st (a := 16) (K := 217) (n := 36) (j := ((o * 6) + n)) hS d_M_enter_16 (by decide) rfl rfl rfl (by simp only [nI0, nI1, nI2, nI3, nI4, nI6, nI_mulN, nI_add]) (by omega) ?_
  refine yr_aload_n d_M_enter_17 rfl ?_
  refine mr_arr (a := 15) (K := 216) hS d_M_enter_18 sf_M_enter_18 rfl (by decide) rfl ?_
  refine yr_iload_n d_M_enter_21 rfl ?_
  refine yr_dup2 d_M_enter_22 (fun _ => rfl) (fun _ => rfl) ?_
  refine mr_ld (a := 15) (K := 216) (n := 6) (j := o) hS d_M_enter_23 (by decide) rfl rfl rfl (by simp only [nI0, nI1, nI2, nI3, nI4, nI6, nI_mulN, nI_add]) (by omega) ?_
  rw [show (yu M 217 (o * 6 + n) (nI t)) 216 o = nI n from (yu_ne _ _ (Or.inl (by decide))).trans hr]
  refine yr_iconst (v := 1) d_M_enter_24 (by decide) ?_
  refine yr_iadd d_M_enter_25 ?_
  rw [nI_1]
  refine mr_st (a := 15) (K := 216) (n := 6) (j := o) hS d_M_enter_26 (by decide) rfl rfl rfl (by simp only [nI0, nI1, nI2, nI3, nI4, nI6, nI_mulN, nI_add]) (by omega) ?_
  refine yr_aload_n d_M_enter_27 rfl ?_
  refine mr_arr (a := 0) (K := 201) hS d_M_enter_28 sf_M_enter_28 rfl (by decide) rfl ?_
  refine yr_iload_n d_M_enter_31 rfl ?_
  refine yr_iconst (v := 1) d_M_enter_32 (by decide) ?_
  refine mr_st (a := 0) (K := 201) (n := 6) (j := t) hS d_M_enter_33 (by decide) rfl rfl rfl (by simp only [nI0, nI1, nI2, nI3, nI4, nI6, nI_mulN, nI_add]) (by omega) ?_
  refine yr_aload_n d_M_enter_34 rfl ?_
  refine mr_arr (a := 2) (K := 203) hS d_M_enter_35 sf_M_enter_35 rfl (by decide) rfl ?_
  refine yr_iload_n d_M_enter_38 rfl ?_
  refine yr_iload_n d_M_enter_39 rfl ?_
  refine mr_st (a := 2) (K := 203) (n := 6) (j := t) hS d_M_enter_40 (by decide) rfl rfl rfl (by simp only [nI0, nI1, nI2, nI3, nI4, nI6, nI_mulN, nI_add]) (by omega) ?_
  exact yr_retv d_M_enter_41 rfl (by decide) (by decide) ⟨_, rfl, rfl, rfl⟩

set_option maxHeartbeats 4000000 in
set_option maxRecDepth 20000 in
theorem c_M_less {G : yG} {s : Nat → Option ySh} {F : Nat → Nat → Option Nat} {M : mM} (hS : mSh s F) {o : Nat} (ho : o < 6) : mCT G m_M_less [yr 200, yi (nI o)] s F M (fun r M' => r = none ∧ M' = mLess M o) := by
  refine yCT_of (by decide) rfl (ycat_of rfl) (Nat.le_of_ble_eq_true rfl) ?_
  refine yr_aload_n d_M_less_0 rfl ?_
  refine mr_arr (a := 13) (K := 214) hS d_M_less_1 sf_M_less_1 rfl (by decide) rfl ?_
  refine yr_iload_n d_M_less_4 rfl ?_
  refine yr_dup2 d_M_less_5 (fun _ => rfl) (fun _ => rfl) ?_
  refine mr_ld (a := 13) (K := 214) (n := 6) (j := o) hS d_M_less_6 (by decide) rfl rfl rfl (by simp only [nI0, nI1, nI2, nI3, nI4, nI6, nI_mulN, nI_add]) (by omega) ?_
  refine yr_iconst (v := 1) d_M_less_7 (by decide) ?_
  refine yr_isub d_M_less_8 ?_
  refine mr_st (a := 13) (K := 214) (n := 6) (j := o) hS d_M_less_9 (by decide) rfl rfl rfl (by simp only [nI0, nI1, nI2, nI3, nI4, nI6, nI_mulN, nI_add]) (by omega) ?_
  refine yr_aload_n d_M_less_10 rfl ?_
  refine mr_arr (a := 13) (K := 214) hS d_M_less_11 sf_M_less_11 rfl (by decide) rfl ?_
  refine yr_iload_n d_M_less_14 rfl ?_
  refine mr_ld (a := 13) (K := 214) (n := 6) (j := o) hS d_M_less_15 (by decide) rfl rfl rfl (by simp only [nI0, nI1, nI2, nI3, nI4, nI6, nI_mulN, nI_add]) (by omega) ?_
  rw [yu_same]
  refine yr_if_ne (tgt := 26) d_M_less_16 (by decide) (fun c16 => ?_) (fun c16 => ?_)
  · skip
    refine yr_retv d_M_less_26 rfl (by decide) (by decide) ?_
    refine ⟨_, rfl, rfl, ?_⟩
    unfold mLess
    first | rw [if_pos c16] | rw [if_neg c16]
  · skip
    refine yr_aload_n d_M_less_19 rfl ?_
    refine mr_arr (a := 14) (K := 215) hS d_M_less_20 sf_M_less_20 rfl (by decide) rfl ?_
    refine yr_iload_n d_M_less_23 rfl ?_
    refine yr_iconst (v := -1) d_M_less_24 (by decide) ?_
    refine mr_st (a := 14) (K := 215) (n := 6) (j := o) hS d_M_less_25 (by decide) rfl rfl rfl (by simp only [nI0, nI1, nI2, nI3, nI4, nI6, nI_mulN, nI_add]) (by omega) ?_
    refine yr_retv d_M_less_26 rfl (by decide) (by decide) ?_
    refine ⟨_, rfl, rfl, ?_⟩
    unfold mLess
    first | rw [if_pos c16] | rw [if_neg c16]
