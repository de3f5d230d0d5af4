/-! the model: grant, called, remove -/
def mSft (M : mM) (K b n : Nat) : mM := fun k j => if k = K ∧ b ≤ j ∧ j < b + n then M K (j + 1) else M k j
theorem mSft_0 {M : mM} {K b : Nat} : mSft M K b 0 = M := by
  funext k j
  unfold mSft
  rw [if_neg (by omega)]
theorem mSft_at {M : mM} {K b n k j : Nat} (h : ¬ (k = K ∧ b ≤ j ∧ j < b + n)) : mSft M K b n k j = M k j := by
  unfold mSft
  rw [if_neg h]
theorem mSft_in {M : mM} {K b n j : Nat} (h : b ≤ j ∧ j < b + n) : mSft M K b n K j = M K (j + 1) := by
  unfold mSft
  rw [if_pos ⟨rfl, h⟩]
theorem mSft_step {M : mM} {K b q : Nat} : yu (mSft M K b q) K (b + q) (mSft M K b q K (b + q + 1)) = mSft M K b (q + 1) := by
  funext k j
  rw [mSft_at (k := K) (j := b + q + 1) (by omega)]
  unfold yu
  by_cases h : k = K ∧ j = b + q
  · rw [if_pos h, h.1, h.2, mSft_in (by omega)]
  · rw [if_neg h]
    by_cases h2 : k = K ∧ b ≤ j ∧ j < b + q
    · rw [h2.1, mSft_in h2.2, mSft_in (by omega)]
    · rw [mSft_at h2, mSft_at (by omega)]
def mHold (M : mM) (t o : Nat) : mM := yu (yu M 215 o (nI t)) 214 o (M 214 o + (if M 211 t = 0 then 1 else M 208 t))
def mRead (M : mM) (t o : Nat) : mM := yu M 220 (o * 6 + t) (M 220 (o * 6 + t) + 1)
def mAsk (M : mM) (t o : Nat) : mM := yu M 214 o (M 214 o - M 207 t)
def mPut (M : mM) (t o n : Nat) : mM := yu (yu M 221 (o * 3 + n) (M 207 t)) 214 o (nI (n + 1))
def mTake (M : mM) (t o n : Nat) : mM := mSft (yu (yu M 204 t (M 221 (o * 3))) 214 o (nI n)) 221 (o * 3) n
def mCalled (M : mM) (t o n h : Nat) : mM := mEnter (yu (yu (yu (yu M 211 t 1) 209 t (nI h)) 205 t (-1)) 206 t 0) t o n
def mRem (M : mM) (K b Ks s i n : Nat) : mM := mSft (yu M Ks s (nI n)) K (b + i) (n - i)

set_option maxHeartbeats 4000000 in
set_option maxRecDepth 20000 in
theorem c_M_grant0 {G : yG} {s : Nat → Option ySh} {F : Nat → Nat → Option Nat} {M : mM} (hS : mSh s F) {t o : Nat} (ht : t < 6) (ho : o < 6) : mCT G m_M_grant [yr 200, yi (nI t), yi (nI o), yi 0] s F M (fun r M' => r = none ∧ M' = mHold M t o) := by
  refine yCT_of (by decide) rfl (ycat_of rfl) (Nat.le_of_ble_eq_true rfl) ?_
  refine yr_iload_n d_M_grant_0 rfl ?_
  refine yr_if_eq (tgt := 10) d_M_grant_1 (by decide) (fun c1 => ?_) (fun c1 => absurd rfl c1)
  refine yr_aload_n d_M_grant_10 rfl ?_
  refine mr_arr (a := 14) (K := 215) hS d_M_grant_11 sf_M_grant_11 rfl (by decide) rfl ?_
  refine yr_iload_n d_M_grant_14 rfl ?_
  refine yr_iload_n d_M_grant_15 rfl ?_
  refine mr_st (a := 14) (K := 215) (n := 6) (j := o) hS d_M_grant_16 (by decide) rfl rfl rfl (by simp only [nI0, nI1, nI2, nI3, nI4, nI6, nI_mulN, nI_add]) (by omega) ?_
  refine yr_aload_n d_M_grant_17 rfl ?_
  refine mr_arr (a := 13) (K := 214) hS d_M_grant_18 sf_M_grant_18 rfl (by decide) rfl ?_
  refine yr_iload_n d_M_grant_21 rfl ?_
  refine yr_dup2 d_M_grant_22 (fun _ => rfl) (fun _ => rfl) ?_
  refine mr_ld (a := 13) (K := 214) (n := 6) (j := o) hS d_M_grant_23 (by decide) rfl rfl rfl (by simp only [nI0, nI1, nI2, nI3, nI4, nI6, nI_mulN, nI_add]) (by omega) ?_
  rw [yu_ne (k := 215) (k' := 214) _ _ (Or.inl (by decide))]
  refine yr_aload_n d_M_grant_24 rfl ?_
  refine mr_arr (a := 10) (K := 211) hS d_M_grant_25 sf_M_grant_25 rfl (by decide) rfl ?_
  refine yr_iload_n d_M_grant_28 rfl ?_
  refine mr_ldz (a := 10) (K := 211) (n := 6) (j := t) hS d_M_grant_29 (by decide) rfl rfl rfl (by simp only [nI0, nI1, nI2, nI3, nI4, nI6, nI_mulN, nI_add]) (by omega) ?_
  rw [yu_ne (k := 215) (k' := 211) _ _ (Or.inl (by decide))]
  refine yr_if_eq (tgt := 42) d_M_grant_30 (by decide) (fun c30 => ?_) (fun c30 => ?_)
  · skip
    refine yr_iconst (v := 1) d_M_grant_42 (by decide) ?_
    refine yr_iadd d_M_grant_43 ?_
    refine mr_st (a := 13) (K := 214) (n := 6) (j := o) hS d_M_grant_44 (by decide) rfl rfl rfl (by simp only [nI0, nI1, nI2, nI3, nI4, nI6, nI_mulN, nI_add]) (by omega) ?_
    refine yr_iload_n d_M_grant_45 rfl ?_
    refine yr_iconst (v := 5) d_M_grant_46 (by decide) ?_
    refine yr_icmp_ne (tgt := 65) d_M_grant_47 (by decide) (fun c47 => ?_) (fun c47 => absurd c47 (by decide))
    refine yr_iload_n d_M_grant_65 rfl ?_
    refine yr_bipush (v := 9) d_M_grant_66 (by decide) ?_
    refine yr_icmp_ne (tgt := 86) d_M_grant_68 (by decide) (fun c68 => ?_) (fun c68 => absurd c68 (by decide))
    refine yr_iload_n d_M_grant_86 rfl ?_
    refine yr_bipush (v := 15) d_M_grant_87 (by decide) ?_
    refine yr_icmp_ne (tgt := 123) d_M_grant_89 (by decide) (fun c89 => ?_) (fun c89 => absurd c89 (by decide))
    refine yr_iload_n d_M_grant_123 rfl ?_
    refine yr_bipush (v := 16) d_M_grant_124 (by decide) ?_
    refine yr_icmp_ne (tgt := 197) d_M_grant_126 (by decide) (fun c126 => ?_) (fun c126 => absurd c126 (by decide))
    refine yr_retv d_M_grant_197 rfl (by decide) (by decide) ?_
    refine ⟨_, rfl, rfl, ?_⟩
    unfold mHold
    first | rw [if_pos c30] | rw [if_neg c30]
  · skip
    refine yr_aload_n d_M_grant_33 rfl ?_
    refine mr_arr (a := 7) (K := 208) hS d_M_grant_34 sf_M_grant_34 rfl (by decide) rfl ?_
    refine yr_iload_n d_M_grant_37 rfl ?_
    refine mr_ld (a := 7) (K := 208) (n := 6) (j := t) hS d_M_grant_38 (by decide) rfl rfl rfl (by simp only [nI0, nI1, nI2, nI3, nI4, nI6, nI_mulN, nI_add]) (by omega) ?_
    rw [yu_ne (k := 215) (k' := 208) _ _ (Or.inl (by decide))]
    refine yr_goto (tgt := 43) d_M_grant_39 (by decide) ?_
    refine yr_iadd d_M_grant_43 ?_
    refine mr_st (a := 13) (K := 214) (n := 6) (j := o) hS d_M_grant_44 (by decide) rfl rfl rfl (by simp only [nI0, nI1, nI2, nI3, nI4, nI6, nI_mulN, nI_add]) (by omega) ?_
    refine yr_iload_n d_M_grant_45 rfl ?_
    refine yr_iconst (v := 5) d_M_grant_46 (by decide) ?_
    refine yr_icmp_ne (tgt := 65) d_M_grant_47 (by decide) (fun c47 => ?_) (fun c47 => absurd c47 (by decide))
    refine yr_iload_n d_M_grant_65 rfl ?_
    refine yr_bipush (v := 9) d_M_grant_66 (by decide) ?_
    refine yr_icmp_ne (tgt := 86) d_M_grant_68 (by decide) (fun c68 => ?_) (fun c68 => absurd c68 (by decide))
    refine yr_iload_n d_M_grant_86 rfl ?_
    refine yr_bipush (v := 15) d_M_grant_87 (by decide) ?_
    refine yr_icmp_ne (tgt := 123) d_M_grant_89 (by decide) (fun c89 => ?_) (fun c89 => absurd c89 (by decide))
    refine yr_iload_n d_M_grant_123 rfl ?_
    refine yr_bipush (v := 16) d_M_grant_124 (by decide) ?_
    refine yr_icmp_ne (tgt := 197) d_M_grant_126 (by decide) (fun c126 => ?_) (fun c126 => absurd c126 (by decide))
    refine yr_retv d_M_grant_197 rfl (by decide) (by decide) ?_
    refine ⟨_, rfl, rfl, ?_⟩
    unfold mHold
    first | rw [if_pos c30] | rw [if_neg c30]

set_option maxHeartbeats 4000000 in
set_option maxRecDepth 20000 in
theorem c_M_grant7 {G : yG} {s : Nat → Option ySh} {F : Nat → Nat → Option Nat} {M : mM} (hS : mSh s F) {t o : Nat} (ht : t < 6) (ho : o < 6) : mCT G m_M_grant [yr 200, yi (nI t), yi (nI o), yi 7] s F M (fun r M' => r = none ∧ M' = mHold M t o) := by
  refine yCT_of (by decide) rfl (ycat_of rfl) (Nat.le_of_ble_eq_true rfl) ?_
  refine yr_iload_n d_M_grant_0 rfl ?_
  refine yr_if_eq (tgt := 10) d_M_grant_1 (by decide) (fun c1 => absurd c1 (by decide)) (fun c1 => ?_)
  refine yr_iload_n d_M_grant_4 rfl ?_
  refine yr_bipush (v := 7) d_M_grant_5 (by decide) ?_
  refine yr_icmp_ne (tgt := 45) d_M_grant_7 (by decide) (fun c7 => absurd rfl c7) (fun c7 => ?_)
  refine yr_aload_n d_M_grant_10 rfl ?_
  refine mr_arr (a := 14) (K := 215) hS d_M_grant_11 sf_M_grant_11 rfl (by decide) rfl ?_
  refine yr_iload_n d_M_grant_14 rfl ?_
  refine yr_iload_n d_M_grant_15 rfl ?_
  refine mr_st (a := 14) (K := 215) (n := 6) (j := o) hS d_M_grant_16 (by decide) rfl rfl rfl (by simp only [nI0, nI1, nI2, nI3, nI4, nI6, nI_mulN, nI_add]) (by omega) ?_
  refine yr_aload_n d_M_grant_17 rfl ?_
  refine mr_arr (a := 13) (K := 214) hS d_M_grant_18 sf_M_grant_18 rfl (by decide) rfl ?_
  refine yr_iload_n d_M_grant_21 rfl ?_
  refine yr_dup2 d_M_grant_22 (fun _ => rfl) (fun _ => rfl) ?_
  refine mr_ld (a := 13) (K := 214) (n := 6) (j := o) hS d_M_grant_23 (by decide) rfl rfl rfl (by simp only [nI0, nI1, nI2, nI3, nI4, nI6, nI_mulN, nI_add]) (by omega) ?_
  rw [yu_ne (k := 215) (k' := 214) _ _ (Or.inl (by decide))]
  refine yr_aload_n d_M_grant_24 rfl ?_
  refine mr_arr (a := 10) (K := 211) hS d_M_grant_25 sf_M_grant_25 rfl (by decide) rfl ?_
  refine yr_iload_n d_M_grant_28 rfl ?_
  refine mr_ldz (a := 10) (K := 211) (n := 6) (j := t) hS d_M_grant_29 (by decide) rfl rfl rfl (by simp only [nI0, nI1, nI2, nI3, nI4, nI6, nI_mulN, nI_add]) (by omega) ?_
  rw [yu_ne (k := 215) (k' := 211) _ _ (Or.inl (by decide))]
  refine yr_if_eq (tgt := 42) d_M_grant_30 (by decide) (fun c30 => ?_) (fun c30 => ?_)
  · skip
    refine yr_iconst (v := 1) d_M_grant_42 (by decide) ?_
    refine yr_iadd d_M_grant_43 ?_
    refine mr_st (a := 13) (K := 214) (n := 6) (j := o) hS d_M_grant_44 (by decide) rfl rfl rfl (by simp only [nI0, nI1, nI2, nI3, nI4, nI6, nI_mulN, nI_add]) (by omega) ?_
    refine yr_iload_n d_M_grant_45 rfl ?_
    refine yr_iconst (v := 5) d_M_grant_46 (by decide) ?_
    refine yr_icmp_ne (tgt := 65) d_M_grant_47 (by decide) (fun c47 => ?_) (fun c47 => absurd c47 (by decide))
    refine yr_iload_n d_M_grant_65 rfl ?_
    refine yr_bipush (v := 9) d_M_grant_66 (by decide) ?_
    refine yr_icmp_ne (tgt := 86) d_M_grant_68 (by decide) (fun c68 => ?_) (fun c68 => absurd c68 (by decide))
    refine yr_iload_n d_M_grant_86 rfl ?_
    refine yr_bipush (v := 15) d_M_grant_87 (by decide) ?_
    refine yr_icmp_ne (tgt := 123) d_M_grant_89 (by decide) (fun c89 => ?_) (fun c89 => absurd c89 (by decide))
    refine yr_iload_n d_M_grant_123 rfl ?_
    refine yr_bipush (v := 16) d_M_grant_124 (by decide) ?_
    refine yr_icmp_ne (tgt := 197) d_M_grant_126 (by decide) (fun c126 => ?_) (fun c126 => absurd c126 (by decide))
    refine yr_retv d_M_grant_197 rfl (by decide) (by decide) ?_
    refine ⟨_, rfl, rfl, ?_⟩
    unfold mHold
    first | rw [if_pos c30] | rw [if_neg c30]
  · skip
    refine yr_aload_n d_M_grant_33 rfl ?_
    refine mr_arr (a := 7) (K := 208) hS d_M_grant_34 sf_M_grant_34 rfl (by decide) rfl ?_
    refine yr_iload_n d_M_grant_37 rfl ?_
    refine mr_ld (a := 7) (K := 208) (n := 6) (j := t) hS d_M_grant_38 (by decide) rfl rfl rfl (by simp only [nI0, nI1, nI2, nI3, nI4, nI6, nI_mulN, nI_add]) (by omega) ?_
    rw [yu_ne (k := 215) (k' := 208) _ _ (Or.inl (by decide))]
    refine yr_goto (tgt := 43) d_M_grant_39 (by decide) ?_
    refine yr_iadd d_M_grant_43 ?_
    refine mr_st (a := 13) (K := 214) (n := 6) (j := o) hS d_M_grant_44 (by decide) rfl rfl rfl (by simp only [nI0, nI1, nI2, nI3, nI4, nI6, nI_mulN, nI_add]) (by omega) ?_
    refine yr_iload_n d_M_grant_45 rfl ?_
    refine yr_iconst (v := 5) d_M_grant_46 (by decide) ?_
    refine yr_icmp_ne (tgt := 65) d_M_grant_47 (by decide) (fun c47 => ?_) (fun c47 => absurd c47 (by decide))
    refine yr_iload_n d_M_grant_65 rfl ?_
    refine yr_bipush (v := 9) d_M_grant_66 (by decide) ?_
    refine yr_icmp_ne (tgt := 86) d_M_grant_68 (by decide) (fun c68 => ?_) (fun c68 => absurd c68 (by decide))
    refine yr_iload_n d_M_grant_86 rfl ?_
    refine yr_bipush (v := 15) d_M_grant_87 (by decide) ?_
    refine yr_icmp_ne (tgt := 123) d_M_grant_89 (by decide) (fun c89 => ?_) (fun c89 => absurd c89 (by decide))
    refine yr_iload_n d_M_grant_123 rfl ?_
    refine yr_bipush (v := 16) d_M_grant_124 (by decide) ?_
    refine yr_icmp_ne (tgt := 197) d_M_grant_126 (by decide) (fun c126 => ?_) (fun c126 => absurd c126 (by decide))
    refine yr_retv d_M_grant_197 rfl (by decide) (by decide) ?_
    refine ⟨_, rfl, rfl, ?_⟩
    unfold mHold
    first | rw [if_pos c30] | rw [if_neg c30]

set_option maxHeartbeats 4000000 in
set_option maxRecDepth 20000 in
theorem c_M_grant5 {G : yG} {s : Nat → Option ySh} {F : Nat → Nat → Option Nat} {M : mM} (hS : mSh s F) {t o : Nat} (ht : t < 6) (ho : o < 6) : mCT G m_M_grant [yr 200, yi (nI t), yi (nI o), yi 5] s F M (fun r M' => r = none ∧ M' = mRead M t o) := by
  refine yCT_of (by decide) rfl (ycat_of rfl) (Nat.le_of_ble_eq_true rfl) ?_
  refine yr_iload_n d_M_grant_0 rfl ?_
  refine yr_if_eq (tgt := 10) d_M_grant_1 (by decide) (fun c1 => absurd c1 (by decide)) (fun c1 => ?_)
  refine yr_iload_n d_M_grant_4 rfl ?_
  refine yr_bipush (v := 7) d_M_grant_5 (by decide) ?_
  refine yr_icmp_ne (tgt := 45) d_M_grant_7 (by decide) (fun c7 => ?_) (fun c7 => absurd c7 (by decide))
  refine yr_iload_n d_M_grant_45 rfl ?_
  refine yr_iconst (v := 5) d_M_grant_46 (by decide) ?_
  refine yr_icmp_ne (tgt := 65) d_M_grant_47 (by decide) (fun c47 => absurd rfl c47) (fun c47 => ?_)
  refine yr_aload_n d_M_grant_50 rfl ?_
  refine mr_arr (a := 19) (K := 220) hS d_M_grant_51 sf_M_grant_51 rfl (by decide) rfl ?_
  refine yr_iload_n d_M_grant_54 rfl ?_
  refine yr_bipush (v := 6) d_M_grant_55 (by decide) ?_
  refine yr_imul d_M_grant_57 ?_
  refine yr_iload_n d_M_grant_58 rfl ?_
  refine yr_iadd d_M_grant_59 ?_
  refine yr_dup2 d_M_grant_60 (fun _ => rfl) (fun _ => rfl) ?_
  refine mr_ld (a := 19) (K := 220) (n := 36) (j := ((o * 6) + t)) hS d_M_grant_61 (by decide) rfl rfl rfl (by simp only [nI0, nI1, nI2, nI3, nI4, nI6, nI_mulN, nI_add]) (by omega) ?_
  refine yr_iconst (v := 1) d_M_grant_62 (by decide) ?_
  refine yr_iadd d_M_grant_63 ?_
  refine mr_st (a := 19) (K := 220) (n := 36) (j := ((o * 6) + t)) hS d_M_grant_64 (by decide) rfl rfl rfl (by simp only [nI0, nI1, nI2, nI3, nI4, nI6, nI_mulN, nI_add]) (by omega) ?_
  refine yr_iload_n d_M_grant_65 rfl ?_
  refine yr_bipush (v := 9) d_M_grant_66 (by decide) ?_
  refine yr_icmp_ne (tgt := 86) d_M_grant_68 (by decide) (fun c68 => ?_) (fun c68 => absurd c68 (by decide))
  refine yr_iload_n d_M_grant_86 rfl ?_
  refine yr_bipush (v := 15) d_M_grant_87 (by decide) ?_
  refine yr_icmp_ne (tgt := 123) d_M_grant_89 (by decide) (fun c89 => ?_) (fun c89 => absurd c89 (by decide))
  refine yr_iload_n d_M_grant_123 rfl ?_
  refine yr_bipush (v := 16) d_M_grant_124 (by decide) ?_
  refine yr_icmp_ne (tgt := 197) d_M_grant_126 (by decide) (fun c126 => ?_) (fun c126 => absurd c126 (by decide))
  exact yr_retv d_M_grant_197 rfl (by decide) (by decide) ⟨_, rfl, rfl, rfl⟩

set_option maxHeartbeats 4000000 in
set_option maxRecDepth 20000 in
theorem c_M_grant9 {G : yG} {s : Nat → Option ySh} {F : Nat → Nat → Option Nat} {M : mM} (hS : mSh s F) {t o : Nat} (ht : t < 6) (ho : o < 6) : mCT G m_M_grant [yr 200, yi (nI t), yi (nI o), yi 9] s F M (fun r M' => r = none ∧ M' = mAsk M t o) := by
  refine yCT_of (by decide) rfl (ycat_of rfl) (Nat.le_of_ble_eq_true rfl) ?_
  refine yr_iload_n d_M_grant_0 rfl ?_
  refine yr_if_eq (tgt := 10) d_M_grant_1 (by decide) (fun c1 => absurd c1 (by decide)) (fun c1 => ?_)
  refine yr_iload_n d_M_grant_4 rfl ?_
  refine yr_bipush (v := 7) d_M_grant_5 (by decide) ?_
  refine yr_icmp_ne (tgt := 45) d_M_grant_7 (by decide) (fun c7 => ?_) (fun c7 => absurd c7 (by decide))
  refine yr_iload_n d_M_grant_45 rfl ?_
  refine yr_iconst (v := 5) d_M_grant_46 (by decide) ?_
  refine yr_icmp_ne (tgt := 65) d_M_grant_47 (by decide) (fun c47 => ?_) (fun c47 => absurd c47 (by decide))
  refine yr_iload_n d_M_grant_65 rfl ?_
  refine yr_bipush (v := 9) d_M_grant_66 (by decide) ?_
  refine yr_icmp_ne (tgt := 86) d_M_grant_68 (by decide) (fun c68 => absurd rfl c68) (fun c68 => ?_)
  refine yr_aload_n d_M_grant_71 rfl ?_
  refine mr_arr (a := 13) (K := 214) hS d_M_grant_72 sf_M_grant_72 rfl (by decide) rfl ?_
  refine yr_iload_n d_M_grant_75 rfl ?_
  refine yr_dup2 d_M_grant_76 (fun _ => rfl) (fun _ => rfl) ?_
  refine mr_ld (a := 13) (K := 214) (n := 6) (j := o) hS d_M_grant_77 (by decide) rfl rfl rfl (by simp only [nI0, nI1, nI2, nI3, nI4, nI6, nI_mulN, nI_add]) (by omega) ?_
  refine yr_aload_n d_M_grant_78 rfl ?_
  refine mr_arr (a := 6) (K := 207) hS d_M_grant_79 sf_M_grant_79 rfl (by decide) rfl ?_
  refine yr_iload_n d_M_grant_82 rfl ?_
  refine mr_ld (a := 6) (K := 207) (n := 6) (j := t) hS d_M_grant_83 (by decide) rfl rfl rfl (by simp only [nI0, nI1, nI2, nI3, nI4, nI6, nI_mulN, nI_add]) (by omega) ?_
  refine yr_isub d_M_grant_84 ?_
  refine mr_st (a := 13) (K := 214) (n := 6) (j := o) hS d_M_grant_85 (by decide) rfl rfl rfl (by simp only [nI0, nI1, nI2, nI3, nI4, nI6, nI_mulN, nI_add]) (by omega) ?_
  refine yr_iload_n d_M_grant_86 rfl ?_
  refine yr_bipush (v := 15) d_M_grant_87 (by decide) ?_
  refine yr_icmp_ne (tgt := 123) d_M_grant_89 (by decide) (fun c89 => ?_) (fun c89 => absurd c89 (by decide))
  refine yr_iload_n d_M_grant_123 rfl ?_
  refine yr_bipush (v := 16) d_M_grant_124 (by decide) ?_
  refine yr_icmp_ne (tgt := 197) d_M_grant_126 (by decide) (fun c126 => ?_) (fun c126 => absurd c126 (by decide))
  exact yr_retv d_M_grant_197 rfl (by decide) (by decide) ⟨_, rfl, rfl, rfl⟩

set_option maxHeartbeats 4000000 in
set_option maxRecDepth 20000 in
theorem c_M_grant11 {G : yG} {s : Nat → Option ySh} {F : Nat → Nat → Option Nat} {M : mM} (hS : mSh s F) {t o : Nat} (ht : t < 6) (ho : o < 6) : mCT G m_M_grant [yr 200, yi (nI t), yi (nI o), yi 11] s F M (fun r M' => r = none ∧ M' = M) := by
  refine yCT_of (by decide) rfl (ycat_of rfl) (Nat.le_of_ble_eq_true rfl) ?_
  refine yr_iload_n d_M_grant_0 rfl ?_
  refine yr_if_eq (tgt := 10) d_M_grant_1 (by decide) (fun c1 => absurd c1 (by decide)) (fun c1 => ?_)
  refine yr_iload_n d_M_grant_4 rfl ?_
  refine yr_bipush (v := 7) d_M_grant_5 (by decide) ?_
  refine yr_icmp_ne (tgt := 45) d_M_grant_7 (by decide) (fun c7 => ?_) (fun c7 => absurd c7 (by decide))
  refine yr_iload_n d_M_grant_45 rfl ?_
  refine yr_iconst (v := 5) d_M_grant_46 (by decide) ?_
  refine yr_icmp_ne (tgt := 65) d_M_grant_47 (by decide) (fun c47 => ?_) (fun c47 => absurd c47 (by decide))
  refine yr_iload_n d_M_grant_65 rfl ?_
  refine yr_bipush (v := 9) d_M_grant_66 (by decide) ?_
  refine yr_icmp_ne (tgt := 86) d_M_grant_68 (by decide) (fun c68 => ?_) (fun c68 => absurd c68 (by decide))
  refine yr_iload_n d_M_grant_86 rfl ?_
  refine yr_bipush (v := 15) d_M_grant_87 (by decide) ?_
  refine yr_icmp_ne (tgt := 123) d_M_grant_89 (by decide) (fun c89 => ?_) (fun c89 => absurd c89 (by decide))
  refine yr_iload_n d_M_grant_123 rfl ?_
  refine yr_bipush (v := 16) d_M_grant_124 (by decide) ?_
  refine yr_icmp_ne (tgt := 197) d_M_grant_126 (by decide) (fun c126 => ?_) (fun c126 => absurd c126 (by decide))
  exact yr_retv d_M_grant_197 rfl (by decide) (by decide) ⟨_, rfl, rfl, rfl⟩

set_option maxHeartbeats 4000000 in
set_option maxRecDepth 20000 in
theorem c_M_grant15 {G : yG} {s : Nat → Option ySh} {F : Nat → Nat → Option Nat} {M : mM} (hS : mSh s F) {t o : Nat} (ht : t < 6) (ho : o < 6) {n : Nat} (hn : n < 3) (hm : M 214 o = nI n) : mCT G m_M_grant [yr 200, yi (nI t), yi (nI o), yi 15] s F M (fun r M' => r = none ∧ M' = mPut M t o n) := by
  refine yCT_of (by decide) rfl (ycat_of rfl) (Nat.le_of_ble_eq_true rfl) ?_
  refine yr_iload_n d_M_grant_0 rfl ?_
  refine yr_if_eq (tgt := 10) d_M_grant_1 (by decide) (fun c1 => absurd c1 (by decide)) (fun c1 => ?_)
  refine yr_iload_n d_M_grant_4 rfl ?_
  refine yr_bipush (v := 7) d_M_grant_5 (by decide) ?_
  refine yr_icmp_ne (tgt := 45) d_M_grant_7 (by decide) (fun c7 => ?_) (fun c7 => absurd c7 (by decide))
  refine yr_iload_n d_M_grant_45 rfl ?_
  refine yr_iconst (v := 5) d_M_grant_46 (by decide) ?_
  refine yr_icmp_ne (tgt := 65) d_M_grant_47 (by decide) (fun c47 => ?_) (fun c47 => absurd c47 (by decide))
  refine yr_iload_n d_M_grant_65 rfl ?_
  refine yr_bipush (v := 9) d_M_grant_66 (by decide) ?_
  refine yr_icmp_ne (tgt := 86) d_M_grant_68 (by decide) (fun c68 => ?_) (fun c68 => absurd c68 (by decide))
  refine yr_iload_n d_M_grant_86 rfl ?_
  refine yr_bipush (v := 15) d_M_grant_87 (by decide) ?_
  refine yr_icmp_ne (tgt := 123) d_M_grant_89 (by decide) (fun c89 => absurd rfl c89) (fun c89 => ?_)
  refine yr_aload_n d_M_grant_92 rfl ?_
  refine mr_arr (a := 20) (K := 221) hS d_M_grant_93 sf_M_grant_93 rfl (by decide) rfl ?_
  refine yr_iload_n d_M_grant_96 rfl ?_
  refine yr_iconst (v := 3) d_M_grant_97 (by decide) ?_
  refine yr_imul d_M_grant_98 ?_
  refine yr_aload_n d_M_grant_99 rfl ?_
  refine mr_arr (a := 13) (K := 214) hS d_M_grant_100 sf_M_grant_100 rfl (by decide) rfl ?_
  refine yr_iload_n d_M_grant_103 rfl ?_
  refine mr_ld (a := 13) (K := 214) (n := 6) (j := o) hS d_M_grant_104 (by decide) rfl rfl rfl (by simp only [nI0, nI1, nI2, nI3, nI4, nI6, nI_mulN, nI_add]) (by omega) ?_
  rw [hm]
  refine yr_iadd d_M_grant_105 ?_
  refine yr_aload_n d_M_grant_106 rfl ?_
  refine mr_arr (a := 6) (K := 207) hS d_M_grant_107 sf_M_grant_107 rfl (by decide) rfl ?_
  refine yr_iload_n d_M_grant_110 rfl ?_
  refine mr_ld (a := 6) (K := 207) (n := 6) (j := t) hS d_M_grant_111 (by decide) rfl rfl rfl (by simp only [nI0, nI1, nI2, nI3, nI4, nI6, nI_mulN, nI_add]) (by omega) ?_
  refine mr_st (a := 20) (K := 221) (n := 18) (j := ((o * 3) + n)) hS d_M_grant_112 (by decide) rfl rfl rfl (by simp only [nI0, nI1, nI2, nI3, nI4, nI6, nI_mulN, nI_add]) (by omega) ?_
  refine yr_aload_n d_M_grant_113 rfl ?_
  refine mr_arr (a := 13) (K := 214) hS d_M_grant_114 sf_M_grant_114 rfl (by decide) rfl ?_
  refine yr_iload_n d_M_grant_117 rfl ?_
  refine yr_dup2 d_M_grant_118 (fun _ => rfl) (fun _ => rfl) ?_
  refine mr_ld (a := 13) (K := 214) (n := 6) (j := o) hS d_M_grant_119 (by decide) rfl rfl rfl (by simp only [nI0, nI1, nI2, nI3, nI4, nI6, nI_mulN, nI_add]) (by omega) ?_
  rw [yu_ne (k := 221) (k' := 214) _ _ (Or.inl (by decide)), hm]
  refine yr_iconst (v := 1) d_M_grant_120 (by decide) ?_
  refine yr_iadd d_M_grant_121 ?_
  rw [nI_1]
  refine mr_st (a := 13) (K := 214) (n := 6) (j := o) hS d_M_grant_122 (by decide) rfl rfl rfl (by simp only [nI0, nI1, nI2, nI3, nI4, nI6, nI_mulN, nI_add]) (by omega) ?_
  refine yr_iload_n d_M_grant_123 rfl ?_
  refine yr_bipush (v := 16) d_M_grant_124 (by decide) ?_
  refine yr_icmp_ne (tgt := 197) d_M_grant_126 (by decide) (fun c126 => ?_) (fun c126 => absurd c126 (by decide))
  exact yr_retv d_M_grant_197 rfl (by decide) (by decide) ⟨_, rfl, rfl, rfl⟩

set_option maxHeartbeats 4000000 in
set_option maxRecDepth 20000 in
theorem c_M_grant_loop {G : yG} {s : Nat → Option ySh} {F : Nat → Nat → Option Nat} {M : mM} (hS : mSh s F) {t o n : Nat} (ht : t < 6) (ho : o < 6) (hn : n < 3) : ∀ (m q : Nat), m + q = n → yWW G m_M_grant (mQ G m_M_grant s F (fun r M' => r = none ∧ M' = mTake M t o n)) s 156 [some (yr 200), some (yi (nI t)), some (yi (nI o)), some (yi 16), some (yi (nI q))] [] (mw s F (mSft (yu (yu M 204 t (M 221 (o * 3))) 214 o (nI n)) 221 (o * 3) q)) 0 0 := by
  intro m
  induction m with
  | zero =>
    intro q hm
    have hm2 : (mSft (yu (yu M 204 t (M 221 (o * 3))) 214 o (nI n)) 221 (o * 3) q) 214 o = nI n := (mSft_at (by omega)).trans (yu_same _ _ _ _)
    refine yr_iload d_M_grant_156 rfl ?_
    refine yr_aload_n d_M_grant_158 rfl ?_
    refine mr_arr (a := 13) (K := 214) hS d_M_grant_159 sf_M_grant_159 rfl (by decide) rfl ?_
    refine yr_iload_n d_M_grant_162 rfl ?_
    refine mr_ld (a := 13) (K := 214) (n := 6) (j := o) hS d_M_grant_163 (by decide) rfl rfl rfl (by simp only [nI0, nI1, nI2, nI3, nI4, nI6, nI_mulN, nI_add]) (by omega) ?_
    rw [hm2]
    refine yr_icmp_ge (tgt := 197) d_M_grant_164 (by decide) (fun c164 => ?_) (fun c164 => absurd (nI_le (by omega) (by omega)) c164)
    exact yr_retv d_M_grant_197 rfl (by decide) (by decide) ⟨_, rfl, rfl, by rw [show q = n by omega]; rfl⟩
  | succ m ih =>
    intro q hm
    have hm2 : (mSft (yu (yu M 204 t (M 221 (o * 3))) 214 o (nI n)) 221 (o * 3) q) 214 o = nI n := (mSft_at (by omega)).trans (yu_same _ _ _ _)
    refine yr_iload d_M_grant_156 rfl ?_
    refine yr_aload_n d_M_grant_158 rfl ?_
    refine mr_arr (a := 13) (K := 214) hS d_M_grant_159 sf_M_grant_159 rfl (by decide) rfl ?_
    refine yr_iload_n d_M_grant_162 rfl ?_
    refine mr_ld (a := 13) (K := 214) (n := 6) (j := o) hS d_M_grant_163 (by decide) rfl rfl rfl (by simp only [nI0, nI1, nI2, nI3, nI4, nI6, nI_mulN, nI_add]) (by omega) ?_
    rw [hm2]
    refine yr_icmp_ge (tgt := 197) d_M_grant_164 (by decide) (fun c164 => absurd c164 (nI_ge (by omega) (by omega))) (fun c164 => ?_)
    refine yr_aload_n d_M_grant_167 rfl ?_
    refine mr_arr (a := 20) (K := 221) hS d_M_grant_168 sf_M_grant_168 rfl (by decide) rfl ?_
    refine yr_iload_n d_M_grant_171 rfl ?_
    refine yr_iconst (v := 3) d_M_grant_172 (by decide) ?_
    refine yr_imul d_M_grant_173 ?_
    refine yr_iload d_M_grant_174 rfl ?_
    refine yr_iadd d_M_grant_176 ?_
    refine yr_aload_n d_M_grant_177 rfl ?_
    refine mr_arr (a := 20) (K := 221) hS d_M_grant_178 sf_M_grant_178 rfl (by decide) rfl ?_
    refine yr_iload_n d_M_grant_181 rfl ?_
    refine yr_iconst (v := 3) d_M_grant_182 (by decide) ?_
    refine yr_imul d_M_grant_183 ?_
    refine yr_iload d_M_grant_184 rfl ?_
    refine yr_iadd d_M_grant_186 ?_
    refine yr_iconst (v := 1) d_M_grant_187 (by decide) ?_
    refine yr_iadd d_M_grant_188 ?_
    refine mr_ld (a := 20) (K := 221) (n := 18) (j := (((o * 3) + q) + 1)) hS d_M_grant_189 (by decide) rfl rfl rfl (by simp only [nI0, nI1, nI2, nI3, nI4, nI6, nI_mulN, nI_add]) (by omega) ?_
    refine mr_st (a := 20) (K := 221) (n := 18) (j := ((o * 3) + q)) hS d_M_grant_190 (by decide) rfl rfl rfl (by simp only [nI0, nI1, nI2, nI3, nI4, nI6, nI_mulN, nI_add]) (by omega) ?_
    refine yr_iinc (v := nI (q + 1)) d_M_grant_191 rfl (nI_1 (q)) (by decide) rfl ?_
    refine yr_goto (tgt := 156) d_M_grant_194 (by decide) ?_
    have k := ih (q + 1) (by omega)
    rw [← mSft_step] at k
    exact k

set_option maxHeartbeats 4000000 in
set_option maxRecDepth 20000 in
theorem c_M_grant16 {G : yG} {s : Nat → Option ySh} {F : Nat → Nat → Option Nat} {M : mM} (hS : mSh s F) {t o : Nat} (ht : t < 6) (ho : o < 6) {n : Nat} (hn : n < 3) (hm : M 214 o = nI (n + 1)) : mCT G m_M_grant [yr 200, yi (nI t), yi (nI o), yi 16] s F M (fun r M' => r = none ∧ M' = mTake M t o n) := by
  refine yCT_of (by decide) rfl (ycat_of rfl) (Nat.le_of_ble_eq_true rfl) ?_
  refine yr_iload_n d_M_grant_0 rfl ?_
  refine yr_if_eq (tgt := 10) d_M_grant_1 (by decide) (fun c1 => absurd c1 (by decide)) (fun c1 => ?_)
  refine yr_iload_n d_M_grant_4 rfl ?_
  refine yr_bipush (v := 7) d_M_grant_5 (by decide) ?_
  refine yr_icmp_ne (tgt := 45) d_M_grant_7 (by decide) (fun c7 => ?_) (fun c7 => absurd c7 (by decide))
  refine yr_iload_n d_M_grant_45 rfl ?_
  refine yr_iconst (v := 5) d_M_grant_46 (by decide) ?_
  refine yr_icmp_ne (tgt := 65) d_M_grant_47 (by decide) (fun c47 => ?_) (fun c47 => absurd c47 (by decide))
  refine yr_iload_n d_M_grant_65 rfl ?_
  refine yr_bipush (v := 9) d_M_grant_66 (by decide) ?_
  refine yr_icmp_ne (tgt := 86) d_M_grant_68 (by decide) (fun c68 => ?_) (fun c68 => absurd c68 (by decide))
  refine yr_iload_n d_M_grant_86 rfl ?_
  refine yr_bipush (v := 15) d_M_grant_87 (by decide) ?_
  refine yr_icmp_ne (tgt := 123) d_M_grant_89 (by decide) (fun c89 => ?_) (fun c89 => absurd c89 (by decide))
  refine yr_iload_n d_M_grant_123 rfl ?_
  refine yr_bipush (v := 16) d_M_grant_124 (by decide) ?_
  refine yr_icmp_ne (tgt := 197) d_M_grant_126 (by decide) (fun c126 => absurd rfl c126) (fun c126 => ?_)
  refine yr_aload_n d_M_grant_129 rfl ?_
  refine mr_arr (a := 3) (K := 204) hS d_M_grant_130 sf_M_grant_130 rfl (by decide) rfl ?_
  refine yr_iload_n d_M_grant_133 rfl ?_
  refine yr_aload_n d_M_grant_134 rfl ?_
  refine mr_arr (a := 20) (K := 221) hS d_M_grant_135 sf_M_grant_135 rfl (by decide) rfl ?_
  refine yr_iload_n d_M_grant_138 rfl ?_
  refine yr_iconst (v := 3) d_M_grant_139 (by decide) ?_
  refine yr_imul d_M_grant_140 ?_
  refine mr_ld (a := 20) (K := 221) (n := 18) (j := (o * 3)) hS d_M_grant_141 (by decide) rfl rfl rfl (by simp only [nI0, nI1, nI2, nI3, nI4, nI6, nI_mulN, nI_add]) (by omega) ?_
  refine mr_st (a := 3) (K := 204) (n := 6) (j := t) hS d_M_grant_142 (by decide) rfl rfl rfl (by simp only [nI0, nI1, nI2, nI3, nI4, nI6, nI_mulN, nI_add]) (by omega) ?_
  refine yr_aload_n d_M_grant_143 rfl ?_
  refine mr_arr (a := 13) (K := 214) hS d_M_grant_144 sf_M_grant_144 rfl (by decide) rfl ?_
  refine yr_iload_n d_M_grant_147 rfl ?_
  refine yr_dup2 d_M_grant_148 (fun _ => rfl) (fun _ => rfl) ?_
  refine mr_ld (a := 13) (K := 214) (n := 6) (j := o) hS d_M_grant_149 (by decide) rfl rfl rfl (by simp only [nI0, nI1, nI2, nI3, nI4, nI6, nI_mulN, nI_add]) (by omega) ?_
  rw [yu_ne (k := 204) (k' := 214) _ _ (Or.inl (by decide)), hm]
  refine yr_iconst (v := 1) d_M_grant_150 (by decide) ?_
  refine yr_isub d_M_grant_151 ?_
  rw [nI_pred]
  refine mr_st (a := 13) (K := 214) (n := 6) (j := o) hS d_M_grant_152 (by decide) rfl rfl rfl (by simp only [nI0, nI1, nI2, nI3, nI4, nI6, nI_mulN, nI_add]) (by omega) ?_
  refine yr_iconst (v := 0) d_M_grant_153 (by decide) ?_
  refine yr_istore d_M_grant_154 (by decide) rfl ?_
  have k := c_M_grant_loop (G := G) (M := M) hS ht ho hn n 0 rfl
  rw [mSft_0] at k
  exact k

set_option maxHeartbeats 4000000 in
set_option maxRecDepth 20000 in
theorem c_M_called {G : yG} {s : Nat → Option ySh} {F : Nat → Nat → Option Nat} {M : mM} (hS : mSh s F) {t o n h : Nat} (ht : t < 6) (ho : o < 6) (hn : n < 6) (hr : M 216 o = nI n) : mCT G m_M_called [yr 200, yi (nI t), yi (nI o), yi (nI h)] s F M (fun r M' => r = none ∧ M' = mCalled M t o n h) := by
  refine yCT_of (by decide) rfl (ycat_of rfl) (Nat.le_of_ble_eq_true rfl) ?_
  refine yr_aload_n d_M_called_0 rfl ?_
  refine mr_arr (a := 10) (K := 211) hS d_M_called_1 sf_M_called_1 rfl (by decide) rfl ?_
  refine yr_iload_n d_M_called_4 rfl ?_
  refine yr_iconst (v := 1) d_M_called_5 (by decide) ?_
  refine mr_stz (a := 10) (K := 211) (n := 6) (j := t) hS d_M_called_6 (by decide) rfl rfl rfl (by simp only [nI0, nI1, nI2, nI3, nI4, nI6, nI_mulN, nI_add]) (by omega) rfl ?_
  refine yr_aload_n d_M_called_7 rfl ?_
  refine mr_arr (a := 8) (K := 209) hS d_M_called_8 sf_M_called_8 rfl (by decide) rfl ?_
  refine yr_iload_n d_M_called_11 rfl ?_
  refine yr_iload_n d_M_called_12 rfl ?_
  refine mr_st (a := 8) (K := 209) (n := 6) (j := t) hS d_M_called_13 (by decide) rfl rfl rfl (by simp only [nI0, nI1, nI2, nI3, nI4, nI6, nI_mulN, nI_add]) (by omega) ?_
  refine yr_aload_n d_M_called_14 rfl ?_
  refine mr_arr (a := 4) (K := 205) hS d_M_called_15 sf_M_called_15 rfl (by decide) rfl ?_
  refine yr_iload_n d_M_called_18 rfl ?_
  refine yr_iconst (v := -1) d_M_called_19 (by decide) ?_
  refine mr_st (a := 4) (K := 205) (n := 6) (j := t) hS d_M_called_20 (by decide) rfl rfl rfl (by simp only [nI0, nI1, nI2, nI3, nI4, nI6, nI_mulN, nI_add]) (by omega) ?_
  refine yr_aload_n d_M_called_21 rfl ?_
  refine mr_arr (a := 5) (K := 206) hS d_M_called_22 sf_M_called_22 rfl (by decide) rfl ?_
  refine yr_iload_n d_M_called_25 rfl ?_
  refine yr_iconst (v := 0) d_M_called_26 (by decide) ?_
  refine mr_st (a := 5) (K := 206) (n := 6) (j := t) hS d_M_called_27 (by decide) rfl rfl rfl (by simp only [nI0, nI1, nI2, nI3, nI4, nI6, nI_mulN, nI_add]) (by omega) ?_
  refine yr_aload_n d_M_called_28 rfl ?_
  refine yr_iload_n d_M_called_29 rfl ?_
  refine yr_iload_n d_M_called_30 rfl ?_
  refine mr_call (yrunV (X := yNX) (k := 200) (As := [yi (nI t), yi (nI o)]) (rest := []) d_M_called_31 (c_M_enter hS ht ho hn (by rw [yu_ne _ _ (Or.inl (by decide)), yu_ne _ _ (Or.inl (by decide)), yu_ne _ _ (Or.inl (by decide)), yu_ne _ _ (Or.inl (by decide))]; exact hr)) hS.1 rfl (show yck (yMm m_M_called) m_M_enter 2 = true by decide +kernel) cw_M_enter (by decide +kernel) (by decide +kernel) (by decide +kernel) (by decide +kernel) (Nat.le_of_ble_eq_true rfl) (ycat_of rfl) (by decide) (by decide)) (fun r M9 hp => ?_)
  obtain ⟨rfl, rfl⟩ := hp
  exact yr_retv d_M_called_34 rfl (by decide) (by decide) ⟨_, rfl, rfl, rfl⟩

set_option maxHeartbeats 4000000 in
set_option maxRecDepth 20000 in
theorem c_M_rem2_row {G : yG} {s : Nat → Option ySh} {F : Nat → Nat → Option Nat} {M : mM} (hS : mSh s F) {c t i n : Nat} (hc : c < 6) (hn : n < 6) (hin : i ≤ n) : ∀ (m q : Nat), m + q = n - i → yWW G m_M_remove (mQ G m_M_remove s F (fun r M' => r = none ∧ M' = mRem M 217 (c * 6) 216 c i n)) s 32 [some (yr 200), some (yr 217), some (yi (nI (c * 6))), some (yr 216), some (yi (nI c)), some (yi (nI t)), some (yi (nI i)), some (yi (nI (i + q)))] [] (mw s F (mSft (yu M 216 c (nI n)) 217 (c * 6 + i) q)) 0 0 := by
  intro m
  induction m with
  | zero =>
    intro q hm
    have hm2 : (mSft (yu M 216 c (nI n)) 217 (c * 6 + i) q) 216 c = nI n := (mSft_at (by omega)).trans (yu_same _ _ _ _)
    refine yr_iload d_M_remove_32 rfl ?_
    refine yr_aload_n d_M_remove_34 rfl ?_
    refine yr_iload d_M_remove_35 rfl ?_
    refine mr_ld (a := 15) (K := 216) (n := 6) (j := c) hS d_M_remove_37 (by decide) rfl rfl rfl (by simp only [nI0, nI1, nI2, nI3, nI4, nI6, nI_mulN, nI_add]) (by omega) ?_
    rw [hm2]
    refine yr_icmp_ge (tgt := 61) d_M_remove_38 (by decide) (fun c38 => ?_) (fun c38 => absurd (nI_le (by omega) (by omega)) c38)
    exact yr_retv d_M_remove_61 rfl (by decide) (by decide) ⟨_, rfl, rfl, by unfold mRem; rw [show n - i = q by omega]⟩
  | succ m ih =>
    intro q hm
    have hm2 : (mSft (yu M 216 c (nI n)) 217 (c * 6 + i) q) 216 c = nI n := (mSft_at (by omega)).trans (yu_same _ _ _ _)
    refine yr_iload d_M_remove_32 rfl ?_
    refine yr_aload_n d_M_remove_34 rfl ?_
    refine yr_iload d_M_remove_35 rfl ?_
    refine mr_ld (a := 15) (K := 216) (n := 6) (j := c) hS d_M_remove_37 (by decide) rfl rfl rfl (by simp only [nI0, nI1, nI2, nI3, nI4, nI6, nI_mulN, nI_add]) (by omega) ?_
    rw [hm2]
    refine yr_icmp_ge (tgt := 61) d_M_remove_38 (by decide) (fun c38 => absurd c38 (nI_ge (by omega) (by omega))) (fun c38 => ?_)
    refine yr_aload_n d_M_remove_41 rfl ?_
    refine yr_iload_n d_M_remove_42 rfl ?_
    refine yr_iload d_M_remove_43 rfl ?_
    refine yr_iadd d_M_remove_45 ?_
    refine yr_aload_n d_M_remove_46 rfl ?_
    refine yr_iload_n d_M_remove_47 rfl ?_
    refine yr_iload d_M_remove_48 rfl ?_
    refine yr_iadd d_M_remove_50 ?_
    refine yr_iconst (v := 1) d_M_remove_51 (by decide) ?_
    refine yr_iadd d_M_remove_52 ?_
    refine mr_ld (a := 16) (K := 217) (n := 36) (j := (((c * 6) + (i + q)) + 1)) hS d_M_remove_53 (by decide) rfl rfl rfl (by simp only [nI0, nI1, nI2, nI3, nI4, nI6, nI_mulN, nI_add]) (by omega) ?_
    refine mr_st (a := 16) (K := 217) (n := 36) (j := ((c * 6) + (i + q))) hS d_M_remove_54 (by decide) rfl rfl rfl (by simp only [nI0, nI1, nI2, nI3, nI4, nI6, nI_mulN, nI_add]) (by omega) ?_
    refine yr_iinc (v := nI (i + (q + 1))) d_M_remove_55 rfl (nI_1 ((i + q))) (by decide) rfl ?_
    refine yr_goto (tgt := 32) d_M_remove_58 (by decide) ?_
    have k := ih (q + 1) (by omega)
    rw [← mSft_step] at k
    rw [show c * 6 + (i + q) = c * 6 + i + q by omega]
    exact k

set_option maxHeartbeats 4000000 in
set_option maxRecDepth 20000 in
theorem c_M_rem1_row {G : yG} {s : Nat → Option ySh} {F : Nat → Nat → Option Nat} {M : mM} (hS : mSh s F) {c t i n : Nat} (hc : c < 6) (hn : n < 6) (hin : i ≤ n) (hs : M 216 c = nI (n + 1)) (hat : M 217 (c * 6 + i) = nI t) (hno : ∀ j, j < i → ¬ M 217 (c * 6 + j) = nI t) : ∀ (m q : Nat), m + q = i → yWW G m_M_remove (mQ G m_M_remove s F (fun r M' => r = none ∧ M' = mRem M 217 (c * 6) 216 c i n)) s 3 [some (yr 200), some (yr 217), some (yi (nI (c * 6))), some (yr 216), some (yi (nI c)), some (yi (nI t)), some (yi (nI q)), none] [] (mw s F M) 0 0 := by
  intro m
  induction m with
  | zero =>
    intro q hm
    have hq : q = i := by omega
    subst hq
    refine yr_aload_n d_M_remove_3 rfl ?_
    refine yr_iload_n d_M_remove_4 rfl ?_
    refine yr_iload d_M_remove_5 rfl ?_
    refine yr_iadd d_M_remove_7 ?_
    refine mr_ld (a := 16) (K := 217) (n := 36) (j := ((c * 6) + q)) hS d_M_remove_8 (by decide) rfl rfl rfl (by simp only [nI0, nI1, nI2, nI3, nI4, nI6, nI_mulN, nI_add]) (by omega) ?_
    rw [hat]
    refine yr_iload d_M_remove_9 rfl ?_
    refine yr_icmp_eq (tgt := 20) d_M_remove_11 (by decide) (fun c11 => ?_) (fun c11 => absurd rfl c11)
    refine yr_aload_n d_M_remove_20 rfl ?_
    refine yr_iload d_M_remove_21 rfl ?_
    refine yr_dup2 d_M_remove_23 (fun _ => rfl) (fun _ => rfl) ?_
    refine mr_ld (a := 15) (K := 216) (n := 6) (j := c) hS d_M_remove_24 (by decide) rfl rfl rfl (by simp only [nI0, nI1, nI2, nI3, nI4, nI6, nI_mulN, nI_add]) (by omega) ?_
    rw [hs]
    refine yr_iconst (v := 1) d_M_remove_25 (by decide) ?_
    refine yr_isub d_M_remove_26 ?_
    rw [nI_pred]
    refine mr_st (a := 15) (K := 216) (n := 6) (j := c) hS d_M_remove_27 (by decide) rfl rfl rfl (by simp only [nI0, nI1, nI2, nI3, nI4, nI6, nI_mulN, nI_add]) (by omega) ?_
    refine yr_iload d_M_remove_28 rfl ?_
    refine yr_istore d_M_remove_30 (by decide) rfl ?_
    have k := c_M_rem2_row (G := G) (M := M) (t := t) hS hc hn hin (n - q) 0 rfl
    rw [mSft_0] at k
    exact k
  | succ m ih =>
    intro q hm
    refine yr_aload_n d_M_remove_3 rfl ?_
    refine yr_iload_n d_M_remove_4 rfl ?_
    refine yr_iload d_M_remove_5 rfl ?_
    refine yr_iadd d_M_remove_7 ?_
    refine mr_ld (a := 16) (K := 217) (n := 36) (j := ((c * 6) + q)) hS d_M_remove_8 (by decide) rfl rfl rfl (by simp only [nI0, nI1, nI2, nI3, nI4, nI6, nI_mulN, nI_add]) (by omega) ?_
    refine yr_iload d_M_remove_9 rfl ?_
    refine yr_icmp_eq (tgt := 20) d_M_remove_11 (by decide) (fun c11 => absurd c11 (hno q (by omega))) (fun c11 => ?_)
    refine yr_iinc (v := nI (q + 1)) d_M_remove_14 rfl (nI_1 (q)) (by decide) rfl ?_
    refine yr_goto (tgt := 3) d_M_remove_17 (by decide) ?_
    exact ih (q + 1) (by omega)

set_option maxHeartbeats 4000000 in
set_option maxRecDepth 20000 in
theorem c_M_remove_row {G : yG} {s : Nat → Option ySh} {F : Nat → Nat → Option Nat} {M : mM} (hS : mSh s F) {c t i n : Nat} (hc : c < 6) (hn : n < 6) (hin : i ≤ n) (hs : M 216 c = nI (n + 1)) (hat : M 217 (c * 6 + i) = nI t) (hno : ∀ j, j < i → ¬ M 217 (c * 6 + j) = nI t) : mCT G m_M_remove [yr 200, yr 217, yi (nI (c * 6)), yr 216, yi (nI c), yi (nI t)] s F M (fun r M' => r = none ∧ M' = mRem M 217 (c * 6) 216 c i n) := by
  refine yCT_of (by decide) rfl (ycat_of rfl) (Nat.le_of_ble_eq_true rfl) ?_
  refine yr_iconst (v := 0) d_M_remove_0 (by decide) ?_
  refine yr_istore d_M_remove_1 (by decide) rfl ?_
  exact c_M_rem1_row hS hc hn hin hs hat hno i 0 rfl

set_option maxHeartbeats 4000000 in
set_option maxRecDepth 20000 in
theorem c_M_rem2_con {G : yG} {s : Nat → Option ySh} {F : Nat → Nat → Option Nat} {M : mM} (hS : mSh s F) {c t i n : Nat} (hc : c < 12) (hn : n < 6) (hin : i ≤ n) : ∀ (m q : Nat), m + q = n - i → yWW G m_M_remove (mQ G m_M_remove s F (fun r M' => r = none ∧ M' = mRem M 219 (c * 6) 218 c i n)) s 32 [some (yr 200), some (yr 219), some (yi (nI (c * 6))), some (yr 218), some (yi (nI c)), some (yi (nI t)), some (yi (nI i)), some (yi (nI (i + q)))] [] (mw s F (mSft (yu M 218 c (nI n)) 219 (c * 6 + i) q)) 0 0 := by
  intro m
  induction m with
  | zero =>
    intro q hm
    have hm2 : (mSft (yu M 218 c (nI n)) 219 (c * 6 + i) q) 218 c = nI n := (mSft_at (by omega)).trans (yu_same _ _ _ _)
    refine yr_iload d_M_remove_32 rfl ?_
    refine yr_aload_n d_M_remove_34 rfl ?_
    refine yr_iload d_M_remove_35 rfl ?_
    refine mr_ld (a := 17) (K := 218) (n := 12) (j := c) hS d_M_remove_37 (by decide) rfl rfl rfl (by simp only [nI0, nI1, nI2, nI3, nI4, nI6, nI_mulN, nI_add]) (by omega) ?_
    rw [hm2]
    refine yr_icmp_ge (tgt := 61) d_M_remove_38 (by decide) (fun c38 => ?_) (fun c38 => absurd (nI_le (by omega) (by omega)) c38)
    exact yr_retv d_M_remove_61 rfl (by decide) (by decide) ⟨_, rfl, rfl, by unfold mRem; rw [show n - i = q by omega]⟩
  | succ m ih =>
    intro q hm
    have hm2 : (mSft (yu M 218 c (nI n)) 219 (c * 6 + i) q) 218 c = nI n := (mSft_at (by omega)).trans (yu_same _ _ _ _)
    refine yr_iload d_M_remove_32 rfl ?_
    refine yr_aload_n d_M_remove_34 rfl ?_
    refine yr_iload d_M_remove_35 rfl ?_
    refine mr_ld (a := 17) (K := 218) (n := 12) (j := c) hS d_M_remove_37 (by decide) rfl rfl rfl (by simp only [nI0, nI1, nI2, nI3, nI4, nI6, nI_mulN, nI_add]) (by omega) ?_
    rw [hm2]
    refine yr_icmp_ge (tgt := 61) d_M_remove_38 (by decide) (fun c38 => absurd c38 (nI_ge (by omega) (by omega))) (fun c38 => ?_)
    refine yr_aload_n d_M_remove_41 rfl ?_
    refine yr_iload_n d_M_remove_42 rfl ?_
    refine yr_iload d_M_remove_43 rfl ?_
    refine yr_iadd d_M_remove_45 ?_
    refine yr_aload_n d_M_remove_46 rfl ?_
    refine yr_iload_n d_M_remove_47 rfl ?_
    refine yr_iload d_M_remove_48 rfl ?_
    refine yr_iadd d_M_remove_50 ?_
    refine yr_iconst (v := 1) d_M_remove_51 (by decide) ?_
    refine yr_iadd d_M_remove_52 ?_
    refine mr_ld (a := 18) (K := 219) (n := 72) (j := (((c * 6) + (i + q)) + 1)) hS d_M_remove_53 (by decide) rfl rfl rfl (by simp only [nI0, nI1, nI2, nI3, nI4, nI6, nI_mulN, nI_add]) (by omega) ?_
    refine mr_st (a := 18) (K := 219) (n := 72) (j := ((c * 6) + (i + q))) hS d_M_remove_54 (by decide) rfl rfl rfl (by simp only [nI0, nI1, nI2, nI3, nI4, nI6, nI_mulN, nI_add]) (by omega) ?_
    refine yr_iinc (v := nI (i + (q + 1))) d_M_remove_55 rfl (nI_1 ((i + q))) (by decide) rfl ?_
    refine yr_goto (tgt := 32) d_M_remove_58 (by decide) ?_
    have k := ih (q + 1) (by omega)
    rw [← mSft_step] at k
    rw [show c * 6 + (i + q) = c * 6 + i + q by omega]
    exact k

set_option maxHeartbeats 4000000 in
set_option maxRecDepth 20000 in
theorem c_M_rem1_con {G : yG} {s : Nat → Option ySh} {F : Nat → Nat → Option Nat} {M : mM} (hS : mSh s F) {c t i n : Nat} (hc : c < 12) (hn : n < 6) (hin : i ≤ n) (hs : M 218 c = nI (n + 1)) (hat : M 219 (c * 6 + i) = nI t) (hno : ∀ j, j < i → ¬ M 219 (c * 6 + j) = nI t) : ∀ (m q : Nat), m + q = i → yWW G m_M_remove (mQ G m_M_remove s F (fun r M' => r = none ∧ M' = mRem M 219 (c * 6) 218 c i n)) s 3 [some (yr 200), some (yr 219), some (yi (nI (c * 6))), some (yr 218), some (yi (nI c)), some (yi (nI t)), some (yi (nI q)), none] [] (mw s F M) 0 0 := by
  intro m
  induction m with
  | zero =>
    intro q hm
    have hq : q = i := by omega
    subst hq
    refine yr_aload_n d_M_remove_3 rfl ?_
    refine yr_iload_n d_M_remove_4 rfl ?_
    refine yr_iload d_M_remove_5 rfl ?_
    refine yr_iadd d_M_remove_7 ?_
    refine mr_ld (a := 18) (K := 219) (n := 72) (j := ((c * 6) + q)) hS d_M_remove_8 (by decide) rfl rfl rfl (by simp only [nI0, nI1, nI2, nI3, nI4, nI6, nI_mulN, nI_add]) (by omega) ?_
    rw [hat]
    refine yr_iload d_M_remove_9 rfl ?_
    refine yr_icmp_eq (tgt := 20) d_M_remove_11 (by decide) (fun c11 => ?_) (fun c11 => absurd rfl c11)
    refine yr_aload_n d_M_remove_20 rfl ?_
    refine yr_iload d_M_remove_21 rfl ?_
    refine yr_dup2 d_M_remove_23 (fun _ => rfl) (fun _ => rfl) ?_
    refine mr_ld (a := 17) (K := 218) (n := 12) (j := c) hS d_M_remove_24 (by decide) rfl rfl rfl (by simp only [nI0, nI1, nI2, nI3, nI4, nI6, nI_mulN, nI_add]) (by omega) ?_
    rw [hs]
    refine yr_iconst (v := 1) d_M_remove_25 (by decide) ?_
    refine yr_isub d_M_remove_26 ?_
    rw [nI_pred]
    refine mr_st (a := 17) (K := 218) (n := 12) (j := c) hS d_M_remove_27 (by decide) rfl rfl rfl (by simp only [nI0, nI1, nI2, nI3, nI4, nI6, nI_mulN, nI_add]) (by omega) ?_
    refine yr_iload d_M_remove_28 rfl ?_
    refine yr_istore d_M_remove_30 (by decide) rfl ?_
    have k := c_M_rem2_con (G := G) (M := M) (t := t) hS hc hn hin (n - q) 0 rfl
    rw [mSft_0] at k
    exact k
  | succ m ih =>
    intro q hm
    refine yr_aload_n d_M_remove_3 rfl ?_
    refine yr_iload_n d_M_remove_4 rfl ?_
    refine yr_iload d_M_remove_5 rfl ?_
    refine yr_iadd d_M_remove_7 ?_
    refine mr_ld (a := 18) (K := 219) (n := 72) (j := ((c * 6) + q)) hS d_M_remove_8 (by decide) rfl rfl rfl (by simp only [nI0, nI1, nI2, nI3, nI4, nI6, nI_mulN, nI_add]) (by omega) ?_
    refine yr_iload d_M_remove_9 rfl ?_
    refine yr_icmp_eq (tgt := 20) d_M_remove_11 (by decide) (fun c11 => absurd c11 (hno q (by omega))) (fun c11 => ?_)
    refine yr_iinc (v := nI (q + 1)) d_M_remove_14 rfl (nI_1 (q)) (by decide) rfl ?_
    refine yr_goto (tgt := 3) d_M_remove_17 (by decide) ?_
    exact ih (q + 1) (by omega)

set_option maxHeartbeats 4000000 in
set_option maxRecDepth 20000 in
theorem c_M_remove_con {G : yG} {s : Nat → Option ySh} {F : Nat → Nat → Option Nat} {M : mM} (hS : mSh s F) {c t i n : Nat} (hc : c < 12) (hn : n < 6) (hin : i ≤ n) (hs : M 218 c = nI (n + 1)) (hat : M 219 (c * 6 + i) = nI t) (hno : ∀ j, j < i → ¬ M 219 (c * 6 + j) = nI t) : mCT G m_M_remove [yr 200, yr 219, yi (nI (c * 6)), yr 218, yi (nI c), yi (nI t)] s F M (fun r M' => r = none ∧ M' = mRem M 219 (c * 6) 218 c i n) := by
  refine yCT_of (by decide) rfl (ycat_of rfl) (Nat.le_of_ble_eq_true rfl) ?_
  refine yr_iconst (v := 0) d_M_remove_0 (by decide) ?_
  refine yr_istore d_M_remove_1 (by decide) rfl ?_
  exact c_M_rem1_con hS hc hn hin hs hat hno i 0 rfl
