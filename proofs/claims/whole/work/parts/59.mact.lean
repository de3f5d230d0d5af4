/-! the model: waitAt, simple, act -/
def mWait (M : mM) (t o c n : Nat) : mM := yu (yu (yu (yu (yu (yu (yu M 208 t (M 214 o)) 214 o 0) 215 o (-1)) 219 (c * 6 + n) (nI t)) 218 c (nI (n + 1))) 201 t 2) 203 t (nI o)
def mDown (M : mM) (o : Nat) : mM := if M 214 o ≤ 0 then M else yu M 214 o (M 214 o - 1)

set_option maxHeartbeats 4000000 in
set_option maxRecDepth 20000 in
theorem c_M_waitAt {G : yG} {s : Nat → Option ySh} {F : Nat → Nat → Option Nat} {M : mM} (hS : mSh s F) {t o j n : Nat} (ht : t < 6) (ho : o < 6) (hj : j < 2) (hn : n < 6) (hcs : M 218 (o * 2 + j) = nI n) {R : zS → mM → Prop} (hR : mPass o R) {σ : zS} (hRM : R σ (mWait M t o (o * 2 + j) n)) : mCT G m_M_waitAt [yr 200, yi (nI t), yi (nI o), yi (nI j)] s F M (fun r M' => r = some (yi 1) ∧ R (zset o 7 σ) M') := by
  refine yCT_of (by decide) rfl (ycat_of rfl) (Nat.le_of_ble_eq_true rfl) ?_
  refine yr_iload_n d_M_waitAt_0 rfl ?_
  refine yr_iconst (v := 2) d_M_waitAt_1 (by decide) ?_
  refine yr_imul d_M_waitAt_2 ?_
  refine yr_iload_n d_M_waitAt_3 rfl ?_
  refine yr_iadd d_M_waitAt_4 ?_
  rw [show nI o * 2 + nI j = nI (o * 2 + j) by simp only [nI2, nI_mulN, nI_add]]
  refine yr_istore d_M_waitAt_5 (by decide) rfl ?_
  refine yr_aload_n d_M_waitAt_7 rfl ?_
  refine mr_arr (a := 7) (K := 208) hS d_M_waitAt_8 sf_M_waitAt_8 rfl (by decide) rfl ?_
  refine yr_iload_n d_M_waitAt_11 rfl ?_
  refine yr_aload_n d_M_waitAt_12 rfl ?_
  refine mr_arr (a := 13) (K := 214) hS d_M_waitAt_13 sf_M_waitAt_13 rfl (by decide) rfl ?_
  refine yr_iload_n d_M_waitAt_16 rfl ?_
  refine mr_ld (a := 13) (K := 214) (n := 6) (j := o) hS d_M_waitAt_17 (by decide) rfl rfl rfl (by simp only [nI0, nI1, nI2, nI3, nI4, nI6, nI_mulN, nI_add]) (by omega) ?_
  refine mr_st (a := 7) (K := 208) (n := 6) (j := t) hS d_M_waitAt_18 (by decide) rfl rfl rfl (by simp only [nI0, nI1, nI2, nI3, nI4, nI6, nI_mulN, nI_add]) (by omega) ?_
  refine yr_aload_n d_M_waitAt_19 rfl ?_
  refine mr_arr (a := 13) (K := 214) hS d_M_waitAt_20 sf_M_waitAt_20 rfl (by decide) rfl ?_
  refine yr_iload_n d_M_waitAt_23 rfl ?_
  refine yr_iconst (v := 0) d_M_waitAt_24 (by decide) ?_
  refine mr_st (a := 13) (K := 214) (n := 6) (j := o) hS d_M_waitAt_25 (by decide) rfl rfl rfl (by simp only [nI0, nI1, nI2, nI3, nI4, nI6, nI_mulN, nI_add]) (by omega) ?_
  refine yr_aload_n d_M_waitAt_26 rfl ?_
  refine mr_arr (a := 14) (K := 215) hS d_M_waitAt_27 sf_M_waitAt_27 rfl (by decide) rfl ?_
  refine yr_iload_n d_M_waitAt_30 rfl ?_
  refine yr_iconst (v := -1) d_M_waitAt_31 (by decide) ?_
  refine mr_st (a := 14) (K := 215) (n := 6) (j := o) hS d_M_waitAt_32 (by decide) rfl rfl rfl (by simp only [nI0, nI1, nI2, nI3, nI4, nI6, nI_mulN, nI_add]) (by omega) ?_
  refine yr_aload_n d_M_waitAt_33 rfl ?_
  refine mr_arr (a := 18) (K := 219) hS d_M_waitAt_34 sf_M_waitAt_34 rfl (by decide) rfl ?_
  refine yr_iload d_M_waitAt_37 rfl ?_
  refine yr_bipush (v := 6) d_M_waitAt_39 (by decide) ?_
  refine yr_imul d_M_waitAt_41 ?_
  refine yr_aload_n d_M_waitAt_42 rfl ?_
  refine mr_arr (a := 17) (K := 218) hS d_M_waitAt_43 sf_M_waitAt_43 rfl (by decide) rfl ?_
  refine yr_iload d_M_waitAt_46 rfl ?_
  refine mr_ld (a := 17) (K := 218) (n := 12) (j := (o * 2 + j)) hS d_M_waitAt_48 (by decide) rfl rfl rfl (by simp only [nI0, nI1, nI2, nI3, nI4, nI6, nI_mulN, nI_add]) (by omega) ?_
  rw [yu_ne _ _ (Or.inl (by decide)), yu_ne _ _ (Or.inl (by decide)), yu_ne _ _ (Or.inl (by decide)), hcs]
  refine yr_iadd d_M_waitAt_49 ?_
  refine yr_iload_n d_M_waitAt_50 rfl ?_
  refine mr_st (a := 18) (K := 219) (n := 72) (j := (((o * 2 + j) * 6) + n)) hS d_M_waitAt_51 (by decide) rfl rfl rfl (by simp only [nI0, nI1, nI2, nI3, nI4, nI6, nI_mulN, nI_add]) (by omega) ?_
  refine yr_aload_n d_M_waitAt_52 rfl ?_
  refine mr_arr (a := 17) (K := 218) hS d_M_waitAt_53 sf_M_waitAt_53 rfl (by decide) rfl ?_
  refine yr_iload d_M_waitAt_56 rfl ?_
  refine yr_dup2 d_M_waitAt_58 (fun _ => rfl) (fun _ => rfl) ?_
  refine mr_ld (a := 17) (K := 218) (n := 12) (j := (o * 2 + j)) hS d_M_waitAt_59 (by decide) rfl rfl rfl (by simp only [nI0, nI1, nI2, nI3, nI4, nI6, nI_mulN, nI_add]) (by omega) ?_
  rw [yu_ne _ _ (Or.inl (by decide)), yu_ne _ _ (Or.inl (by decide)), yu_ne _ _ (Or.inl (by decide)), yu_ne _ _ (Or.inl (by decide)), hcs]
  refine yr_iconst (v := 1) d_M_waitAt_60 (by decide) ?_
  refine yr_iadd d_M_waitAt_61 ?_
  rw [nI_1]
  refine mr_st (a := 17) (K := 218) (n := 12) (j := (o * 2 + j)) hS d_M_waitAt_62 (by decide) rfl rfl rfl (by simp only [nI0, nI1, nI2, nI3, nI4, nI6, nI_mulN, nI_add]) (by omega) ?_
  refine yr_aload_n d_M_waitAt_63 rfl ?_
  refine mr_arr (a := 0) (K := 201) hS d_M_waitAt_64 sf_M_waitAt_64 rfl (by decide) rfl ?_
  refine yr_iload_n d_M_waitAt_67 rfl ?_
  refine yr_iconst (v := 2) d_M_waitAt_68 (by decide) ?_
  refine mr_st (a := 0) (K := 201) (n := 6) (j := t) hS d_M_waitAt_69 (by decide) rfl rfl rfl (by simp only [nI0, nI1, nI2, nI3, nI4, nI6, nI_mulN, nI_add]) (by omega) ?_
  refine yr_aload_n d_M_waitAt_70 rfl ?_
  refine mr_arr (a := 2) (K := 203) hS d_M_waitAt_71 sf_M_waitAt_71 rfl (by decide) rfl ?_
  refine yr_iload_n d_M_waitAt_74 rfl ?_
  refine yr_iload_n d_M_waitAt_75 rfl ?_
  refine mr_st (a := 2) (K := 203) (n := 6) (j := t) hS d_M_waitAt_76 (by decide) rfl rfl rfl (by simp only [nI0, nI1, nI2, nI3, nI4, nI6, nI_mulN, nI_add]) (by omega) ?_
  refine yr_aload_n d_M_waitAt_77 rfl ?_
  refine yr_iload_n d_M_waitAt_78 rfl ?_
  refine mr_call (yrunV (X := yNX) (k := 200) (As := [yi (nI o)]) (rest := []) d_M_waitAt_79 (c_M_pass hS ho hR hRM) hS.1 rfl (show yck (yMm m_M_waitAt) m_M_pass 1 = true by decide +kernel) cw_M_pass (by decide +kernel) (by decide +kernel) (by decide +kernel) (by decide +kernel) (Nat.le_of_ble_eq_true rfl) (ycat_of rfl) (by decide) (by decide)) (fun r M9 hp => ?_)
  obtain ⟨rfl, hRM9⟩ := hp
  refine yr_iconst (v := 1) d_M_waitAt_82 (by decide) ?_
  exact yr_reti d_M_waitAt_83 rfl (by decide) (by decide) ⟨_, rfl, rfl, hRM9⟩

set_option maxHeartbeats 4000000 in
set_option maxRecDepth 20000 in
theorem c_M_simple1 {G : yG} {s : Nat → Option ySh} {F : Nat → Nat → Option Nat} {M : mM} (hS : mSh s F) {t o : Nat} (ht : t < 6) (ho : o < 6) {g : Int32} {R : zS → mM → Prop} (hR : mPass o R) {σ : zS} (hRM : R σ (mEnd (mLess M o) t 0)) : mCT G m_M_simple [yr 200, yi (nI t), yi (nI o), yi 1, yi g] s F M (fun r M' => r = some (yi 0) ∧ R (zset o 7 σ) M') := by
  refine yCT_of (by decide) rfl (ycat_of rfl) (Nat.le_of_ble_eq_true rfl) ?_
  refine yr_iload_n d_M_simple_0 rfl ?_
  refine yr_iconst (v := 1) d_M_simple_1 (by decide) ?_
  refine yr_icmp_eq (tgt := 11) d_M_simple_2 (by decide) (fun c2 => ?_) (fun c2 => absurd rfl c2)
  refine yr_aload_n d_M_simple_11 rfl ?_
  refine yr_iload_n d_M_simple_12 rfl ?_
  refine mr_call (yrunV (X := yNX) (k := 200) (As := [yi (nI o)]) (rest := []) d_M_simple_13 (c_M_less hS ho) hS.1 rfl (show yck (yMm m_M_simple) m_M_less 1 = true by decide +kernel) cw_M_less (by decide +kernel) (by decide +kernel) (by decide +kernel) (by decide +kernel) (Nat.le_of_ble_eq_true rfl) (ycat_of rfl) (by decide) (by decide)) (fun r M9 hp => ?_)
  obtain ⟨rfl, rfl⟩ := hp
  refine yr_iload_n d_M_simple_16 rfl ?_
  refine yr_iconst (v := 3) d_M_simple_17 (by decide) ?_
  refine yr_icmp_ne (tgt := 29) d_M_simple_18 (by decide) (fun c18 => ?_) (fun c18 => absurd c18 (by decide))
  refine yr_iload_n d_M_simple_29 rfl ?_
  refine yr_iconst (v := 4) d_M_simple_30 (by decide) ?_
  refine yr_icmp_ne (tgt := 43) d_M_simple_31 (by decide) (fun c31 => ?_) (fun c31 => absurd c31 (by decide))
  refine yr_iload_n d_M_simple_43 rfl ?_
  refine yr_bipush (v := 6) d_M_simple_44 (by decide) ?_
  refine yr_icmp_ne (tgt := 64) d_M_simple_46 (by decide) (fun c46 => ?_) (fun c46 => absurd c46 (by decide))
  refine yr_iload_n d_M_simple_64 rfl ?_
  refine yr_bipush (v := 10) d_M_simple_65 (by decide) ?_
  refine yr_icmp_ne (tgt := 81) d_M_simple_67 (by decide) (fun c67 => ?_) (fun c67 => absurd c67 (by decide))
  refine yr_iload_n d_M_simple_81 rfl ?_
  refine yr_bipush (v := 12) d_M_simple_82 (by decide) ?_
  refine yr_icmp_ne (tgt := 106) d_M_simple_84 (by decide) (fun c84 => ?_) (fun c84 => absurd c84 (by decide))
  refine yr_iload_n d_M_simple_106 rfl ?_
  refine yr_bipush (v := 14) d_M_simple_107 (by decide) ?_
  refine yr_icmp_ne (tgt := 124) d_M_simple_109 (by decide) (fun c109 => ?_) (fun c109 => absurd c109 (by decide))
  refine yr_aload_n d_M_simple_124 rfl ?_
  refine yr_iload_n d_M_simple_125 rfl ?_
  refine yr_iconst (v := 0) d_M_simple_126 (by decide) ?_
  refine mr_call (yrunV (X := yNX) (k := 200) (As := [yi (nI t), yi 0]) (rest := []) d_M_simple_127 (c_M_end (h := 0) hS ht (by decide)) hS.1 rfl (show yck (yMm m_M_simple) m_M_end 2 = true by decide +kernel) cw_M_end (by decide +kernel) (by decide +kernel) (by decide +kernel) (by decide +kernel) (Nat.le_of_ble_eq_true rfl) (ycat_of rfl) (by decide) (by decide)) (fun r M9 hp => ?_)
  obtain ⟨rfl, rfl⟩ := hp
  refine yr_istore d_M_simple_130 (by decide) rfl ?_
  refine yr_aload_n d_M_simple_132 rfl ?_
  refine yr_iload_n d_M_simple_133 rfl ?_
  refine mr_call (yrunV (X := yNX) (k := 200) (As := [yi (nI o)]) (rest := []) d_M_simple_134 (c_M_pass hS ho hR hRM) hS.1 rfl (show yck (yMm m_M_simple) m_M_pass 1 = true by decide +kernel) cw_M_pass (by decide +kernel) (by decide +kernel) (by decide +kernel) (by decide +kernel) (Nat.le_of_ble_eq_true rfl) (ycat_of rfl) (by decide) (by decide)) (fun r M9 hp => ?_)
  obtain ⟨rfl, hRM9⟩ := hp
  refine yr_iload d_M_simple_137 rfl ?_
  exact yr_reti d_M_simple_139 rfl (by decide) (by decide) ⟨_, rfl, rfl, hRM9⟩

set_option maxHeartbeats 4000000 in
set_option maxRecDepth 20000 in
theorem c_M_simple8 {G : yG} {s : Nat → Option ySh} {F : Nat → Nat → Option Nat} {M : mM} (hS : mSh s F) {t o : Nat} (ht : t < 6) (ho : o < 6) {g : Int32} {R : zS → mM → Prop} (hR : mPass o R) {σ : zS} (hRM : R σ (mEnd (mLess M o) t 0)) : mCT G m_M_simple [yr 200, yi (nI t), yi (nI o), yi 8, yi g] s F M (fun r M' => r = some (yi 0) ∧ R (zset o 7 σ) M') := by
  refine yCT_of (by decide) rfl (ycat_of rfl) (Nat.le_of_ble_eq_true rfl) ?_
  refine yr_iload_n d_M_simple_0 rfl ?_
  refine yr_iconst (v := 1) d_M_simple_1 (by decide) ?_
  refine yr_icmp_eq (tgt := 11) d_M_simple_2 (by decide) (fun c2 => absurd c2 (by decide)) (fun c2 => ?_)
  refine yr_iload_n d_M_simple_5 rfl ?_
  refine yr_bipush (v := 8) d_M_simple_6 (by decide) ?_
  refine yr_icmp_ne (tgt := 16) d_M_simple_8 (by decide) (fun c8 => absurd rfl c8) (fun c8 => ?_)
  refine yr_aload_n d_M_simple_11 rfl ?_
  refine yr_iload_n d_M_simple_12 rfl ?_
  refine mr_call (yrunV (X := yNX) (k := 200) (As := [yi (nI o)]) (rest := []) d_M_simple_13 (c_M_less hS ho) hS.1 rfl (show yck (yMm m_M_simple) m_M_less 1 = true by decide +kernel) cw_M_less (by decide +kernel) (by decide +kernel) (by decide +kernel) (by decide +kernel) (Nat.le_of_ble_eq_true rfl) (ycat_of rfl) (by decide) (by decide)) (fun r M9 hp => ?_)
  obtain ⟨rfl, rfl⟩ := hp
  refine yr_iload_n d_M_simple_16 rfl ?_
  refine yr_iconst (v := 3) d_M_simple_17 (by decide) ?_
  refine yr_icmp_ne (tgt := 29) d_M_simple_18 (by decide) (fun c18 => ?_) (fun c18 => absurd c18 (by decide))
  refine yr_iload_n d_M_simple_29 rfl ?_
  refine yr_iconst (v := 4) d_M_simple_30 (by decide) ?_
  refine yr_icmp_ne (tgt := 43) d_M_simple_31 (by decide) (fun c31 => ?_) (fun c31 => absurd c31 (by decide))
  refine yr_iload_n d_M_simple_43 rfl ?_
  refine yr_bipush (v := 6) d_M_simple_44 (by decide) ?_
  refine yr_icmp_ne (tgt := 64) d_M_simple_46 (by decide) (fun c46 => ?_) (fun c46 => absurd c46 (by decide))
  refine yr_iload_n d_M_simple_64 rfl ?_
  refine yr_bipush (v := 10) d_M_simple_65 (by decide) ?_
  refine yr_icmp_ne (tgt := 81) d_M_simple_67 (by decide) (fun c67 => ?_) (fun c67 => absurd c67 (by decide))
  refine yr_iload_n d_M_simple_81 rfl ?_
  refine yr_bipush (v := 12) d_M_simple_82 (by decide) ?_
  refine yr_icmp_ne (tgt := 106) d_M_simple_84 (by decide) (fun c84 => ?_) (fun c84 => absurd c84 (by decide))
  refine yr_iload_n d_M_simple_106 rfl ?_
  refine yr_bipush (v := 14) d_M_simple_107 (by decide) ?_
  refine yr_icmp_ne (tgt := 124) d_M_simple_109 (by decide) (fun c109 => ?_) (fun c109 => absurd c109 (by decide))
  refine yr_aload_n d_M_simple_124 rfl ?_
  refine yr_iload_n d_M_simple_125 rfl ?_
  refine yr_iconst (v := 0) d_M_simple_126 (by decide) ?_
  refine mr_call (yrunV (X := yNX) (k := 200) (As := [yi (nI t), yi 0]) (rest := []) d_M_simple_127 (c_M_end (h := 0) hS ht (by decide)) hS.1 rfl (show yck (yMm m_M_simple) m_M_end 2 = true by decide +kernel) cw_M_end (by decide +kernel) (by decide +kernel) (by decide +kernel) (by decide +kernel) (Nat.le_of_ble_eq_true rfl) (ycat_of rfl) (by decide) (by decide)) (fun r M9 hp => ?_)
  obtain ⟨rfl, rfl⟩ := hp
  refine yr_istore d_M_simple_130 (by decide) rfl ?_
  refine yr_aload_n d_M_simple_132 rfl ?_
  refine yr_iload_n d_M_simple_133 rfl ?_
  refine mr_call (yrunV (X := yNX) (k := 200) (As := [yi (nI o)]) (rest := []) d_M_simple_134 (c_M_pass hS ho hR hRM) hS.1 rfl (show yck (yMm m_M_simple) m_M_pass 1 = true by decide +kernel) cw_M_pass (by decide +kernel) (by decide +kernel) (by decide +kernel) (by decide +kernel) (Nat.le_of_ble_eq_true rfl) (ycat_of rfl) (by decide) (by decide)) (fun r M9 hp => ?_)
  obtain ⟨rfl, hRM9⟩ := hp
  refine yr_iload d_M_simple_137 rfl ?_
  exact yr_reti d_M_simple_139 rfl (by decide) (by decide) ⟨_, rfl, rfl, hRM9⟩

set_option maxHeartbeats 4000000 in
set_option maxRecDepth 20000 in
theorem c_M_simple3 {G : yG} {s : Nat → Option ySh} {F : Nat → Nat → Option Nat} {M : mM} (hS : mSh s F) {t o : Nat} (ht : t < 6) (ho : o < 6) {j nr : Nat} {lc : List Nat} (hj : j < 2) (hln : lc.length + nr ≤ 6) (hall : ∀ u ∈ lc, u < 6) (hcs : M 218 (o * 2 + j) = nI lc.length) (hrs : M 216 o = nI nr) (hL : mL M 219 ((o * 2 + j) * 6) lc) {R : zS → mM → Prop} (hR : mPass o R) {σ : zS} (hRM : R σ (mEnd (mCallL o (o * 2 + j) 1 lc nr M) t 0)) : mCT G m_M_simple [yr 200, yi (nI t), yi (nI o), yi 3, yi (nI j)] s F M (fun r M' => r = some (yi 0) ∧ R (zset o 7 σ) M') := by
  refine yCT_of (by decide) rfl (ycat_of rfl) (Nat.le_of_ble_eq_true rfl) ?_
  refine yr_iload_n d_M_simple_0 rfl ?_
  refine yr_iconst (v := 1) d_M_simple_1 (by decide) ?_
  refine yr_icmp_eq (tgt := 11) d_M_simple_2 (by decide) (fun c2 => absurd c2 (by decide)) (fun c2 => ?_)
  refine yr_iload_n d_M_simple_5 rfl ?_
  refine yr_bipush (v := 8) d_M_simple_6 (by decide) ?_
  refine yr_icmp_ne (tgt := 16) d_M_simple_8 (by decide) (fun c8 => ?_) (fun c8 => absurd c8 (by decide))
  refine yr_iload_n d_M_simple_16 rfl ?_
  refine yr_iconst (v := 3) d_M_simple_17 (by decide) ?_
  refine yr_icmp_ne (tgt := 29) d_M_simple_18 (by decide) (fun c18 => absurd rfl c18) (fun c18 => ?_)
  refine yr_aload_n d_M_simple_21 rfl ?_
  refine yr_iload_n d_M_simple_22 rfl ?_
  refine yr_iload d_M_simple_23 rfl ?_
  refine yr_iconst (v := 1) d_M_simple_25 (by decide) ?_
  refine mr_call (yrunV (X := yNX) (k := 200) (As := [yi (nI o), yi (nI j), yi 1]) (rest := []) d_M_simple_26 (c_M_call (w := 1) hS ho hj (by omega) hln hall hcs hrs hL) hS.1 rfl (show yck (yMm m_M_simple) m_M_call 3 = true by decide +kernel) cw_M_call (by decide +kernel) (by decide +kernel) (by decide +kernel) (by decide +kernel) (Nat.le_of_ble_eq_true rfl) (ycat_of rfl) (by decide) (by decide)) (fun r M9 hp => ?_)
  obtain ⟨rfl, rfl⟩ := hp
  refine yr_iload_n d_M_simple_29 rfl ?_
  refine yr_iconst (v := 4) d_M_simple_30 (by decide) ?_
  refine yr_icmp_ne (tgt := 43) d_M_simple_31 (by decide) (fun c31 => ?_) (fun c31 => absurd c31 (by decide))
  refine yr_iload_n d_M_simple_43 rfl ?_
  refine yr_bipush (v := 6) d_M_simple_44 (by decide) ?_
  refine yr_icmp_ne (tgt := 64) d_M_simple_46 (by decide) (fun c46 => ?_) (fun c46 => absurd c46 (by decide))
  refine yr_iload_n d_M_simple_64 rfl ?_
  refine yr_bipush (v := 10) d_M_simple_65 (by decide) ?_
  refine yr_icmp_ne (tgt := 81) d_M_simple_67 (by decide) (fun c67 => ?_) (fun c67 => absurd c67 (by decide))
  refine yr_iload_n d_M_simple_81 rfl ?_
  refine yr_bipush (v := 12) d_M_simple_82 (by decide) ?_
  refine yr_icmp_ne (tgt := 106) d_M_simple_84 (by decide) (fun c84 => ?_) (fun c84 => absurd c84 (by decide))
  refine yr_iload_n d_M_simple_106 rfl ?_
  refine yr_bipush (v := 14) d_M_simple_107 (by decide) ?_
  refine yr_icmp_ne (tgt := 124) d_M_simple_109 (by decide) (fun c109 => ?_) (fun c109 => absurd c109 (by decide))
  refine yr_aload_n d_M_simple_124 rfl ?_
  refine yr_iload_n d_M_simple_125 rfl ?_
  refine yr_iconst (v := 0) d_M_simple_126 (by decide) ?_
  refine mr_call (yrunV (X := yNX) (k := 200) (As := [yi (nI t), yi 0]) (rest := []) d_M_simple_127 (c_M_end (h := 0) hS ht (by decide)) hS.1 rfl (show yck (yMm m_M_simple) m_M_end 2 = true by decide +kernel) cw_M_end (by decide +kernel) (by decide +kernel) (by decide +kernel) (by decide +kernel) (Nat.le_of_ble_eq_true rfl) (ycat_of rfl) (by decide) (by decide)) (fun r M9 hp => ?_)
  obtain ⟨rfl, rfl⟩ := hp
  refine yr_istore d_M_simple_130 (by decide) rfl ?_
  refine yr_aload_n d_M_simple_132 rfl ?_
  refine yr_iload_n d_M_simple_133 rfl ?_
  refine mr_call (yrunV (X := yNX) (k := 200) (As := [yi (nI o)]) (rest := []) d_M_simple_134 (c_M_pass hS ho hR hRM) hS.1 rfl (show yck (yMm m_M_simple) m_M_pass 1 = true by decide +kernel) cw_M_pass (by decide +kernel) (by decide +kernel) (by decide +kernel) (by decide +kernel) (Nat.le_of_ble_eq_true rfl) (ycat_of rfl) (by decide) (by decide)) (fun r M9 hp => ?_)
  obtain ⟨rfl, hRM9⟩ := hp
  refine yr_iload d_M_simple_137 rfl ?_
  exact yr_reti d_M_simple_139 rfl (by decide) (by decide) ⟨_, rfl, rfl, hRM9⟩

set_option maxHeartbeats 4000000 in
set_option maxRecDepth 20000 in
theorem c_M_simple4 {G : yG} {s : Nat → Option ySh} {F : Nat → Nat → Option Nat} {M : mM} (hS : mSh s F) {t o : Nat} (ht : t < 6) (ho : o < 6) {j nr : Nat} {lc : List Nat} (hj : j < 2) (hln : lc.length + nr ≤ 6) (hall : ∀ u ∈ lc, u < 6) (hcs : M 218 (o * 2 + j) = nI lc.length) (hrs : M 216 o = nI nr) (hL : mL M 219 ((o * 2 + j) * 6) lc) {R : zS → mM → Prop} (hR : mPass o R) {σ : zS} (hRM : R σ (mEnd (mCallL o (o * 2 + j) 6 lc nr M) t 0)) : mCT G m_M_simple [yr 200, yi (nI t), yi (nI o), yi 4, yi (nI j)] s F M (fun r M' => r = some (yi 0) ∧ R (zset o 7 σ) M') := by
  refine yCT_of (by decide) rfl (ycat_of rfl) (Nat.le_of_ble_eq_true rfl) ?_
  refine yr_iload_n d_M_simple_0 rfl ?_
  refine yr_iconst (v := 1) d_M_simple_1 (by decide) ?_
  refine yr_icmp_eq (tgt := 11) d_M_simple_2 (by decide) (fun c2 => absurd c2 (by decide)) (fun c2 => ?_)
  refine yr_iload_n d_M_simple_5 rfl ?_
  refine yr_bipush (v := 8) d_M_simple_6 (by decide) ?_
  refine yr_icmp_ne (tgt := 16) d_M_simple_8 (by decide) (fun c8 => ?_) (fun c8 => absurd c8 (by decide))
  refine yr_iload_n d_M_simple_16 rfl ?_
  refine yr_iconst (v := 3) d_M_simple_17 (by decide) ?_
  refine yr_icmp_ne (tgt := 29) d_M_simple_18 (by decide) (fun c18 => ?_) (fun c18 => absurd c18 (by decide))
  refine yr_iload_n d_M_simple_29 rfl ?_
  refine yr_iconst (v := 4) d_M_simple_30 (by decide) ?_
  refine yr_icmp_ne (tgt := 43) d_M_simple_31 (by decide) (fun c31 => absurd rfl c31) (fun c31 => ?_)
  refine yr_aload_n d_M_simple_34 rfl ?_
  refine yr_iload_n d_M_simple_35 rfl ?_
  refine yr_iload d_M_simple_36 rfl ?_
  refine yr_bipush (v := 6) d_M_simple_38 (by decide) ?_
  refine mr_call (yrunV (X := yNX) (k := 200) (As := [yi (nI o), yi (nI j), yi 6]) (rest := []) d_M_simple_40 (c_M_call (w := 6) hS ho hj (by omega) hln hall hcs hrs hL) hS.1 rfl (show yck (yMm m_M_simple) m_M_call 3 = true by decide +kernel) cw_M_call (by decide +kernel) (by decide +kernel) (by decide +kernel) (by decide +kernel) (Nat.le_of_ble_eq_true rfl) (ycat_of rfl) (by decide) (by decide)) (fun r M9 hp => ?_)
  obtain ⟨rfl, rfl⟩ := hp
  refine yr_iload_n d_M_simple_43 rfl ?_
  refine yr_bipush (v := 6) d_M_simple_44 (by decide) ?_
  refine yr_icmp_ne (tgt := 64) d_M_simple_46 (by decide) (fun c46 => ?_) (fun c46 => absurd c46 (by decide))
  refine yr_iload_n d_M_simple_64 rfl ?_
  refine yr_bipush (v := 10) d_M_simple_65 (by decide) ?_
  refine yr_icmp_ne (tgt := 81) d_M_simple_67 (by decide) (fun c67 => ?_) (fun c67 => absurd c67 (by decide))
  refine yr_iload_n d_M_simple_81 rfl ?_
  refine yr_bipush (v := 12) d_M_simple_82 (by decide) ?_
  refine yr_icmp_ne (tgt := 106) d_M_simple_84 (by decide) (fun c84 => ?_) (fun c84 => absurd c84 (by decide))
  refine yr_iload_n d_M_simple_106 rfl ?_
  refine yr_bipush (v := 14) d_M_simple_107 (by decide) ?_
  refine yr_icmp_ne (tgt := 124) d_M_simple_109 (by decide) (fun c109 => ?_) (fun c109 => absurd c109 (by decide))
  refine yr_aload_n d_M_simple_124 rfl ?_
  refine yr_iload_n d_M_simple_125 rfl ?_
  refine yr_iconst (v := 0) d_M_simple_126 (by decide) ?_
  refine mr_call (yrunV (X := yNX) (k := 200) (As := [yi (nI t), yi 0]) (rest := []) d_M_simple_127 (c_M_end (h := 0) hS ht (by decide)) hS.1 rfl (show yck (yMm m_M_simple) m_M_end 2 = true by decide +kernel) cw_M_end (by decide +kernel) (by decide +kernel) (by decide +kernel) (by decide +kernel) (Nat.le_of_ble_eq_true rfl) (ycat_of rfl) (by decide) (by decide)) (fun r M9 hp => ?_)
  obtain ⟨rfl, rfl⟩ := hp
  refine yr_istore d_M_simple_130 (by decide) rfl ?_
  refine yr_aload_n d_M_simple_132 rfl ?_
  refine yr_iload_n d_M_simple_133 rfl ?_
  refine mr_call (yrunV (X := yNX) (k := 200) (As := [yi (nI o)]) (rest := []) d_M_simple_134 (c_M_pass hS ho hR hRM) hS.1 rfl (show yck (yMm m_M_simple) m_M_pass 1 = true by decide +kernel) cw_M_pass (by decide +kernel) (by decide +kernel) (by decide +kernel) (by decide +kernel) (Nat.le_of_ble_eq_true rfl) (ycat_of rfl) (by decide) (by decide)) (fun r M9 hp => ?_)
  obtain ⟨rfl, hRM9⟩ := hp
  refine yr_iload d_M_simple_137 rfl ?_
  exact yr_reti d_M_simple_139 rfl (by decide) (by decide) ⟨_, rfl, rfl, hRM9⟩

set_option maxHeartbeats 4000000 in
set_option maxRecDepth 20000 in
theorem c_M_simple6 {G : yG} {s : Nat → Option ySh} {F : Nat → Nat → Option Nat} {M : mM} (hS : mSh s F) {t o : Nat} (ht : t < 6) (ho : o < 6) {g : Int32} {R : zS → mM → Prop} (hR : mPass o R) {σ : zS} (hRM : R σ (mEnd (yu M 220 (o * 6 + t) (M 220 (o * 6 + t) - 1)) t 0)) : mCT G m_M_simple [yr 200, yi (nI t), yi (nI o), yi 6, yi g] s F M (fun r M' => r = some (yi 0) ∧ R (zset o 7 σ) M') := by
  refine yCT_of (by decide) rfl (ycat_of rfl) (Nat.le_of_ble_eq_true rfl) ?_
  refine yr_iload_n d_M_simple_0 rfl ?_
  refine yr_iconst (v := 1) d_M_simple_1 (by decide) ?_
  refine yr_icmp_eq (tgt := 11) d_M_simple_2 (by decide) (fun c2 => absurd c2 (by decide)) (fun c2 => ?_)
  refine yr_iload_n d_M_simple_5 rfl ?_
  refine yr_bipush (v := 8) d_M_simple_6 (by decide) ?_
  refine yr_icmp_ne (tgt := 16) d_M_simple_8 (by decide) (fun c8 => ?_) (fun c8 => absurd c8 (by decide))
  refine yr_iload_n d_M_simple_16 rfl ?_
  refine yr_iconst (v := 3) d_M_simple_17 (by decide) ?_
  refine yr_icmp_ne (tgt := 29) d_M_simple_18 (by decide) (fun c18 => ?_) (fun c18 => absurd c18 (by decide))
  refine yr_iload_n d_M_simple_29 rfl ?_
  refine yr_iconst (v := 4) d_M_simple_30 (by decide) ?_
  refine yr_icmp_ne (tgt := 43) d_M_simple_31 (by decide) (fun c31 => ?_) (fun c31 => absurd c31 (by decide))
  refine yr_iload_n d_M_simple_43 rfl ?_
  refine yr_bipush (v := 6) d_M_simple_44 (by decide) ?_
  refine yr_icmp_ne (tgt := 64) d_M_simple_46 (by decide) (fun c46 => absurd rfl c46) (fun c46 => ?_)
  refine yr_aload_n d_M_simple_49 rfl ?_
  refine mr_arr (a := 19) (K := 220) hS d_M_simple_50 sf_M_simple_50 rfl (by decide) rfl ?_
  refine yr_iload_n d_M_simple_53 rfl ?_
  refine yr_bipush (v := 6) d_M_simple_54 (by decide) ?_
  refine yr_imul d_M_simple_56 ?_
  refine yr_iload_n d_M_simple_57 rfl ?_
  refine yr_iadd d_M_simple_58 ?_
  refine yr_dup2 d_M_simple_59 (fun _ => rfl) (fun _ => rfl) ?_
  refine mr_ld (a := 19) (K := 220) (n := 36) (j := ((o * 6) + t)) hS d_M_simple_60 (by decide) rfl rfl rfl (by simp only [nI0, nI1, nI2, nI3, nI4, nI6, nI_mulN, nI_add]) (by omega) ?_
  refine yr_iconst (v := 1) d_M_simple_61 (by decide) ?_
  refine yr_isub d_M_simple_62 ?_
  refine mr_st (a := 19) (K := 220) (n := 36) (j := ((o * 6) + t)) hS d_M_simple_63 (by decide) rfl rfl rfl (by simp only [nI0, nI1, nI2, nI3, nI4, nI6, nI_mulN, nI_add]) (by omega) ?_
  refine yr_iload_n d_M_simple_64 rfl ?_
  refine yr_bipush (v := 10) d_M_simple_65 (by decide) ?_
  refine yr_icmp_ne (tgt := 81) d_M_simple_67 (by decide) (fun c67 => ?_) (fun c67 => absurd c67 (by decide))
  refine yr_iload_n d_M_simple_81 rfl ?_
  refine yr_bipush (v := 12) d_M_simple_82 (by decide) ?_
  refine yr_icmp_ne (tgt := 106) d_M_simple_84 (by decide) (fun c84 => ?_) (fun c84 => absurd c84 (by decide))
  refine yr_iload_n d_M_simple_106 rfl ?_
  refine yr_bipush (v := 14) d_M_simple_107 (by decide) ?_
  refine yr_icmp_ne (tgt := 124) d_M_simple_109 (by decide) (fun c109 => ?_) (fun c109 => absurd c109 (by decide))
  refine yr_aload_n d_M_simple_124 rfl ?_
  refine yr_iload_n d_M_simple_125 rfl ?_
  refine yr_iconst (v := 0) d_M_simple_126 (by decide) ?_
  refine mr_call (yrunV (X := yNX) (k := 200) (As := [yi (nI t), yi 0]) (rest := []) d_M_simple_127 (c_M_end (h := 0) hS ht (by decide)) hS.1 rfl (show yck (yMm m_M_simple) m_M_end 2 = true by decide +kernel) cw_M_end (by decide +kernel) (by decide +kernel) (by decide +kernel) (by decide +kernel) (Nat.le_of_ble_eq_true rfl) (ycat_of rfl) (by decide) (by decide)) (fun r M9 hp => ?_)
  obtain ⟨rfl, rfl⟩ := hp
  refine yr_istore d_M_simple_130 (by decide) rfl ?_
  refine yr_aload_n d_M_simple_132 rfl ?_
  refine yr_iload_n d_M_simple_133 rfl ?_
  refine mr_call (yrunV (X := yNX) (k := 200) (As := [yi (nI o)]) (rest := []) d_M_simple_134 (c_M_pass hS ho hR hRM) hS.1 rfl (show yck (yMm m_M_simple) m_M_pass 1 = true by decide +kernel) cw_M_pass (by decide +kernel) (by decide +kernel) (by decide +kernel) (by decide +kernel) (Nat.le_of_ble_eq_true rfl) (ycat_of rfl) (by decide) (by decide)) (fun r M9 hp => ?_)
  obtain ⟨rfl, hRM9⟩ := hp
  refine yr_iload d_M_simple_137 rfl ?_
  exact yr_reti d_M_simple_139 rfl (by decide) (by decide) ⟨_, rfl, rfl, hRM9⟩

set_option maxHeartbeats 4000000 in
set_option maxRecDepth 20000 in
theorem c_M_simple10 {G : yG} {s : Nat → Option ySh} {F : Nat → Nat → Option Nat} {M : mM} (hS : mSh s F) {t o : Nat} (ht : t < 6) (ho : o < 6) {g : Int32} {R : zS → mM → Prop} (hR : mPass o R) {σ : zS} (hRM : R σ (mEnd (yu M 214 o (M 214 o + g)) t 0)) : mCT G m_M_simple [yr 200, yi (nI t), yi (nI o), yi 10, yi g] s F M (fun r M' => r = some (yi 0) ∧ R (zset o 7 σ) M') := by
  refine yCT_of (by decide) rfl (ycat_of rfl) (Nat.le_of_ble_eq_true rfl) ?_
  refine yr_iload_n d_M_simple_0 rfl ?_
  refine yr_iconst (v := 1) d_M_simple_1 (by decide) ?_
  refine yr_icmp_eq (tgt := 11) d_M_simple_2 (by decide) (fun c2 => absurd c2 (by decide)) (fun c2 => ?_)
  refine yr_iload_n d_M_simple_5 rfl ?_
  refine yr_bipush (v := 8) d_M_simple_6 (by decide) ?_
  refine yr_icmp_ne (tgt := 16) d_M_simple_8 (by decide) (fun c8 => ?_) (fun c8 => absurd c8 (by decide))
  refine yr_iload_n d_M_simple_16 rfl ?_
  refine yr_iconst (v := 3) d_M_simple_17 (by decide) ?_
  refine yr_icmp_ne (tgt := 29) d_M_simple_18 (by decide) (fun c18 => ?_) (fun c18 => absurd c18 (by decide))
  refine yr_iload_n d_M_simple_29 rfl ?_
  refine yr_iconst (v := 4) d_M_simple_30 (by decide) ?_
  refine yr_icmp_ne (tgt := 43) d_M_simple_31 (by decide) (fun c31 => ?_) (fun c31 => absurd c31 (by decide))
  refine yr_iload_n d_M_simple_43 rfl ?_
  refine yr_bipush (v := 6) d_M_simple_44 (by decide) ?_
  refine yr_icmp_ne (tgt := 64) d_M_simple_46 (by decide) (fun c46 => ?_) (fun c46 => absurd c46 (by decide))
  refine yr_iload_n d_M_simple_64 rfl ?_
  refine yr_bipush (v := 10) d_M_simple_65 (by decide) ?_
  refine yr_icmp_ne (tgt := 81) d_M_simple_67 (by decide) (fun c67 => absurd rfl c67) (fun c67 => ?_)
  refine yr_aload_n d_M_simple_70 rfl ?_
  refine mr_arr (a := 13) (K := 214) hS d_M_simple_71 sf_M_simple_71 rfl (by decide) rfl ?_
  refine yr_iload_n d_M_simple_74 rfl ?_
  refine yr_dup2 d_M_simple_75 (fun _ => rfl) (fun _ => rfl) ?_
  refine mr_ld (a := 13) (K := 214) (n := 6) (j := o) hS d_M_simple_76 (by decide) rfl rfl rfl (by simp only [nI0, nI1, nI2, nI3, nI4, nI6, nI_mulN, nI_add]) (by omega) ?_
  refine yr_iload d_M_simple_77 rfl ?_
  refine yr_iadd d_M_simple_79 ?_
  refine mr_st (a := 13) (K := 214) (n := 6) (j := o) hS d_M_simple_80 (by decide) rfl rfl rfl (by simp only [nI0, nI1, nI2, nI3, nI4, nI6, nI_mulN, nI_add]) (by omega) ?_
  refine yr_iload_n d_M_simple_81 rfl ?_
  refine yr_bipush (v := 12) d_M_simple_82 (by decide) ?_
  refine yr_icmp_ne (tgt := 106) d_M_simple_84 (by decide) (fun c84 => ?_) (fun c84 => absurd c84 (by decide))
  refine yr_iload_n d_M_simple_106 rfl ?_
  refine yr_bipush (v := 14) d_M_simple_107 (by decide) ?_
  refine yr_icmp_ne (tgt := 124) d_M_simple_109 (by decide) (fun c109 => ?_) (fun c109 => absurd c109 (by decide))
  refine yr_aload_n d_M_simple_124 rfl ?_
  refine yr_iload_n d_M_simple_125 rfl ?_
  refine yr_iconst (v := 0) d_M_simple_126 (by decide) ?_
  refine mr_call (yrunV (X := yNX) (k := 200) (As := [yi (nI t), yi 0]) (rest := []) d_M_simple_127 (c_M_end (h := 0) hS ht (by decide)) hS.1 rfl (show yck (yMm m_M_simple) m_M_end 2 = true by decide +kernel) cw_M_end (by decide +kernel) (by decide +kernel) (by decide +kernel) (by decide +kernel) (Nat.le_of_ble_eq_true rfl) (ycat_of rfl) (by decide) (by decide)) (fun r M9 hp => ?_)
  obtain ⟨rfl, rfl⟩ := hp
  refine yr_istore d_M_simple_130 (by decide) rfl ?_
  refine yr_aload_n d_M_simple_132 rfl ?_
  refine yr_iload_n d_M_simple_133 rfl ?_
  refine mr_call (yrunV (X := yNX) (k := 200) (As := [yi (nI o)]) (rest := []) d_M_simple_134 (c_M_pass hS ho hR hRM) hS.1 rfl (show yck (yMm m_M_simple) m_M_pass 1 = true by decide +kernel) cw_M_pass (by decide +kernel) (by decide +kernel) (by decide +kernel) (by decide +kernel) (Nat.le_of_ble_eq_true rfl) (ycat_of rfl) (by decide) (by decide)) (fun r M9 hp => ?_)
  obtain ⟨rfl, hRM9⟩ := hp
  refine yr_iload d_M_simple_137 rfl ?_
  exact yr_reti d_M_simple_139 rfl (by decide) (by decide) ⟨_, rfl, rfl, hRM9⟩

set_option maxHeartbeats 4000000 in
set_option maxRecDepth 20000 in
theorem c_M_simple12 {G : yG} {s : Nat → Option ySh} {F : Nat → Nat → Option Nat} {M : mM} (hS : mSh s F) {t o : Nat} (ht : t < 6) (ho : o < 6) {g : Int32} {R : zS → mM → Prop} (hR : mPass o R) {σ : zS} (hRM : R σ (mEnd (mDown M o) t 0)) : mCT G m_M_simple [yr 200, yi (nI t), yi (nI o), yi 12, yi g] s F M (fun r M' => r = some (yi 0) ∧ R (zset o 7 σ) M') := by
  refine yCT_of (by decide) rfl (ycat_of rfl) (Nat.le_of_ble_eq_true rfl) ?_
  refine yr_iload_n d_M_simple_0 rfl ?_
  refine yr_iconst (v := 1) d_M_simple_1 (by decide) ?_
  refine yr_icmp_eq (tgt := 11) d_M_simple_2 (by decide) (fun c2 => absurd c2 (by decide)) (fun c2 => ?_)
  refine yr_iload_n d_M_simple_5 rfl ?_
  refine yr_bipush (v := 8) d_M_simple_6 (by decide) ?_
  refine yr_icmp_ne (tgt := 16) d_M_simple_8 (by decide) (fun c8 => ?_) (fun c8 => absurd c8 (by decide))
  refine yr_iload_n d_M_simple_16 rfl ?_
  refine yr_iconst (v := 3) d_M_simple_17 (by decide) ?_
  refine yr_icmp_ne (tgt := 29) d_M_simple_18 (by decide) (fun c18 => ?_) (fun c18 => absurd c18 (by decide))
  refine yr_iload_n d_M_simple_29 rfl ?_
  refine yr_iconst (v := 4) d_M_simple_30 (by decide) ?_
  refine yr_icmp_ne (tgt := 43) d_M_simple_31 (by decide) (fun c31 => ?_) (fun c31 => absurd c31 (by decide))
  refine yr_iload_n d_M_simple_43 rfl ?_
  refine yr_bipush (v := 6) d_M_simple_44 (by decide) ?_
  refine yr_icmp_ne (tgt := 64) d_M_simple_46 (by decide) (fun c46 => ?_) (fun c46 => absurd c46 (by decide))
  refine yr_iload_n d_M_simple_64 rfl ?_
  refine yr_bipush (v := 10) d_M_simple_65 (by decide) ?_
  refine yr_icmp_ne (tgt := 81) d_M_simple_67 (by decide) (fun c67 => ?_) (fun c67 => absurd c67 (by decide))
  refine yr_iload_n d_M_simple_81 rfl ?_
  refine yr_bipush (v := 12) d_M_simple_82 (by decide) ?_
  refine yr_icmp_ne (tgt := 106) d_M_simple_84 (by decide) (fun c84 => absurd rfl c84) (fun c84 => ?_)
  refine yr_aload_n d_M_simple_87 rfl ?_
  refine mr_arr (a := 13) (K := 214) hS d_M_simple_88 sf_M_simple_88 rfl (by decide) rfl ?_
  refine yr_iload_n d_M_simple_91 rfl ?_
  refine mr_ld (a := 13) (K := 214) (n := 6) (j := o) hS d_M_simple_92 (by decide) rfl rfl rfl (by simp only [nI0, nI1, nI2, nI3, nI4, nI6, nI_mulN, nI_add]) (by omega) ?_
  refine yr_if_le (tgt := 106) d_M_simple_93 (by decide) (fun c93 => ?_) (fun c93 => ?_)
  · rw [show mDown M o = M from if_pos c93] at hRM
    refine yr_iload_n d_M_simple_106 rfl ?_
    refine yr_bipush (v := 14) d_M_simple_107 (by decide) ?_
    refine yr_icmp_ne (tgt := 124) d_M_simple_109 (by decide) (fun c109 => ?_) (fun c109 => absurd c109 (by decide))
    refine yr_aload_n d_M_simple_124 rfl ?_
    refine yr_iload_n d_M_simple_125 rfl ?_
    refine yr_iconst (v := 0) d_M_simple_126 (by decide) ?_
    refine mr_call (yrunV (X := yNX) (k := 200) (As := [yi (nI t), yi 0]) (rest := []) d_M_simple_127 (c_M_end (h := 0) hS ht (by decide)) hS.1 rfl (show yck (yMm m_M_simple) m_M_end 2 = true by decide +kernel) cw_M_end (by decide +kernel) (by decide +kernel) (by decide +kernel) (by decide +kernel) (Nat.le_of_ble_eq_true rfl) (ycat_of rfl) (by decide) (by decide)) (fun r M9 hp => ?_)
    obtain ⟨rfl, rfl⟩ := hp
    refine yr_istore d_M_simple_130 (by decide) rfl ?_
    refine yr_aload_n d_M_simple_132 rfl ?_
    refine yr_iload_n d_M_simple_133 rfl ?_
    refine mr_call (yrunV (X := yNX) (k := 200) (As := [yi (nI o)]) (rest := []) d_M_simple_134 (c_M_pass hS ho hR hRM) hS.1 rfl (show yck (yMm m_M_simple) m_M_pass 1 = true by decide +kernel) cw_M_pass (by decide +kernel) (by decide +kernel) (by decide +kernel) (by decide +kernel) (Nat.le_of_ble_eq_true rfl) (ycat_of rfl) (by decide) (by decide)) (fun r M9 hp => ?_)
    obtain ⟨rfl, hRM9⟩ := hp
    refine yr_iload d_M_simple_137 rfl ?_
    exact yr_reti d_M_simple_139 rfl (by decide) (by decide) ⟨_, rfl, rfl, hRM9⟩
  · rw [show mDown M o = yu M 214 o (M 214 o - 1) from if_neg c93] at hRM
    refine yr_aload_n d_M_simple_96 rfl ?_
    refine mr_arr (a := 13) (K := 214) hS d_M_simple_97 sf_M_simple_97 rfl (by decide) rfl ?_
    refine yr_iload_n d_M_simple_100 rfl ?_
    refine yr_dup2 d_M_simple_101 (fun _ => rfl) (fun _ => rfl) ?_
    refine mr_ld (a := 13) (K := 214) (n := 6) (j := o) hS d_M_simple_102 (by decide) rfl rfl rfl (by simp only [nI0, nI1, nI2, nI3, nI4, nI6, nI_mulN, nI_add]) (by omega) ?_
    refine yr_iconst (v := 1) d_M_simple_103 (by decide) ?_
    refine yr_isub d_M_simple_104 ?_
    refine mr_st (a := 13) (K := 214) (n := 6) (j := o) hS d_M_simple_105 (by decide) rfl rfl rfl (by simp only [nI0, nI1, nI2, nI3, nI4, nI6, nI_mulN, nI_add]) (by omega) ?_
    refine yr_iload_n d_M_simple_106 rfl ?_
    refine yr_bipush (v := 14) d_M_simple_107 (by decide) ?_
    refine yr_icmp_ne (tgt := 124) d_M_simple_109 (by decide) (fun c109 => ?_) (fun c109 => absurd c109 (by decide))
    refine yr_aload_n d_M_simple_124 rfl ?_
    refine yr_iload_n d_M_simple_125 rfl ?_
    refine yr_iconst (v := 0) d_M_simple_126 (by decide) ?_
    refine mr_call (yrunV (X := yNX) (k := 200) (As := [yi (nI t), yi 0]) (rest := []) d_M_simple_127 (c_M_end (h := 0) hS ht (by decide)) hS.1 rfl (show yck (yMm m_M_simple) m_M_end 2 = true by decide +kernel) cw_M_end (by decide +kernel) (by decide +kernel) (by decide +kernel) (by decide +kernel) (Nat.le_of_ble_eq_true rfl) (ycat_of rfl) (by decide) (by decide)) (fun r M9 hp => ?_)
    obtain ⟨rfl, rfl⟩ := hp
    refine yr_istore d_M_simple_130 (by decide) rfl ?_
    refine yr_aload_n d_M_simple_132 rfl ?_
    refine yr_iload_n d_M_simple_133 rfl ?_
    refine mr_call (yrunV (X := yNX) (k := 200) (As := [yi (nI o)]) (rest := []) d_M_simple_134 (c_M_pass hS ho hR hRM) hS.1 rfl (show yck (yMm m_M_simple) m_M_pass 1 = true by decide +kernel) cw_M_pass (by decide +kernel) (by decide +kernel) (by decide +kernel) (by decide +kernel) (Nat.le_of_ble_eq_true rfl) (ycat_of rfl) (by decide) (by decide)) (fun r M9 hp => ?_)
    obtain ⟨rfl, hRM9⟩ := hp
    refine yr_iload d_M_simple_137 rfl ?_
    exact yr_reti d_M_simple_139 rfl (by decide) (by decide) ⟨_, rfl, rfl, hRM9⟩

set_option maxHeartbeats 4000000 in
set_option maxRecDepth 20000 in
theorem c_M_simple14 {G : yG} {s : Nat → Option ySh} {F : Nat → Nat → Option Nat} {M : mM} (hS : mSh s F) {t o : Nat} (ht : t < 6) (ho : o < 6) {g : Int32} {l : List Nat} (hl6 : l.length ≤ 6) (hls : M 216 o = nI l.length) (hr : mL M 217 (o * 6) l) (hall : ∀ u ∈ l, u < 6) {R : zS → mM → Prop} (hR : mPass o R) {σ : zS} (hRM : R σ (mEnd (yu (mBrk M o l 3) 223 o 0) t 0)) : mCT G m_M_simple [yr 200, yi (nI t), yi (nI o), yi 14, yi g] s F M (fun r M' => r = some (yi 0) ∧ R (zset o 7 σ) M') := by
  refine yCT_of (by decide) rfl (ycat_of rfl) (Nat.le_of_ble_eq_true rfl) ?_
  refine yr_iload_n d_M_simple_0 rfl ?_
  refine yr_iconst (v := 1) d_M_simple_1 (by decide) ?_
  refine yr_icmp_eq (tgt := 11) d_M_simple_2 (by decide) (fun c2 => absurd c2 (by decide)) (fun c2 => ?_)
  refine yr_iload_n d_M_simple_5 rfl ?_
  refine yr_bipush (v := 8) d_M_simple_6 (by decide) ?_
  refine yr_icmp_ne (tgt := 16) d_M_simple_8 (by decide) (fun c8 => ?_) (fun c8 => absurd c8 (by decide))
  refine yr_iload_n d_M_simple_16 rfl ?_
  refine yr_iconst (v := 3) d_M_simple_17 (by decide) ?_
  refine yr_icmp_ne (tgt := 29) d_M_simple_18 (by decide) (fun c18 => ?_) (fun c18 => absurd c18 (by decide))
  refine yr_iload_n d_M_simple_29 rfl ?_
  refine yr_iconst (v := 4) d_M_simple_30 (by decide) ?_
  refine yr_icmp_ne (tgt := 43) d_M_simple_31 (by decide) (fun c31 => ?_) (fun c31 => absurd c31 (by decide))
  refine yr_iload_n d_M_simple_43 rfl ?_
  refine yr_bipush (v := 6) d_M_simple_44 (by decide) ?_
  refine yr_icmp_ne (tgt := 64) d_M_simple_46 (by decide) (fun c46 => ?_) (fun c46 => absurd c46 (by decide))
  refine yr_iload_n d_M_simple_64 rfl ?_
  refine yr_bipush (v := 10) d_M_simple_65 (by decide) ?_
  refine yr_icmp_ne (tgt := 81) d_M_simple_67 (by decide) (fun c67 => ?_) (fun c67 => absurd c67 (by decide))
  refine yr_iload_n d_M_simple_81 rfl ?_
  refine yr_bipush (v := 12) d_M_simple_82 (by decide) ?_
  refine yr_icmp_ne (tgt := 106) d_M_simple_84 (by decide) (fun c84 => ?_) (fun c84 => absurd c84 (by decide))
  refine yr_iload_n d_M_simple_106 rfl ?_
  refine yr_bipush (v := 14) d_M_simple_107 (by decide) ?_
  refine yr_icmp_ne (tgt := 124) d_M_simple_109 (by decide) (fun c109 => absurd rfl c109) (fun c109 => ?_)
  refine yr_aload_n d_M_simple_112 rfl ?_
  refine yr_iload_n d_M_simple_113 rfl ?_
  refine mr_call (yrunV (X := yNX) (k := 200) (As := [yi (nI o)]) (rest := []) d_M_simple_114 (c_M_breakAll hS ho hl6 hls hr hall) hS.1 rfl (show yck (yMm m_M_simple) m_M_breakAll 1 = true by decide +kernel) cw_M_breakAll (by decide +kernel) (by decide +kernel) (by decide +kernel) (by decide +kernel) (Nat.le_of_ble_eq_true rfl) (ycat_of rfl) (by decide) (by decide)) (fun r M9 hp => ?_)
  obtain ⟨rfl, rfl⟩ := hp
  refine yr_aload_n d_M_simple_117 rfl ?_
  refine mr_arr (a := 22) (K := 223) hS d_M_simple_118 sf_M_simple_118 rfl (by decide) rfl ?_
  refine yr_iload_n d_M_simple_121 rfl ?_
  refine yr_iconst (v := 0) d_M_simple_122 (by decide) ?_
  refine mr_stz (a := 22) (K := 223) (n := 6) (j := o) hS d_M_simple_123 (by decide) rfl rfl rfl (by simp only [nI0, nI1, nI2, nI3, nI4, nI6, nI_mulN, nI_add]) (by omega) rfl ?_
  refine yr_aload_n d_M_simple_124 rfl ?_
  refine yr_iload_n d_M_simple_125 rfl ?_
  refine yr_iconst (v := 0) d_M_simple_126 (by decide) ?_
  refine mr_call (yrunV (X := yNX) (k := 200) (As := [yi (nI t), yi 0]) (rest := []) d_M_simple_127 (c_M_end (h := 0) hS ht (by decide)) hS.1 rfl (show yck (yMm m_M_simple) m_M_end 2 = true by decide +kernel) cw_M_end (by decide +kernel) (by decide +kernel) (by decide +kernel) (by decide +kernel) (Nat.le_of_ble_eq_true rfl) (ycat_of rfl) (by decide) (by decide)) (fun r M9 hp => ?_)
  obtain ⟨rfl, rfl⟩ := hp
  refine yr_istore d_M_simple_130 (by decide) rfl ?_
  refine yr_aload_n d_M_simple_132 rfl ?_
  refine yr_iload_n d_M_simple_133 rfl ?_
  refine mr_call (yrunV (X := yNX) (k := 200) (As := [yi (nI o)]) (rest := []) d_M_simple_134 (c_M_pass hS ho hR hRM) hS.1 rfl (show yck (yMm m_M_simple) m_M_pass 1 = true by decide +kernel) cw_M_pass (by decide +kernel) (by decide +kernel) (by decide +kernel) (by decide +kernel) (Nat.le_of_ble_eq_true rfl) (ycat_of rfl) (by decide) (by decide)) (fun r M9 hp => ?_)
  obtain ⟨rfl, hRM9⟩ := hp
  refine yr_iload d_M_simple_137 rfl ?_
  exact yr_reti d_M_simple_139 rfl (by decide) (by decide) ⟨_, rfl, rfl, hRM9⟩

def mBeg (M : mM) (t : Nat) (a g : Int32) : mM := yu (yu (yu M 206 t a) 207 t g) 211 t 0
def mOwn (M : mM) (t o : Nat) : Bool := decide ((M 212 o = 0 ∨ M 212 o = 1) ∧ M 215 o = nI t)
theorem mBeg_keep {M : mM} {t K j : Nat} {a g : Int32} (h1 : K ≠ 206) (h2 : K ≠ 207) (h3 : K ≠ 211) : mBeg M t a g K j = M K j := by
  unfold mBeg
  rw [yu_ne _ _ (Or.inl h3), yu_ne _ _ (Or.inl h2), yu_ne _ _ (Or.inl h1)]

set_option maxHeartbeats 4000000 in
set_option maxRecDepth 20000 in
theorem c_M_act_351 {G : yG} {s : Nat → Option ySh} {F : Nat → Nat → Option Nat} {M : mM} (hS : mSh s F) {t o : Nat} {a g p : Int32} (ht : t < 6) (ho : o < 6) {l : List Nat} (hl6 : l.length ≤ 6) (hls : M 216 o = nI l.length) (hr : mL M 217 (o * 6) l) (hall : ∀ u ∈ l, u < 6) (hl5 : l.length < 6) (h2 : ¬ a = 2) {x6 x7 x8 : Option yV} {POST : Option yV → mM → Prop} (hC : (¬ M 210 t = 0 ∨ p = 0) → POST (some (yi (nI (mRef M t o a l).1))) (mRef M t o a l).2) (hD : M 210 t = 0 → ¬ p = 0 → POST (some (yi 1)) (mEnter (yu (yu M 202 t 1) 205 t p) t o l.length)) : yWW G m_M_act (mQ G m_M_act s F POST) s 351 [some (yr 200), some (yi (nI t)), some (yi (nI o)), some (yi a), some (yi g), some (yi p), x6, x7, x8] [] (mw s F M) 0 0 := by
  refine yr_aload_n d_M_act_351 rfl ?_
  refine mr_arr (a := 9) (K := 210) hS d_M_act_352 sf_M_act_352 rfl (by decide) rfl ?_
  refine yr_iload_n d_M_act_355 rfl ?_
  refine mr_ldz (a := 9) (K := 210) (n := 6) (j := t) hS d_M_act_356 (by decide) rfl rfl rfl (by simp only [nI0, nI1, nI2, nI3, nI4, nI6, nI_mulN, nI_add]) (by omega) ?_
  refine yr_if_ne (tgt := 365) d_M_act_357 (by decide) (fun c357 => ?_) (fun c357 => ?_)
  · skip
    refine yr_aload_n d_M_act_365 rfl ?_
    refine yr_iload_n d_M_act_366 rfl ?_
    refine yr_iload_n d_M_act_367 rfl ?_
    refine yr_iload_n d_M_act_368 rfl ?_
    refine mr_call (yrunV (X := yNX) (k := 200) (As := [yi (nI t), yi (nI o), yi a]) (rest := []) d_M_act_369 (c_M_refused hS ho hl6 hls hr hall ht) hS.1 rfl (show yck (yMm m_M_act) m_M_refused 3 = true by decide +kernel) cw_M_refused (by decide +kernel) (by decide +kernel) (by decide +kernel) (by decide +kernel) (Nat.le_of_ble_eq_true rfl) (ycat_of rfl) (by decide) (by decide)) (fun r M9 hp => ?_)
    obtain ⟨rfl, rfl⟩ := hp
    exact yr_reti d_M_act_372 rfl (by decide) (by decide) ⟨_, rfl, hC (by first | exact Or.inl c357 | exact Or.inr c362)⟩
  · skip
    refine yr_iload d_M_act_360 rfl ?_
    refine yr_if_ne (tgt := 373) d_M_act_362 (by decide) (fun c362 => ?_) (fun c362 => ?_)
    · skip
      refine yr_aload_n d_M_act_373 rfl ?_
      refine mr_arr (a := 1) (K := 202) hS d_M_act_374 sf_M_act_374 rfl (by decide) rfl ?_
      refine yr_iload_n d_M_act_377 rfl ?_
      refine yr_iconst (v := 1) d_M_act_378 (by decide) ?_
      refine mr_st (a := 1) (K := 202) (n := 6) (j := t) hS d_M_act_379 (by decide) rfl rfl rfl (by simp only [nI0, nI1, nI2, nI3, nI4, nI6, nI_mulN, nI_add]) (by omega) ?_
      refine yr_aload_n d_M_act_380 rfl ?_
      refine mr_arr (a := 4) (K := 205) hS d_M_act_381 sf_M_act_381 rfl (by decide) rfl ?_
      refine yr_iload_n d_M_act_384 rfl ?_
      refine yr_iload d_M_act_385 rfl ?_
      refine mr_st (a := 4) (K := 205) (n := 6) (j := t) hS d_M_act_387 (by decide) rfl rfl rfl (by simp only [nI0, nI1, nI2, nI3, nI4, nI6, nI_mulN, nI_add]) (by omega) ?_
      refine yr_iload_n d_M_act_388 rfl ?_
      refine yr_iconst (v := 2) d_M_act_389 (by decide) ?_
      refine yr_icmp_ne (tgt := 402) d_M_act_390 (by decide) (fun c390 => ?_) (fun c390 => absurd c390 h2)
      refine yr_aload_n d_M_act_402 rfl ?_
      refine yr_iload_n d_M_act_403 rfl ?_
      refine yr_iload_n d_M_act_404 rfl ?_
      refine mr_call (yrunV (X := yNX) (k := 200) (As := [yi (nI t), yi (nI o)]) (rest := []) d_M_act_405 (c_M_enter (n := l.length) hS ht ho hl5 (by rw [yu_ne _ _ (Or.inl (by decide)), yu_ne _ _ (Or.inl (by decide))]; exact hls)) hS.1 rfl (show yck (yMm m_M_act) m_M_enter 2 = true by decide +kernel) cw_M_enter (by decide +kernel) (by decide +kernel) (by decide +kernel) (by decide +kernel) (Nat.le_of_ble_eq_true rfl) (ycat_of rfl) (by decide) (by decide)) (fun r M9 hp => ?_)
      obtain ⟨rfl, rfl⟩ := hp
      refine yr_iconst (v := 1) d_M_act_408 (by decide) ?_
      exact yr_reti d_M_act_409 rfl (by decide) (by decide) ⟨_, rfl, hD c357 c362⟩
    · skip
      refine yr_aload_n d_M_act_365 rfl ?_
      refine yr_iload_n d_M_act_366 rfl ?_
      refine yr_iload_n d_M_act_367 rfl ?_
      refine yr_iload_n d_M_act_368 rfl ?_
      refine mr_call (yrunV (X := yNX) (k := 200) (As := [yi (nI t), yi (nI o), yi a]) (rest := []) d_M_act_369 (c_M_refused hS ho hl6 hls hr hall ht) hS.1 rfl (show yck (yMm m_M_act) m_M_refused 3 = true by decide +kernel) cw_M_refused (by decide +kernel) (by decide +kernel) (by decide +kernel) (by decide +kernel) (Nat.le_of_ble_eq_true rfl) (ycat_of rfl) (by decide) (by decide)) (fun r M9 hp => ?_)
      obtain ⟨rfl, rfl⟩ := hp
      exact yr_reti d_M_act_372 rfl (by decide) (by decide) ⟨_, rfl, hC (by first | exact Or.inl c357 | exact Or.inr c362)⟩

set_option maxHeartbeats 4000000 in
set_option maxRecDepth 20000 in
theorem c_M_act_351w {G : yG} {s : Nat → Option ySh} {F : Nat → Nat → Option Nat} {M : mM} (hS : mSh s F) {t o : Nat} {p : Int32} (ht : t < 6) (ho : o < 6) {l : List Nat} (hl6 : l.length ≤ 6) (hls : M 216 o = nI l.length) (hr : mL M 217 (o * 6) l) (hall : ∀ u ∈ l, u < 6) {j n : Nat} (hj : j < 2) (hn : n < 6) (hcs : M 218 (o * 2 + j) = nI n) {R : zS → mM → Prop} (hR : mPass o R) {x6 x7 x8 : Option yV} {POST : Option yV → mM → Prop} (hC : (¬ M 210 t = 0 ∨ p = 0) → POST (some (yi (nI (mRef M t o 2 l).1))) (mRef M t o 2 l).2) (σ2 : M 210 t = 0 → ¬ p = 0 → zS) (hD : ∀ (h1 : M 210 t = 0) (h2 : ¬ p = 0), R (σ2 h1 h2) (mWait (yu (yu M 202 t 1) 205 t p) t o (o * 2 + j) n) ∧ ∀ M', R (zset o 7 (σ2 h1 h2)) M' → POST (some (yi 1)) M') : yWW G m_M_act (mQ G m_M_act s F POST) s 351 [some (yr 200), some (yi (nI t)), some (yi (nI o)), some (yi 2), some (yi (nI j)), some (yi p), x6, x7, x8] [] (mw s F M) 0 0 := by
  refine yr_aload_n d_M_act_351 rfl ?_
  refine mr_arr (a := 9) (K := 210) hS d_M_act_352 sf_M_act_352 rfl (by decide) rfl ?_
  refine yr_iload_n d_M_act_355 rfl ?_
  refine mr_ldz (a := 9) (K := 210) (n := 6) (j := t) hS d_M_act_356 (by decide) rfl rfl rfl (by simp only [nI0, nI1, nI2, nI3, nI4, nI6, nI_mulN, nI_add]) (by omega) ?_
  refine yr_if_ne (tgt := 365) d_M_act_357 (by decide) (fun c357 => ?_) (fun c357 => ?_)
  · skip
    refine yr_aload_n d_M_act_365 rfl ?_
    refine yr_iload_n d_M_act_366 rfl ?_
    refine yr_iload_n d_M_act_367 rfl ?_
    refine yr_iload_n d_M_act_368 rfl ?_
    refine mr_call (yrunV (X := yNX) (k := 200) (As := [yi (nI t), yi (nI o), yi 2]) (rest := []) d_M_act_369 (c_M_refused hS ho hl6 hls hr hall ht) hS.1 rfl (show yck (yMm m_M_act) m_M_refused 3 = true by decide +kernel) cw_M_refused (by decide +kernel) (by decide +kernel) (by decide +kernel) (by decide +kernel) (Nat.le_of_ble_eq_true rfl) (ycat_of rfl) (by decide) (by decide)) (fun r M9 hp => ?_)
    obtain ⟨rfl, rfl⟩ := hp
    exact yr_reti d_M_act_372 rfl (by decide) (by decide) ⟨_, rfl, hC (by first | exact Or.inl c357 | exact Or.inr c362)⟩
  · skip
    refine yr_iload d_M_act_360 rfl ?_
    refine yr_if_ne (tgt := 373) d_M_act_362 (by decide) (fun c362 => ?_) (fun c362 => ?_)
    · skip
      refine yr_aload_n d_M_act_373 rfl ?_
      refine mr_arr (a := 1) (K := 202) hS d_M_act_374 sf_M_act_374 rfl (by decide) rfl ?_
      refine yr_iload_n d_M_act_377 rfl ?_
      refine yr_iconst (v := 1) d_M_act_378 (by decide) ?_
      refine mr_st (a := 1) (K := 202) (n := 6) (j := t) hS d_M_act_379 (by decide) rfl rfl rfl (by simp only [nI0, nI1, nI2, nI3, nI4, nI6, nI_mulN, nI_add]) (by omega) ?_
      refine yr_aload_n d_M_act_380 rfl ?_
      refine mr_arr (a := 4) (K := 205) hS d_M_act_381 sf_M_act_381 rfl (by decide) rfl ?_
      refine yr_iload_n d_M_act_384 rfl ?_
      refine yr_iload d_M_act_385 rfl ?_
      refine mr_st (a := 4) (K := 205) (n := 6) (j := t) hS d_M_act_387 (by decide) rfl rfl rfl (by simp only [nI0, nI1, nI2, nI3, nI4, nI6, nI_mulN, nI_add]) (by omega) ?_
      refine yr_iload_n d_M_act_388 rfl ?_
      refine yr_iconst (v := 2) d_M_act_389 (by decide) ?_
      refine yr_icmp_ne (tgt := 402) d_M_act_390 (by decide) (fun c390 => absurd rfl c390) (fun c390 => ?_)
      refine yr_aload_n d_M_act_393 rfl ?_
      refine yr_iload_n d_M_act_394 rfl ?_
      refine yr_iload_n d_M_act_395 rfl ?_
      refine yr_iload d_M_act_396 rfl ?_
      refine mr_call (yrunV (X := yNX) (k := 200) (As := [yi (nI t), yi (nI o), yi (nI j)]) (rest := []) d_M_act_398 (c_M_waitAt (σ := σ2 c357 c362) hS ht ho hj hn (by rw [yu_ne _ _ (Or.inl (by decide)), yu_ne _ _ (Or.inl (by decide))]; exact hcs) hR (hD c357 c362).1) hS.1 rfl (show yck (yMm m_M_act) m_M_waitAt 3 = true by decide +kernel) cw_M_waitAt (by decide +kernel) (by decide +kernel) (by decide +kernel) (by decide +kernel) (Nat.le_of_ble_eq_true rfl) (ycat_of rfl) (by decide) (by decide)) (fun r M9 hp => ?_)
      obtain ⟨rfl, hRM9⟩ := hp
      exact yr_reti d_M_act_401 rfl (by decide) (by decide) ⟨_, rfl, (hD c357 c362).2 _ hRM9⟩
    · skip
      refine yr_aload_n d_M_act_365 rfl ?_
      refine yr_iload_n d_M_act_366 rfl ?_
      refine yr_iload_n d_M_act_367 rfl ?_
      refine yr_iload_n d_M_act_368 rfl ?_
      refine mr_call (yrunV (X := yNX) (k := 200) (As := [yi (nI t), yi (nI o), yi 2]) (rest := []) d_M_act_369 (c_M_refused hS ho hl6 hls hr hall ht) hS.1 rfl (show yck (yMm m_M_act) m_M_refused 3 = true by decide +kernel) cw_M_refused (by decide +kernel) (by decide +kernel) (by decide +kernel) (by decide +kernel) (Nat.le_of_ble_eq_true rfl) (ycat_of rfl) (by decide) (by decide)) (fun r M9 hp => ?_)
      obtain ⟨rfl, rfl⟩ := hp
      exact yr_reti d_M_act_372 rfl (by decide) (by decide) ⟨_, rfl, hC (by first | exact Or.inl c357 | exact Or.inr c362)⟩

set_option maxHeartbeats 4000000 in
set_option maxRecDepth 20000 in
theorem c_M_act_267 {G : yG} {s : Nat → Option ySh} {F : Nat → Nat → Option Nat} {M : mM} (hS : mSh s F) {t o : Nat} {a g p : Int32} (ht : t < 6) (ho : o < 6) {l : List Nat} (hl6 : l.length ≤ 6) (hls : M 216 o = nI l.length) (hr : mL M 217 (o * 6) l) (hall : ∀ u ∈ l, u < 6) (hl5 : l.length < 6) (h2 : ¬ a = 2) (h13 : ¬ a = 13) {R : zS → mM → Prop} (hR : mPass o R) {ow : Bool} {x6 x8 : Option yV} {POST : Option yV → mM → Prop} (hA : mcan M t o a = true → (ow = true ∨ mss M l a = false) → ∃ σ2 n, mGok M o a n ∧ R σ2 (mEnd (mGrant M t o a n) t 0) ∧ ∀ M', R (zset o 7 σ2) M' → POST (some (yi 0)) M') (hC : ¬ (mcan M t o a = true ∧ (ow = true ∨ mss M l a = false)) → (¬ M 210 t = 0 ∨ p = 0) → POST (some (yi (nI (mRef M t o a l).1))) (mRef M t o a l).2) (hD : ¬ (mcan M t o a = true ∧ (ow = true ∨ mss M l a = false)) → M 210 t = 0 → ¬ p = 0 → POST (some (yi 1)) (mEnter (yu (yu M 202 t 1) 205 t p) t o l.length)) : yWW G m_M_act (mQ G m_M_act s F POST) s 267 [some (yr 200), some (yi (nI t)), some (yi (nI o)), some (yi a), some (yi g), some (yi p), x6, some (yi (zb ow)), x8] [] (mw s F M) 0 0 := by
  cases hc : mcan M t o a with
  | false =>
    refine yr_iload_n d_M_act_267 rfl ?_
    refine yr_iconst (v := 2) d_M_act_268 (by decide) ?_
    refine yr_icmp_eq (tgt := 325) d_M_act_269 (by decide) (fun c269 => absurd c269 h2) (fun c269 => ?_)
    refine yr_iload_n d_M_act_272 rfl ?_
    refine yr_bipush (v := 13) d_M_act_273 (by decide) ?_
    refine yr_icmp_eq (tgt := 325) d_M_act_275 (by decide) (fun c275 => absurd c275 h13) (fun c275 => ?_)
    refine yr_aload_n d_M_act_278 rfl ?_
    refine yr_iload_n d_M_act_279 rfl ?_
    refine yr_iload_n d_M_act_280 rfl ?_
    refine yr_iload_n d_M_act_281 rfl ?_
    refine mr_call (yrunV (X := yNX) (k := 200) (As := [yi (nI t), yi (nI o), yi a]) (rest := []) d_M_act_282 (c_M_can hS ht ho) hS.1 rfl (show yck (yMm m_M_act) m_M_can 3 = true by decide +kernel) cw_M_can (by decide +kernel) (by decide +kernel) (by decide +kernel) (by decide +kernel) (Nat.le_of_ble_eq_true rfl) (ycat_of rfl) (by decide) (by decide)) (fun r M9 hp => ?_)
    obtain ⟨rfl, hM9⟩ := hp
    rw [hM9]
    refine yr_if_eq (tgt := 325) d_M_act_285 (by decide) (fun c285 => ?_) (fun c285 => absurd (by rw [hc]; rfl) c285)
    refine yr_iload_n d_M_act_325 rfl ?_
    refine yr_bipush (v := 13) d_M_act_326 (by decide) ?_
    refine yr_icmp_ne (tgt := 340) d_M_act_328 (by decide) (fun c328 => ?_) (fun c328 => absurd c328 h13)
    refine yr_iconst (v := -1) d_M_act_340 (by decide) ?_
    refine yr_istore d_M_act_341 (by decide) rfl ?_
    refine yr_iload d_M_act_343 rfl ?_
    refine yr_if_lt (tgt := 351) d_M_act_345 (by decide) (fun c345 => ?_) (fun c345 => absurd (by decide) c345)
    exact c_M_act_351 hS ht ho hl6 hls hr hall hl5 h2 (hC (by rintro ⟨z1, z2⟩; first | (rw [hc] at z1; cases z1; done) | (rcases z2 with z2 | z2; cases z2; rw [hs] at z2; cases z2))) (hD (by rintro ⟨z1, z2⟩; first | (rw [hc] at z1; cases z1; done) | (rcases z2 with z2 | z2; cases z2; rw [hs] at z2; cases z2)))
  | true =>
    cases ow with
    | true =>
      refine yr_iload_n d_M_act_267 rfl ?_
      refine yr_iconst (v := 2) d_M_act_268 (by decide) ?_
      refine yr_icmp_eq (tgt := 325) d_M_act_269 (by decide) (fun c269 => absurd c269 h2) (fun c269 => ?_)
      refine yr_iload_n d_M_act_272 rfl ?_
      refine yr_bipush (v := 13) d_M_act_273 (by decide) ?_
      refine yr_icmp_eq (tgt := 325) d_M_act_275 (by decide) (fun c275 => absurd c275 h13) (fun c275 => ?_)
      refine yr_aload_n d_M_act_278 rfl ?_
      refine yr_iload_n d_M_act_279 rfl ?_
      refine yr_iload_n d_M_act_280 rfl ?_
      refine yr_iload_n d_M_act_281 rfl ?_
      refine mr_call (yrunV (X := yNX) (k := 200) (As := [yi (nI t), yi (nI o), yi a]) (rest := []) d_M_act_282 (c_M_can hS ht ho) hS.1 rfl (show yck (yMm m_M_act) m_M_can 3 = true by decide +kernel) cw_M_can (by decide +kernel) (by decide +kernel) (by decide +kernel) (by decide +kernel) (Nat.le_of_ble_eq_true rfl) (ycat_of rfl) (by decide) (by decide)) (fun r M9 hp => ?_)
      obtain ⟨rfl, hM9⟩ := hp
      rw [hM9]
      refine yr_if_eq (tgt := 325) d_M_act_285 (by decide) (fun c285 => absurd c285 (by rw [hc]; decide)) (fun c285 => ?_)
      refine yr_iload d_M_act_288 rfl ?_
      refine yr_if_ne (tgt := 302) d_M_act_290 (by decide) (fun c290 => ?_) (fun c290 => absurd c290 (by decide))
      refine yr_aload_n d_M_act_302 rfl ?_
      refine yr_iload_n d_M_act_303 rfl ?_
      refine yr_iload_n d_M_act_304 rfl ?_
      refine yr_iload_n d_M_act_305 rfl ?_
      obtain ⟨σ2, n, hg1, hg2, hg3⟩ := (hA hc (Or.inl rfl))
      refine mr_call (yrunV (X := yNX) (k := 200) (As := [yi (nI t), yi (nI o), yi a]) (rest := []) d_M_act_306 (c_M_grant hS ht ho hg1) hS.1 rfl (show yck (yMm m_M_act) m_M_grant 3 = true by decide +kernel) cw_M_grant (by decide +kernel) (by decide +kernel) (by decide +kernel) (by decide +kernel) (Nat.le_of_ble_eq_true rfl) (ycat_of rfl) (by decide) (by decide)) (fun r M9 hp => ?_)
      obtain ⟨rfl, rfl⟩ := hp
      refine yr_aload_n d_M_act_309 rfl ?_
      refine yr_iload_n d_M_act_310 rfl ?_
      refine yr_iconst (v := 0) d_M_act_311 (by decide) ?_
      refine mr_call (yrunV (X := yNX) (k := 200) (As := [yi (nI t), yi 0]) (rest := []) d_M_act_312 (c_M_end (h := 0) hS ht (by decide)) hS.1 rfl (show yck (yMm m_M_act) m_M_end 2 = true by decide +kernel) cw_M_end (by decide +kernel) (by decide +kernel) (by decide +kernel) (by decide +kernel) (Nat.le_of_ble_eq_true rfl) (ycat_of rfl) (by decide) (by decide)) (fun r M9 hp => ?_)
      obtain ⟨rfl, rfl⟩ := hp
      refine yr_istore d_M_act_315 (by decide) rfl ?_
      refine yr_aload_n d_M_act_317 rfl ?_
      refine yr_iload_n d_M_act_318 rfl ?_
      refine mr_call (yrunV (X := yNX) (k := 200) (As := [yi (nI o)]) (rest := []) d_M_act_319 (c_M_pass hS ho hR hg2) hS.1 rfl (show yck (yMm m_M_act) m_M_pass 1 = true by decide +kernel) cw_M_pass (by decide +kernel) (by decide +kernel) (by decide +kernel) (by decide +kernel) (Nat.le_of_ble_eq_true rfl) (ycat_of rfl) (by decide) (by decide)) (fun r M9 hp => ?_)
      obtain ⟨rfl, hRM9⟩ := hp
      refine yr_iload d_M_act_322 rfl ?_
      exact yr_reti d_M_act_324 rfl (by decide) (by decide) ⟨_, rfl, hg3 _ hRM9⟩
    | false =>
      cases hs : mss M l a with
      | false =>
        refine yr_iload_n d_M_act_267 rfl ?_
        refine yr_iconst (v := 2) d_M_act_268 (by decide) ?_
        refine yr_icmp_eq (tgt := 325) d_M_act_269 (by decide) (fun c269 => absurd c269 h2) (fun c269 => ?_)
        refine yr_iload_n d_M_act_272 rfl ?_
        refine yr_bipush (v := 13) d_M_act_273 (by decide) ?_
        refine yr_icmp_eq (tgt := 325) d_M_act_275 (by decide) (fun c275 => absurd c275 h13) (fun c275 => ?_)
        refine yr_aload_n d_M_act_278 rfl ?_
        refine yr_iload_n d_M_act_279 rfl ?_
        refine yr_iload_n d_M_act_280 rfl ?_
        refine yr_iload_n d_M_act_281 rfl ?_
        refine mr_call (yrunV (X := yNX) (k := 200) (As := [yi (nI t), yi (nI o), yi a]) (rest := []) d_M_act_282 (c_M_can hS ht ho) hS.1 rfl (show yck (yMm m_M_act) m_M_can 3 = true by decide +kernel) cw_M_can (by decide +kernel) (by decide +kernel) (by decide +kernel) (by decide +kernel) (Nat.le_of_ble_eq_true rfl) (ycat_of rfl) (by decide) (by decide)) (fun r M9 hp => ?_)
        obtain ⟨rfl, hM9⟩ := hp
        rw [hM9]
        refine yr_if_eq (tgt := 325) d_M_act_285 (by decide) (fun c285 => absurd c285 (by rw [hc]; decide)) (fun c285 => ?_)
        refine yr_iload d_M_act_288 rfl ?_
        refine yr_if_ne (tgt := 302) d_M_act_290 (by decide) (fun c290 => absurd rfl c290) (fun c290 => ?_)
        refine yr_aload_n d_M_act_293 rfl ?_
        refine yr_iload_n d_M_act_294 rfl ?_
        refine yr_iload_n d_M_act_295 rfl ?_
        refine mr_call (yrunV (X := yNX) (k := 200) (As := [yi (nI o), yi a]) (rest := []) d_M_act_296 (c_M_sameSort hS ho hl6 hls hr hall) hS.1 rfl (show yck (yMm m_M_act) m_M_sameSort 2 = true by decide +kernel) cw_M_sameSort (by decide +kernel) (by decide +kernel) (by decide +kernel) (by decide +kernel) (Nat.le_of_ble_eq_true rfl) (ycat_of rfl) (by decide) (by decide)) (fun r M9 hp => ?_)
        obtain ⟨rfl, hM9⟩ := hp
        rw [hM9]
        refine yr_if_ne (tgt := 325) d_M_act_299 (by decide) (fun c299 => absurd (by rw [hs]; rfl) c299) (fun c299 => ?_)
        refine yr_aload_n d_M_act_302 rfl ?_
        refine yr_iload_n d_M_act_303 rfl ?_
        refine yr_iload_n d_M_act_304 rfl ?_
        refine yr_iload_n d_M_act_305 rfl ?_
        obtain ⟨σ2, n, hg1, hg2, hg3⟩ := (hA hc (Or.inr hs))
        refine mr_call (yrunV (X := yNX) (k := 200) (As := [yi (nI t), yi (nI o), yi a]) (rest := []) d_M_act_306 (c_M_grant hS ht ho hg1) hS.1 rfl (show yck (yMm m_M_act) m_M_grant 3 = true by decide +kernel) cw_M_grant (by decide +kernel) (by decide +kernel) (by decide +kernel) (by decide +kernel) (Nat.le_of_ble_eq_true rfl) (ycat_of rfl) (by decide) (by decide)) (fun r M9 hp => ?_)
        obtain ⟨rfl, rfl⟩ := hp
        refine yr_aload_n d_M_act_309 rfl ?_
        refine yr_iload_n d_M_act_310 rfl ?_
        refine yr_iconst (v := 0) d_M_act_311 (by decide) ?_
        refine mr_call (yrunV (X := yNX) (k := 200) (As := [yi (nI t), yi 0]) (rest := []) d_M_act_312 (c_M_end (h := 0) hS ht (by decide)) hS.1 rfl (show yck (yMm m_M_act) m_M_end 2 = true by decide +kernel) cw_M_end (by decide +kernel) (by decide +kernel) (by decide +kernel) (by decide +kernel) (Nat.le_of_ble_eq_true rfl) (ycat_of rfl) (by decide) (by decide)) (fun r M9 hp => ?_)
        obtain ⟨rfl, rfl⟩ := hp
        refine yr_istore d_M_act_315 (by decide) rfl ?_
        refine yr_aload_n d_M_act_317 rfl ?_
        refine yr_iload_n d_M_act_318 rfl ?_
        refine mr_call (yrunV (X := yNX) (k := 200) (As := [yi (nI o)]) (rest := []) d_M_act_319 (c_M_pass hS ho hR hg2) hS.1 rfl (show yck (yMm m_M_act) m_M_pass 1 = true by decide +kernel) cw_M_pass (by decide +kernel) (by decide +kernel) (by decide +kernel) (by decide +kernel) (Nat.le_of_ble_eq_true rfl) (ycat_of rfl) (by decide) (by decide)) (fun r M9 hp => ?_)
        obtain ⟨rfl, hRM9⟩ := hp
        refine yr_iload d_M_act_322 rfl ?_
        exact yr_reti d_M_act_324 rfl (by decide) (by decide) ⟨_, rfl, hg3 _ hRM9⟩
      | true =>
        refine yr_iload_n d_M_act_267 rfl ?_
        refine yr_iconst (v := 2) d_M_act_268 (by decide) ?_
        refine yr_icmp_eq (tgt := 325) d_M_act_269 (by decide) (fun c269 => absurd c269 h2) (fun c269 => ?_)
        refine yr_iload_n d_M_act_272 rfl ?_
        refine yr_bipush (v := 13) d_M_act_273 (by decide) ?_
        refine yr_icmp_eq (tgt := 325) d_M_act_275 (by decide) (fun c275 => absurd c275 h13) (fun c275 => ?_)
        refine yr_aload_n d_M_act_278 rfl ?_
        refine yr_iload_n d_M_act_279 rfl ?_
        refine yr_iload_n d_M_act_280 rfl ?_
        refine yr_iload_n d_M_act_281 rfl ?_
        refine mr_call (yrunV (X := yNX) (k := 200) (As := [yi (nI t), yi (nI o), yi a]) (rest := []) d_M_act_282 (c_M_can hS ht ho) hS.1 rfl (show yck (yMm m_M_act) m_M_can 3 = true by decide +kernel) cw_M_can (by decide +kernel) (by decide +kernel) (by decide +kernel) (by decide +kernel) (Nat.le_of_ble_eq_true rfl) (ycat_of rfl) (by decide) (by decide)) (fun r M9 hp => ?_)
        obtain ⟨rfl, hM9⟩ := hp
        rw [hM9]
        refine yr_if_eq (tgt := 325) d_M_act_285 (by decide) (fun c285 => absurd c285 (by rw [hc]; decide)) (fun c285 => ?_)
        refine yr_iload d_M_act_288 rfl ?_
        refine yr_if_ne (tgt := 302) d_M_act_290 (by decide) (fun c290 => absurd rfl c290) (fun c290 => ?_)
        refine yr_aload_n d_M_act_293 rfl ?_
        refine yr_iload_n d_M_act_294 rfl ?_
        refine yr_iload_n d_M_act_295 rfl ?_
        refine mr_call (yrunV (X := yNX) (k := 200) (As := [yi (nI o), yi a]) (rest := []) d_M_act_296 (c_M_sameSort hS ho hl6 hls hr hall) hS.1 rfl (show yck (yMm m_M_act) m_M_sameSort 2 = true by decide +kernel) cw_M_sameSort (by decide +kernel) (by decide +kernel) (by decide +kernel) (by decide +kernel) (Nat.le_of_ble_eq_true rfl) (ycat_of rfl) (by decide) (by decide)) (fun r M9 hp => ?_)
        obtain ⟨rfl, hM9⟩ := hp
        rw [hM9]
        refine yr_if_ne (tgt := 325) d_M_act_299 (by decide) (fun c299 => ?_) (fun c299 => absurd c299 (by rw [hs]; decide))
        refine yr_iload_n d_M_act_325 rfl ?_
        refine yr_bipush (v := 13) d_M_act_326 (by decide) ?_
        refine yr_icmp_ne (tgt := 340) d_M_act_328 (by decide) (fun c328 => ?_) (fun c328 => absurd c328 h13)
        refine yr_iconst (v := -1) d_M_act_340 (by decide) ?_
        refine yr_istore d_M_act_341 (by decide) rfl ?_
        refine yr_iload d_M_act_343 rfl ?_
        refine yr_if_lt (tgt := 351) d_M_act_345 (by decide) (fun c345 => ?_) (fun c345 => absurd (by decide) c345)
        exact c_M_act_351 hS ht ho hl6 hls hr hall hl5 h2 (hC (by rintro ⟨z1, z2⟩; first | (rw [hc] at z1; cases z1; done) | (rcases z2 with z2 | z2; cases z2; rw [hs] at z2; cases z2))) (hD (by rintro ⟨z1, z2⟩; first | (rw [hc] at z1; cases z1; done) | (rcases z2 with z2 | z2; cases z2; rw [hs] at z2; cases z2)))

set_option maxHeartbeats 4000000 in
set_option maxRecDepth 20000 in
theorem c_M_act_267w {G : yG} {s : Nat → Option ySh} {F : Nat → Nat → Option Nat} {M : mM} (hS : mSh s F) {t o : Nat} {p : Int32} (ht : t < 6) (ho : o < 6) {l : List Nat} (hl6 : l.length ≤ 6) (hls : M 216 o = nI l.length) (hr : mL M 217 (o * 6) l) (hall : ∀ u ∈ l, u < 6) {j n : Nat} (hj : j < 2) (hn : n < 6) (hcs : M 218 (o * 2 + j) = nI n) {R : zS → mM → Prop} (hR : mPass o R) {x6 x7 x8 : Option yV} {POST : Option yV → mM → Prop} (hC : (¬ M 210 t = 0 ∨ p = 0) → POST (some (yi (nI (mRef M t o 2 l).1))) (mRef M t o 2 l).2) (σ2 : M 210 t = 0 → ¬ p = 0 → zS) (hD : ∀ (h1 : M 210 t = 0) (h2 : ¬ p = 0), R (σ2 h1 h2) (mWait (yu (yu M 202 t 1) 205 t p) t o (o * 2 + j) n) ∧ ∀ M', R (zset o 7 (σ2 h1 h2)) M' → POST (some (yi 1)) M') : yWW G m_M_act (mQ G m_M_act s F POST) s 267 [some (yr 200), some (yi (nI t)), some (yi (nI o)), some (yi 2), some (yi (nI j)), some (yi p), x6, x7, x8] [] (mw s F M) 0 0 := by
  refine yr_iload_n d_M_act_267 rfl ?_
  refine yr_iconst (v := 2) d_M_act_268 (by decide) ?_
  refine yr_icmp_eq (tgt := 325) d_M_act_269 (by decide) (fun c269 => ?_) (fun c269 => absurd rfl c269)
  refine yr_iload_n d_M_act_325 rfl ?_
  refine yr_bipush (v := 13) d_M_act_326 (by decide) ?_
  refine yr_icmp_ne (tgt := 340) d_M_act_328 (by decide) (fun c328 => ?_) (fun c328 => absurd c328 (by decide))
  refine yr_iconst (v := -1) d_M_act_340 (by decide) ?_
  refine yr_istore d_M_act_341 (by decide) rfl ?_
  refine yr_iload d_M_act_343 rfl ?_
  refine yr_if_lt (tgt := 351) d_M_act_345 (by decide) (fun c345 => ?_) (fun c345 => absurd (by decide) c345)
  exact c_M_act_351w hS ht ho hl6 hls hr hall hj hn hcs hR hC σ2 hD

set_option maxHeartbeats 4000000 in
set_option maxRecDepth 20000 in
theorem c_M_act_267a {G : yG} {s : Nat → Option ySh} {F : Nat → Nat → Option Nat} {M : mM} (hS : mSh s F) {t o : Nat} {g p : Int32} (ht : t < 6) (ho : o < 6) {l : List Nat} (hl6 : l.length ≤ 6) (hls : M 216 o = nI l.length) (hr : mL M 217 (o * 6) l) (hall : ∀ u ∈ l, u < 6) (hl5 : l.length < 6) {x6 x7 x8 : Option yV} {POST : Option yV → mM → Prop} (hE : (mArr M t o l).1 < 0 → (mArr M t o l).2 = M) (hB : ¬ (mArr M t o l).1 < 0 → POST (some (yi (mArr M t o l).1)) (mArr M t o l).2) (hC : (mArr M t o l).1 < 0 → (¬ M 210 t = 0 ∨ p = 0) → POST (some (yi (nI (mRef M t o 13 l).1))) (mRef M t o 13 l).2) (hD : (mArr M t o l).1 < 0 → M 210 t = 0 → ¬ p = 0 → POST (some (yi 1)) (mEnter (yu (yu M 202 t 1) 205 t p) t o l.length)) : yWW G m_M_act (mQ G m_M_act s F POST) s 267 [some (yr 200), some (yi (nI t)), some (yi (nI o)), some (yi 13), some (yi g), some (yi p), x6, x7, x8] [] (mw s F M) 0 0 := by
  by_cases he : (mArr M t o l).1 < 0
  · skip
    refine yr_iload_n d_M_act_267 rfl ?_
    refine yr_iconst (v := 2) d_M_act_268 (by decide) ?_
    refine yr_icmp_eq (tgt := 325) d_M_act_269 (by decide) (fun c269 => absurd c269 (by decide)) (fun c269 => ?_)
    refine yr_iload_n d_M_act_272 rfl ?_
    refine yr_bipush (v := 13) d_M_act_273 (by decide) ?_
    refine yr_icmp_eq (tgt := 325) d_M_act_275 (by decide) (fun c275 => ?_) (fun c275 => absurd rfl c275)
    refine yr_iload_n d_M_act_325 rfl ?_
    refine yr_bipush (v := 13) d_M_act_326 (by decide) ?_
    refine yr_icmp_ne (tgt := 340) d_M_act_328 (by decide) (fun c328 => absurd rfl c328) (fun c328 => ?_)
    refine yr_aload_n d_M_act_331 rfl ?_
    refine yr_iload_n d_M_act_332 rfl ?_
    refine yr_iload_n d_M_act_333 rfl ?_
    refine mr_call (yrunV (X := yNX) (k := 200) (As := [yi (nI t), yi (nI o)]) (rest := []) d_M_act_334 (c_M_arrive hS ho hl6 hls hr hall ht) hS.1 rfl (show yck (yMm m_M_act) m_M_arrive 2 = true by decide +kernel) cw_M_arrive (by decide +kernel) (by decide +kernel) (by decide +kernel) (by decide +kernel) (Nat.le_of_ble_eq_true rfl) (ycat_of rfl) (by decide) (by decide)) (fun r M9 hp => ?_)
    obtain ⟨rfl, hM9⟩ := hp
    refine yr_goto (tgt := 341) d_M_act_337 (by decide) ?_
    refine yr_istore d_M_act_341 (by decide) rfl ?_
    refine yr_iload d_M_act_343 rfl ?_
    refine yr_if_lt (tgt := 351) d_M_act_345 (by decide) (fun c345 => ?_) (fun c345 => absurd he c345)
    rw [hM9, hE he]
    exact c_M_act_351 hS ht ho hl6 hls hr hall hl5 (by decide) (hC he) (hD he)
  · skip
    refine yr_iload_n d_M_act_267 rfl ?_
    refine yr_iconst (v := 2) d_M_act_268 (by decide) ?_
    refine yr_icmp_eq (tgt := 325) d_M_act_269 (by decide) (fun c269 => absurd c269 (by decide)) (fun c269 => ?_)
    refine yr_iload_n d_M_act_272 rfl ?_
    refine yr_bipush (v := 13) d_M_act_273 (by decide) ?_
    refine yr_icmp_eq (tgt := 325) d_M_act_275 (by decide) (fun c275 => ?_) (fun c275 => absurd rfl c275)
    refine yr_iload_n d_M_act_325 rfl ?_
    refine yr_bipush (v := 13) d_M_act_326 (by decide) ?_
    refine yr_icmp_ne (tgt := 340) d_M_act_328 (by decide) (fun c328 => absurd rfl c328) (fun c328 => ?_)
    refine yr_aload_n d_M_act_331 rfl ?_
    refine yr_iload_n d_M_act_332 rfl ?_
    refine yr_iload_n d_M_act_333 rfl ?_
    refine mr_call (yrunV (X := yNX) (k := 200) (As := [yi (nI t), yi (nI o)]) (rest := []) d_M_act_334 (c_M_arrive hS ho hl6 hls hr hall ht) hS.1 rfl (show yck (yMm m_M_act) m_M_arrive 2 = true by decide +kernel) cw_M_arrive (by decide +kernel) (by decide +kernel) (by decide +kernel) (by decide +kernel) (Nat.le_of_ble_eq_true rfl) (ycat_of rfl) (by decide) (by decide)) (fun r M9 hp => ?_)
    obtain ⟨rfl, hM9⟩ := hp
    refine yr_goto (tgt := 341) d_M_act_337 (by decide) ?_
    refine yr_istore d_M_act_341 (by decide) rfl ?_
    refine yr_iload d_M_act_343 rfl ?_
    refine yr_if_lt (tgt := 351) d_M_act_345 (by decide) (fun c345 => absurd c345 he) (fun c345 => ?_)
    refine yr_iload d_M_act_348 rfl ?_
    exact yr_reti d_M_act_350 rfl (by decide) (by decide) ⟨_, rfl, by rw [hM9]; exact hB he⟩

set_option maxHeartbeats 4000000 in
set_option maxRecDepth 20000 in
theorem c_M_act_209 {G : yG} {s : Nat → Option ySh} {F : Nat → Nat → Option Nat} {M : mM} (hS : mSh s F) {t o : Nat} {a g p : Int32} (ht : t < 6) (ho : o < 6) {x6 x7 x8 : Option yV} {POST : Option yV → mM → Prop} (hk : yWW G m_M_act (mQ G m_M_act s F POST) s 267 [some (yr 200), some (yi (nI t)), some (yi (nI o)), some (yi a), some (yi g), some (yi p), x6, some (yi (zb (mOwn M t o))), x8] [] (mw s F (mBeg M t a g)) 0 0) : yWW G m_M_act (mQ G m_M_act s F POST) s 209 [some (yr 200), some (yi (nI t)), some (yi (nI o)), some (yi a), some (yi g), some (yi p), x6, x7, x8] [] (mw s F M) 0 0 := by
  refine yr_aload_n d_M_act_209 rfl ?_
  refine mr_arr (a := 5) (K := 206) hS d_M_act_210 sf_M_act_210 rfl (by decide) rfl ?_
  refine yr_iload_n d_M_act_213 rfl ?_
  refine yr_iload_n d_M_act_214 rfl ?_
  refine mr_st (a := 5) (K := 206) (n := 6) (j := t) hS d_M_act_215 (by decide) rfl rfl rfl (by simp only [nI0, nI1, nI2, nI3, nI4, nI6, nI_mulN, nI_add]) (by omega) ?_
  refine yr_aload_n d_M_act_216 rfl ?_
  refine mr_arr (a := 6) (K := 207) hS d_M_act_217 sf_M_act_217 rfl (by decide) rfl ?_
  refine yr_iload_n d_M_act_220 rfl ?_
  refine yr_iload d_M_act_221 rfl ?_
  refine mr_st (a := 6) (K := 207) (n := 6) (j := t) hS d_M_act_223 (by decide) rfl rfl rfl (by simp only [nI0, nI1, nI2, nI3, nI4, nI6, nI_mulN, nI_add]) (by omega) ?_
  refine yr_aload_n d_M_act_224 rfl ?_
  refine mr_arr (a := 10) (K := 211) hS d_M_act_225 sf_M_act_225 rfl (by decide) rfl ?_
  refine yr_iload_n d_M_act_228 rfl ?_
  refine yr_iconst (v := 0) d_M_act_229 (by decide) ?_
  refine mr_stz (a := 10) (K := 211) (n := 6) (j := t) hS d_M_act_230 (by decide) rfl rfl rfl (by simp only [nI0, nI1, nI2, nI3, nI4, nI6, nI_mulN, nI_add]) (by omega) rfl ?_
  refine yr_aload_n d_M_act_231 rfl ?_
  refine mr_arr (a := 11) (K := 212) hS d_M_act_232 sf_M_act_232 rfl (by decide) rfl ?_
  refine yr_iload_n d_M_act_235 rfl ?_
  refine mr_ld (a := 11) (K := 212) (n := 6) (j := o) hS d_M_act_236 (by decide) rfl rfl rfl (by simp only [nI0, nI1, nI2, nI3, nI4, nI6, nI_mulN, nI_add]) (by omega) ?_
  rw [show (yu (yu (yu M 206 t a) 207 t g) 211 t 0) 212 o = M 212 o from mBeg_keep (by decide) (by decide) (by decide)]
  refine yr_if_eq (tgt := 250) d_M_act_237 (by decide) (fun c237 => ?_) (fun c237 => ?_)
  · skip
    refine yr_aload_n d_M_act_250 rfl ?_
    refine mr_arr (a := 14) (K := 215) hS d_M_act_251 sf_M_act_251 rfl (by decide) rfl ?_
    refine yr_iload_n d_M_act_254 rfl ?_
    refine mr_ld (a := 14) (K := 215) (n := 6) (j := o) hS d_M_act_255 (by decide) rfl rfl rfl (by simp only [nI0, nI1, nI2, nI3, nI4, nI6, nI_mulN, nI_add]) (by omega) ?_
    rw [show (yu (yu (yu M 206 t a) 207 t g) 211 t 0) 215 o = M 215 o from mBeg_keep (by decide) (by decide) (by decide)]
    refine yr_iload_n d_M_act_256 rfl ?_
    refine yr_icmp_ne (tgt := 264) d_M_act_257 (by decide) (fun c257 => ?_) (fun c257 => ?_)
    · skip
      refine yr_iconst (v := 0) d_M_act_264 (by decide) ?_
      refine yr_istore d_M_act_265 (by decide) rfl ?_
      first
      | (rw [show mOwn M t o = true from decide_eq_true ⟨Or.inl c237, c257⟩] at hk; exact hk)
      | (rw [show mOwn M t o = true from decide_eq_true ⟨Or.inr c247, c257⟩] at hk; exact hk)
      | (rw [show mOwn M t o = false from decide_eq_false (fun z => c257 z.2)] at hk; exact hk)
      | (rw [show mOwn M t o = false from decide_eq_false (fun z => z.1.elim c237 c247)] at hk; exact hk)
    · skip
      refine yr_iconst (v := 1) d_M_act_260 (by decide) ?_
      refine yr_goto (tgt := 265) d_M_act_261 (by decide) ?_
      refine yr_istore d_M_act_265 (by decide) rfl ?_
      first
      | (rw [show mOwn M t o = true from decide_eq_true ⟨Or.inl c237, c257⟩] at hk; exact hk)
      | (rw [show mOwn M t o = true from decide_eq_true ⟨Or.inr c247, c257⟩] at hk; exact hk)
      | (rw [show mOwn M t o = false from decide_eq_false (fun z => c257 z.2)] at hk; exact hk)
      | (rw [show mOwn M t o = false from decide_eq_false (fun z => z.1.elim c237 c247)] at hk; exact hk)
  · skip
    refine yr_aload_n d_M_act_240 rfl ?_
    refine mr_arr (a := 11) (K := 212) hS d_M_act_241 sf_M_act_241 rfl (by decide) rfl ?_
    refine yr_iload_n d_M_act_244 rfl ?_
    refine mr_ld (a := 11) (K := 212) (n := 6) (j := o) hS d_M_act_245 (by decide) rfl rfl rfl (by simp only [nI0, nI1, nI2, nI3, nI4, nI6, nI_mulN, nI_add]) (by omega) ?_
    rw [show (yu (yu (yu M 206 t a) 207 t g) 211 t 0) 212 o = M 212 o from mBeg_keep (by decide) (by decide) (by decide)]
    refine yr_iconst (v := 1) d_M_act_246 (by decide) ?_
    refine yr_icmp_ne (tgt := 264) d_M_act_247 (by decide) (fun c247 => ?_) (fun c247 => ?_)
    · skip
      refine yr_iconst (v := 0) d_M_act_264 (by decide) ?_
      refine yr_istore d_M_act_265 (by decide) rfl ?_
      first
      | (rw [show mOwn M t o = true from decide_eq_true ⟨Or.inl c237, c257⟩] at hk; exact hk)
      | (rw [show mOwn M t o = true from decide_eq_true ⟨Or.inr c247, c257⟩] at hk; exact hk)
      | (rw [show mOwn M t o = false from decide_eq_false (fun z => c257 z.2)] at hk; exact hk)
      | (rw [show mOwn M t o = false from decide_eq_false (fun z => z.1.elim c237 c247)] at hk; exact hk)
    · skip
      refine yr_aload_n d_M_act_250 rfl ?_
      refine mr_arr (a := 14) (K := 215) hS d_M_act_251 sf_M_act_251 rfl (by decide) rfl ?_
      refine yr_iload_n d_M_act_254 rfl ?_
      refine mr_ld (a := 14) (K := 215) (n := 6) (j := o) hS d_M_act_255 (by decide) rfl rfl rfl (by simp only [nI0, nI1, nI2, nI3, nI4, nI6, nI_mulN, nI_add]) (by omega) ?_
      rw [show (yu (yu (yu M 206 t a) 207 t g) 211 t 0) 215 o = M 215 o from mBeg_keep (by decide) (by decide) (by decide)]
      refine yr_iload_n d_M_act_256 rfl ?_
      refine yr_icmp_ne (tgt := 264) d_M_act_257 (by decide) (fun c257 => ?_) (fun c257 => ?_)
      · skip
        refine yr_iconst (v := 0) d_M_act_264 (by decide) ?_
        refine yr_istore d_M_act_265 (by decide) rfl ?_
        first
        | (rw [show mOwn M t o = true from decide_eq_true ⟨Or.inl c237, c257⟩] at hk; exact hk)
        | (rw [show mOwn M t o = true from decide_eq_true ⟨Or.inr c247, c257⟩] at hk; exact hk)
        | (rw [show mOwn M t o = false from decide_eq_false (fun z => c257 z.2)] at hk; exact hk)
        | (rw [show mOwn M t o = false from decide_eq_false (fun z => z.1.elim c237 c247)] at hk; exact hk)
      · skip
        refine yr_iconst (v := 1) d_M_act_260 (by decide) ?_
        refine yr_goto (tgt := 265) d_M_act_261 (by decide) ?_
        refine yr_istore d_M_act_265 (by decide) rfl ?_
        first
        | (rw [show mOwn M t o = true from decide_eq_true ⟨Or.inl c237, c257⟩] at hk; exact hk)
        | (rw [show mOwn M t o = true from decide_eq_true ⟨Or.inr c247, c257⟩] at hk; exact hk)
        | (rw [show mOwn M t o = false from decide_eq_false (fun z => c257 z.2)] at hk; exact hk)
        | (rw [show mOwn M t o = false from decide_eq_false (fun z => z.1.elim c237 c247)] at hk; exact hk)
