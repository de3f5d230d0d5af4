/-! the model: ends of all in a row; calls at a condition -/
def mEndL (M : mM) (u h : Nat) : mM := yu (mEnd M u h) 200 25 (nI h)
def mEnds (M : mM) (l : List Nat) (h : Nat) : mM := l.foldl (fun M u => mEndL M u h) M
def mBrk (M : mM) (o : Nat) (l : List Nat) (h : Nat) : mM := yu (mEnds M l h) 216 o 0
def mFree (K : Nat) : Prop := K ≠ 200 ∧ K ≠ 201 ∧ K ≠ 202 ∧ K ≠ 203 ∧ K ≠ 205 ∧ K ≠ 211 ∧ K ≠ 222
theorem mEnd_keep {M : mM} {u h K j : Nat} (hK : mFree K) : mEnd M u h K j = M K j := by
  obtain ⟨h0, h1, h2, h3, h5, h11, h22⟩ := hK
  unfold mEnd
  rw [yu_ne _ _ (Or.inl h22), yu_ne _ _ (Or.inl h11), yu_ne _ _ (Or.inl h5), yu_ne _ _ (Or.inl h3), yu_ne _ _ (Or.inl h2), yu_ne _ _ (Or.inl h1)]
theorem mEndL_keep {M : mM} {u h K j : Nat} (hK : mFree K) : mEndL M u h K j = M K j := (yu_ne _ _ (Or.inl hK.1)).trans (mEnd_keep hK)
theorem mEnds_keep {h K j : Nat} (hK : mFree K) : ∀ (l : List Nat) (M : mM), mEnds M l h K j = M K j
  | [], _ => rfl
  | u :: l, M => (mEnds_keep hK l (mEndL M u h)).trans (mEndL_keep hK)
theorem mEnds_snoc {M : mM} {l : List Nat} {q h : Nat} (hq : q < l.length) : mEnds M (l.take (q + 1)) h = mEndL (mEnds M (l.take q) h) l[q] h := by
  unfold mEnds
  rw [List.take_add_one, List.getElem?_eq_getElem hq, List.foldl_append]
  rfl
theorem mFree216 : mFree 216 := by unfold mFree; decide
theorem mFree217 : mFree 217 := by unfold mFree; decide

set_option maxHeartbeats 4000000 in
set_option maxRecDepth 20000 in
theorem c_M_breakAll_loop {G : yG} {s : Nat → Option ySh} {F : Nat → Nat → Option Nat} {M : mM} (hS : mSh s F) {o : Nat} {l : List Nat} (ho : o < 6) (hl6 : l.length ≤ 6) (hls : M 216 o = nI l.length) (hr : mL M 217 (o * 6) l) (hall : ∀ u ∈ l, u < 6) : ∀ (m q : Nat), m + q = l.length → yWW G m_M_breakAll (mQ G m_M_breakAll s F (fun r M' => r = none ∧ M' = mBrk M o l 3)) s 2 [some (yr 200), some (yi (nI o)), some (yi (nI q))] [] (mw s F (mEnds M (l.take q) 3)) 0 0 := by
  intro m
  induction m with
  | zero =>
    intro q hm
    have hs2 : (mEnds M (l.take q) 3) 216 o = nI l.length := (mEnds_keep mFree216 _ _).trans hls
    have htk : l.take q = l := by rw [show q = l.length by omega]; exact List.take_length
    rw [htk] at hs2
    rw [htk]
    refine yr_iload_n d_M_breakAll_2 rfl ?_
    refine yr_aload_n d_M_breakAll_3 rfl ?_
    refine mr_arr (a := 15) (K := 216) hS d_M_breakAll_4 sf_M_breakAll_4 rfl (by decide) rfl ?_
    refine yr_iload_n d_M_breakAll_7 rfl ?_
    refine mr_ld (a := 15) (K := 216) (n := 6) (j := o) hS d_M_breakAll_8 (by decide) rfl rfl rfl (by simp only [nI0, nI1, nI2, nI3, nI4, nI6, nI_mulN, nI_add]) (by omega) ?_
    rw [hs2]
    refine yr_icmp_ge (tgt := 38) d_M_breakAll_9 (by decide) (fun c9 => ?_) (fun c9 => absurd (nI_le (by omega) (by omega)) c9)
    refine yr_aload_n d_M_breakAll_38 rfl ?_
    refine mr_arr (a := 15) (K := 216) hS d_M_breakAll_39 sf_M_breakAll_39 rfl (by decide) rfl ?_
    refine yr_iload_n d_M_breakAll_42 rfl ?_
    refine yr_iconst (v := 0) d_M_breakAll_43 (by decide) ?_
    refine mr_st (a := 15) (K := 216) (n := 6) (j := o) hS d_M_breakAll_44 (by decide) rfl rfl rfl (by simp only [nI0, nI1, nI2, nI3, nI4, nI6, nI_mulN, nI_add]) (by omega) ?_
    exact yr_retv d_M_breakAll_45 rfl (by decide) (by decide) ⟨_, rfl, rfl, rfl⟩
  | succ m ih =>
    intro q hm
    have hs2 : (mEnds M (l.take q) 3) 216 o = nI l.length := (mEnds_keep mFree216 _ _).trans hls
    have hq : q < l.length := by omega
    have hu : l[q] < 6 := hall _ (List.getElem_mem hq)
    have hr2 : (mEnds M (l.take q) 3) 217 (o * 6 + q) = nI l[q] := (mEnds_keep mFree217 _ _).trans (hr q hq)
    refine yr_iload_n d_M_breakAll_2 rfl ?_
    refine yr_aload_n d_M_breakAll_3 rfl ?_
    refine mr_arr (a := 15) (K := 216) hS d_M_breakAll_4 sf_M_breakAll_4 rfl (by decide) rfl ?_
    refine yr_iload_n d_M_breakAll_7 rfl ?_
    refine mr_ld (a := 15) (K := 216) (n := 6) (j := o) hS d_M_breakAll_8 (by decide) rfl rfl rfl (by simp only [nI0, nI1, nI2, nI3, nI4, nI6, nI_mulN, nI_add]) (by omega) ?_
    rw [hs2]
    refine yr_icmp_ge (tgt := 38) d_M_breakAll_9 (by decide) (fun c9 => absurd c9 (nI_ge (by omega) (by omega))) (fun c9 => ?_)
    refine yr_aload_n d_M_breakAll_12 rfl ?_
    refine yr_aload_n d_M_breakAll_13 rfl ?_
    refine yr_aload_n d_M_breakAll_14 rfl ?_
    refine mr_arr (a := 16) (K := 217) hS d_M_breakAll_15 sf_M_breakAll_15 rfl (by decide) rfl ?_
    refine yr_iload_n d_M_breakAll_18 rfl ?_
    refine yr_bipush (v := 6) d_M_breakAll_19 (by decide) ?_
    refine yr_imul d_M_breakAll_21 ?_
    refine yr_iload_n d_M_breakAll_22 rfl ?_
    refine yr_iadd d_M_breakAll_23 ?_
    refine mr_ld (a := 16) (K := 217) (n := 36) (j := ((o * 6) + q)) hS d_M_breakAll_24 (by decide) rfl rfl rfl (by simp only [nI0, nI1, nI2, nI3, nI4, nI6, nI_mulN, nI_add]) (by omega) ?_
    rw [hr2]
    refine yr_iconst (v := 3) d_M_breakAll_25 (by decide) ?_
    refine mr_call (yrunV (X := yNX) (k := 200) (As := [yi (nI l[q]), yi 3]) (rest := [yr 200]) d_M_breakAll_26 (c_M_end (h := 3) hS hu (by decide)) hS.1 rfl (show yck (yMm m_M_breakAll) m_M_end 2 = true by decide +kernel) cw_M_end (by decide +kernel) (by decide +kernel) (by decide +kernel) (by decide +kernel) (Nat.le_of_ble_eq_true rfl) (ycat_of rfl) (by decide) (by decide)) (fun r M9 hp => ?_)
    obtain ⟨rfl, rfl⟩ := hp
    refine mr_puti (f := 25) hS d_M_breakAll_29 sf_M_breakAll_29 rfl rfl ⟨rfl, rfl⟩ ?_
    refine yr_iinc (v := nI (q + 1)) d_M_breakAll_32 rfl (nI_1 (q)) (by decide) rfl ?_
    refine yr_goto (tgt := 2) d_M_breakAll_35 (by decide) ?_
    have k := ih (q + 1) (by omega)
    rw [mEnds_snoc hq] at k
    exact k

set_option maxHeartbeats 4000000 in
set_option maxRecDepth 20000 in
theorem c_M_breakAll {G : yG} {s : Nat → Option ySh} {F : Nat → Nat → Option Nat} {M : mM} (hS : mSh s F) {o : Nat} {l : List Nat} (ho : o < 6) (hl6 : l.length ≤ 6) (hls : M 216 o = nI l.length) (hr : mL M 217 (o * 6) l) (hall : ∀ u ∈ l, u < 6) : mCT G m_M_breakAll [yr 200, yi (nI o)] s F M (fun r M' => r = none ∧ M' = mBrk M o l 3) := by
  refine yCT_of (by decide) rfl (ycat_of rfl) (Nat.le_of_ble_eq_true rfl) ?_
  refine yr_iconst (v := 0) d_M_breakAll_0 (by decide) ?_
  refine yr_istore_n d_M_breakAll_1 (by decide) rfl ?_
  exact c_M_breakAll_loop hS ho hl6 hls hr hall l.length 0 rfl

set_option maxHeartbeats 4000000 in
set_option maxRecDepth 20000 in
theorem c_M_arrive_loop {G : yG} {s : Nat → Option ySh} {F : Nat → Nat → Option Nat} {M : mM} (hS : mSh s F) {o : Nat} {l : List Nat} (ho : o < 6) (hl6 : l.length ≤ 6) (hls : M 216 o = nI l.length) (hr : mL M 217 (o * 6) l) (hall : ∀ u ∈ l, u < 6) {t : Nat} (ht : t < 6) : ∀ (m q : Nat), m + q = l.length → yWW G m_M_arrive (mQ G m_M_arrive s F (fun r M' => r = some (yi 0) ∧ M' = mEnd (mBrk M o l 0) t 0)) s 37 [some (yr 200), some (yi (nI t)), some (yi (nI o)), some (yi (nI q))] [] (mw s F (mEnds M (l.take q) 0)) 0 0 := by
  intro m
  induction m with
  | zero =>
    intro q hm
    have hs2 : (mEnds M (l.take q) 0) 216 o = nI l.length := (mEnds_keep mFree216 _ _).trans hls
    have htk : l.take q = l := by rw [show q = l.length by omega]; exact List.take_length
    rw [htk] at hs2
    rw [htk]
    refine yr_iload_n d_M_arrive_37 rfl ?_
    refine yr_aload_n d_M_arrive_38 rfl ?_
    refine mr_arr (a := 15) (K := 216) hS d_M_arrive_39 sf_M_arrive_39 rfl (by decide) rfl ?_
    refine yr_iload_n d_M_arrive_42 rfl ?_
    refine mr_ld (a := 15) (K := 216) (n := 6) (j := o) hS d_M_arrive_43 (by decide) rfl rfl rfl (by simp only [nI0, nI1, nI2, nI3, nI4, nI6, nI_mulN, nI_add]) (by omega) ?_
    rw [hs2]
    refine yr_icmp_ge (tgt := 73) d_M_arrive_44 (by decide) (fun c44 => ?_) (fun c44 => absurd (nI_le (by omega) (by omega)) c44)
    refine yr_aload_n d_M_arrive_73 rfl ?_
    refine mr_arr (a := 15) (K := 216) hS d_M_arrive_74 sf_M_arrive_74 rfl (by decide) rfl ?_
    refine yr_iload_n d_M_arrive_77 rfl ?_
    refine yr_iconst (v := 0) d_M_arrive_78 (by decide) ?_
    refine mr_st (a := 15) (K := 216) (n := 6) (j := o) hS d_M_arrive_79 (by decide) rfl rfl rfl (by simp only [nI0, nI1, nI2, nI3, nI4, nI6, nI_mulN, nI_add]) (by omega) ?_
    refine yr_aload_n d_M_arrive_80 rfl ?_
    refine yr_iload_n d_M_arrive_81 rfl ?_
    refine yr_iconst (v := 0) d_M_arrive_82 (by decide) ?_
    refine mr_call (yrunV (X := yNX) (k := 200) (As := [yi (nI t), yi 0]) (rest := []) d_M_arrive_83 (c_M_end (h := 0) hS ht (by decide)) hS.1 rfl (show yck (yMm m_M_arrive) m_M_end 2 = true by decide +kernel) cw_M_end (by decide +kernel) (by decide +kernel) (by decide +kernel) (by decide +kernel) (Nat.le_of_ble_eq_true rfl) (ycat_of rfl) (by decide) (by decide)) (fun r M9 hp => ?_)
    obtain ⟨rfl, rfl⟩ := hp
    exact yr_reti d_M_arrive_86 rfl (by decide) (by decide) ⟨_, rfl, rfl, rfl⟩
  | succ m ih =>
    intro q hm
    have hs2 : (mEnds M (l.take q) 0) 216 o = nI l.length := (mEnds_keep mFree216 _ _).trans hls
    have hq : q < l.length := by omega
    have hu : l[q] < 6 := hall _ (List.getElem_mem hq)
    have hr2 : (mEnds M (l.take q) 0) 217 (o * 6 + q) = nI l[q] := (mEnds_keep mFree217 _ _).trans (hr q hq)
    refine yr_iload_n d_M_arrive_37 rfl ?_
    refine yr_aload_n d_M_arrive_38 rfl ?_
    refine mr_arr (a := 15) (K := 216) hS d_M_arrive_39 sf_M_arrive_39 rfl (by decide) rfl ?_
    refine yr_iload_n d_M_arrive_42 rfl ?_
    refine mr_ld (a := 15) (K := 216) (n := 6) (j := o) hS d_M_arrive_43 (by decide) rfl rfl rfl (by simp only [nI0, nI1, nI2, nI3, nI4, nI6, nI_mulN, nI_add]) (by omega) ?_
    rw [hs2]
    refine yr_icmp_ge (tgt := 73) d_M_arrive_44 (by decide) (fun c44 => absurd c44 (nI_ge (by omega) (by omega))) (fun c44 => ?_)
    refine yr_aload_n d_M_arrive_47 rfl ?_
    refine yr_aload_n d_M_arrive_48 rfl ?_
    refine yr_aload_n d_M_arrive_49 rfl ?_
    refine mr_arr (a := 16) (K := 217) hS d_M_arrive_50 sf_M_arrive_50 rfl (by decide) rfl ?_
    refine yr_iload_n d_M_arrive_53 rfl ?_
    refine yr_bipush (v := 6) d_M_arrive_54 (by decide) ?_
    refine yr_imul d_M_arrive_56 ?_
    refine yr_iload_n d_M_arrive_57 rfl ?_
    refine yr_iadd d_M_arrive_58 ?_
    refine mr_ld (a := 16) (K := 217) (n := 36) (j := ((o * 6) + q)) hS d_M_arrive_59 (by decide) rfl rfl rfl (by simp only [nI0, nI1, nI2, nI3, nI4, nI6, nI_mulN, nI_add]) (by omega) ?_
    rw [hr2]
    refine yr_iconst (v := 0) d_M_arrive_60 (by decide) ?_
    refine mr_call (yrunV (X := yNX) (k := 200) (As := [yi (nI l[q]), yi 0]) (rest := [yr 200]) d_M_arrive_61 (c_M_end (h := 0) hS hu (by decide)) hS.1 rfl (show yck (yMm m_M_arrive) m_M_end 2 = true by decide +kernel) cw_M_end (by decide +kernel) (by decide +kernel) (by decide +kernel) (by decide +kernel) (Nat.le_of_ble_eq_true rfl) (ycat_of rfl) (by decide) (by decide)) (fun r M9 hp => ?_)
    obtain ⟨rfl, rfl⟩ := hp
    refine mr_puti (f := 25) hS d_M_arrive_64 sf_M_arrive_64 rfl rfl ⟨rfl, rfl⟩ ?_
    refine yr_iinc (v := nI (q + 1)) d_M_arrive_67 rfl (nI_1 (q)) (by decide) rfl ?_
    refine yr_goto (tgt := 37) d_M_arrive_70 (by decide) ?_
    have k := ih (q + 1) (by omega)
    rw [mEnds_snoc hq] at k
    exact k

def mArr (M : mM) (t o : Nat) (l : List Nat) : Int32 × mM := if ¬ M 223 o = 0 then (3, mEnd M t 3) else if ¬ M 213 o ≤ nI (l.length + 1) then (-1, M) else (0, mEnd (mBrk M o l 0) t 0)
theorem yWW_postM {G : yG} {i : yM} {s : Nat → Option ySh} {F : Nat → Nat → Option Nat} {pc : Nat} {ls : List (Option yV)} {st : List yV} {ω : yW} {cs sl : Nat} {P P' : Option yV → mM → Prop} (k : yWW G i (mQ G i s F P) s pc ls st ω cs sl) (h : ∀ r M', P r M' → P' r M') : yWW G i (mQ G i s F P') s pc ls st ω cs sl := yWW_post k (fun r ω' ⟨M', h1, h2⟩ => ⟨M', h1, h r M' h2⟩)

set_option maxHeartbeats 4000000 in
set_option maxRecDepth 20000 in
theorem c_M_arrive {G : yG} {s : Nat → Option ySh} {F : Nat → Nat → Option Nat} {M : mM} (hS : mSh s F) {o : Nat} {l : List Nat} (ho : o < 6) (hl6 : l.length ≤ 6) (hls : M 216 o = nI l.length) (hr : mL M 217 (o * 6) l) (hall : ∀ u ∈ l, u < 6) {t : Nat} (ht : t < 6) : mCT G m_M_arrive [yr 200, yi (nI t), yi (nI o)] s F M (fun r M' => r = some (yi (mArr M t o l).1) ∧ M' = (mArr M t o l).2) := by
  refine yCT_of (by decide) rfl (ycat_of rfl) (Nat.le_of_ble_eq_true rfl) ?_
  refine yr_aload_n d_M_arrive_0 rfl ?_
  refine mr_arr (a := 22) (K := 223) hS d_M_arrive_1 sf_M_arrive_1 rfl (by decide) rfl ?_
  refine yr_iload_n d_M_arrive_4 rfl ?_
  refine mr_ldz (a := 22) (K := 223) (n := 6) (j := o) hS d_M_arrive_5 (by decide) rfl rfl rfl (by simp only [nI0, nI1, nI2, nI3, nI4, nI6, nI_mulN, nI_add]) (by omega) ?_
  refine yr_if_eq (tgt := 16) d_M_arrive_6 (by decide) (fun c6 => ?_) (fun c6 => ?_)
  · skip
    refine yr_aload_n d_M_arrive_16 rfl ?_
    refine mr_arr (a := 15) (K := 216) hS d_M_arrive_17 sf_M_arrive_17 rfl (by decide) rfl ?_
    refine yr_iload_n d_M_arrive_20 rfl ?_
    refine mr_ld (a := 15) (K := 216) (n := 6) (j := o) hS d_M_arrive_21 (by decide) rfl rfl rfl (by simp only [nI0, nI1, nI2, nI3, nI4, nI6, nI_mulN, nI_add]) (by omega) ?_
    rw [hls]
    refine yr_iconst (v := 1) d_M_arrive_22 (by decide) ?_
    refine yr_iadd d_M_arrive_23 ?_
    rw [nI_1]
    refine yr_aload_n d_M_arrive_24 rfl ?_
    refine mr_arr (a := 12) (K := 213) hS d_M_arrive_25 sf_M_arrive_25 rfl (by decide) rfl ?_
    refine yr_iload_n d_M_arrive_28 rfl ?_
    refine mr_ld (a := 12) (K := 213) (n := 6) (j := o) hS d_M_arrive_29 (by decide) rfl rfl rfl (by simp only [nI0, nI1, nI2, nI3, nI4, nI6, nI_mulN, nI_add]) (by omega) ?_
    refine yr_icmp_ge (tgt := 35) d_M_arrive_30 (by decide) (fun c30 => ?_) (fun c30 => ?_)
    · skip
      refine yr_iconst (v := 0) d_M_arrive_35 (by decide) ?_
      refine yr_istore_n d_M_arrive_36 (by decide) rfl ?_
      refine yWW_postM (c_M_arrive_loop hS ho hl6 hls hr hall ht l.length 0 rfl) (fun r M9 hp => ?_)
      obtain ⟨rfl, rfl⟩ := hp
      exact ⟨by unfold mArr; rw [if_neg (fun z => z c6), if_neg (fun z => z c30)], by unfold mArr; rw [if_neg (fun z => z c6), if_neg (fun z => z c30)]⟩
    · skip
      refine yr_iconst (v := -1) d_M_arrive_33 (by decide) ?_
      exact yr_reti d_M_arrive_34 rfl (by decide) (by decide) ⟨_, rfl, by unfold mArr; rw [if_neg (fun z => z c6), if_pos c30], by unfold mArr; rw [if_neg (fun z => z c6), if_pos c30]⟩
  · skip
    refine yr_aload_n d_M_arrive_9 rfl ?_
    refine yr_iload_n d_M_arrive_10 rfl ?_
    refine yr_iconst (v := 3) d_M_arrive_11 (by decide) ?_
    refine mr_call (yrunV (X := yNX) (k := 200) (As := [yi (nI t), yi 3]) (rest := []) d_M_arrive_12 (c_M_end (h := 3) hS ht (by decide)) hS.1 rfl (show yck (yMm m_M_arrive) m_M_end 2 = true by decide +kernel) cw_M_end (by decide +kernel) (by decide +kernel) (by decide +kernel) (by decide +kernel) (Nat.le_of_ble_eq_true rfl) (ycat_of rfl) (by decide) (by decide)) (fun r M9 hp => ?_)
    obtain ⟨rfl, rfl⟩ := hp
    exact yr_reti d_M_arrive_15 rfl (by decide) (by decide) ⟨_, rfl, by unfold mArr; rw [if_pos c6]; rfl, by unfold mArr; rw [if_pos c6]⟩

def mRef (M : mM) (t o : Nat) (a : Int32) (l : List Nat) : Nat × mM := (if M 210 t = 0 then 2 else 4, mEnd (if a = 13 ∧ ¬ M 210 t = 0 then mBrk (yu (yu M 210 t 0) 223 o 1) o l 3 else yu M 210 t 0) t (if M 210 t = 0 then 2 else 4))

set_option maxHeartbeats 4000000 in
set_option maxRecDepth 20000 in
theorem c_M_refused {G : yG} {s : Nat → Option ySh} {F : Nat → Nat → Option Nat} {M : mM} (hS : mSh s F) {o : Nat} {l : List Nat} (ho : o < 6) (hl6 : l.length ≤ 6) (hls : M 216 o = nI l.length) (hr : mL M 217 (o * 6) l) (hall : ∀ u ∈ l, u < 6) {t : Nat} {a : Int32} (ht : t < 6) : mCT G m_M_refused [yr 200, yi (nI t), yi (nI o), yi a] s F M (fun r M' => r = some (yi (nI (mRef M t o a l).1)) ∧ M' = (mRef M t o a l).2) := by
  refine yCT_of (by decide) rfl (ycat_of rfl) (Nat.le_of_ble_eq_true rfl) ?_
  refine yr_aload_n d_M_refused_0 rfl ?_
  refine mr_arr (a := 9) (K := 210) hS d_M_refused_1 sf_M_refused_1 rfl (by decide) rfl ?_
  refine yr_iload_n d_M_refused_4 rfl ?_
  refine mr_ldz (a := 9) (K := 210) (n := 6) (j := t) hS d_M_refused_5 (by decide) rfl rfl rfl (by simp only [nI0, nI1, nI2, nI3, nI4, nI6, nI_mulN, nI_add]) (by omega) ?_
  refine yr_istore d_M_refused_6 (by decide) rfl ?_
  refine yr_aload_n d_M_refused_8 rfl ?_
  refine mr_arr (a := 9) (K := 210) hS d_M_refused_9 sf_M_refused_9 rfl (by decide) rfl ?_
  refine yr_iload_n d_M_refused_12 rfl ?_
  refine yr_iconst (v := 0) d_M_refused_13 (by decide) ?_
  refine mr_stz (a := 9) (K := 210) (n := 6) (j := t) hS d_M_refused_14 (by decide) rfl rfl rfl (by simp only [nI0, nI1, nI2, nI3, nI4, nI6, nI_mulN, nI_add]) (by omega) rfl ?_
  refine yr_iload_n d_M_refused_15 rfl ?_
  refine yr_bipush (v := 13) d_M_refused_16 (by decide) ?_
  refine yr_icmp_ne (tgt := 38) d_M_refused_18 (by decide) (fun c18 => ?_) (fun c18 => ?_)
  · skip
    refine yr_aload_n d_M_refused_38 rfl ?_
    refine yr_iload_n d_M_refused_39 rfl ?_
    refine yr_iload d_M_refused_40 rfl ?_
    refine yr_if_eq (tgt := 49) d_M_refused_42 (by decide) (fun c42 => ?_) (fun c42 => ?_)
    · skip
      refine yr_iconst (v := 2) d_M_refused_49 (by decide) ?_
      first
      | exact absurd c23 c42
      | exact absurd c42 c23
      | (refine mr_call (yrunV (X := yNX) (k := 200) (As := [yi (nI t), yi 4]) (rest := []) d_M_refused_50 (c_M_end (h := 4) hS ht (by decide)) hS.1 rfl (show yck (yMm m_M_refused) m_M_end 2 = true by decide +kernel) cw_M_end (by decide +kernel) (by decide +kernel) (by decide +kernel) (by decide +kernel) (Nat.le_of_ble_eq_true rfl) (ycat_of rfl) (by decide) (by decide)) (fun r M9 hp => ?_)
         obtain ⟨rfl, rfl⟩ := hp
         exact yr_reti d_M_refused_53 rfl (by decide) (by decide) ⟨_, rfl, by simp [mRef, *], by simp [mRef, *]⟩)
      | (refine mr_call (yrunV (X := yNX) (k := 200) (As := [yi (nI t), yi 2]) (rest := []) d_M_refused_50 (c_M_end (h := 2) hS ht (by decide)) hS.1 rfl (show yck (yMm m_M_refused) m_M_end 2 = true by decide +kernel) cw_M_end (by decide +kernel) (by decide +kernel) (by decide +kernel) (by decide +kernel) (Nat.le_of_ble_eq_true rfl) (ycat_of rfl) (by decide) (by decide)) (fun r M9 hp => ?_)
         obtain ⟨rfl, rfl⟩ := hp
         exact yr_reti d_M_refused_53 rfl (by decide) (by decide) ⟨_, rfl, by simp [mRef, *], by simp [mRef, *]⟩)
    · skip
      refine yr_iconst (v := 4) d_M_refused_45 (by decide) ?_
      refine yr_goto (tgt := 50) d_M_refused_46 (by decide) ?_
      first
      | exact absurd c23 c42
      | exact absurd c42 c23
      | (refine mr_call (yrunV (X := yNX) (k := 200) (As := [yi (nI t), yi 4]) (rest := []) d_M_refused_50 (c_M_end (h := 4) hS ht (by decide)) hS.1 rfl (show yck (yMm m_M_refused) m_M_end 2 = true by decide +kernel) cw_M_end (by decide +kernel) (by decide +kernel) (by decide +kernel) (by decide +kernel) (Nat.le_of_ble_eq_true rfl) (ycat_of rfl) (by decide) (by decide)) (fun r M9 hp => ?_)
         obtain ⟨rfl, rfl⟩ := hp
         exact yr_reti d_M_refused_53 rfl (by decide) (by decide) ⟨_, rfl, by simp [mRef, *], by simp [mRef, *]⟩)
      | (refine mr_call (yrunV (X := yNX) (k := 200) (As := [yi (nI t), yi 2]) (rest := []) d_M_refused_50 (c_M_end (h := 2) hS ht (by decide)) hS.1 rfl (show yck (yMm m_M_refused) m_M_end 2 = true by decide +kernel) cw_M_end (by decide +kernel) (by decide +kernel) (by decide +kernel) (by decide +kernel) (Nat.le_of_ble_eq_true rfl) (ycat_of rfl) (by decide) (by decide)) (fun r M9 hp => ?_)
         obtain ⟨rfl, rfl⟩ := hp
         exact yr_reti d_M_refused_53 rfl (by decide) (by decide) ⟨_, rfl, by simp [mRef, *], by simp [mRef, *]⟩)
  · skip
    refine yr_iload d_M_refused_21 rfl ?_
    refine yr_if_eq (tgt := 38) d_M_refused_23 (by decide) (fun c23 => ?_) (fun c23 => ?_)
    · skip
      refine yr_aload_n d_M_refused_38 rfl ?_
      refine yr_iload_n d_M_refused_39 rfl ?_
      refine yr_iload d_M_refused_40 rfl ?_
      refine yr_if_eq (tgt := 49) d_M_refused_42 (by decide) (fun c42 => ?_) (fun c42 => ?_)
      · skip
        refine yr_iconst (v := 2) d_M_refused_49 (by decide) ?_
        first
        | exact absurd c23 c42
        | exact absurd c42 c23
        | (refine mr_call (yrunV (X := yNX) (k := 200) (As := [yi (nI t), yi 4]) (rest := []) d_M_refused_50 (c_M_end (h := 4) hS ht (by decide)) hS.1 rfl (show yck (yMm m_M_refused) m_M_end 2 = true by decide +kernel) cw_M_end (by decide +kernel) (by decide +kernel) (by decide +kernel) (by decide +kernel) (Nat.le_of_ble_eq_true rfl) (ycat_of rfl) (by decide) (by decide)) (fun r M9 hp => ?_)
           obtain ⟨rfl, rfl⟩ := hp
           exact yr_reti d_M_refused_53 rfl (by decide) (by decide) ⟨_, rfl, by simp [mRef, *], by simp [mRef, *]⟩)
        | (refine mr_call (yrunV (X := yNX) (k := 200) (As := [yi (nI t), yi 2]) (rest := []) d_M_refused_50 (c_M_end (h := 2) hS ht (by decide)) hS.1 rfl (show yck (yMm m_M_refused) m_M_end 2 = true by decide +kernel) cw_M_end (by decide +kernel) (by decide +kernel) (by decide +kernel) (by decide +kernel) (Nat.le_of_ble_eq_true rfl) (ycat_of rfl) (by decide) (by decide)) (fun r M9 hp => ?_)
           obtain ⟨rfl, rfl⟩ := hp
           exact yr_reti d_M_refused_53 rfl (by decide) (by decide) ⟨_, rfl, by simp [mRef, *], by simp [mRef, *]⟩)
      · skip
        refine yr_iconst (v := 4) d_M_refused_45 (by decide) ?_
        refine yr_goto (tgt := 50) d_M_refused_46 (by decide) ?_
        first
        | exact absurd c23 c42
        | exact absurd c42 c23
        | (refine mr_call (yrunV (X := yNX) (k := 200) (As := [yi (nI t), yi 4]) (rest := []) d_M_refused_50 (c_M_end (h := 4) hS ht (by decide)) hS.1 rfl (show yck (yMm m_M_refused) m_M_end 2 = true by decide +kernel) cw_M_end (by decide +kernel) (by decide +kernel) (by decide +kernel) (by decide +kernel) (Nat.le_of_ble_eq_true rfl) (ycat_of rfl) (by decide) (by decide)) (fun r M9 hp => ?_)
           obtain ⟨rfl, rfl⟩ := hp
           exact yr_reti d_M_refused_53 rfl (by decide) (by decide) ⟨_, rfl, by simp [mRef, *], by simp [mRef, *]⟩)
        | (refine mr_call (yrunV (X := yNX) (k := 200) (As := [yi (nI t), yi 2]) (rest := []) d_M_refused_50 (c_M_end (h := 2) hS ht (by decide)) hS.1 rfl (show yck (yMm m_M_refused) m_M_end 2 = true by decide +kernel) cw_M_end (by decide +kernel) (by decide +kernel) (by decide +kernel) (by decide +kernel) (Nat.le_of_ble_eq_true rfl) (ycat_of rfl) (by decide) (by decide)) (fun r M9 hp => ?_)
           obtain ⟨rfl, rfl⟩ := hp
           exact yr_reti d_M_refused_53 rfl (by decide) (by decide) ⟨_, rfl, by simp [mRef, *], by simp [mRef, *]⟩)
    · skip
      refine yr_aload_n d_M_refused_26 rfl ?_
      refine mr_arr (a := 22) (K := 223) hS d_M_refused_27 sf_M_refused_27 rfl (by decide) rfl ?_
      refine yr_iload_n d_M_refused_30 rfl ?_
      refine yr_iconst (v := 1) d_M_refused_31 (by decide) ?_
      refine mr_stz (a := 22) (K := 223) (n := 6) (j := o) hS d_M_refused_32 (by decide) rfl rfl rfl (by simp only [nI0, nI1, nI2, nI3, nI4, nI6, nI_mulN, nI_add]) (by omega) rfl ?_
      refine yr_aload_n d_M_refused_33 rfl ?_
      refine yr_iload_n d_M_refused_34 rfl ?_
      refine mr_call (yrunV (X := yNX) (k := 200) (As := [yi (nI o)]) (rest := []) d_M_refused_35 (c_M_breakAll hS ho hl6 (by rw [yu_ne _ _ (Or.inl (by decide)), yu_ne _ _ (Or.inl (by decide))]; exact hls) (fun j hj => by rw [yu_ne _ _ (Or.inl (by decide)), yu_ne _ _ (Or.inl (by decide))]; exact hr j hj) hall) hS.1 rfl (show yck (yMm m_M_refused) m_M_breakAll 1 = true by decide +kernel) cw_M_breakAll (by decide +kernel) (by decide +kernel) (by decide +kernel) (by decide +kernel) (Nat.le_of_ble_eq_true rfl) (ycat_of rfl) (by decide) (by decide)) (fun r M9 hp => ?_)
      obtain ⟨rfl, rfl⟩ := hp
      refine yr_aload_n d_M_refused_38 rfl ?_
      refine yr_iload_n d_M_refused_39 rfl ?_
      refine yr_iload d_M_refused_40 rfl ?_
      refine yr_if_eq (tgt := 49) d_M_refused_42 (by decide) (fun c42 => ?_) (fun c42 => ?_)
      · skip
        refine yr_iconst (v := 2) d_M_refused_49 (by decide) ?_
        first
        | exact absurd c23 c42
        | exact absurd c42 c23
        | (refine mr_call (yrunV (X := yNX) (k := 200) (As := [yi (nI t), yi 4]) (rest := []) d_M_refused_50 (c_M_end (h := 4) hS ht (by decide)) hS.1 rfl (show yck (yMm m_M_refused) m_M_end 2 = true by decide +kernel) cw_M_end (by decide +kernel) (by decide +kernel) (by decide +kernel) (by decide +kernel) (Nat.le_of_ble_eq_true rfl) (ycat_of rfl) (by decide) (by decide)) (fun r M9 hp => ?_)
           obtain ⟨rfl, rfl⟩ := hp
           exact yr_reti d_M_refused_53 rfl (by decide) (by decide) ⟨_, rfl, by simp [mRef, *], by simp [mRef, *]⟩)
        | (refine mr_call (yrunV (X := yNX) (k := 200) (As := [yi (nI t), yi 2]) (rest := []) d_M_refused_50 (c_M_end (h := 2) hS ht (by decide)) hS.1 rfl (show yck (yMm m_M_refused) m_M_end 2 = true by decide +kernel) cw_M_end (by decide +kernel) (by decide +kernel) (by decide +kernel) (by decide +kernel) (Nat.le_of_ble_eq_true rfl) (ycat_of rfl) (by decide) (by decide)) (fun r M9 hp => ?_)
           obtain ⟨rfl, rfl⟩ := hp
           exact yr_reti d_M_refused_53 rfl (by decide) (by decide) ⟨_, rfl, by simp [mRef, *], by simp [mRef, *]⟩)
      · skip
        refine yr_iconst (v := 4) d_M_refused_45 (by decide) ?_
        refine yr_goto (tgt := 50) d_M_refused_46 (by decide) ?_
        first
        | exact absurd c23 c42
        | exact absurd c42 c23
        | (refine mr_call (yrunV (X := yNX) (k := 200) (As := [yi (nI t), yi 4]) (rest := []) d_M_refused_50 (c_M_end (h := 4) hS ht (by decide)) hS.1 rfl (show yck (yMm m_M_refused) m_M_end 2 = true by decide +kernel) cw_M_end (by decide +kernel) (by decide +kernel) (by decide +kernel) (by decide +kernel) (Nat.le_of_ble_eq_true rfl) (ycat_of rfl) (by decide) (by decide)) (fun r M9 hp => ?_)
           obtain ⟨rfl, rfl⟩ := hp
           exact yr_reti d_M_refused_53 rfl (by decide) (by decide) ⟨_, rfl, by simp [mRef, *], by simp [mRef, *]⟩)
        | (refine mr_call (yrunV (X := yNX) (k := 200) (As := [yi (nI t), yi 2]) (rest := []) d_M_refused_50 (c_M_end (h := 2) hS ht (by decide)) hS.1 rfl (show yck (yMm m_M_refused) m_M_end 2 = true by decide +kernel) cw_M_end (by decide +kernel) (by decide +kernel) (by decide +kernel) (by decide +kernel) (Nat.le_of_ble_eq_true rfl) (ycat_of rfl) (by decide) (by decide)) (fun r M9 hp => ?_)
           obtain ⟨rfl, rfl⟩ := hp
           exact yr_reti d_M_refused_53 rfl (by decide) (by decide) ⟨_, rfl, by simp [mRef, *], by simp [mRef, *]⟩)

def mCallL (o c : Nat) : Nat → List Nat → Nat → mM → mM
  | 0, _, _, M => M
  | _ + 1, [], _, M => M
  | k + 1, u :: lc, nr, M => mCallL o c k lc (nr + 1) (mCalled (mRem M 219 (c * 6) 218 c 0 lc.length) u o nr 0)
def mCo (K : Nat) : Prop := K ≠ 211 ∧ K ≠ 209 ∧ K ≠ 205 ∧ K ≠ 206 ∧ K ≠ 217 ∧ K ≠ 216 ∧ K ≠ 201 ∧ K ≠ 203
theorem mCalled_keep {M : mM} {t o n h K j : Nat} (hK : mCo K) : mCalled M t o n h K j = M K j := by
  obtain ⟨h0, h1, h2, h3, h4, h5, h6, h7⟩ := hK
  unfold mCalled mEnter
  rw [yu_ne _ _ (Or.inl h7), yu_ne _ _ (Or.inl h6), yu_ne _ _ (Or.inl h5), yu_ne _ _ (Or.inl h4), yu_ne _ _ (Or.inl h3), yu_ne _ _ (Or.inl h2), yu_ne _ _ (Or.inl h1), yu_ne _ _ (Or.inl h0)]
theorem mCalled_216 {M : mM} {t o n h : Nat} : mCalled M t o n h 216 o = nI (n + 1) := by
  unfold mCalled mEnter
  rw [yu_ne _ _ (Or.inl (by decide)), yu_ne _ _ (Or.inl (by decide)), yu_same]
theorem mRem_keep {M : mM} {K b Ks s i n k j : Nat} (h1 : k ≠ K) (h2 : k ≠ Ks) : mRem M K b Ks s i n k j = M k j := by
  unfold mRem
  rw [mSft_at (by omega), yu_ne _ _ (Or.inl h2)]
theorem mRem_sz {M : mM} {K b Ks s i n : Nat} (h : Ks ≠ K) : mRem M K b Ks s i n Ks s = nI n := by
  unfold mRem
  rw [mSft_at (by omega), yu_same]

set_option maxHeartbeats 4000000 in
set_option maxRecDepth 20000 in
theorem c_M_call_loop {G : yG} {s : Nat → Option ySh} {F : Nat → Nat → Option Nat} (hS : mSh s F) {o j w : Nat} (ho : o < 6) (hj : j < 2) : ∀ (k q : Nat) (M : mM) (lc : List Nat) (nr : Nat) (x6 : Option yV), w < 7 → k + q = w → lc.length + nr ≤ 6 → (∀ u ∈ lc, u < 6) → M 218 (o * 2 + j) = nI lc.length → M 216 o = nI nr → mL M 219 ((o * 2 + j) * 6) lc → yWW G m_M_call (mQ G m_M_call s F (fun r M' => r = none ∧ M' = mCallL o (o * 2 + j) k lc nr M)) s 10 [some (yr 200), some (yi (nI o)), some (yi (nI j)), some (yi (nI w)), some (yi (nI (o * 2 + j))), some (yi (nI q)), x6] [] (mw s F M) 0 0 := by
  intro k
  induction k with
  | zero =>
    intro q M lc nr x6 hw hk hln hall hcs hrs hL
    refine yr_iload d_M_call_10 rfl ?_
    refine yr_iload_n d_M_call_12 rfl ?_
    refine yr_icmp_ge (tgt := 73) d_M_call_13 (by decide) (fun c13 => ?_) (fun c13 => absurd (nI_le (by omega) (by omega)) c13)
    exact yr_retv d_M_call_73 rfl (by decide) (by decide) ⟨_, rfl, rfl, rfl⟩
  | succ k ih =>
    intro q M lc nr x6 hw hk hln hall hcs hrs hL
    cases lc with
    | nil =>
      refine yr_iload d_M_call_10 rfl ?_
      refine yr_iload_n d_M_call_12 rfl ?_
      refine yr_icmp_ge (tgt := 73) d_M_call_13 (by decide) (fun c13 => absurd c13 (nI_ge (by omega) (by omega))) (fun c13 => ?_)
      refine yr_aload_n d_M_call_16 rfl ?_
      refine mr_arr (a := 17) (K := 218) hS d_M_call_17 sf_M_call_17 rfl (by decide) rfl ?_
      refine yr_iload d_M_call_20 rfl ?_
      refine mr_ld (a := 17) (K := 218) (n := 12) (j := (o * 2 + j)) hS d_M_call_22 (by decide) rfl rfl rfl (by simp only [nI0, nI1, nI2, nI3, nI4, nI6, nI_mulN, nI_add]) (by omega) ?_
      rw [hcs]
      refine yr_if_le (tgt := 73) d_M_call_23 (by decide) (fun c23 => ?_) (fun c23 => absurd (show nI ([] : List Nat).length ≤ 0 by decide) c23)
      exact yr_retv d_M_call_73 rfl (by decide) (by decide) ⟨_, rfl, rfl, rfl⟩
    | cons u lc =>
      have hu : u < 6 := hall u List.mem_cons_self
      have hlen : (u :: lc).length = lc.length + 1 := rfl
      have h0 : M 219 ((o * 2 + j) * 6) = nI u := hL 0 (by simp)
      refine yr_iload d_M_call_10 rfl ?_
      refine yr_iload_n d_M_call_12 rfl ?_
      refine yr_icmp_ge (tgt := 73) d_M_call_13 (by decide) (fun c13 => absurd c13 (nI_ge (by omega) (by omega))) (fun c13 => ?_)
      refine yr_aload_n d_M_call_16 rfl ?_
      refine mr_arr (a := 17) (K := 218) hS d_M_call_17 sf_M_call_17 rfl (by decide) rfl ?_
      refine yr_iload d_M_call_20 rfl ?_
      refine mr_ld (a := 17) (K := 218) (n := 12) (j := (o * 2 + j)) hS d_M_call_22 (by decide) rfl rfl rfl (by simp only [nI0, nI1, nI2, nI3, nI4, nI6, nI_mulN, nI_add]) (by omega) ?_
      rw [hcs, hlen]
      refine yr_if_le (tgt := 73) d_M_call_23 (by decide) (fun c23 => absurd c23 (nI_nle (by omega) (by omega))) (fun c23 => ?_)
      refine yr_aload_n d_M_call_26 rfl ?_
      refine mr_arr (a := 18) (K := 219) hS d_M_call_27 sf_M_call_27 rfl (by decide) rfl ?_
      refine yr_iload d_M_call_30 rfl ?_
      refine yr_bipush (v := 6) d_M_call_32 (by decide) ?_
      refine yr_imul d_M_call_34 ?_
      refine mr_ld (a := 18) (K := 219) (n := 72) (j := ((o * 2 + j) * 6)) hS d_M_call_35 (by decide) rfl rfl rfl (by simp only [nI0, nI1, nI2, nI3, nI4, nI6, nI_mulN, nI_add]) (by omega) ?_
      rw [h0]
      refine yr_istore d_M_call_36 (by decide) rfl ?_
      refine yr_aload_n d_M_call_38 rfl ?_
      skip
      refine yr_aload_n d_M_call_39 rfl ?_
      refine mr_arr (a := 18) (K := 219) hS d_M_call_40 sf_M_call_40 rfl (by decide) rfl ?_
      refine yr_iload d_M_call_43 rfl ?_
      refine yr_bipush (v := 6) d_M_call_45 (by decide) ?_
      refine yr_imul d_M_call_47 ?_
      refine yr_aload_n d_M_call_48 rfl ?_
      refine mr_arr (a := 17) (K := 218) hS d_M_call_49 sf_M_call_49 rfl (by decide) rfl ?_
      refine yr_iload d_M_call_52 rfl ?_
      refine yr_iload d_M_call_54 rfl ?_
      rw [show nI (o * 2 + j) * 6 = nI ((o * 2 + j) * 6) by simp only [nI6, nI_mulN]]
      refine mr_call (yrunV (X := yNX) (k := 200) (As := [yr 219, yi (nI ((o * 2 + j) * 6)), yr 218, yi (nI (o * 2 + j)), yi (nI u)]) (rest := []) d_M_call_56 (c_M_remove_con (i := 0) (n := lc.length) hS (by omega) (by omega) (Nat.zero_le _) (hcs.trans (congrArg nI hlen)) h0 (fun j9 hj9 => absurd hj9 (Nat.not_lt_zero _))) hS.1 rfl (show yck (yMm m_M_call) m_M_remove 5 = true by decide +kernel) cw_M_remove (by decide +kernel) (by decide +kernel) (by decide +kernel) (by decide +kernel) (Nat.le_of_ble_eq_true rfl) (ycat_of rfl) (by decide) (by decide)) (fun r M9 hp => ?_)
      obtain ⟨rfl, rfl⟩ := hp
      refine yr_aload_n d_M_call_59 rfl ?_
      refine yr_iload d_M_call_60 rfl ?_
      refine yr_iload_n d_M_call_62 rfl ?_
      refine yr_iconst (v := 0) d_M_call_63 (by decide) ?_
      refine mr_call (yrunV (X := yNX) (k := 200) (As := [yi (nI u), yi (nI o), yi 0]) (rest := []) d_M_call_64 (c_M_called (n := nr) (h := 0) hS hu ho (by omega) ((mRem_keep (by decide) (by decide)).trans hrs)) hS.1 rfl (show yck (yMm m_M_call) m_M_called 3 = true by decide +kernel) cw_M_called (by decide +kernel) (by decide +kernel) (by decide +kernel) (by decide +kernel) (Nat.le_of_ble_eq_true rfl) (ycat_of rfl) (by decide) (by decide)) (fun r M9 hp => ?_)
      obtain ⟨rfl, rfl⟩ := hp
      refine yr_iinc (v := nI (q + 1)) d_M_call_67 rfl (nI_1 (q)) (by decide) rfl ?_
      refine yr_goto (tgt := 10) d_M_call_70 (by decide) ?_
      refine ih (q + 1) _ lc (nr + 1) _ hw (by omega) (by omega) (fun v hv => hall v (List.mem_cons_of_mem _ hv)) ?_ mCalled_216 (fun j9 hj9 => ?_)
      · rw [mCalled_keep (by unfold mCo; decide), mRem_sz (by decide)]
      · rw [mCalled_keep (by unfold mCo; decide)]
        unfold mRem
        rw [mSft_in (by omega), yu_ne _ _ (Or.inl (by decide)), show (o * 2 + j) * 6 + j9 + 1 = (o * 2 + j) * 6 + (j9 + 1) by omega, hL (j9 + 1) (by simp; omega)]
        rfl

set_option maxHeartbeats 4000000 in
set_option maxRecDepth 20000 in
theorem c_M_call {G : yG} {s : Nat → Option ySh} {F : Nat → Nat → Option Nat} {M : mM} (hS : mSh s F) {o j w nr : Nat} {lc : List Nat} (ho : o < 6) (hj : j < 2) (hw : w < 7) (hln : lc.length + nr ≤ 6) (hall : ∀ u ∈ lc, u < 6) (hcs : M 218 (o * 2 + j) = nI lc.length) (hrs : M 216 o = nI nr) (hL : mL M 219 ((o * 2 + j) * 6) lc) : mCT G m_M_call [yr 200, yi (nI o), yi (nI j), yi (nI w)] s F M (fun r M' => r = none ∧ M' = mCallL o (o * 2 + j) w lc nr M) := by
  refine yCT_of (by decide) rfl (ycat_of rfl) (Nat.le_of_ble_eq_true rfl) ?_
  refine yr_iload_n d_M_call_0 rfl ?_
  refine yr_iconst (v := 2) d_M_call_1 (by decide) ?_
  refine yr_imul d_M_call_2 ?_
  refine yr_iload_n d_M_call_3 rfl ?_
  refine yr_iadd d_M_call_4 ?_
  rw [show nI o * 2 + nI j = nI (o * 2 + j) by simp only [nI2, nI_mulN, nI_add]]
  refine yr_istore d_M_call_5 (by decide) rfl ?_
  refine yr_iconst (v := 0) d_M_call_7 (by decide) ?_
  refine yr_istore d_M_call_8 (by decide) rfl ?_
  exact c_M_call_loop hS ho hj w 0 M lc nr _ hw rfl hln hall hcs hrs hL
