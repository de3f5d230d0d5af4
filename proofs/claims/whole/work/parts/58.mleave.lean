/-! the model: leave, waitAt, simple -/
theorem mRem_L {M : mM} {K b Ks s i n : Nat} {l : List Nat} (h : mL M K b l) (hi : i < l.length) (hn : n + 1 = l.length) (hK : Ks ≠ K) : mL (mRem M K b Ks s i n) K b (l.eraseIdx i) := by
  intro j hj
  have hlen : (l.eraseIdx i).length = n := by rw [List.length_eraseIdx, if_pos hi]; omega
  rw [hlen] at hj
  unfold mRem
  rw [List.getElem_eraseIdx]
  by_cases e : j < i
  · rw [mSft_at (by omega), yu_ne _ _ (Or.inl (Ne.symm hK)), h j (by omega)]
    simp [e]
  · rw [mSft_in (by omega), yu_ne _ _ (Or.inl (Ne.symm hK)), show b + j + 1 = b + (j + 1) by omega, h (j + 1) (by omega)]
    simp [e]
def mLvB (M : mM) (t o i : Nat) (l : List Nat) (h : Nat) : mM := if M 212 o = 4 then mBrk (yu (mEndL (mRem M 217 (o * 6) 216 o i (l.length - 1)) t h) 223 o 1) o (l.eraseIdx i) 3 else mEndL (mRem M 217 (o * 6) 216 o i (l.length - 1)) t h
def mLvW (M : mM) (t o c i n nr h : Nat) : mM := mCalled (mRem M 219 (c * 6) 218 c i n) t o nr h
theorem mne {M : mM} {K b t i : Nat} {l : List Nat} (hl : mL M K b l) (hnd : l.Nodup) (hall : ∀ u ∈ l, u < 6) (hi : l[i]? = some t) : ∀ j, j < i → ¬ M K (b + j) = nI t := by
  intro j hji z
  obtain ⟨hil, hit⟩ := List.getElem?_eq_some_iff.mp hi
  have hj : j < l.length := by omega
  rw [hl j hj] at z
  have h9 : l[j] < 6 := hall _ (List.getElem_mem hj)
  have h8 : t < 6 := by rw [← hit]; exact hall _ (List.getElem_mem hil)
  rw [nI_eq (by omega) (by omega), ← hit] at z
  exact absurd ((List.getElem_inj hnd).mp z) (by omega)

set_option maxHeartbeats 4000000 in
set_option maxRecDepth 20000 in
theorem c_M_leaveB {G : yG} {s : Nat → Option ySh} {F : Nat → Nat → Option Nat} {M : mM} (hS : mSh s F) {t o i h : Nat} {l : List Nat} (ht : t < 6) (ho : o < 6) (hh : h < 5) (hw : M 203 t = nI o) (hst : ¬ M 201 t = 2) (hl6 : l.length ≤ 6) (hls : M 216 o = nI l.length) (hl : mL M 217 (o * 6) l) (hall : ∀ u ∈ l, u < 6) (hnd : l.Nodup) (hi : l[i]? = some t) {R : zS → mM → Prop} (hR : mPass o R) {σ : zS} (hRM : R σ (mLvB M t o i l h)) : mCT G m_M_leave [yr 200, yi (nI t), yi (nI h)] s F M (fun r M' => r = none ∧ R (zset o 7 σ) M') := by
  refine yCT_of (by decide) rfl (ycat_of rfl) (Nat.le_of_ble_eq_true rfl) ?_
  obtain ⟨hil, hit⟩ := List.getElem?_eq_some_iff.mp hi
  have hle : (l.eraseIdx i).length = l.length - 1 := by rw [List.length_eraseIdx, if_pos hil]
  by_cases hk : M 212 o = 4
  · have hRM2 : R σ (mBrk (yu (mEndL (mRem M 217 (o * 6) 216 o i (l.length - 1)) t h) 223 o 1) o (l.eraseIdx i) 3) := by
      have := hRM
      unfold mLvB at this
      rw [if_pos hk] at this
      exact this
    refine yr_aload_n d_M_leave_0 rfl ?_
    refine mr_arr (a := 2) (K := 203) hS d_M_leave_1 sf_M_leave_1 rfl (by decide) rfl ?_
    refine yr_iload_n d_M_leave_4 rfl ?_
    refine mr_ld (a := 2) (K := 203) (n := 6) (j := t) hS d_M_leave_5 (by decide) rfl rfl rfl (by simp only [nI0, nI1, nI2, nI3, nI4, nI6, nI_mulN, nI_add]) (by omega) ?_
    rw [hw]
    refine yr_istore_n d_M_leave_6 (by decide) rfl ?_
    refine yr_aload_n d_M_leave_7 rfl ?_
    refine mr_arr (a := 0) (K := 201) hS d_M_leave_8 sf_M_leave_8 rfl (by decide) rfl ?_
    refine yr_iload_n d_M_leave_11 rfl ?_
    refine mr_ld (a := 0) (K := 201) (n := 6) (j := t) hS d_M_leave_12 (by decide) rfl rfl rfl (by simp only [nI0, nI1, nI2, nI3, nI4, nI6, nI_mulN, nI_add]) (by omega) ?_
    refine yr_iconst (v := 2) d_M_leave_13 (by decide) ?_
    refine yr_icmp_ne (tgt := 117) d_M_leave_14 (by decide) (fun c14 => ?_) (fun c14 => absurd c14 hst)
    refine yr_aload_n d_M_leave_117 rfl ?_
    refine yr_aload_n d_M_leave_118 rfl ?_
    refine mr_arr (a := 16) (K := 217) hS d_M_leave_119 sf_M_leave_119 rfl (by decide) rfl ?_
    refine yr_iload_n d_M_leave_122 rfl ?_
    refine yr_bipush (v := 6) d_M_leave_123 (by decide) ?_
    refine yr_imul d_M_leave_125 ?_
    refine yr_aload_n d_M_leave_126 rfl ?_
    refine mr_arr (a := 15) (K := 216) hS d_M_leave_127 sf_M_leave_127 rfl (by decide) rfl ?_
    refine yr_iload_n d_M_leave_130 rfl ?_
    refine yr_iload_n d_M_leave_131 rfl ?_
    rw [show nI o * 6 = nI (o * 6) by simp only [nI6, nI_mulN]]
    refine mr_call (yrunV (X := yNX) (k := 200) (As := [yr 217, yi (nI (o * 6)), yr 216, yi (nI o), yi (nI t)]) (rest := []) d_M_leave_132 (c_M_remove_row (i := i) (n := l.length - 1) hS ho (by omega) (by omega) (hls.trans (by congr 1; omega)) (by rw [hl i hil, hit]) (mne hl hnd hall hi)) hS.1 rfl (show yck (yMm m_M_leave) m_M_remove 5 = true by decide +kernel) cw_M_remove (by decide +kernel) (by decide +kernel) (by decide +kernel) (by decide +kernel) (Nat.le_of_ble_eq_true rfl) (ycat_of rfl) (by decide) (by decide)) (fun r M9 hp => ?_)
    obtain ⟨rfl, rfl⟩ := hp
    refine yr_aload_n d_M_leave_135 rfl ?_
    refine yr_aload_n d_M_leave_136 rfl ?_
    refine yr_iload_n d_M_leave_137 rfl ?_
    refine yr_iload_n d_M_leave_138 rfl ?_
    refine mr_call (yrunV (X := yNX) (k := 200) (As := [yi (nI t), yi (nI h)]) (rest := [yr 200]) d_M_leave_139 (c_M_end hS ht hh) hS.1 rfl (show yck (yMm m_M_leave) m_M_end 2 = true by decide +kernel) cw_M_end (by decide +kernel) (by decide +kernel) (by decide +kernel) (by decide +kernel) (Nat.le_of_ble_eq_true rfl) (ycat_of rfl) (by decide) (by decide)) (fun r M9 hp => ?_)
    obtain ⟨rfl, rfl⟩ := hp
    refine mr_puti (f := 25) hS d_M_leave_142 sf_M_leave_142 rfl rfl ⟨rfl, rfl⟩ ?_
    refine yr_aload_n d_M_leave_145 rfl ?_
    refine mr_arr (a := 11) (K := 212) hS d_M_leave_146 sf_M_leave_146 rfl (by decide) rfl ?_
    refine yr_iload_n d_M_leave_149 rfl ?_
    refine mr_ld (a := 11) (K := 212) (n := 6) (j := o) hS d_M_leave_150 (by decide) rfl rfl rfl (by simp only [nI0, nI1, nI2, nI3, nI4, nI6, nI_mulN, nI_add]) (by omega) ?_
    rw [show (yu (mEnd (mRem M 217 (o * 6) 216 o i (l.length - 1)) t h) 200 25 (nI h)) 212 o = M 212 o from (mEndL_keep (by unfold mFree; decide)).trans (mRem_keep (by decide) (by decide))]
    refine yr_iconst (v := 4) d_M_leave_151 (by decide) ?_
    refine yr_icmp_ne (tgt := 167) d_M_leave_152 (by decide) (fun c152 => absurd hk c152) (fun c152 => ?_)
    refine yr_aload_n d_M_leave_155 rfl ?_
    refine mr_arr (a := 22) (K := 223) hS d_M_leave_156 sf_M_leave_156 rfl (by decide) rfl ?_
    refine yr_iload_n d_M_leave_159 rfl ?_
    refine yr_iconst (v := 1) d_M_leave_160 (by decide) ?_
    refine mr_stz (a := 22) (K := 223) (n := 6) (j := o) hS d_M_leave_161 (by decide) rfl rfl rfl (by simp only [nI0, nI1, nI2, nI3, nI4, nI6, nI_mulN, nI_add]) (by omega) rfl ?_
    refine yr_aload_n d_M_leave_162 rfl ?_
    refine yr_iload_n d_M_leave_163 rfl ?_
    refine mr_call (yrunV (X := yNX) (k := 200) (As := [yi (nI o)]) (rest := []) d_M_leave_164 (c_M_breakAll (l := l.eraseIdx i) hS ho (by omega) (by rw [hle, yu_ne _ _ (Or.inl (by decide))]; exact (mEndL_keep mFree216).trans (mRem_sz (by decide))) (fun j hj => by rw [yu_ne _ _ (Or.inl (by decide)), show yu (mEnd (mRem M 217 (o * 6) 216 o i (l.length - 1)) t h) 200 25 (nI h) = mEndL (mRem M 217 (o * 6) 216 o i (l.length - 1)) t h from rfl, mEndL_keep mFree217]; exact mRem_L hl hil (by omega) (by decide) j hj) (fun u hu => hall u (List.mem_of_mem_eraseIdx hu))) hS.1 rfl (show yck (yMm m_M_leave) m_M_breakAll 1 = true by decide +kernel) cw_M_breakAll (by decide +kernel) (by decide +kernel) (by decide +kernel) (by decide +kernel) (Nat.le_of_ble_eq_true rfl) (ycat_of rfl) (by decide) (by decide)) (fun r M9 hp => ?_)
    obtain ⟨rfl, rfl⟩ := hp
    refine yr_aload_n d_M_leave_167 rfl ?_
    refine yr_iload_n d_M_leave_168 rfl ?_
    refine mr_call (yrunV (X := yNX) (k := 200) (As := [yi (nI o)]) (rest := []) d_M_leave_169 (c_M_pass hS ho hR hRM2) hS.1 rfl (show yck (yMm m_M_leave) m_M_pass 1 = true by decide +kernel) cw_M_pass (by decide +kernel) (by decide +kernel) (by decide +kernel) (by decide +kernel) (Nat.le_of_ble_eq_true rfl) (ycat_of rfl) (by decide) (by decide)) (fun r M9 hp => ?_)
    obtain ⟨rfl, hRM9⟩ := hp
    exact yr_retv d_M_leave_172 rfl (by decide) (by decide) ⟨_, rfl, rfl, hRM9⟩
  · have hRM2 : R σ (mEndL (mRem M 217 (o * 6) 216 o i (l.length - 1)) t h) := by
      have := hRM
      unfold mLvB at this
      rw [if_neg hk] at this
      exact this
    refine yr_aload_n d_M_leave_0 rfl ?_
    refine mr_arr (a := 2) (K := 203) hS d_M_leave_1 sf_M_leave_1 rfl (by decide) rfl ?_
    refine yr_iload_n d_M_leave_4 rfl ?_
    refine mr_ld (a := 2) (K := 203) (n := 6) (j := t) hS d_M_leave_5 (by decide) rfl rfl rfl (by simp only [nI0, nI1, nI2, nI3, nI4, nI6, nI_mulN, nI_add]) (by omega) ?_
    rw [hw]
    refine yr_istore_n d_M_leave_6 (by decide) rfl ?_
    refine yr_aload_n d_M_leave_7 rfl ?_
    refine mr_arr (a := 0) (K := 201) hS d_M_leave_8 sf_M_leave_8 rfl (by decide) rfl ?_
    refine yr_iload_n d_M_leave_11 rfl ?_
    refine mr_ld (a := 0) (K := 201) (n := 6) (j := t) hS d_M_leave_12 (by decide) rfl rfl rfl (by simp only [nI0, nI1, nI2, nI3, nI4, nI6, nI_mulN, nI_add]) (by omega) ?_
    refine yr_iconst (v := 2) d_M_leave_13 (by decide) ?_
    refine yr_icmp_ne (tgt := 117) d_M_leave_14 (by decide) (fun c14 => ?_) (fun c14 => absurd c14 hst)
    refine yr_aload_n d_M_leave_117 rfl ?_
    refine yr_aload_n d_M_leave_118 rfl ?_
    refine mr_arr (a := 16) (K := 217) hS d_M_leave_119 sf_M_leave_119 rfl (by decide) rfl ?_
    refine yr_iload_n d_M_leave_122 rfl ?_
    refine yr_bipush (v := 6) d_M_leave_123 (by decide) ?_
    refine yr_imul d_M_leave_125 ?_
    refine yr_aload_n d_M_leave_126 rfl ?_
    refine mr_arr (a := 15) (K := 216) hS d_M_leave_127 sf_M_leave_127 rfl (by decide) rfl ?_
    refine yr_iload_n d_M_leave_130 rfl ?_
    refine yr_iload_n d_M_leave_131 rfl ?_
    rw [show nI o * 6 = nI (o * 6) by simp only [nI6, nI_mulN]]
    refine mr_call (yrunV (X := yNX) (k := 200) (As := [yr 217, yi (nI (o * 6)), yr 216, yi (nI o), yi (nI t)]) (rest := []) d_M_leave_132 (c_M_remove_row (i := i) (n := l.length - 1) hS ho (by omega) (by omega) (hls.trans (by congr 1; omega)) (by rw [hl i hil, hit]) (mne hl hnd hall hi)) hS.1 rfl (show yck (yMm m_M_leave) m_M_remove 5 = true by decide +kernel) cw_M_remove (by decide +kernel) (by decide +kernel) (by decide +kernel) (by decide +kernel) (Nat.le_of_ble_eq_true rfl) (ycat_of rfl) (by decide) (by decide)) (fun r M9 hp => ?_)
    obtain ⟨rfl, rfl⟩ := hp
    refine yr_aload_n d_M_leave_135 rfl ?_
    refine yr_aload_n d_M_leave_136 rfl ?_
    refine yr_iload_n d_M_leave_137 rfl ?_
    refine yr_iload_n d_M_leave_138 rfl ?_
    refine mr_call (yrunV (X := yNX) (k := 200) (As := [yi (nI t), yi (nI h)]) (rest := [yr 200]) d_M_leave_139 (c_M_end hS ht hh) hS.1 rfl (show yck (yMm m_M_leave) m_M_end 2 = true by decide +kernel) cw_M_end (by decide +kernel) (by decide +kernel) (by decide +kernel) (by decide +kernel) (Nat.le_of_ble_eq_true rfl) (ycat_of rfl) (by decide) (by decide)) (fun r M9 hp => ?_)
    obtain ⟨rfl, rfl⟩ := hp
    refine mr_puti (f := 25) hS d_M_leave_142 sf_M_leave_142 rfl rfl ⟨rfl, rfl⟩ ?_
    refine yr_aload_n d_M_leave_145 rfl ?_
    refine mr_arr (a := 11) (K := 212) hS d_M_leave_146 sf_M_leave_146 rfl (by decide) rfl ?_
    refine yr_iload_n d_M_leave_149 rfl ?_
    refine mr_ld (a := 11) (K := 212) (n := 6) (j := o) hS d_M_leave_150 (by decide) rfl rfl rfl (by simp only [nI0, nI1, nI2, nI3, nI4, nI6, nI_mulN, nI_add]) (by omega) ?_
    rw [show (yu (mEnd (mRem M 217 (o * 6) 216 o i (l.length - 1)) t h) 200 25 (nI h)) 212 o = M 212 o from (mEndL_keep (by unfold mFree; decide)).trans (mRem_keep (by decide) (by decide))]
    refine yr_iconst (v := 4) d_M_leave_151 (by decide) ?_
    refine yr_icmp_ne (tgt := 167) d_M_leave_152 (by decide) (fun c152 => ?_) (fun c152 => absurd c152 hk)
    refine yr_aload_n d_M_leave_167 rfl ?_
    refine yr_iload_n d_M_leave_168 rfl ?_
    refine mr_call (yrunV (X := yNX) (k := 200) (As := [yi (nI o)]) (rest := []) d_M_leave_169 (c_M_pass hS ho hR hRM2) hS.1 rfl (show yck (yMm m_M_leave) m_M_pass 1 = true by decide +kernel) cw_M_pass (by decide +kernel) (by decide +kernel) (by decide +kernel) (by decide +kernel) (Nat.le_of_ble_eq_true rfl) (ycat_of rfl) (by decide) (by decide)) (fun r M9 hp => ?_)
    obtain ⟨rfl, hRM9⟩ := hp
    exact yr_retv d_M_leave_172 rfl (by decide) (by decide) ⟨_, rfl, rfl, hRM9⟩

set_option maxHeartbeats 4000000 in
set_option maxRecDepth 20000 in
theorem c_M_leave_here {G : yG} {s : Nat → Option ySh} {F : Nat → Nat → Option Nat} {M : mM} (hS : mSh s F) {t h o c : Nat} {l : List Nat} (ht : t < 6) (hc : c < 12) (hl6 : l.length ≤ 6) (hls : M 218 c = nI l.length) (hl : mL M 219 (c * 6) l) (hall : ∀ u ∈ l, u < 6) {POST : Option yV → mM → Prop} (hk : yWW G m_M_leave (mQ G m_M_leave s F POST) s 76 [some (yr 200), some (yi (nI t)), some (yi (nI h)), some (yi (nI o)), some (yi (nI c)), some (yi (zb (decide (t ∈ l)))), some (yi (nI l.length))] [] (mw s F M) 0 0) : ∀ (m q : Nat), m + q = l.length → yWW G m_M_leave (mQ G m_M_leave s F POST) s 38 [some (yr 200), some (yi (nI t)), some (yi (nI h)), some (yi (nI o)), some (yi (nI c)), some (yi (zb (decide (t ∈ l.take q)))), some (yi (nI q))] [] (mw s F M) 0 0 := by
  intro m
  induction m with
  | zero =>
    intro q hm
    have hq : q = l.length := by omega
    subst hq
    rw [List.take_length]
    refine yr_iload d_M_leave_38 rfl ?_
    refine yr_aload_n d_M_leave_40 rfl ?_
    refine mr_arr (a := 17) (K := 218) hS d_M_leave_41 sf_M_leave_41 rfl (by decide) rfl ?_
    refine yr_iload d_M_leave_44 rfl ?_
    refine mr_ld (a := 17) (K := 218) (n := 12) (j := c) hS d_M_leave_46 (by decide) rfl rfl rfl (by simp only [nI0, nI1, nI2, nI3, nI4, nI6, nI_mulN, nI_add]) (by omega) ?_
    rw [hls]
    refine yr_icmp_ge (tgt := 76) d_M_leave_47 (by decide) (fun c47 => ?_) (fun c47 => absurd (nI_le (by omega) (by omega)) c47)
    exact hk
  | succ m ih =>
    intro q hm
    have hq : q < l.length := by omega
    have hu : l[q] < 6 := hall _ (List.getElem_mem hq)
    have htk : l.take (q + 1) = l.take q ++ [l[q]] := by rw [List.take_add_one, List.getElem?_eq_getElem hq]; rfl
    refine yr_iload d_M_leave_38 rfl ?_
    refine yr_aload_n d_M_leave_40 rfl ?_
    refine mr_arr (a := 17) (K := 218) hS d_M_leave_41 sf_M_leave_41 rfl (by decide) rfl ?_
    refine yr_iload d_M_leave_44 rfl ?_
    refine mr_ld (a := 17) (K := 218) (n := 12) (j := c) hS d_M_leave_46 (by decide) rfl rfl rfl (by simp only [nI0, nI1, nI2, nI3, nI4, nI6, nI_mulN, nI_add]) (by omega) ?_
    rw [hls]
    refine yr_icmp_ge (tgt := 76) d_M_leave_47 (by decide) (fun c47 => absurd c47 (nI_ge (by omega) (by omega))) (fun c47 => ?_)
    refine yr_aload_n d_M_leave_50 rfl ?_
    refine mr_arr (a := 18) (K := 219) hS d_M_leave_51 sf_M_leave_51 rfl (by decide) rfl ?_
    refine yr_iload d_M_leave_54 rfl ?_
    refine yr_bipush (v := 6) d_M_leave_56 (by decide) ?_
    refine yr_imul d_M_leave_58 ?_
    refine yr_iload d_M_leave_59 rfl ?_
    refine yr_iadd d_M_leave_61 ?_
    refine mr_ld (a := 18) (K := 219) (n := 72) (j := ((c * 6) + q)) hS d_M_leave_62 (by decide) rfl rfl rfl (by simp only [nI0, nI1, nI2, nI3, nI4, nI6, nI_mulN, nI_add]) (by omega) ?_
    rw [hl q hq]
    refine yr_iload_n d_M_leave_63 rfl ?_
    refine yr_icmp_ne (tgt := 70) d_M_leave_64 (by decide) (fun c64 => ?_) (fun c64 => ?_)
    · skip
      refine yr_iinc (v := nI (q + 1)) d_M_leave_70 rfl (nI_1 (q)) (by decide) rfl ?_
      refine yr_goto (tgt := 38) d_M_leave_73 (by decide) ?_
      have k := ih (q + 1) (by omega)
      first
      | (have e9 : ¬ t = l[q] := fun z => c64 (by rw [z])
         rw [show decide (t ∈ l.take (q + 1)) = decide (t ∈ l.take q) from decide_eq_decide.mpr (by rw [htk, List.mem_append, List.mem_singleton]; exact ⟨fun z => z.resolve_right e9, Or.inl⟩)] at k
         exact k)
      | (have e9 : t = l[q] := ((nI_eq (by omega) (by omega)).mp c64).symm
         rw [show decide (t ∈ l.take (q + 1)) = true from decide_eq_true (by rw [htk, List.mem_append, List.mem_singleton]; exact Or.inr e9)] at k
         exact k)
    · skip
      refine yr_iconst (v := 1) d_M_leave_67 (by decide) ?_
      refine yr_istore d_M_leave_68 (by decide) rfl ?_
      refine yr_iinc (v := nI (q + 1)) d_M_leave_70 rfl (nI_1 (q)) (by decide) rfl ?_
      refine yr_goto (tgt := 38) d_M_leave_73 (by decide) ?_
      have k := ih (q + 1) (by omega)
      first
      | (have e9 : ¬ t = l[q] := fun z => c64 (by rw [z])
         rw [show decide (t ∈ l.take (q + 1)) = decide (t ∈ l.take q) from decide_eq_decide.mpr (by rw [htk, List.mem_append, List.mem_singleton]; exact ⟨fun z => z.resolve_right e9, Or.inl⟩)] at k
         exact k)
      | (have e9 : t = l[q] := ((nI_eq (by omega) (by omega)).mp c64).symm
         rw [show decide (t ∈ l.take (q + 1)) = true from decide_eq_true (by rw [htk, List.mem_append, List.mem_singleton]; exact Or.inr e9)] at k
         exact k)

set_option maxHeartbeats 4000000 in
set_option maxRecDepth 20000 in
theorem c_M_leaveW0 {G : yG} {s : Nat → Option ySh} {F : Nat → Nat → Option Nat} {M : mM} (hS : mSh s F) {t o i h nr : Nat} {lc : Nat → List Nat} (ht : t < 6) (ho : o < 6) (hw : M 203 t = nI o) (hst : M 201 t = 2) (hnr : nr < 6) (hrs : M 216 o = nI nr) (hlc : ∀ c, c < 2 → (lc c).length ≤ 6 ∧ M 218 (o * 2 + c) = nI (lc c).length ∧ mL M 219 ((o * 2 + c) * 6) (lc c) ∧ (∀ u ∈ lc c, u < 6) ∧ (lc c).Nodup) (hi : (lc 0)[i]? = some t) {R : zS → mM → Prop} (hR : mPass o R) {σ : zS} (hno : t ∉ lc 1) (hRM : R σ (mLvW M t o (o * 2) i ((lc 0).length - 1) nr h)) : mCT G m_M_leave [yr 200, yi (nI t), yi (nI h)] s F M (fun r M' => r = none ∧ R (zset o 7 σ) M') := by
  refine yCT_of (by decide) rfl (ycat_of rfl) (Nat.le_of_ble_eq_true rfl) ?_
  have q0 := hlc 0 (by omega)
  simp only [Nat.add_zero] at q0
  have q1 := hlc 1 (by omega)
  obtain ⟨hil, hit⟩ := List.getElem?_eq_some_iff.mp hi
  refine yr_aload_n d_M_leave_0 rfl ?_
  refine mr_arr (a := 2) (K := 203) hS d_M_leave_1 sf_M_leave_1 rfl (by decide) rfl ?_
  refine yr_iload_n d_M_leave_4 rfl ?_
  refine mr_ld (a := 2) (K := 203) (n := 6) (j := t) hS d_M_leave_5 (by decide) rfl rfl rfl (by simp only [nI0, nI1, nI2, nI3, nI4, nI6, nI_mulN, nI_add]) (by omega) ?_
  rw [hw]
  refine yr_istore_n d_M_leave_6 (by decide) rfl ?_
  refine yr_aload_n d_M_leave_7 rfl ?_
  refine mr_arr (a := 0) (K := 201) hS d_M_leave_8 sf_M_leave_8 rfl (by decide) rfl ?_
  refine yr_iload_n d_M_leave_11 rfl ?_
  refine mr_ld (a := 0) (K := 201) (n := 6) (j := t) hS d_M_leave_12 (by decide) rfl rfl rfl (by simp only [nI0, nI1, nI2, nI3, nI4, nI6, nI_mulN, nI_add]) (by omega) ?_
  refine yr_iconst (v := 2) d_M_leave_13 (by decide) ?_
  refine yr_icmp_ne (tgt := 117) d_M_leave_14 (by decide) (fun c14 => absurd hst c14) (fun c14 => ?_)
  refine yr_iload_n d_M_leave_17 rfl ?_
  refine yr_iconst (v := 2) d_M_leave_18 (by decide) ?_
  refine yr_imul d_M_leave_19 ?_
  rw [show nI o * 2 = nI (o * 2) by simp only [nI2, nI_mulN]]
  refine yr_istore d_M_leave_20 (by decide) rfl ?_
  refine yr_iload d_M_leave_22 rfl ?_
  refine yr_iload_n d_M_leave_24 rfl ?_
  refine yr_iconst (v := 2) d_M_leave_25 (by decide) ?_
  refine yr_imul d_M_leave_26 ?_
  rw [show nI o * 2 = nI (o * 2) by simp only [nI2, nI_mulN]]
  refine yr_iconst (v := 2) d_M_leave_27 (by decide) ?_
  refine yr_iadd d_M_leave_28 ?_
  rw [show nI (o * 2) + 2 = nI (o * 2 + 2) by simp only [nI2, nI_add]]
  refine yr_icmp_ge (tgt := 107) d_M_leave_29 (by decide) (fun c29 => absurd c29 (nI_ge (by omega) (by omega))) (fun c29 => ?_)
  refine yr_iconst (v := 0) d_M_leave_32 (by decide) ?_
  refine yr_istore d_M_leave_33 (by decide) rfl ?_
  refine yr_iconst (v := 0) d_M_leave_35 (by decide) ?_
  refine yr_istore d_M_leave_36 (by decide) rfl ?_
  refine c_M_leave_here (l := lc 0) hS ht (by omega) q0.1 q0.2.1 q0.2.2.1 q0.2.2.2.1 ?_ (lc 0).length 0 rfl
  have hin : decide (t ∈ lc 0) = true := decide_eq_true (List.mem_of_getElem? hi)
  refine yr_iload d_M_leave_76 rfl ?_
  refine yr_if_eq (tgt := 101) d_M_leave_78 (by decide) (fun c78 => absurd c78 (by rw [hin]; decide)) (fun c78 => ?_)
  refine yr_aload_n d_M_leave_81 rfl ?_
  refine yr_aload_n d_M_leave_82 rfl ?_
  refine mr_arr (a := 18) (K := 219) hS d_M_leave_83 sf_M_leave_83 rfl (by decide) rfl ?_
  refine yr_iload d_M_leave_86 rfl ?_
  refine yr_bipush (v := 6) d_M_leave_88 (by decide) ?_
  refine yr_imul d_M_leave_90 ?_
  refine yr_aload_n d_M_leave_91 rfl ?_
  refine mr_arr (a := 17) (K := 218) hS d_M_leave_92 sf_M_leave_92 rfl (by decide) rfl ?_
  refine yr_iload d_M_leave_95 rfl ?_
  refine yr_iload_n d_M_leave_97 rfl ?_
  rw [show nI (o * 2) * 6 = nI ((o * 2) * 6) by simp only [nI6, nI_mulN]]
  refine mr_call (yrunV (X := yNX) (k := 200) (As := [yr 219, yi (nI ((o * 2) * 6)), yr 218, yi (nI (o * 2)), yi (nI t)]) (rest := []) d_M_leave_98 (c_M_remove_con (c := (o * 2)) (i := i) (n := (lc 0).length - 1) hS (by omega) (by omega) (by omega) (q0.2.1.trans (by congr 1; omega)) (by rw [q0.2.2.1 i hil, hit]) (mne q0.2.2.1 q0.2.2.2.2 q0.2.2.2.1 hi)) hS.1 rfl (show yck (yMm m_M_leave) m_M_remove 5 = true by decide +kernel) cw_M_remove (by decide +kernel) (by decide +kernel) (by decide +kernel) (by decide +kernel) (Nat.le_of_ble_eq_true rfl) (ycat_of rfl) (by decide) (by decide)) (fun r M9 hp => ?_)
  obtain ⟨rfl, rfl⟩ := hp
  refine yr_iinc (v := nI (o * 2 + 1)) d_M_leave_101 rfl (nI_1 ((o * 2))) (by decide) rfl ?_
  refine yr_goto (tgt := 22) d_M_leave_104 (by decide) ?_
  skip
  clear hin
  refine yr_iload d_M_leave_22 rfl ?_
  refine yr_iload_n d_M_leave_24 rfl ?_
  refine yr_iconst (v := 2) d_M_leave_25 (by decide) ?_
  refine yr_imul d_M_leave_26 ?_
  rw [show nI o * 2 = nI (o * 2) by simp only [nI2, nI_mulN]]
  refine yr_iconst (v := 2) d_M_leave_27 (by decide) ?_
  refine yr_iadd d_M_leave_28 ?_
  rw [show nI (o * 2) + 2 = nI (o * 2 + 2) by simp only [nI2, nI_add]]
  refine yr_icmp_ge (tgt := 107) d_M_leave_29 (by decide) (fun c29 => absurd c29 (nI_ge (by omega) (by omega))) (fun c29 => ?_)
  refine yr_iconst (v := 0) d_M_leave_32 (by decide) ?_
  refine yr_istore d_M_leave_33 (by decide) rfl ?_
  refine yr_iconst (v := 0) d_M_leave_35 (by decide) ?_
  refine yr_istore d_M_leave_36 (by decide) rfl ?_
  refine c_M_leave_here (l := lc 1) hS ht (by omega) q1.1 (by unfold mRem; rw [mSft_at (by omega), yu_ne _ _ (Or.inr (by omega))]; exact q1.2.1) (fun j9 h9 => by unfold mRem; rw [mSft_at (by omega), yu_ne _ _ (Or.inl (by decide))]; exact q1.2.2.1 j9 h9) q1.2.2.2.1 ?_ (lc 1).length 0 rfl
  have hin : decide (t ∈ lc 1) = false := decide_eq_false hno
  refine yr_iload d_M_leave_76 rfl ?_
  refine yr_if_eq (tgt := 101) d_M_leave_78 (by decide) (fun c78 => ?_) (fun c78 => absurd (by rw [hin]; rfl) c78)
  refine yr_iinc (v := nI (o * 2 + 2)) d_M_leave_101 rfl (nI_1 ((o * 2 + 1))) (by decide) rfl ?_
  refine yr_goto (tgt := 22) d_M_leave_104 (by decide) ?_
  skip
  refine yr_iload d_M_leave_22 rfl ?_
  refine yr_iload_n d_M_leave_24 rfl ?_
  refine yr_iconst (v := 2) d_M_leave_25 (by decide) ?_
  refine yr_imul d_M_leave_26 ?_
  rw [show nI o * 2 = nI (o * 2) by simp only [nI2, nI_mulN]]
  refine yr_iconst (v := 2) d_M_leave_27 (by decide) ?_
  refine yr_iadd d_M_leave_28 ?_
  rw [show nI (o * 2) + 2 = nI (o * 2 + 2) by simp only [nI2, nI_add]]
  refine yr_icmp_ge (tgt := 107) d_M_leave_29 (by decide) (fun c29 => ?_) (fun c29 => absurd (nI_le (by omega) (by omega)) c29)
  refine yr_aload_n d_M_leave_107 rfl ?_
  refine yr_iload_n d_M_leave_108 rfl ?_
  refine yr_iload_n d_M_leave_109 rfl ?_
  refine yr_iload_n d_M_leave_110 rfl ?_
  refine mr_call (yrunV (X := yNX) (k := 200) (As := [yi (nI t), yi (nI o), yi (nI h)]) (rest := []) d_M_leave_111 (c_M_called (n := nr) hS ht ho hnr ((mRem_keep (by decide) (by decide)).trans hrs)) hS.1 rfl (show yck (yMm m_M_leave) m_M_called 3 = true by decide +kernel) cw_M_called (by decide +kernel) (by decide +kernel) (by decide +kernel) (by decide +kernel) (Nat.le_of_ble_eq_true rfl) (ycat_of rfl) (by decide) (by decide)) (fun r M9 hp => ?_)
  obtain ⟨rfl, rfl⟩ := hp
  refine yr_goto (tgt := 167) d_M_leave_114 (by decide) ?_
  refine yr_aload_n d_M_leave_167 rfl ?_
  refine yr_iload_n d_M_leave_168 rfl ?_
  refine mr_call (yrunV (X := yNX) (k := 200) (As := [yi (nI o)]) (rest := []) d_M_leave_169 (c_M_pass hS ho hR hRM) hS.1 rfl (show yck (yMm m_M_leave) m_M_pass 1 = true by decide +kernel) cw_M_pass (by decide +kernel) (by decide +kernel) (by decide +kernel) (by decide +kernel) (Nat.le_of_ble_eq_true rfl) (ycat_of rfl) (by decide) (by decide)) (fun r M9 hp => ?_)
  obtain ⟨rfl, hRM9⟩ := hp
  exact yr_retv d_M_leave_172 rfl (by decide) (by decide) ⟨_, rfl, rfl, hRM9⟩

set_option maxHeartbeats 4000000 in
set_option maxRecDepth 20000 in
theorem c_M_leaveW1 {G : yG} {s : Nat → Option ySh} {F : Nat → Nat → Option Nat} {M : mM} (hS : mSh s F) {t o i h nr : Nat} {lc : Nat → List Nat} (ht : t < 6) (ho : o < 6) (hw : M 203 t = nI o) (hst : M 201 t = 2) (hnr : nr < 6) (hrs : M 216 o = nI nr) (hlc : ∀ c, c < 2 → (lc c).length ≤ 6 ∧ M 218 (o * 2 + c) = nI (lc c).length ∧ mL M 219 ((o * 2 + c) * 6) (lc c) ∧ (∀ u ∈ lc c, u < 6) ∧ (lc c).Nodup) (hi : (lc 1)[i]? = some t) {R : zS → mM → Prop} (hR : mPass o R) {σ : zS} (hno : t ∉ lc 0) (hRM : R σ (mLvW M t o (o * 2 + 1) i ((lc 1).length - 1) nr h)) : mCT G m_M_leave [yr 200, yi (nI t), yi (nI h)] s F M (fun r M' => r = none ∧ R (zset o 7 σ) M') := by
  refine yCT_of (by decide) rfl (ycat_of rfl) (Nat.le_of_ble_eq_true rfl) ?_
  have q0 := hlc 0 (by omega)
  simp only [Nat.add_zero] at q0
  have q1 := hlc 1 (by omega)
  obtain ⟨hil, hit⟩ := List.getElem?_eq_some_iff.mp hi
  refine yr_aload_n d_M_leave_0 rfl ?_
  refine mr_arr (a := 2) (K := 203) hS d_M_leave_1 sf_M_leave_1 rfl (by decide) rfl ?_
  refine yr_iload_n d_M_leave_4 rfl ?_
  refine mr_ld (a := 2) (K := 203) (n := 6) (j := t) hS d_M_leave_5 (by decide) rfl rfl rfl (by simp only [nI0, nI1, nI2, nI3, nI4, nI6, nI_mulN, nI_add]) (by omega) ?_
  rw [hw]
  refine yr_istore_n d_M_leave_6 (by decide) rfl ?_
  refine yr_aload_n d_M_leave_7 rfl ?_
  refine mr_arr (a := 0) (K := 201) hS d_M_leave_8 sf_M_leave_8 rfl (by decide) rfl ?_
  refine yr_iload_n d_M_leave_11 rfl ?_
  refine mr_ld (a := 0) (K := 201) (n := 6) (j := t) hS d_M_leave_12 (by decide) rfl rfl rfl (by simp only [nI0, nI1, nI2, nI3, nI4, nI6, nI_mulN, nI_add]) (by omega) ?_
  refine yr_iconst (v := 2) d_M_leave_13 (by decide) ?_
  refine yr_icmp_ne (tgt := 117) d_M_leave_14 (by decide) (fun c14 => absurd hst c14) (fun c14 => ?_)
  refine yr_iload_n d_M_leave_17 rfl ?_
  refine yr_iconst (v := 2) d_M_leave_18 (by decide) ?_
  refine yr_imul d_M_leave_19 ?_
  rw [show nI o * 2 = nI (o * 2) by simp only [nI2, nI_mulN]]
  refine yr_istore d_M_leave_20 (by decide) rfl ?_
  refine yr_iload d_M_leave_22 rfl ?_
  refine yr_iload_n d_M_leave_24 rfl ?_
  refine yr_iconst (v := 2) d_M_leave_25 (by decide) ?_
  refine yr_imul d_M_leave_26 ?_
  rw [show nI o * 2 = nI (o * 2) by simp only [nI2, nI_mulN]]
  refine yr_iconst (v := 2) d_M_leave_27 (by decide) ?_
  refine yr_iadd d_M_leave_28 ?_
  rw [show nI (o * 2) + 2 = nI (o * 2 + 2) by simp only [nI2, nI_add]]
  refine yr_icmp_ge (tgt := 107) d_M_leave_29 (by decide) (fun c29 => absurd c29 (nI_ge (by omega) (by omega))) (fun c29 => ?_)
  refine yr_iconst (v := 0) d_M_leave_32 (by decide) ?_
  refine yr_istore d_M_leave_33 (by decide) rfl ?_
  refine yr_iconst (v := 0) d_M_leave_35 (by decide) ?_
  refine yr_istore d_M_leave_36 (by decide) rfl ?_
  refine c_M_leave_here (l := lc 0) hS ht (by omega) q0.1 q0.2.1 q0.2.2.1 q0.2.2.2.1 ?_ (lc 0).length 0 rfl
  have hin : decide (t ∈ lc 0) = false := decide_eq_false hno
  refine yr_iload d_M_leave_76 rfl ?_
  refine yr_if_eq (tgt := 101) d_M_leave_78 (by decide) (fun c78 => ?_) (fun c78 => absurd (by rw [hin]; rfl) c78)
  refine yr_iinc (v := nI (o * 2 + 1)) d_M_leave_101 rfl (nI_1 ((o * 2))) (by decide) rfl ?_
  refine yr_goto (tgt := 22) d_M_leave_104 (by decide) ?_
  skip
  clear hin
  refine yr_iload d_M_leave_22 rfl ?_
  refine yr_iload_n d_M_leave_24 rfl ?_
  refine yr_iconst (v := 2) d_M_leave_25 (by decide) ?_
  refine yr_imul d_M_leave_26 ?_
  rw [show nI o * 2 = nI (o * 2) by simp only [nI2, nI_mulN]]
  refine yr_iconst (v := 2) d_M_leave_27 (by decide) ?_
  refine yr_iadd d_M_leave_28 ?_
  rw [show nI (o * 2) + 2 = nI (o * 2 + 2) by simp only [nI2, nI_add]]
  refine yr_icmp_ge (tgt := 107) d_M_leave_29 (by decide) (fun c29 => absurd c29 (nI_ge (by omega) (by omega))) (fun c29 => ?_)
  refine yr_iconst (v := 0) d_M_leave_32 (by decide) ?_
  refine yr_istore d_M_leave_33 (by decide) rfl ?_
  refine yr_iconst (v := 0) d_M_leave_35 (by decide) ?_
  refine yr_istore d_M_leave_36 (by decide) rfl ?_
  refine c_M_leave_here (l := lc 1) hS ht (by omega) q1.1 q1.2.1 q1.2.2.1 q1.2.2.2.1 ?_ (lc 1).length 0 rfl
  have hin : decide (t ∈ lc 1) = true := decide_eq_true (List.mem_of_getElem? hi)
  refine yr_iload d_M_leave_76 rfl ?_
  refine yr_if_eq (tgt := 101) d_M_leave_78 (by decide) (fun c78 => absurd c78 (by rw [hin]; decide)) (fun c78 => ?_)
  refine yr_aload_n d_M_leave_81 rfl ?_
  refine yr_aload_n d_M_leave_82 rfl ?_
  refine mr_arr (a := 18) (K := 219) hS d_M_leave_83 sf_M_leave_83 rfl (by decide) rfl ?_
  refine yr_iload d_M_leave_86 rfl ?_
  refine yr_bipush (v := 6) d_M_leave_88 (by decide) ?_
  refine yr_imul d_M_leave_90 ?_
  refine yr_aload_n d_M_leave_91 rfl ?_
  refine mr_arr (a := 17) (K := 218) hS d_M_leave_92 sf_M_leave_92 rfl (by decide) rfl ?_
  refine yr_iload d_M_leave_95 rfl ?_
  refine yr_iload_n d_M_leave_97 rfl ?_
  rw [show nI (o * 2 + 1) * 6 = nI ((o * 2 + 1) * 6) by simp only [nI6, nI_mulN]]
  refine mr_call (yrunV (X := yNX) (k := 200) (As := [yr 219, yi (nI ((o * 2 + 1) * 6)), yr 218, yi (nI (o * 2 + 1)), yi (nI t)]) (rest := []) d_M_leave_98 (c_M_remove_con (c := (o * 2 + 1)) (i := i) (n := (lc 1).length - 1) hS (by omega) (by omega) (by omega) (q1.2.1.trans (by congr 1; omega)) (by rw [q1.2.2.1 i hil, hit]) (mne q1.2.2.1 q1.2.2.2.2 q1.2.2.2.1 hi)) hS.1 rfl (show yck (yMm m_M_leave) m_M_remove 5 = true by decide +kernel) cw_M_remove (by decide +kernel) (by decide +kernel) (by decide +kernel) (by decide +kernel) (Nat.le_of_ble_eq_true rfl) (ycat_of rfl) (by decide) (by decide)) (fun r M9 hp => ?_)
  obtain ⟨rfl, rfl⟩ := hp
  refine yr_iinc (v := nI (o * 2 + 2)) d_M_leave_101 rfl (nI_1 ((o * 2 + 1))) (by decide) rfl ?_
  refine yr_goto (tgt := 22) d_M_leave_104 (by decide) ?_
  skip
  refine yr_iload d_M_leave_22 rfl ?_
  refine yr_iload_n d_M_leave_24 rfl ?_
  refine yr_iconst (v := 2) d_M_leave_25 (by decide) ?_
  refine yr_imul d_M_leave_26 ?_
  rw [show nI o * 2 = nI (o * 2) by simp only [nI2, nI_mulN]]
  refine yr_iconst (v := 2) d_M_leave_27 (by decide) ?_
  refine yr_iadd d_M_leave_28 ?_
  rw [show nI (o * 2) + 2 = nI (o * 2 + 2) by simp only [nI2, nI_add]]
  refine yr_icmp_ge (tgt := 107) d_M_leave_29 (by decide) (fun c29 => ?_) (fun c29 => absurd (nI_le (by omega) (by omega)) c29)
  refine yr_aload_n d_M_leave_107 rfl ?_
  refine yr_iload_n d_M_leave_108 rfl ?_
  refine yr_iload_n d_M_leave_109 rfl ?_
  refine yr_iload_n d_M_leave_110 rfl ?_
  refine mr_call (yrunV (X := yNX) (k := 200) (As := [yi (nI t), yi (nI o), yi (nI h)]) (rest := []) d_M_leave_111 (c_M_called (n := nr) hS ht ho hnr ((mRem_keep (by decide) (by decide)).trans hrs)) hS.1 rfl (show yck (yMm m_M_leave) m_M_called 3 = true by decide +kernel) cw_M_called (by decide +kernel) (by decide +kernel) (by decide +kernel) (by decide +kernel) (Nat.le_of_ble_eq_true rfl) (ycat_of rfl) (by decide) (by decide)) (fun r M9 hp => ?_)
  obtain ⟨rfl, rfl⟩ := hp
  refine yr_goto (tgt := 167) d_M_leave_114 (by decide) ?_
  refine yr_aload_n d_M_leave_167 rfl ?_
  refine yr_iload_n d_M_leave_168 rfl ?_
  refine mr_call (yrunV (X := yNX) (k := 200) (As := [yi (nI o)]) (rest := []) d_M_leave_169 (c_M_pass hS ho hR hRM) hS.1 rfl (show yck (yMm m_M_leave) m_M_pass 1 = true by decide +kernel) cw_M_pass (by decide +kernel) (by decide +kernel) (by decide +kernel) (by decide +kernel) (Nat.le_of_ble_eq_true rfl) (ycat_of rfl) (by decide) (by decide)) (fun r M9 hp => ?_)
  obtain ⟨rfl, hRM9⟩ := hp
  exact yr_retv d_M_leave_172 rfl (by decide) (by decide) ⟨_, rfl, rfl, hRM9⟩
