/-! the yard: interrupt, tick, act -/
/-- what an invariant must give for the rows' going -/
def zIA (J : zS → Prop) : Prop := ∀ σ o t, J σ → o < zn σ → t ∈ zrw σ 0 o → zcan σ o t = true → zgpre (zrm σ o t) o t ∧ zth (zgrant (zrm σ o t) o t) 11 t = nI (zhN (zgrant (zrm σ o t) o t) t) ∧ zhN (zgrant (zrm σ o t) o t) t < 5 ∧ J (zgr σ o t)
theorem zIA.J {J : zS → Prop} (h : zIA J) (o : Nat) : zJ o (fun σ => J σ ∧ o < zn σ) := fun σ t hJ ht hc => by
  obtain ⟨a, b, c, d⟩ := h σ o t hJ.1 hJ.2 ht hc
  exact ⟨a, b, c, d, by rw [zgr_n.1]; exact hJ.2⟩
theorem zset_J {o : Nat} {J : zS → Prop} (hJ : zJ o J) : ∀ (m : Nat) (σ : zS), J σ → J (zset o m σ)
  | 0, _, h => h
  | m + 1, σ, h => by
    unfold zset
    split
    · exact zset_J hJ m _ (zgo_J hJ _ _ _ _ h)
    · exact zgo_J hJ _ _ _ _ h
theorem zset_n {o : Nat} : ∀ (m : Nat) (σ : zS), zn (zset o m σ) = zn σ ∧ zkd (zset o m σ) = zkd σ
  | 0, _ => ⟨rfl, rfl⟩
  | m + 1, σ => by
    unfold zset
    split
    · have h1 := zset_n (o := o) m (zgo o (zrw σ 0 o).length 0 0 σ).1
      exact ⟨h1.1.trans (zgo_n _ _ _ _).1, h1.2.trans (zgo_n _ _ _ _).2⟩
    · exact zgo_n _ _ _ _
theorem zgave_n {σ : zS} {o : Nat} : zn (zgave σ o) = zn σ ∧ zkd (zgave σ o) = zkd σ := by
  unfold zgave
  split
  · exact zendAll_n _ (zspl σ 4 o 1)
  · exact ⟨rfl, rfl⟩
theorem zgiveUp_n {σ : zS} {o t h : Nat} : zn (zgiveUp σ o t h) = zn σ ∧ zkd (zgiveUp σ o t h) = zkd σ := by
  unfold zgiveUp
  split
  · exact ⟨rfl, rfl⟩
  · unfold zleaveRow
    exact zgave_n (σ := zend (zsrw σ 0 o ((zrw σ 0 o).filter (fun u => u ≠ t))) t h)
theorem zhold_n {σ : zS} {o t : Nat} {p : Int32} : zn (zhold σ o t p) = zn σ ∧ zkd (zhold σ o t p) = zkd σ := by
  unfold zhold zholdC
  split
  · split <;> exact ⟨rfl, rfl⟩
  · exact ⟨rfl, rfl⟩
theorem zperf_n {σ : zS} {o t : Nat} {p : Int32} : zn (zperf σ o t p) = zn σ ∧ zkd (zperf σ o t p) = zkd σ := by
  unfold zperf
  split
  · exact ⟨rfl, rfl⟩
  · split
    · exact zgrant_n (σ := σ) (o := o) (t := t)
    · split
      · exact zgave_n (σ := zend (zsth σ 6 t 0) t 4)
      · split
        · exact ⟨rfl, rfl⟩
        · exact zhold_n
def zint (σ : zS) (t : Nat) : zS := match zwh σ t with
  | none => zsth σ 6 t 1
  | some o => if zth σ 2 t = 1 ∧ zth σ 8 t = 2 then zsth σ 6 t 1 else zset o 7 (zgiveUp σ o t 4)
def zIB (J : zS → Prop) : Prop := ∀ σ t o, J σ → t < 6 → zwh σ t = some o → ¬ (zth σ 2 t = 1 ∧ zth σ 8 t = 2) → (zkd σ o = 0 → zth σ 2 t = 2 → (zrw σ 0 o).length < 6) ∧ J (zgiveUp σ o t 4)

set_option maxHeartbeats 4000000 in
set_option maxRecDepth 20000 in
theorem c_Y_interrupt {G : yG} {μ : yW} (hT : (yGl G).stackTraces = false) {σ : zS} {x : Int32} {J : zS → Prop} (hA : zIA J) (hB : zIB J) (hJσ : J σ) : zCX G m_Y_interrupt [yr 0, yi x] σ μ (fun r σ' => ∃ t, ztat x = some t ∧ r = none ∧ σ' = zint σ t) (fun E σ' => E = "java/lang/IllegalArgumentException" ∧ σ' = σ ∧ ztat x = none) := by
  refine zCX_of (by decide) rfl (ycat_of rfl) (Nat.le_of_ble_eq_true rfl) ?_
  refine zr_aload_n d_Y_interrupt_0 rfl ?_
  refine zr_iload_n d_Y_interrupt_1 rfl ?_
  refine zr_call (zrunV (As := [yi x]) (rest := []) d_Y_interrupt_2 (fun ω h => h.1.1) rfl (c_Y_threadAt) 1 rfl (by decide +kernel) cw_Y_threadAt (Nat.le_of_ble_eq_true rfl) (ycat_of rfl) (by decide) (by decide)) (fun r σ9 hp => ?_)
  obtain ⟨rfl, rfl⟩ := hp
  have hta : ∃ w, w = ztat x := ⟨_, rfl⟩
  obtain ⟨w, hta⟩ := hta
  rw [← hta]
  refine zr_astore_n d_Y_interrupt_5 (by decide) rfl ?_
  refine zr_aload_n d_Y_interrupt_6 rfl ?_
  cases w with
  | none =>
    refine zr_ifnonnull (tgt := 18) d_Y_interrupt_7 (by decide) (fun a c7 => nomatch c7) (fun c7 => ?_)
    exact zx_throw (E := "java/lang/IllegalArgumentException") hT rfl d_Y_interrupt_10 d_Y_interrupt_13 d_Y_interrupt_14 d_Y_interrupt_17 (by decide +kernel) (by decide +kernel) (by decide +kernel) (by decide +kernel) (by decide) (by decide) (ycat_of rfl) (by decide) (by decide) ⟨rfl, rfl, rfl⟩
  | some t =>
    replace hta := hta.symm
    have ht : t < 6 := (ztat_lt hta).1
    refine zr_ifnonnull (tgt := 18) d_Y_interrupt_7 (by decide) (fun a c7 => ?_) (fun c7 => nomatch c7)
    refine zr_aload_n d_Y_interrupt_18 rfl ?_
    refine zr_tplace d_Y_interrupt_19 ht sf_Y_interrupt_19 ?_
    refine zr_astore_n d_Y_interrupt_22 (by decide) rfl ?_
    refine zr_aload_n d_Y_interrupt_23 rfl ?_
    cases hw : zwh σ9 t with
    | none =>
      refine zr_ifnull (tgt := 34) d_Y_interrupt_24 (by decide) (fun c24 => ?_) (fun a c24 => nomatch c24)
      refine zr_aload_n d_Y_interrupt_34 rfl ?_
      refine zr_iconst (v := 1) d_Y_interrupt_35 (by decide) ?_
      refine zr_tputi d_Y_interrupt_36 (by first | assumption | omega) sf_Y_interrupt_36 rfl rfl ⟨rfl, rfl⟩ ?_
      refine zr_goto (tgt := 52) d_Y_interrupt_39 (by decide) ?_
      refine zx_retv d_Y_interrupt_52 rfl (by decide) (by decide) ?_
      exact ⟨t, rfl, rfl, by simp [zint, hw]⟩
    | some o =>
      refine yWP_use (fun ω h => (h.th ht).2.2.2.2.2 o hw) (fun ho => ?_)
      refine zr_ifnull (tgt := 34) d_Y_interrupt_24 (by decide) (fun c24 => nomatch c24) (fun a c24 => ?_)
      refine zr_aload_n d_Y_interrupt_27 rfl ?_
      refine zr_call (zrunV (As := []) (rest := []) d_Y_interrupt_28 (fun ω h => h.sT ht) rfl (c_T_takesAgain ht) 0 rfl (by decide +kernel) cw_T_takesAgain (Nat.le_of_ble_eq_true rfl) (ycat_of rfl) (by decide) (by decide)) (fun r σ8 hp => ?_)
      obtain ⟨rfl, rfl⟩ := hp
      by_cases hta2 : zth σ8 2 t = 1 ∧ zth σ8 8 t = 2
      · rw [if_pos hta2]
        refine zr_if_eq (tgt := 42) d_Y_interrupt_31 (by decide) (fun c31 => absurd c31 (by decide)) (fun c31 => ?_)
        refine zr_aload_n d_Y_interrupt_34 rfl ?_
        refine zr_iconst (v := 1) d_Y_interrupt_35 (by decide) ?_
        refine zr_tputi d_Y_interrupt_36 (by first | assumption | omega) sf_Y_interrupt_36 rfl rfl ⟨rfl, rfl⟩ ?_
        refine zr_goto (tgt := 52) d_Y_interrupt_39 (by decide) ?_
        refine zx_retv d_Y_interrupt_52 rfl (by decide) (by decide) ?_
        exact ⟨t, rfl, rfl, by simp [zint, hw, hta2]⟩
      · rw [if_neg hta2]
        obtain ⟨hB1, hB2⟩ := hB σ8 t o hJσ ht hw hta2
        refine zr_if_eq (tgt := 42) d_Y_interrupt_31 (by decide) (fun c31 => ?_) (fun c31 => absurd rfl c31)
        refine zr_aload_n d_Y_interrupt_42 rfl ?_
        refine zr_aload_n d_Y_interrupt_43 rfl ?_
        refine zr_iconst (v := 4) d_Y_interrupt_44 (by decide) ?_
        refine zr_callP (sel := sel_giveUp) (o := o) (As := [yr (10 + t), yi 4]) (rest := []) (x := yMy m_P_giveUp) (owner := "MonitorYard$Place") (priv := false) d_Y_interrupt_45 ho (v_giveUp (q := 4) ho ht (by omega) hB1) 2 rfl (by decide +kernel) sel_giveUp_code (zdecl (i' := m_P_giveUp) (by decide +kernel) cw_P_giveUp) (by decide) (Nat.le_of_ble_eq_true rfl) (ycat_of rfl) (by decide) (by decide) (fun r σ7 hp => ?_)
        obtain ⟨rfl, rfl⟩ := hp
        have ho2 : o < zn (zgiveUp σ8 o t 4) := by rw [zgiveUp_n.1]; exact ho
        refine zr_aload_n d_Y_interrupt_48 rfl ?_
        refine zr_callP (sel := (fun _ => m_P_settle)) (o := o) (As := []) (rest := []) (x := yMy m_P_settle) (owner := "MonitorYard$Place") (priv := false) d_Y_interrupt_49 ho2 (c_P_settle ho2 (hA.J o) ⟨hB2, ho2⟩) 0 rfl (by decide +kernel) (fun _ _ => cw_P_settle) (zdecl (i' := m_P_settle) (by decide +kernel) cw_P_settle) (by decide) (Nat.le_of_ble_eq_true rfl) (ycat_of rfl) (by decide) (by decide) (fun r σ6 hp => ?_)
        obtain ⟨rfl, rfl⟩ := hp
        exact zx_retv d_Y_interrupt_52 rfl (by decide) (by decide) ⟨t, rfl, rfl, by simp [zint, hw, hta2]⟩

/-- one thread's tick -/
def ztk1 (σ : zS) (t : Nat) : zS × Bool := match zwh σ t with
  | none => (σ, false)
  | some o => if 0 < zth σ 7 t then (if zth σ 7 t - 1 = 0 then (zset o 7 (zgiveUp (zsth σ 7 t (zth σ 7 t - 1)) o t 2), true) else (zsth σ 7 t (zth σ 7 t - 1), false)) else (σ, false)
def ztkL : Nat → Nat → Int32 → zS → zS × Int32
  | 0, _, c, σ => (σ, c)
  | m + 1, q, c, σ => ztkL m (q + 1) (if (ztk1 σ q).2 = true then c + 1 else c) (ztk1 σ q).1
def ztickOne (σ : zS) : zS × Int32 := ztkL 6 0 0 (zstk σ (ztk σ + 1))
def ztickL : Nat → Int32 → zS → zS × Int32
  | 0, c, σ => (σ, c)
  | m + 1, c, σ => ztickL m (c + (ztickOne σ).2) (ztickOne σ).1
def zID (J : zS → Prop) : Prop := ∀ σ t o, J σ → t < 6 → zwh σ t = some o → 0 < zth σ 7 t → J (zsth σ 7 t (zth σ 7 t - 1)) ∧ (zth σ 7 t - 1 = 0 → (zkd σ o = 0 → zth σ 2 t = 2 → (zrw σ 0 o).length < 6) ∧ J (zgiveUp (zsth σ 7 t (zth σ 7 t - 1)) o t 2))
def zIE (J : zS → Prop) : Prop := ∀ σ x, J σ → J (zstk σ x)
/-- where a thread is, there is a place -/
def zIW (J : zS → Prop) : Prop := ∀ σ t o, J σ → t < 6 → zwh σ t = some o → o < zn σ
theorem ztk1_J {J : zS → Prop} (hA : zIA J) (hD : zID J) (hW : zIW J) {σ : zS} {t : Nat} (hJ : J σ) (ht : t < 6) : J (ztk1 σ t).1 := by
  unfold ztk1
  split
  · exact hJ
  · rename_i o hw
    split
    · rename_i hp
      obtain ⟨h1, h2⟩ := hD σ t o hJ ht hw hp
      split
      · rename_i h0
        exact (zset_J (hA.J o) 7 _ ⟨(h2 h0).2, by rw [zgiveUp_n.1]; exact hW σ t o hJ ht hw⟩).1
      · exact h1
    · exact hJ
theorem ztkL_J {J : zS → Prop} (hA : zIA J) (hD : zID J) (hW : zIW J) : ∀ (m q : Nat) (c : Int32) (σ : zS), m + q = 6 → J σ → J (ztkL m q c σ).1
  | 0, _, _, _, _, h => h
  | m + 1, q, c, σ, hm, h => ztkL_J hA hD hW m (q + 1) _ _ (by omega) (ztk1_J hA hD hW h (by omega))
theorem ztickOne_J {J : zS → Prop} (hA : zIA J) (hD : zID J) (hE : zIE J) (hW : zIW J) {σ : zS} (h : J σ) : J (ztickOne σ).1 := ztkL_J hA hD hW 6 0 _ _ rfl (hE σ _ h)

set_option maxHeartbeats 4000000 in
set_option maxRecDepth 20000 in
theorem c_Y_pass_loop {G : yG} {μ : yW} {J : zS → Prop} (hA : zIA J) (hD : zID J) (hW : zIW J) : ∀ (m q : Nat) (c : Int32) (σ : zS) (x5 x6 : Option yV), m + q = 6 → J σ → yWP G m_Y_passOneTick (zQ G m_Y_passOneTick μ (fun r σ' => r = some (yi (ztkL m q c σ).2) ∧ σ' = (ztkL m q c σ).1)) μ.1 23 [some (yr 0), some (yi c), some (yr 1), some (yi (nI 6)), some (yi (nI q)), x5, x6] [] (zC σ μ) 0 0 := by
  intro m
  induction m with
  | zero =>
    intro q c σ x5 x6 hm hJ
    have hq : q = 6 := by omega
    subst hq
    refine zr_iload d_Y_passOneTick_23 rfl ?_
    refine zr_iload_n d_Y_passOneTick_25 rfl ?_
    refine zr_icmp_ge (tgt := 77) d_Y_passOneTick_26 (by decide) (fun c18 => ?_) (fun c18 => absurd (by decide) c18)
    refine zr_iload_n d_Y_passOneTick_77 rfl ?_
    exact zr_reti d_Y_passOneTick_78 rfl (by decide) (by decide) ⟨rfl, rfl⟩
  | succ m ih =>
    intro q c σ x5 x6 hm hJ
    have ht : q < 6 := by omega
    have hJ1 := ztk1_J hA hD hW hJ ht
    have hz : ztkL (m + 1) q c σ = ztkL m (q + 1) (if (ztk1 σ q).2 = true then c + 1 else c) (ztk1 σ q).1 := rfl
    rw [hz]
    cases hw : zwh σ q with
    | none =>
      have e1 : ztk1 σ q = (σ, false) := by unfold ztk1; rw [hw]
      rw [e1]
      refine zr_iload d_Y_passOneTick_23 rfl ?_
      refine zr_iload_n d_Y_passOneTick_25 rfl ?_
      refine zr_icmp_ge (tgt := 77) d_Y_passOneTick_26 (by decide) (fun c18 => absurd c18 (nI_ge ht (by omega))) (fun c18 => ?_)
      refine zr_aload_n d_Y_passOneTick_29 rfl ?_
      refine zr_iload d_Y_passOneTick_30 rfl ?_
      refine zr_thld d_Y_passOneTick_32 rfl ht ?_
      refine zr_astore d_Y_passOneTick_33 (by decide) rfl ?_
      refine zr_aload d_Y_passOneTick_35 rfl ?_
      refine zr_tplace d_Y_passOneTick_37 ht sf_Y_passOneTick_37 ?_
      rw [hw]
      refine zr_astore d_Y_passOneTick_40 (by decide) rfl ?_
      refine zr_aload d_Y_passOneTick_42 rfl ?_
      refine zr_ifnull (tgt := 71) d_Y_passOneTick_44 (by decide) (fun c44 => ?_) (fun a c44 => nomatch c44)
      refine zr_iinc (v := nI (q + 1)) d_Y_passOneTick_71 rfl (nI_1 q) (by decide) rfl ?_
      refine zr_goto (tgt := 23) d_Y_passOneTick_74 (by decide) ?_
      exact ih (q + 1) c σ _ _ (by omega) hJ
    | some o =>
      have ho : o < zn σ := hW σ q o hJ ht hw
      refine zr_iload d_Y_passOneTick_23 rfl ?_
      refine zr_iload_n d_Y_passOneTick_25 rfl ?_
      refine zr_icmp_ge (tgt := 77) d_Y_passOneTick_26 (by decide) (fun c18 => absurd c18 (nI_ge ht (by omega))) (fun c18 => ?_)
      refine zr_aload_n d_Y_passOneTick_29 rfl ?_
      refine zr_iload d_Y_passOneTick_30 rfl ?_
      refine zr_thld d_Y_passOneTick_32 rfl ht ?_
      refine zr_astore d_Y_passOneTick_33 (by decide) rfl ?_
      refine zr_aload d_Y_passOneTick_35 rfl ?_
      refine zr_tplace d_Y_passOneTick_37 ht sf_Y_passOneTick_37 ?_
      rw [hw]
      refine zr_astore d_Y_passOneTick_40 (by decide) rfl ?_
      refine zr_aload d_Y_passOneTick_42 rfl ?_
      refine zr_ifnull (tgt := 71) d_Y_passOneTick_44 (by decide) (fun c44 => nomatch c44) (fun a c44 => ?_)
      refine zr_aload d_Y_passOneTick_47 rfl ?_
      refine zr_call (zrunV (As := []) (rest := []) d_Y_passOneTick_49 (fun ω h => h.sT ht) rfl (c_T_losesPatience ht) 0 rfl (by decide +kernel) cw_T_losesPatience (Nat.le_of_ble_eq_true rfl) (ycat_of rfl) (by decide) (by decide)) (fun r σ9 hp => ?_)
      rcases hp with ⟨hp1, rfl, rfl⟩ | ⟨hp1, rfl, rfl⟩
      · have e1 : ztk1 σ9 q = (σ9, false) := by
          unfold ztk1
          rw [hw]
          exact if_neg hp1
        rw [e1]
        refine zr_if_eq (tgt := 71) d_Y_passOneTick_52 (by decide) (fun c52 => ?_) (fun c52 => absurd rfl c52)
        refine zr_iinc (v := nI (q + 1)) d_Y_passOneTick_71 rfl (nI_1 q) (by decide) rfl ?_
        refine zr_goto (tgt := 23) d_Y_passOneTick_74 (by decide) ?_
        exact ih (q + 1) c σ9 _ _ (by omega) hJ
      · obtain ⟨h1, h2⟩ := hD σ q o hJ ht hw hp1
        by_cases h0 : zth σ 7 q - 1 = 0
        · obtain ⟨h3, h4⟩ := h2 h0
          have e1 : ztk1 σ q = (zset o 7 (zgiveUp (zsth σ 7 q (zth σ 7 q - 1)) o q 2), true) := by
            unfold ztk1
            rw [hw]
            simp only
            rw [if_pos hp1, if_pos h0]
          rw [e1] at hJ1 ⊢
          rw [if_pos h0]
          refine zr_if_eq (tgt := 71) d_Y_passOneTick_52 (by decide) (fun c52 => absurd c52 (by decide)) (fun c52 => ?_)
          refine zr_aload d_Y_passOneTick_55 rfl ?_
          refine zr_aload d_Y_passOneTick_57 rfl ?_
          refine zr_iconst (v := 2) d_Y_passOneTick_59 (by decide) ?_
          refine zr_callP (sel := sel_giveUp) (o := o) (As := [yr (10 + q), yi 2]) (rest := []) (x := yMy m_P_giveUp) (owner := "MonitorYard$Place") (priv := false) d_Y_passOneTick_60 ho (v_giveUp (σ := zsth σ 7 q (zth σ 7 q - 1)) (q := 2) ho ht (by omega) h3) 2 rfl (by decide +kernel) sel_giveUp_code (zdecl (i' := m_P_giveUp) (by decide +kernel) cw_P_giveUp) (by decide) (Nat.le_of_ble_eq_true rfl) (ycat_of rfl) (by decide) (by decide) (fun r σ7 hp => ?_)
          obtain ⟨rfl, rfl⟩ := hp
          have ho2 : o < zn (zgiveUp (zsth σ 7 q (zth σ 7 q - 1)) o q 2) := by rw [zgiveUp_n.1]; exact ho
          refine zr_aload d_Y_passOneTick_63 rfl ?_
          refine zr_callP (sel := (fun _ => m_P_settle)) (o := o) (As := []) (rest := []) (x := yMy m_P_settle) (owner := "MonitorYard$Place") (priv := false) d_Y_passOneTick_65 ho2 (c_P_settle ho2 (hA.J o) ⟨h4, ho2⟩) 0 rfl (by decide +kernel) (fun _ _ => cw_P_settle) (zdecl (i' := m_P_settle) (by decide +kernel) cw_P_settle) (by decide) (Nat.le_of_ble_eq_true rfl) (ycat_of rfl) (by decide) (by decide) (fun r σ6 hp => ?_)
          obtain ⟨rfl, rfl⟩ := hp
          refine zr_iinc (v := c + 1) d_Y_passOneTick_68 rfl rfl (by decide) rfl ?_
          refine zr_iinc (v := nI (q + 1)) d_Y_passOneTick_71 rfl (nI_1 q) (by decide) rfl ?_
          refine zr_goto (tgt := 23) d_Y_passOneTick_74 (by decide) ?_
          exact ih (q + 1) (c + 1) _ _ _ (by omega) hJ1
        · have e1 : ztk1 σ q = (zsth σ 7 q (zth σ 7 q - 1), false) := by
            unfold ztk1
            rw [hw]
            simp only
            rw [if_pos hp1, if_neg h0]
          rw [e1]
          rw [if_neg h0]
          refine zr_if_eq (tgt := 71) d_Y_passOneTick_52 (by decide) (fun c52 => ?_) (fun c52 => absurd rfl c52)
          refine zr_iinc (v := nI (q + 1)) d_Y_passOneTick_71 rfl (nI_1 q) (by decide) rfl ?_
          refine zr_goto (tgt := 23) d_Y_passOneTick_74 (by decide) ?_
          exact ih (q + 1) c _ _ _ (by omega) h1

set_option maxHeartbeats 4000000 in
set_option maxRecDepth 20000 in
theorem c_Y_passOneTick {G : yG} {μ : yW} {σ : zS} {J : zS → Prop} (hA : zIA J) (hD : zID J) (hE : zIE J) (hW : zIW J) (hJ : J σ) : zCT G m_Y_passOneTick [yr 0] σ μ (fun r σ' => r = some (yi (ztickOne σ).2) ∧ σ' = (ztickOne σ).1) := by
  refine zCT_of (by decide) rfl (ycat_of rfl) (Nat.le_of_ble_eq_true rfl) ?_
  refine zr_aload_n d_Y_passOneTick_0 rfl ?_
  refine zr_dup d_Y_passOneTick_1 (fun _ => rfl) ?_
  refine zr_ytk d_Y_passOneTick_2 sf_Y_passOneTick_2 ?_
  refine zr_iconst (v := 1) d_Y_passOneTick_5 (by decide) ?_
  refine zr_iadd d_Y_passOneTick_6 ?_
  refine zr_yptk d_Y_passOneTick_7 sf_Y_passOneTick_7 ?_
  refine zr_iconst (v := 0) d_Y_passOneTick_10 (by decide) ?_
  refine zr_istore_n d_Y_passOneTick_11 (by decide) rfl ?_
  refine zr_aload_n d_Y_passOneTick_12 rfl ?_
  refine zr_ythr d_Y_passOneTick_13 sf_Y_passOneTick_13 ?_
  refine zr_astore_n d_Y_passOneTick_16 (by decide) rfl ?_
  refine zr_aload_n d_Y_passOneTick_17 rfl ?_
  refine zr_thlen d_Y_passOneTick_18 ?_
  refine zr_istore_n d_Y_passOneTick_19 (by decide) rfl ?_
  refine zr_iconst (v := 0) d_Y_passOneTick_20 (by decide) ?_
  refine zr_istore d_Y_passOneTick_21 (by decide) rfl ?_
  exact c_Y_pass_loop hA hD hW 6 0 0 _ _ _ rfl (hE σ _ hJ)
