/-! a place: going through the row, settling, performing -/
theorem zend1_k {o h : Nat} {σ : zS} : zkd (zend1 o h σ) = zkd σ := by
  unfold zend1
  split <;> rfl
theorem zendAll_n {o h : Nat} : ∀ (n : Nat) (σ : zS), zn (zendAll o h n σ) = zn σ ∧ zkd (zendAll o h n σ) = zkd σ
  | 0, _ => ⟨rfl, rfl⟩
  | n + 1, σ => by
    have h1 := zendAll_n (o := o) (h := h) n (zend1 o h σ)
    exact ⟨h1.1.trans zend1_n, h1.2.trans zend1_k⟩
theorem zcall_n {o j : Nat} : ∀ (n : Nat) (σ : zS), zn (zcall o j n σ) = zn σ ∧ zkd (zcall o j n σ) = zkd σ
  | 0, _ => ⟨rfl, rfl⟩
  | n + 1, σ => by
    have h1 := zcall_n (o := o) (j := j) n (zcall1 o j σ)
    exact ⟨h1.1.trans zcall1_n.1, h1.2.trans zcall1_n.2⟩
theorem zleave_n {σ : zS} {o : Nat} : zn (zleave σ o) = zn σ ∧ zkd (zleave σ o) = zkd σ := by
  unfold zleave
  split <;> exact ⟨rfl, rfl⟩
theorem zgrant_n {σ : zS} {o t : Nat} : zn (zgrant σ o t) = zn σ ∧ zkd (zgrant σ o t) = zkd σ := by
  unfold zgrant zgrantC
  split
  · unfold zgrantK
    split
    · exact ⟨rfl, rfl⟩
    · split
      · exact zleave_n
      · split
        · exact ⟨rfl, rfl⟩
        · split
          · exact zcall_n _ _
          · exact zcall_n _ _
  · unfold zgrantB
    split
    · exact ⟨rfl, rfl⟩
    · split
      · exact ⟨rfl, rfl⟩
      · split
        · exact ⟨rfl, rfl⟩
        · exact zleave_n
  · exact ⟨rfl, rfl⟩
  · split <;> exact ⟨rfl, rfl⟩
  · unfold zgrantA
    split
    · exact zendAll_n _ (zspl σ 4 o 0)
    · exact zendAll_n _ _
  · unfold zgrantQ
    split
    · split <;> exact ⟨rfl, rfl⟩
    · split <;> exact ⟨rfl, rfl⟩
/-- its outcome when it is granted, as a number -/
def zhN (σ : zS) (t : Nat) : Nat := (zth σ 11 t).toNatClampNeg
def zrm (σ : zS) (o t : Nat) : zS := zsrw σ 0 o ((zrw σ 0 o).filter (fun u => u ≠ t))
/-- one of the row is granted -/
def zgr (σ : zS) (o t : Nat) : zS := zend (zgrant (zrm σ o t) o t) t (zhN (zgrant (zrm σ o t) o t) t)
theorem zgr_n {σ : zS} {o t : Nat} : zn (zgr σ o t) = zn σ ∧ zkd (zgr σ o t) = zkd σ := ⟨(zgrant_n (σ := zrm σ o t) (o := o) (t := t)).1, (zgrant_n (σ := zrm σ o t) (o := o) (t := t)).2⟩
def zbit (σ : zS) (o t : Nat) : Int32 := 1 <<< (zsort (zkd σ o) (zth σ 8 t) &&& 31)
def zgo (o : Nat) : Nat → Int32 → Nat → zS → zS × Nat
  | 0, _, p, σ => (σ, p)
  | m + 1, x, p, σ => match (zrw σ 0 o)[p]? with
    | none => (σ, p)
    | some t => if (x &&& zbit σ o t) = 0 ∧ zcan σ o t = true then zgo o m x p (zgr σ o t) else zgo o m (x ||| zbit σ o t) (p + 1) σ
def zset (o : Nat) : Nat → zS → zS
  | 0, σ => σ
  | m + 1, σ => if (zgo o (zrw σ 0 o).length 0 0 σ).2 < (zrw σ 0 o).length then zset o m (zgo o (zrw σ 0 o).length 0 0 σ).1 else (zgo o (zrw σ 0 o).length 0 0 σ).1
/-- what a property of states must have, to stand through the row's going -/
def zJ (o : Nat) (J : zS → Prop) : Prop := ∀ σ t, J σ → t ∈ zrw σ 0 o → zcan σ o t = true → zgpre (zrm σ o t) o t ∧ zth (zgrant (zrm σ o t) o t) 11 t = nI (zhN (zgrant (zrm σ o t) o t) t) ∧ zhN (zgrant (zrm σ o t) o t) t < 5 ∧ J (zgr σ o t)
theorem zgo_J {o : Nat} {J : zS → Prop} (hJ : zJ o J) : ∀ (m : Nat) (x : Int32) (p : Nat) (σ : zS), J σ → J (zgo o m x p σ).1
  | 0, _, _, _, h => h
  | m + 1, x, p, σ, h => by
    unfold zgo
    split
    · exact h
    · rename_i t ht
      split
      · rename_i hc
        exact zgo_J hJ m _ _ _ (hJ σ t h (List.mem_of_getElem? ht) hc.2).2.2.2
      · exact zgo_J hJ m _ _ _ h
theorem zgo_n {o : Nat} : ∀ (m : Nat) (x : Int32) (p : Nat) (σ : zS), zn (zgo o m x p σ).1 = zn σ ∧ zkd (zgo o m x p σ).1 = zkd σ
  | 0, _, _, _ => ⟨rfl, rfl⟩
  | m + 1, x, p, σ => by
    unfold zgo
    split
    · exact ⟨rfl, rfl⟩
    · rename_i t _
      split
      · have h1 := zgo_n (o := o) m x p (zgr σ o t)
        exact ⟨h1.1.trans zgr_n.1, h1.2.trans zgr_n.2⟩
      · exact zgo_n m _ _ σ

set_option maxHeartbeats 8000000 in
set_option maxRecDepth 20000 in
theorem c_P_go_loop {G : yG} {μ : yW} {o w : Nat} {J : zS → Prop} (hJ : zJ o J) (hw : w ≤ 6) : ∀ (m q p : Nat) (x : Int32) (σ : zS) (x5 x6 : Option yV), m + q = w → p ≤ q → o < zn σ → J σ → yWP G m_P_goThroughRow (zQ G m_P_goThroughRow μ (fun r σ' => r = some (yi (zb (decide ((zgo o m x p σ).2 < w)))) ∧ σ' = (zgo o m x p σ).1)) μ.1 15 [some (yr (kP o)), some (yi (nI w)), some (yi x), some (yi (nI p)), some (yi (nI q)), x5, x6] [] (zC σ μ) 0 0 := by
  intro m
  induction m with
  | zero =>
    intro q p x σ x5 x6 hm hp ho hJσ
    have hz : zgo o 0 x p σ = (σ, p) := rfl
    refine zr_iload d_P_goThroughRow_15 rfl ?_
    refine zr_iload_n d_P_goThroughRow_17 rfl ?_
    refine zr_icmp_ge (tgt := 110) d_P_goThroughRow_18 (by decide) (fun c18 => ?_) (fun c18 => absurd (nI_le (by omega) (by omega)) c18)
    refine zr_iload_n d_P_goThroughRow_110 rfl ?_
    refine zr_iload_n d_P_goThroughRow_111 rfl ?_
    refine zr_icmp_ge (tgt := 119) d_P_goThroughRow_112 (by decide) (fun c112 => ?_) (fun c112 => ?_)
    · rw [nI_leI (by omega) (by omega)] at c112
      refine zr_iconst (v := 0) d_P_goThroughRow_119 (by decide) ?_
      refine zr_retz d_P_goThroughRow_120 rfl rfl (by decide) (by decide) ⟨?_, ?_⟩
      · rw [hz]; simp [zb]; omega
      · rw [hz]
    · rw [nI_leI (by omega) (by omega)] at c112
      refine zr_iconst (v := 1) d_P_goThroughRow_115 (by decide) ?_
      refine zr_goto (tgt := 120) d_P_goThroughRow_116 (by decide) ?_
      refine zr_retz d_P_goThroughRow_120 rfl rfl (by decide) (by decide) ⟨?_, ?_⟩
      · rw [hz]; simp [zb]; omega
      · rw [hz]
  | succ m ih =>
    intro q p x σ x5 x6 hm hp ho hJσ
    have hv : zrv σ 0 o := ⟨ho, Or.inl rfl⟩
    refine yWP_use (fun ω h => (zlist h hv).2) (fun hall => ?_)
    refine zr_iload d_P_goThroughRow_15 rfl ?_
    refine zr_iload_n d_P_goThroughRow_17 rfl ?_
    refine zr_icmp_ge (tgt := 110) d_P_goThroughRow_18 (by decide) (fun c18 => absurd c18 (nI_ge (by omega) (by omega))) (fun c18 => ?_)
    refine zr_aload_n d_P_goThroughRow_21 rfl ?_
    refine zr_prow d_P_goThroughRow_22 (by first | assumption | omega) sf_P_goThroughRow_22 ?_
    refine zr_iload_n d_P_goThroughRow_25 rfl ?_
    refine zr_call (zrunV (As := [yi (nI p)]) (rest := []) d_P_goThroughRow_26 (fun ω h => (h.row hv).2.1) rfl (c_R_at' (x := nI p) hv) 1 rfl (by decide +kernel) cw_R_at (Nat.le_of_ble_eq_true rfl) (ycat_of rfl) (by decide) (by decide)) (fun r σ9 hp2 => ?_)
    obtain ⟨rfl, rfl⟩ := hp2
    rw [zat_nI (by omega)]
    cases hu : (zrw σ9 0 o)[p]? with
    | none =>
      have hz : zgo o (m + 1) x p σ9 = (σ9, p) := by unfold zgo; rw [hu]
      refine zr_astore d_P_goThroughRow_29 (by decide) rfl ?_
      refine zr_aload d_P_goThroughRow_31 rfl ?_
      refine zr_ifnonnull (tgt := 39) d_P_goThroughRow_33 (by decide) (fun a c33 => nomatch c33) (fun c33 => ?_)
      refine zr_goto (tgt := 110) d_P_goThroughRow_36 (by decide) ?_
      refine zr_iload_n d_P_goThroughRow_110 rfl ?_
      refine zr_iload_n d_P_goThroughRow_111 rfl ?_
      refine zr_icmp_ge (tgt := 119) d_P_goThroughRow_112 (by decide) (fun c112 => ?_) (fun c112 => ?_)
      · rw [nI_leI (by omega) (by omega)] at c112
        refine zr_iconst (v := 0) d_P_goThroughRow_119 (by decide) ?_
        refine zr_retz d_P_goThroughRow_120 rfl rfl (by decide) (by decide) ⟨?_, ?_⟩
        · rw [hz]; simp [zb]; omega
        · rw [hz]
      · rw [nI_leI (by omega) (by omega)] at c112
        refine zr_iconst (v := 1) d_P_goThroughRow_115 (by decide) ?_
        refine zr_goto (tgt := 120) d_P_goThroughRow_116 (by decide) ?_
        refine zr_retz d_P_goThroughRow_120 rfl rfl (by decide) (by decide) ⟨?_, ?_⟩
        · rw [hz]; simp [zb]; omega
        · rw [hz]
    | some t =>
      have htm : t ∈ zrw σ9 0 o := List.mem_of_getElem? hu
      have ht : t < 6 := hall t htm
      refine zr_astore d_P_goThroughRow_29 (by decide) rfl ?_
      refine zr_aload d_P_goThroughRow_31 rfl ?_
      refine zr_ifnonnull (tgt := 39) d_P_goThroughRow_33 (by decide) (fun a c33 => ?_) (fun c33 => nomatch c33)
      refine zr_iconst (v := 1) d_P_goThroughRow_39 (by decide) ?_
      refine zr_aload_n d_P_goThroughRow_40 rfl ?_
      refine zr_aload d_P_goThroughRow_41 rfl ?_
      refine zr_tgeti d_P_goThroughRow_43 (by first | assumption | omega) sf_P_goThroughRow_43 rfl rfl ?_
      refine zr_callP (sel := sel_sort) (o := o) (As := [yi (zth σ9 8 t)]) (rest := [yi 1]) (x := yMy m_P_sortOf) (owner := "MonitorYard$Place") (priv := false) d_P_goThroughRow_46 ho (v_sort ho) 1 rfl (by decide +kernel) sel_sort_code (zdecl (i' := m_P_sortOf) (by decide +kernel) cw_P_sortOf) (by decide) (Nat.le_of_ble_eq_true rfl) (ycat_of rfl) (by decide) (by decide) (fun r σ8 hp => ?_)
      obtain ⟨rfl, rfl⟩ := hp
      refine zr_ishl d_P_goThroughRow_49 ?_
      change yWP _ _ _ _ _ _ [yi (zbit σ8 o t)] _ _ _
      refine zr_istore d_P_goThroughRow_50 (by decide) rfl ?_
      refine zr_iload_n d_P_goThroughRow_52 rfl ?_
      refine zr_iload d_P_goThroughRow_53 rfl ?_
      refine zr_iand d_P_goThroughRow_55 ?_
      refine zr_if_ne (tgt := 96) d_P_goThroughRow_56 (by decide) (fun c56 => ?_) (fun c56 => ?_)
      · skip
        refine zr_iload_n d_P_goThroughRow_96 rfl ?_
        refine zr_iload d_P_goThroughRow_97 rfl ?_
        refine zr_ior d_P_goThroughRow_99 ?_
        refine zr_istore_n d_P_goThroughRow_100 (by decide) rfl ?_
        refine zr_iinc (v := nI (p + 1)) d_P_goThroughRow_101 rfl (nI_1 p) (by decide) rfl ?_
        refine zr_iinc (v := nI (q + 1)) d_P_goThroughRow_104 rfl (nI_1 q) (by decide) rfl ?_
        refine zr_goto (tgt := 15) d_P_goThroughRow_107 (by decide) ?_
        first
          | (have hz : zgo o (m + 1) x p σ7 = zgo o m x p (zgr σ7 o t) := by
               rw [zgo, hu]
               exact if_pos ⟨c56, c65⟩
             rw [hz]
             exact ih (q + 1) p x (zgr σ7 o t) _ _ (by omega) (by omega) (by rw [zgr_n.1]; exact ho) j4)
          | (have hz : zgo o (m + 1) x p σ7 = zgo o m (x ||| zbit σ7 o t) (p + 1) σ7 := by
               rw [zgo, hu]
               exact if_neg (fun z => by rw [z.2] at c65; exact absurd c65 (by decide))
             rw [hz]
             exact ih (q + 1) (p + 1) _ σ7 _ _ (by omega) (by omega) ho hJσ)
          | (have hz : zgo o (m + 1) x p σ8 = zgo o m (x ||| zbit σ8 o t) (p + 1) σ8 := by
               rw [zgo, hu]
               exact if_neg (fun z => c56 z.1)
             rw [hz]
             exact ih (q + 1) (p + 1) _ σ8 _ _ (by omega) (by omega) ho hJσ)
      · skip
        refine zr_aload_n d_P_goThroughRow_59 rfl ?_
        refine zr_aload d_P_goThroughRow_60 rfl ?_
        refine zr_callP (sel := sel_canBe) (o := o) (As := [yr (10 + t)]) (rest := []) (x := ⟨"MonitorYard$Place", "canBe", "(LMonitorYard$YardThread;)Z"⟩) (owner := "MonitorYard$Place") (priv := false) d_P_goThroughRow_62 ho (v_canBe ho ht) 1 rfl (by decide +kernel) sel_canBe_code (zdeclA (x := ⟨"MonitorYard$Place", "canBe", "(LMonitorYard$YardThread;)Z"⟩) (by decide +kernel)) (by decide) (Nat.le_of_ble_eq_true rfl) (ycat_of rfl) (by decide) (by decide) (fun r σ7 hp => ?_)
        obtain ⟨rfl, rfl⟩ := hp
        refine zr_if_eq (tgt := 96) d_P_goThroughRow_65 (by decide) (fun c65 => ?_) (fun c65 => ?_)
        · skip
          refine zr_iload_n d_P_goThroughRow_96 rfl ?_
          refine zr_iload d_P_goThroughRow_97 rfl ?_
          refine zr_ior d_P_goThroughRow_99 ?_
          refine zr_istore_n d_P_goThroughRow_100 (by decide) rfl ?_
          refine zr_iinc (v := nI (p + 1)) d_P_goThroughRow_101 rfl (nI_1 p) (by decide) rfl ?_
          refine zr_iinc (v := nI (q + 1)) d_P_goThroughRow_104 rfl (nI_1 q) (by decide) rfl ?_
          refine zr_goto (tgt := 15) d_P_goThroughRow_107 (by decide) ?_
          first
            | (have hz : zgo o (m + 1) x p σ7 = zgo o m x p (zgr σ7 o t) := by
                 rw [zgo, hu]
                 exact if_pos ⟨c56, c65⟩
               rw [hz]
               exact ih (q + 1) p x (zgr σ7 o t) _ _ (by omega) (by omega) (by rw [zgr_n.1]; exact ho) j4)
            | (have hz : zgo o (m + 1) x p σ7 = zgo o m (x ||| zbit σ7 o t) (p + 1) σ7 := by
                 rw [zgo, hu]
                 exact if_neg (fun z => by rw [z.2] at c65; exact absurd c65 (by decide))
               rw [hz]
               exact ih (q + 1) (p + 1) _ σ7 _ _ (by omega) (by omega) ho hJσ)
            | (have hz : zgo o (m + 1) x p σ8 = zgo o m (x ||| zbit σ8 o t) (p + 1) σ8 := by
                 rw [zgo, hu]
                 exact if_neg (fun z => c56 z.1)
               rw [hz]
               exact ih (q + 1) (p + 1) _ σ8 _ _ (by omega) (by omega) ho hJσ)
        · skip
          refine zr_aload_n d_P_goThroughRow_68 rfl ?_
          refine zr_prow d_P_goThroughRow_69 (by first | assumption | omega) sf_P_goThroughRow_69 ?_
          refine zr_aload d_P_goThroughRow_72 rfl ?_
          refine zr_call (zrunV (As := [yr (10 + t)]) (rest := []) d_P_goThroughRow_74 (fun ω h => (h.row hv).2.1) rfl (c_R_remove' hv ht) 1 rfl (by decide +kernel) cw_R_remove (Nat.le_of_ble_eq_true rfl) (ycat_of rfl) (by decide) (by decide)) (fun r σ6 hp2 => ?_)
          obtain ⟨rfl, rfl⟩ := hp2
          rw [zb_ne] at c65
          obtain ⟨j1, j2, j3, j4⟩ := hJ σ7 t hJσ htm c65
          change yWP _ _ _ _ _ _ _ (zC (zrm σ7 o t) μ) _ _
          refine zr_aload_n d_P_goThroughRow_77 rfl ?_
          refine zr_aload d_P_goThroughRow_78 rfl ?_
          refine zr_callP (sel := sel_grant) (o := o) (As := [yr (10 + t)]) (rest := []) (x := ⟨"MonitorYard$Place", "grant", "(LMonitorYard$YardThread;)V"⟩) (owner := "MonitorYard$Place") (priv := false) d_P_goThroughRow_80 ho (v_grant (σ := zrm σ7 o t) ho ht j1) 1 rfl (by decide +kernel) sel_grant_code (zdeclA (x := ⟨"MonitorYard$Place", "grant", "(LMonitorYard$YardThread;)V"⟩) (by decide +kernel)) (by decide) (Nat.le_of_ble_eq_true rfl) (ycat_of rfl) (by decide) (by decide) (fun r σ5 hp2 => ?_)
          obtain ⟨rfl, rfl⟩ := hp2
          refine zr_aload d_P_goThroughRow_83 rfl ?_
          refine zr_aload d_P_goThroughRow_85 rfl ?_
          refine zr_tgeti d_P_goThroughRow_87 (by first | assumption | omega) sf_P_goThroughRow_87 rfl rfl ?_
          rw [j2]
          refine zr_call (zrunV (As := [yi (nI (zhN (zgrant (zrm σ7 o t) o t) t))]) (rest := []) d_P_goThroughRow_90 (fun ω h => h.sT ht) rfl (c_T_end ht j3) 1 rfl (by decide +kernel) cw_T_end (Nat.le_of_ble_eq_true rfl) (ycat_of rfl) (by decide) (by decide)) (fun r σ4 hp2 => ?_)
          obtain ⟨rfl, rfl⟩ := hp2
          change yWP _ _ _ _ _ _ _ (zC (zgr σ7 o t) μ) _ _
          refine zr_goto (tgt := 104) d_P_goThroughRow_93 (by decide) ?_
          refine zr_iinc (v := nI (q + 1)) d_P_goThroughRow_104 rfl (nI_1 q) (by decide) rfl ?_
          refine zr_goto (tgt := 15) d_P_goThroughRow_107 (by decide) ?_
          first
            | (have hz : zgo o (m + 1) x p σ7 = zgo o m x p (zgr σ7 o t) := by
                 rw [zgo, hu]
                 exact if_pos ⟨c56, c65⟩
               rw [hz]
               exact ih (q + 1) p x (zgr σ7 o t) _ _ (by omega) (by omega) (by rw [zgr_n.1]; exact ho) j4)
            | (have hz : zgo o (m + 1) x p σ7 = zgo o m (x ||| zbit σ7 o t) (p + 1) σ7 := by
                 rw [zgo, hu]
                 exact if_neg (fun z => by rw [z.2] at c65; exact absurd c65 (by decide))
               rw [hz]
               exact ih (q + 1) (p + 1) _ σ7 _ _ (by omega) (by omega) ho hJσ)
            | (have hz : zgo o (m + 1) x p σ8 = zgo o m (x ||| zbit σ8 o t) (p + 1) σ8 := by
                 rw [zgo, hu]
                 exact if_neg (fun z => c56 z.1)
               rw [hz]
               exact ih (q + 1) (p + 1) _ σ8 _ _ (by omega) (by omega) ho hJσ)

set_option maxHeartbeats 4000000 in
set_option maxRecDepth 20000 in
theorem c_P_goThroughRow {G : yG} {μ : yW} {σ : zS} {o : Nat} {J : zS → Prop} (ho : o < zn σ) (hJ : zJ o J) (hJσ : J σ)  : zCT G m_P_goThroughRow [yr (kP o)] σ μ (fun r σ' => r = some (yi (zb (decide ((zgo o (zrw σ 0 o).length 0 0 σ).2 < (zrw σ 0 o).length)))) ∧ σ' = (zgo o (zrw σ 0 o).length 0 0 σ).1) := by
  have hv : zrv σ 0 o := ⟨ho, Or.inl rfl⟩
  refine zCT_of (by decide) rfl (ycat_of rfl) (Nat.le_of_ble_eq_true rfl) ?_
  refine zr_aload_n d_P_goThroughRow_0 rfl ?_
  refine zr_prow d_P_goThroughRow_1 (by first | assumption | omega) sf_P_goThroughRow_1 ?_
  refine zr_rlen d_P_goThroughRow_4 (by assumption) sf_P_goThroughRow_4 ?_
  refine zr_istore_n d_P_goThroughRow_7 (by decide) rfl ?_
  refine zr_iconst (v := 0) d_P_goThroughRow_8 (by decide) ?_
  refine zr_istore_n d_P_goThroughRow_9 (by decide) rfl ?_
  refine zr_iconst (v := 0) d_P_goThroughRow_10 (by decide) ?_
  refine zr_istore_n d_P_goThroughRow_11 (by decide) rfl ?_
  refine zr_iconst (v := 0) d_P_goThroughRow_12 (by decide) ?_
  refine zr_istore d_P_goThroughRow_13 (by decide) rfl ?_
  exact yWP_use (fun ω h9 => (zlist h9 hv).1) (fun h6 => c_P_go_loop hJ h6 _ 0 0 0 σ _ _ rfl (Nat.le_refl _) ho hJσ)

set_option maxHeartbeats 4000000 in
set_option maxRecDepth 20000 in
theorem c_P_settle_loop {G : yG} {μ : yW} {o : Nat} {J : zS → Prop} (hJ : zJ o J) : ∀ (m q : Nat) (b : Bool) (σ : zS), m + q = 7 → o < zn σ → J σ → yWP G m_P_settle (zQ G m_P_settle μ (fun r σ' => r = none ∧ σ' = if b = true then zset o m σ else σ)) μ.1 4 [some (yr (kP o)), some (yi (zb b)), some (yi (nI q))] [] (zC σ μ) 0 0 := by
  intro m
  induction m with
  | zero =>
    intro q b σ hm ho hJσ
    refine zr_iload_n d_P_settle_4 rfl ?_
    refine zr_if_eq (tgt := 25) d_P_settle_5 (by decide) (fun c5 => ?_) (fun c5 => ?_)
    · rw [zb_eq] at c5
      exact zr_retv d_P_settle_25 rfl (by decide) (by decide) ⟨rfl, by simp [c5]⟩
    · refine zr_iload_n d_P_settle_8 rfl ?_
      refine zr_bipush (v := 6) d_P_settle_9 (by decide) ?_
      refine zr_icmp_gt (tgt := 25) d_P_settle_11 (by decide) (fun c11 => ?_) (fun c11 => absurd (show nI 6 < nI q from (nI_ltI (by omega) (by omega)).mpr (by omega)) c11)
      exact zr_retv d_P_settle_25 rfl (by decide) (by decide) ⟨rfl, by simp [zset]⟩
  | succ m ih =>
    intro q b σ hm ho hJσ
    refine zr_iload_n d_P_settle_4 rfl ?_
    refine zr_if_eq (tgt := 25) d_P_settle_5 (by decide) (fun c5 => ?_) (fun c5 => ?_)
    · rw [zb_eq] at c5
      exact zr_retv d_P_settle_25 rfl (by decide) (by decide) ⟨rfl, by simp [c5]⟩
    · rw [zb_ne] at c5
      refine zr_iload_n d_P_settle_8 rfl ?_
      refine zr_bipush (v := 6) d_P_settle_9 (by decide) ?_
      refine zr_icmp_gt (tgt := 25) d_P_settle_11 (by decide) (fun c11 => absurd c11 (show ¬ nI 6 < nI q from fun z => by rw [nI_ltI (by omega) (by omega)] at z; omega)) (fun c11 => ?_)
      refine zr_aload_n d_P_settle_14 rfl ?_
      refine zr_callP (sel := (fun _ => m_P_goThroughRow)) (o := o) (As := []) (rest := []) (x := yMy m_P_goThroughRow) (owner := "MonitorYard$Place") (priv := true) d_P_settle_15 ho (c_P_goThroughRow ho hJ hJσ) 0 rfl (by decide +kernel) (fun _ _ => cw_P_goThroughRow) (zdecl (i' := m_P_goThroughRow) (by decide +kernel) cw_P_goThroughRow) (by decide) (Nat.le_of_ble_eq_true rfl) (ycat_of rfl) (by decide) (by decide) (fun r σ9 hp => ?_)
      obtain ⟨rfl, rfl⟩ := hp
      refine zr_istore_n d_P_settle_18 (by decide) rfl ?_
      refine zr_iinc (v := nI (q + 1)) d_P_settle_19 rfl (nI_1 q) (by decide) rfl ?_
      refine zr_goto (tgt := 4) d_P_settle_22 (by decide) ?_
      have k := ih (q + 1) (decide ((zgo o (zrw σ 0 o).length 0 0 σ).2 < (zrw σ 0 o).length)) (zgo o (zrw σ 0 o).length 0 0 σ).1 (by omega) (by rw [(zgo_n _ _ _ _).1]; exact ho) (zgo_J hJ _ _ _ _ hJσ)
      have e1 : (if b = true then zset o (m + 1) σ else σ) = (if decide ((zgo o (zrw σ 0 o).length 0 0 σ).2 < (zrw σ 0 o).length) = true then zset o m (zgo o (zrw σ 0 o).length 0 0 σ).1 else (zgo o (zrw σ 0 o).length 0 0 σ).1) := by
        rw [if_pos c5]
        simp only [zset, decide_eq_true_eq]
      rw [e1]
      exact k

set_option maxHeartbeats 4000000 in
set_option maxRecDepth 20000 in
theorem c_P_settle {G : yG} {μ : yW} {σ : zS} {o : Nat} {J : zS → Prop} (ho : o < zn σ) (hJ : zJ o J) (hJσ : J σ)  : zCT G m_P_settle [yr (kP o)] σ μ (fun r σ' => r = none ∧ σ' = zset o 7 σ) := by
  refine zCT_of (by decide) rfl (ycat_of rfl) (Nat.le_of_ble_eq_true rfl) ?_
  refine zr_iconst (v := 1) d_P_settle_0 (by decide) ?_
  refine zr_istore_n d_P_settle_1 (by decide) rfl ?_
  refine zr_iconst (v := 0) d_P_settle_2 (by decide) ?_
  refine zr_istore_n d_P_settle_3 (by decide) rfl ?_
  exact c_P_settle_loop hJ 7 0 true σ rfl ho hJσ

def zperf (σ : zS) (o t : Nat) (p : Int32) : zS := if zrefuses σ o t = true then zend σ t 3 else if zonce σ o t = true then zend (zgrant σ o t) t 0 else if ¬ zth σ 6 t = 0 then zgave (zend (zsth σ 6 t 0) t 4) o else if p = 0 then zend σ t 2 else zhold σ o t p

set_option maxHeartbeats 4000000 in
set_option maxRecDepth 20000 in
theorem c_P_perform {G : yG} {μ : yW} {σ : zS} {o : Nat} {p : Int32} (ho : o < zn σ) {t : Nat} (ht : t < 6) (hg : zonce σ o t = true → zgpre σ o t) (h5 : (zrw σ 0 o).length < 6) (h5c : zkd σ o = 0 → (zrw σ (zcj (zth σ 9 t)) o).length < 6)  : zCT G m_P_perform [yr (kP o), yr (10 + t), yi p] σ μ (fun r σ' => r = none ∧ σ' = zperf σ o t p) := by
  refine zCT_of (by decide) rfl (ycat_of rfl) (Nat.le_of_ble_eq_true rfl) ?_
  refine zr_aload_n d_P_perform_0 rfl ?_
  refine zr_aload_n d_P_perform_1 rfl ?_
  refine zr_callP (sel := sel_refuses) (o := o) (As := [yr (10 + t)]) (rest := []) (x := yMy m_P_refuses) (owner := "MonitorYard$Place") (priv := false) d_P_perform_2 ho (v_refuses ho ht) 1 rfl (by decide +kernel) sel_refuses_code (zdecl (i' := m_P_refuses) (by decide +kernel) cw_P_refuses) (by decide) (Nat.le_of_ble_eq_true rfl) (ycat_of rfl) (by decide) (by decide) (fun r σ9 hp => ?_)
  obtain ⟨rfl, rfl⟩ := hp
  refine zr_if_eq (tgt := 16) d_P_perform_5 (by decide) (fun c5 => ?_) (fun c5 => ?_)
  · skip
    refine zr_aload_n d_P_perform_16 rfl ?_
    refine zr_aload_n d_P_perform_17 rfl ?_
    refine zr_callP (sel := (fun _ => m_P_canBeAtOnce)) (o := o) (As := [yr (10 + t)]) (rest := []) (x := yMy m_P_canBeAtOnce) (owner := "MonitorYard$Place") (priv := true) d_P_perform_18 ho (c_P_canBeAtOnce ho ht) 1 rfl (by decide +kernel) (fun _ _ => cw_P_canBeAtOnce) (zdecl (i' := m_P_canBeAtOnce) (by decide +kernel) cw_P_canBeAtOnce) (by decide) (Nat.le_of_ble_eq_true rfl) (ycat_of rfl) (by decide) (by decide) (fun r σ8 hp => ?_)
    obtain ⟨rfl, rfl⟩ := hp
    refine zr_if_eq (tgt := 37) d_P_perform_21 (by decide) (fun c21 => ?_) (fun c21 => ?_)
    · skip
      refine zr_aload_n d_P_perform_37 rfl ?_
      refine zr_tgeti d_P_perform_38 (by first | assumption | omega) sf_P_perform_38 rfl rfl ?_
      refine zr_if_eq (tgt := 61) d_P_perform_41 (by decide) (fun c41 => ?_) (fun c41 => ?_)
      · skip
        refine zr_iload_n d_P_perform_61 rfl ?_
        refine zr_if_ne (tgt := 73) d_P_perform_62 (by decide) (fun c62 => ?_) (fun c62 => ?_)
        · skip
          refine zr_aload_n d_P_perform_73 rfl ?_
          refine zr_aload_n d_P_perform_74 rfl ?_
          refine zr_iload_n d_P_perform_75 rfl ?_
          refine zr_callP (sel := sel_holdBack) (o := o) (As := [yr (10 + t), yi p]) (rest := []) (x := yMy m_P_holdBack) (owner := "MonitorYard$Place") (priv := false) d_P_perform_76 ho (v_holdBack ho ht h5 h5c) 2 rfl (by decide +kernel) sel_holdBack_code (zdecl (i' := m_P_holdBack) (by decide +kernel) cw_P_holdBack) (by decide) (Nat.le_of_ble_eq_true rfl) (ycat_of rfl) (by decide) (by decide) (fun r σ7 hp => ?_)
          obtain ⟨rfl, rfl⟩ := hp
          refine zr_retv d_P_perform_79 rfl (by decide) (by decide) ?_
          refine ⟨rfl, ?_⟩
          unfold zperf
          first
            | (rw [zb_ne] at c5; rw [if_pos c5]; done)
            | (rw [zb_eq] at c5; rw [zb_ne] at c21; rw [if_neg (by rw [c5]; decide), if_pos c21]; done)
            | (rw [zb_eq] at c5 c21; rw [if_neg (by rw [c5]; decide), if_neg (by rw [c21]; decide), if_pos c41]; done)
            | (rw [zb_eq] at c5 c21; rw [if_neg (by rw [c5]; decide), if_neg (by rw [c21]; decide), if_neg (by simp [c41]), if_pos c62]; done)
            | (rw [zb_eq] at c5 c21; rw [if_neg (by rw [c5]; decide), if_neg (by rw [c21]; decide), if_neg (by simp [c41]), if_neg c62]; done)
        · skip
          refine zr_aload_n d_P_perform_65 rfl ?_
          refine zr_iconst (v := 2) d_P_perform_66 (by decide) ?_
          refine zr_call (zrunV (As := [yi 2]) (rest := []) d_P_perform_67 (fun ω h => h.sT ht) rfl (c_T_end (h := 2) ht (by omega)) 1 rfl (by decide +kernel) cw_T_end (Nat.le_of_ble_eq_true rfl) (ycat_of rfl) (by decide) (by decide)) (fun r σ7 hp => ?_)
          obtain ⟨rfl, rfl⟩ := hp
          refine zr_goto (tgt := 79) d_P_perform_70 (by decide) ?_
          refine zr_retv d_P_perform_79 rfl (by decide) (by decide) ?_
          refine ⟨rfl, ?_⟩
          unfold zperf
          first
            | (rw [zb_ne] at c5; rw [if_pos c5]; done)
            | (rw [zb_eq] at c5; rw [zb_ne] at c21; rw [if_neg (by rw [c5]; decide), if_pos c21]; done)
            | (rw [zb_eq] at c5 c21; rw [if_neg (by rw [c5]; decide), if_neg (by rw [c21]; decide), if_pos c41]; done)
            | (rw [zb_eq] at c5 c21; rw [if_neg (by rw [c5]; decide), if_neg (by rw [c21]; decide), if_neg (by simp [c41]), if_pos c62]; done)
            | (rw [zb_eq] at c5 c21; rw [if_neg (by rw [c5]; decide), if_neg (by rw [c21]; decide), if_neg (by simp [c41]), if_neg c62]; done)
      · skip
        refine zr_aload_n d_P_perform_44 rfl ?_
        refine zr_iconst (v := 0) d_P_perform_45 (by decide) ?_
        refine zr_tputi d_P_perform_46 (by first | assumption | omega) sf_P_perform_46 rfl rfl ⟨rfl, rfl⟩ ?_
        refine zr_aload_n d_P_perform_49 rfl ?_
        refine zr_iconst (v := 4) d_P_perform_50 (by decide) ?_
        refine zr_call (zrunV (As := [yi 4]) (rest := []) d_P_perform_51 (fun ω h => h.sT ht) rfl (c_T_end (h := 4) ht (by omega)) 1 rfl (by decide +kernel) cw_T_end (Nat.le_of_ble_eq_true rfl) (ycat_of rfl) (by decide) (by decide)) (fun r σ7 hp => ?_)
        obtain ⟨rfl, rfl⟩ := hp
        refine zr_aload_n d_P_perform_54 rfl ?_
        refine zr_callP (sel := sel_gave) (o := o) (As := []) (rest := []) (x := yMy m_P_whenOneGaveUp) (owner := "MonitorYard$Place") (priv := false) d_P_perform_55 ho (v_gave ho) 0 rfl (by decide +kernel) sel_gave_code (zdecl (i' := m_P_whenOneGaveUp) (by decide +kernel) cw_P_whenOneGaveUp) (by decide) (Nat.le_of_ble_eq_true rfl) (ycat_of rfl) (by decide) (by decide) (fun r σ6 hp => ?_)
        obtain ⟨rfl, rfl⟩ := hp
        refine zr_goto (tgt := 79) d_P_perform_58 (by decide) ?_
        refine zr_retv d_P_perform_79 rfl (by decide) (by decide) ?_
        refine ⟨rfl, ?_⟩
        unfold zperf
        first
          | (rw [zb_ne] at c5; rw [if_pos c5]; done)
          | (rw [zb_eq] at c5; rw [zb_ne] at c21; rw [if_neg (by rw [c5]; decide), if_pos c21]; done)
          | (rw [zb_eq] at c5 c21; rw [if_neg (by rw [c5]; decide), if_neg (by rw [c21]; decide), if_pos c41]; done)
          | (rw [zb_eq] at c5 c21; rw [if_neg (by rw [c5]; decide), if_neg (by rw [c21]; decide), if_neg (by simp [c41]), if_pos c62]; done)
          | (rw [zb_eq] at c5 c21; rw [if_neg (by rw [c5]; decide), if_neg (by rw [c21]; decide), if_neg (by simp [c41]), if_neg c62]; done)
    · skip
      refine zr_aload_n d_P_perform_24 rfl ?_
      refine zr_aload_n d_P_perform_25 rfl ?_
      refine zr_callP (sel := sel_grant) (o := o) (As := [yr (10 + t)]) (rest := []) (x := ⟨"MonitorYard$Place", "grant", "(LMonitorYard$YardThread;)V"⟩) (owner := "MonitorYard$Place") (priv := false) d_P_perform_26 ho (v_grant ho ht (hg (zb_ne.mp c21))) 1 rfl (by decide +kernel) sel_grant_code (zdeclA (x := ⟨"MonitorYard$Place", "grant", "(LMonitorYard$YardThread;)V"⟩) (by decide +kernel)) (by decide) (Nat.le_of_ble_eq_true rfl) (ycat_of rfl) (by decide) (by decide) (fun r σ7 hp => ?_)
      obtain ⟨rfl, rfl⟩ := hp
      refine zr_aload_n d_P_perform_29 rfl ?_
      refine zr_iconst (v := 0) d_P_perform_30 (by decide) ?_
      refine zr_call (zrunV (As := [yi 0]) (rest := []) d_P_perform_31 (fun ω h => h.sT ht) rfl (c_T_end (h := 0) ht (by omega)) 1 rfl (by decide +kernel) cw_T_end (Nat.le_of_ble_eq_true rfl) (ycat_of rfl) (by decide) (by decide)) (fun r σ6 hp => ?_)
      obtain ⟨rfl, rfl⟩ := hp
      refine zr_goto (tgt := 79) d_P_perform_34 (by decide) ?_
      refine zr_retv d_P_perform_79 rfl (by decide) (by decide) ?_
      refine ⟨rfl, ?_⟩
      unfold zperf
      first
        | (rw [zb_ne] at c5; rw [if_pos c5]; done)
        | (rw [zb_eq] at c5; rw [zb_ne] at c21; rw [if_neg (by rw [c5]; decide), if_pos c21]; done)
        | (rw [zb_eq] at c5 c21; rw [if_neg (by rw [c5]; decide), if_neg (by rw [c21]; decide), if_pos c41]; done)
        | (rw [zb_eq] at c5 c21; rw [if_neg (by rw [c5]; decide), if_neg (by rw [c21]; decide), if_neg (by simp [c41]), if_pos c62]; done)
        | (rw [zb_eq] at c5 c21; rw [if_neg (by rw [c5]; decide), if_neg (by rw [c21]; decide), if_neg (by simp [c41]), if_neg c62]; done)
  · skip
    refine zr_aload_n d_P_perform_8 rfl ?_
    refine zr_iconst (v := 3) d_P_perform_9 (by decide) ?_
    refine zr_call (zrunV (As := [yi 3]) (rest := []) d_P_perform_10 (fun ω h => h.sT ht) rfl (c_T_end (h := 3) ht (by omega)) 1 rfl (by decide +kernel) cw_T_end (Nat.le_of_ble_eq_true rfl) (ycat_of rfl) (by decide) (by decide)) (fun r σ8 hp => ?_)
    obtain ⟨rfl, rfl⟩ := hp
    refine zr_goto (tgt := 79) d_P_perform_13 (by decide) ?_
    refine zr_retv d_P_perform_79 rfl (by decide) (by decide) ?_
    refine ⟨rfl, ?_⟩
    unfold zperf
    first
      | (rw [zb_ne] at c5; rw [if_pos c5]; done)
      | (rw [zb_eq] at c5; rw [zb_ne] at c21; rw [if_neg (by rw [c5]; decide), if_pos c21]; done)
      | (rw [zb_eq] at c5 c21; rw [if_neg (by rw [c5]; decide), if_neg (by rw [c21]; decide), if_pos c41]; done)
      | (rw [zb_eq] at c5 c21; rw [if_neg (by rw [c5]; decide), if_neg (by rw [c21]; decide), if_neg (by simp [c41]), if_pos c62]; done)
      | (rw [zb_eq] at c5 c21; rw [if_neg (by rw [c5]; decide), if_neg (by rw [c21]; decide), if_neg (by simp [c41]), if_neg c62]; done)
