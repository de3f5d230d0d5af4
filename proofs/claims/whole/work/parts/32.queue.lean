/-! queues -/
theorem zC_squ {σ : zS} {μ ω ω' : yW} {o : Nat} {l : List Int32} (h : zC σ μ ω) (ho : o < zn σ) (hk : zkd σ o = 5) (hsh : ω'.1 = ω.1) (hF : ω'.2.2 = ω.2.2) (ha : ∀ k, k ≠ kP o → k ≠ kP o + 7 → ω'.2.1 k = ω.2.1 k) (hb : ∀ f, f ≠ 4 → ω'.2.1 (kP o) f = ω.2.1 (kP o) f) (hl : ω'.2.1 (kP o) 4 = nI l.length) (hc : l.length ≤ zcp σ o) (hv : ∀ j (hj : j < l.length), ω'.2.1 (kP o + 7) j = l[j]) : zC (zsqu σ o l) μ ω' := by
  have g : ∀ k, k ≠ kP o → k ≠ kP o + 7 → zAg ω ω' k := fun k h1 h2 => ⟨ha k h1 h2, by rw [hF]⟩
  refine zC_place h ho hsh (fun k hk => g k (by omega) (by omega)) rfl rfl rfl rfl (fun u hu => ⟨rfl, rfl, fun _ => rfl, rfl, fun _ => rfl, fun _ => rfl, va_up_ne _ _ hu⟩) (fun u => zSt.rf σ u) (by unfold yCl; rw [hsh, hF]; exact h.cl) ?_
  obtain ⟨a1, a2, a3, a4, a5, a6, a7, a8, a9, a10, a11⟩ := h.pl ho
  have hne : ∀ c, c ≠ 5 → zkd (zsqu σ o l) o = c → False := fun c hc h9 => hc (by rw [← h9]; exact hk)
  have e2 : zqu (zsqu σ o l) o = l := va_up_self _ _ _
  refine ⟨(hb 0 (by omega)).trans a1, (hb 1 (by omega)).trans a2, by rw [hF]; exact a3, a4.kept (g _ (by omega) (by omega)) (g _ (by omega) (by omega)), fun h9 => absurd h9 (fun z => hne 0 (by omega) z), fun h9 => absurd h9 (fun z => hne 1 (by omega) z), fun h9 => absurd h9 (fun z => hne 2 (by omega) z), fun h9 => absurd h9 (fun z => hne 3 (by omega) z), fun h9 => absurd h9 (fun z => hne 4 (by omega) z), fun h9 => ?_, a11⟩
  obtain ⟨b1, b2, b3, b4⟩ := a10 hk
  rw [hF, e2]
  exact ⟨b1, hl, hc, hv⟩
section ZQR
variable {G : yG} {i : yM} {Qf : yQT} {pc : Nat} {ls : List (Option yV)} {st : List yV} {σ : zS} {μ : yW} {cs sl : Nat} {sh0 : Nat → Option ySh} {o : Nat}
theorem zr_qints {ix : Nat} {ref host : String} (hd : decode (yMb i) pc = .ok (.getfield ix, 3)) (ho : o < zn σ) (hk : zkd σ o = 5) (site : ySF (yMy i).cls ix ref host 8 3 = true) (k : yWP G i Qf sh0 (pc + 3) ls (yr (kP o + 7) :: st) (zC σ μ) cs sl) : yWP G i Qf sh0 pc ls (yr (kP o) :: st) (zC σ μ) cs sl := by
  intro ω h
  refine yr_getr hd (h.sP' ho (by rw [hk])) site rfl ?_
  rw [((h.pl ho).2.2.2.2.2.2.2.2.2.1 hk).1]
  exact k ω h
theorem zr_qlen {ix : Nat} {ref host : String} (hd : decode (yMb i) pc = .ok (.getfield ix, 3)) (ho : o < zn σ) (hk : zkd σ o = 5) (site : ySF (yMy i).cls ix ref host 8 4 = true) (k : yWP G i Qf sh0 (pc + 3) ls (yi (nI (zqu σ o).length) :: st) (zC σ μ) cs sl) : yWP G i Qf sh0 pc ls (yr (kP o) :: st) (zC σ μ) cs sl := by
  intro ω h
  refine yr_geti hd (h.sP' ho (by rw [hk])) site rfl ?_
  rw [((h.pl ho).2.2.2.2.2.2.2.2.2.1 hk).2.1]
  exact k ω h
theorem zC.sQ {ω : yW} (h : zC σ μ ω) (ho : o < zn σ) (hk : zkd σ o = 5) : ω.1 (kP o + 7) = some (.inr (0, zcp σ o)) := (h.1.2.2.2.2.2 o ho).2.2.2.2.2.2.2.2 hk
theorem zr_qcap (hd : decode (yMb i) pc = .ok (.arraylength, 1)) (ho : o < zn σ) (hk : zkd σ o = 5) (k : yWP G i Qf sh0 (pc + 1) ls (yi (nI (zcp σ o)) :: st) (zC σ μ) cs sl) : yWP G i Qf sh0 pc ls (yr (kP o + 7) :: st) (zC σ μ) cs sl := by
  intro ω h
  exact yr_alen (tc := 0) hd (by omega) (h.sQ ho hk) (k ω h)
end ZQR

set_option maxHeartbeats 4000000 in
set_option maxRecDepth 20000 in
theorem c_Q_level {G : yG} {μ : yW} {σ : zS} {o : Nat} (ho : o < zn σ) (hk : zkd σ o = 5)  : zCT G m_Q_level [yr (kP o)] σ μ (fun r σ' => r = some (yi (nI (zqu σ o).length)) ∧ σ' = σ) := by
  refine zCT_of (by decide) rfl (ycat_of rfl) (Nat.le_of_ble_eq_true rfl) ?_
  refine zr_aload_n d_Q_level_0 rfl ?_
  refine zr_qlen d_Q_level_1 (by first | assumption | omega) hk sf_Q_level_1 ?_
  exact zr_reti d_Q_level_4 rfl (by decide) (by decide) ⟨rfl, rfl⟩

set_option maxHeartbeats 4000000 in
set_option maxRecDepth 20000 in
theorem c_Q_canBe {G : yG} {μ : yW} {σ : zS} {o : Nat} (ho : o < zn σ) (hk : zkd σ o = 5) {t : Nat} (ht : t < 6)  : zCT G m_Q_canBe [yr (kP o), yr (10 + t)] σ μ (fun r σ' => r = some (yi (if zth σ 8 t = 15 then (if nI (zcp σ o) ≤ nI (zqu σ o).length then 0 else 1) else (if nI (zqu σ o).length ≤ 0 then 0 else 1))) ∧ σ' = σ) := by
  refine zCT_of (by decide) rfl (ycat_of rfl) (Nat.le_of_ble_eq_true rfl) ?_
  refine zr_aload_n d_Q_canBe_0 rfl ?_
  refine zr_tgeti d_Q_canBe_1 (by first | assumption | omega) sf_Q_canBe_1 rfl rfl ?_
  refine zr_bipush (v := 15) d_Q_canBe_4 (by decide) ?_
  refine zr_icmp_ne (tgt := 29) d_Q_canBe_6 (by decide) (fun c6 => ?_) (fun c6 => ?_)
  · skip
    refine zr_aload_n d_Q_canBe_29 rfl ?_
    refine zr_qlen d_Q_canBe_30 (by first | assumption | omega) hk sf_Q_canBe_30 ?_
    refine zr_if_le (tgt := 40) d_Q_canBe_33 (by decide) (fun c33 => ?_) (fun c33 => ?_)
    · skip
      refine zr_iconst (v := 0) d_Q_canBe_40 (by decide) ?_
      refine zr_retz d_Q_canBe_41 rfl rfl (by decide) (by decide) ?_
      simp [*]
    · skip
      refine zr_iconst (v := 1) d_Q_canBe_36 (by decide) ?_
      refine zr_goto (tgt := 41) d_Q_canBe_37 (by decide) ?_
      refine zr_retz d_Q_canBe_41 rfl rfl (by decide) (by decide) ?_
      simp [*]
  · skip
    refine zr_aload_n d_Q_canBe_9 rfl ?_
    refine zr_qlen d_Q_canBe_10 (by first | assumption | omega) hk sf_Q_canBe_10 ?_
    refine zr_aload_n d_Q_canBe_13 rfl ?_
    refine zr_qints d_Q_canBe_14 (by first | assumption | omega) hk sf_Q_canBe_14 ?_
    refine zr_qcap d_Q_canBe_17 (by assumption) hk ?_
    refine zr_icmp_ge (tgt := 25) d_Q_canBe_18 (by decide) (fun c18 => ?_) (fun c18 => ?_)
    · skip
      refine zr_iconst (v := 0) d_Q_canBe_25 (by decide) ?_
      refine zr_goto (tgt := 41) d_Q_canBe_26 (by decide) ?_
      refine zr_retz d_Q_canBe_41 rfl rfl (by decide) (by decide) ?_
      simp [*]
    · skip
      refine zr_iconst (v := 1) d_Q_canBe_21 (by decide) ?_
      refine zr_goto (tgt := 41) d_Q_canBe_22 (by decide) ?_
      refine zr_retz d_Q_canBe_41 rfl rfl (by decide) (by decide) ?_
      simp [*]

set_option maxHeartbeats 4000000 in
set_option maxRecDepth 20000 in
theorem c_Q_putLast {G : yG} {μ : yW} {σ : zS} {o : Nat} {x : Int32} (ho : o < zn σ) (hk : zkd σ o = 5)  : zCT G m_Q_putLast [yr (kP o), yi x] σ μ (fun r σ' => r = none ∧ σ' = (if (zqu σ o).length < zcp σ o then zsqu σ o (zqu σ o ++ [x]) else σ)) := by
  refine zCT_of (by decide) rfl (ycat_of rfl) (Nat.le_of_ble_eq_true rfl) ?_
  refine zr_aload_n d_Q_putLast_0 rfl ?_
  refine zr_qlen d_Q_putLast_1 (by first | assumption | omega) hk sf_Q_putLast_1 ?_
  refine zr_aload_n d_Q_putLast_4 rfl ?_
  refine zr_qints d_Q_putLast_5 (by first | assumption | omega) hk sf_Q_putLast_5 ?_
  refine zr_qcap d_Q_putLast_8 (by assumption) hk ?_
  refine yWP_use (fun ω h => (show zcp σ o ≤ 3 ∧ (zqu σ o).length ≤ zcp σ o from ⟨(h.1.2.2.2.2.2 o ho).2.2.1, ((h.pl ho).2.2.2.2.2.2.2.2.2.1 hk).2.2.1⟩)) (fun hcap => ?_)
  refine zr_icmp_ge (tgt := 32) d_Q_putLast_9 (by decide) (fun c9 => ?_) (fun c9 => ?_)
  · rw [nI_leI (by omega) (by omega)] at c9
    exact zr_retv d_Q_putLast_32 rfl (by decide) (by decide) ⟨rfl, by rw [if_neg (by omega)]⟩
  · rw [nI_leI (by omega) (by omega)] at c9
    refine zr_aload_n d_Q_putLast_12 rfl ?_
    refine zr_qints d_Q_putLast_13 (by first | assumption | omega) hk sf_Q_putLast_13 ?_
    refine zr_aload_n d_Q_putLast_16 rfl ?_
    refine zr_qlen d_Q_putLast_17 (by first | assumption | omega) hk sf_Q_putLast_17 ?_
    refine zr_iload_n d_Q_putLast_20 rfl ?_
    intro ω h
    have hq := (h.pl ho).2.2.2.2.2.2.2.2.2.1 hk
    refine yr_iast (n := zcp σ o) (j := (zqu σ o).length) d_Q_putLast_21 (h.sQ ho hk) (nI_pos (by omega)) (nI_clamp (by omega)) (by omega) ?_
    refine yr_aload_n d_Q_putLast_22 rfl ?_
    refine yr_dup d_Q_putLast_23 (fun _ => rfl) ?_
    refine yr_geti d_Q_putLast_24 (h.sP' (ci := 8) ho (by rw [hk])) sf_Q_putLast_24 rfl ?_
    refine yr_iconst (v := 1) d_Q_putLast_27 (by decide) ?_
    refine yr_iadd d_Q_putLast_28 ?_
    refine yr_puti d_Q_putLast_29 (h.sP' (ci := 8) ho (by rw [hk])) sf_Q_putLast_29 rfl rfl rfl ⟨rfl, rfl⟩ ?_
    have e4 : (ysi ω (kP o + 7) (zqu σ o).length x).2.1 (kP o) 4 = nI (zqu σ o).length := (yu_ne _ _ (Or.inl (by omega))).trans hq.2.1
    refine yr_retv d_Q_putLast_32 rfl (by decide) (by decide) ⟨_, zC_squ (l := zqu σ o ++ [x]) h ho hk rfl rfl (fun k h1 h2 => ?_) (fun f hf => ?_) ?_ (by rw [List.length_append]; simp; omega) (fun j hj => ?_), rfl, by rw [if_pos (by omega)]⟩
    · funext q
      exact (yu_ne _ _ (Or.inl h1)).trans (yu_ne _ _ (Or.inl h2))
    · exact (yu_ne _ _ (Or.inr hf)).trans (yu_ne _ _ (Or.inl (by omega)))
    · show yu _ _ _ _ _ _ = _
      rw [yu_same, e4, nI_1, List.length_append]; rfl
    · show yu _ _ _ _ _ _ = _
      rw [yu_ne _ _ (Or.inl (by omega))]
      show yu _ _ _ _ _ _ = _
      rw [List.length_append] at hj
      have hj' : j < (zqu σ o).length + 1 := hj
      by_cases e : j = (zqu σ o).length
      · subst e
        rw [yu_same, List.getElem_append_right (Nat.le_refl _)]
        simp
      · rw [yu_ne _ _ (Or.inr e), List.getElem_append_left (by omega)]
        exact hq.2.2.2 j (by omega)

/-- the queue's array while it is moved up -/
def zQI (ω0 : yW) (o : Nat) (x0 : Int32) (b : List Int32) (q : Nat) (ω : yW) : Prop := ω.1 = ω0.1 ∧ ω.2.2 = ω0.2.2 ∧ (∀ k, k ≠ kP o → k ≠ kP o + 7 → ω.2.1 k = ω0.2.1 k) ∧ (∀ f, f ≠ 4 → ω.2.1 (kP o) f = ω0.2.1 (kP o) f) ∧ ω.2.1 (kP o) 4 = nI b.length ∧ (∀ j (hj : j < b.length), j < q → ω.2.1 (kP o + 7) j = b[j]) ∧ (∀ j (hj : j < (x0 :: b).length), q ≤ j → ω.2.1 (kP o + 7) j = (x0 :: b)[j])
set_option maxHeartbeats 4000000 in
set_option maxRecDepth 20000 in
theorem c_Q_take_loop {G : yG} {μ ω0 : yW} {σ : zS} {o : Nat} {x0 : Int32} {b : List Int32} (h0 : zC σ μ ω0) (ho : o < zn σ) (hk : zkd σ o = 5) (hq : zqu σ o = x0 :: b) (hcap : zcp σ o ≤ 3 ∧ (zqu σ o).length ≤ zcp σ o) : ∀ (m q : Nat) (ω : yW), m + q = b.length → zQI ω0 o x0 b q ω → yWW G m_Q_takeFirst (zQ G m_Q_takeFirst μ (fun r σ' => r = some (yi x0) ∧ σ' = zsqu σ o b)) μ.1 19 [some (yr (kP o)), some (yi x0), some (yi (nI q))] [] ω 0 0 := by
  have hb3 : b.length < 3 := by
    rw [hq] at hcap
    simp only [List.length_cons] at hcap
    omega
  intro m
  induction m with
  | zero =>
    intro q ω hm hQ
    obtain ⟨q1, q2, q3, q4, q5, q6, q7⟩ := hQ
    have hsP : ω.1 (kP o) = some (.inl 8) := by rw [q1]; exact h0.sP' ho (by rw [hk])
    refine yr_iload_n d_Q_takeFirst_19 rfl ?_
    refine yr_aload_n d_Q_takeFirst_20 rfl ?_
    refine yr_geti d_Q_takeFirst_21 hsP sf_Q_takeFirst_21 rfl ?_
    rw [q5]
    refine yr_icmp_ge (tgt := 47) d_Q_takeFirst_24 (by decide) (fun c24 => ?_) (fun c24 => absurd (nI_le (by omega) (by omega)) c24)
    refine yr_iload_n d_Q_takeFirst_47 rfl ?_
    exact yr_reti d_Q_takeFirst_48 rfl (by decide) (by decide) ⟨_, zC_squ h0 ho hk q1 q2 q3 q4 q5 (by rw [hq] at hcap; simp only [List.length_cons] at hcap; omega) (fun j hj => q6 j hj (by omega)), rfl, rfl⟩
  | succ m ih =>
    intro q ω hm hQ
    obtain ⟨q1, q2, q3, q4, q5, q6, q7⟩ := hQ
    have hsP : ω.1 (kP o) = some (.inl 8) := by rw [q1]; exact h0.sP' ho (by rw [hk])
    have hsA : ω.1 (kP o + 7) = some (.inr (0, zcp σ o)) := by rw [q1]; exact h0.sQ ho hk
    have hF : ω.2.2 (kP o) 3 = some (kP o + 7) := by rw [q2]; exact ((h0.pl ho).2.2.2.2.2.2.2.2.2.1 hk).1
    have hc4 : b.length + 1 ≤ zcp σ o := by
      have := hcap.2
      rw [hq] at this
      exact this
    refine yr_iload_n d_Q_takeFirst_19 rfl ?_
    refine yr_aload_n d_Q_takeFirst_20 rfl ?_
    refine yr_geti d_Q_takeFirst_21 hsP sf_Q_takeFirst_21 rfl ?_
    rw [q5]
    refine yr_icmp_ge (tgt := 47) d_Q_takeFirst_24 (by decide) (fun c24 => absurd c24 (nI_ge (by omega) (by omega))) (fun c24 => ?_)
    refine yr_aload_n d_Q_takeFirst_27 rfl ?_
    refine yr_getr d_Q_takeFirst_28 hsP sf_Q_takeFirst_28 rfl ?_
    rw [hF]
    refine yr_iload_n d_Q_takeFirst_31 rfl ?_
    refine yr_aload_n d_Q_takeFirst_32 rfl ?_
    refine yr_getr d_Q_takeFirst_33 hsP sf_Q_takeFirst_33 rfl ?_
    rw [hF]
    refine yr_iload_n d_Q_takeFirst_36 rfl ?_
    refine yr_iconst (v := 1) d_Q_takeFirst_37 (by decide) ?_
    refine yr_iadd d_Q_takeFirst_38 ?_
    refine yr_iald (n := zcp σ o) (j := q + 1) d_Q_takeFirst_39 hsA (by rw [nI_1]; exact nI_pos (by omega)) (by rw [nI_1]; exact nI_clamp (by omega)) (by omega) ?_
    rw [q7 (q + 1) (by simp only [List.length_cons]; omega) (by omega)]
    refine yr_iast (n := zcp σ o) (j := q) d_Q_takeFirst_40 hsA (nI_pos (by omega)) (nI_clamp (by omega)) (by omega) ?_
    refine yr_iinc (v := nI (q + 1)) d_Q_takeFirst_41 rfl (nI_1 q) (by decide) rfl ?_
    refine yr_goto (tgt := 19) d_Q_takeFirst_44 (by decide) ?_
    refine ih (q + 1) _ (by omega) ⟨q1, q2, fun k h1 h2 => ?_, fun f hf => (yu_ne _ _ (Or.inl (by omega))).trans (q4 f hf), (yu_ne _ _ (Or.inl (by omega))).trans q5, fun j hj hj2 => ?_, fun j hj hj2 => ?_⟩
    · funext z
      exact (yu_ne _ _ (Or.inl h2)).trans (congrFun (q3 k h1 h2) z)
    · show yu _ _ _ _ _ _ = _
      by_cases e : j = q
      · subst e
        rw [yu_same]
        rfl
      · rw [yu_ne _ _ (Or.inr e)]
        exact q6 j hj (by omega)
    · show yu _ _ _ _ _ _ = _
      rw [yu_ne _ _ (Or.inr (by omega))]
      exact q7 j hj (by omega)

set_option maxHeartbeats 4000000 in
set_option maxRecDepth 20000 in
theorem c_Q_takeFirst {G : yG} {μ : yW} {σ : zS} {o : Nat} {x0 : Int32} {b : List Int32} (ho : o < zn σ) (hk : zkd σ o = 5) (hq : zqu σ o = x0 :: b)  : zCT G m_Q_takeFirst [yr (kP o)] σ μ (fun r σ' => r = some (yi x0) ∧ σ' = zsqu σ o b) := by
  refine zCT_of (by decide) rfl (ycat_of rfl) (Nat.le_of_ble_eq_true rfl) ?_
  refine zr_aload_n d_Q_takeFirst_0 rfl ?_
  refine zr_qints d_Q_takeFirst_1 (by first | assumption | omega) hk sf_Q_takeFirst_1 ?_
  refine zr_iconst (v := 0) d_Q_takeFirst_4 (by decide) ?_
  intro ω h
  have hQ := (h.pl ho).2.2.2.2.2.2.2.2.2.1 hk
  have hcap : zcp σ o ≤ 3 ∧ (zqu σ o).length ≤ zcp σ o := ⟨(h.1.2.2.2.2.2 o ho).2.2.1, hQ.2.2.1⟩
  have hl : (zqu σ o).length = b.length + 1 := by rw [hq]; rfl
  refine yr_iald (n := zcp σ o) (j := 0) d_Q_takeFirst_5 (h.sQ ho hk) (by decide) (by decide) (by omega) ?_
  rw [hQ.2.2.2 0 (by omega)]
  have e0 : (zqu σ o)[0]'(by omega) = x0 := by simp [hq]
  rw [e0]
  refine yr_istore_n d_Q_takeFirst_6 (by decide) rfl ?_
  refine yr_aload_n d_Q_takeFirst_7 rfl ?_
  refine yr_dup d_Q_takeFirst_8 (fun _ => rfl) ?_
  refine yr_geti d_Q_takeFirst_9 (h.sP' (ci := 8) ho (by rw [hk])) sf_Q_takeFirst_9 rfl ?_
  rw [hQ.2.1, hl]
  refine yr_iconst (v := 1) d_Q_takeFirst_12 (by decide) ?_
  refine yr_isub d_Q_takeFirst_13 ?_
  rw [nI_pred]
  refine yr_puti d_Q_takeFirst_14 (h.sP' (ci := 8) ho (by rw [hk])) sf_Q_takeFirst_14 rfl rfl rfl ⟨rfl, rfl⟩ ?_
  refine yr_iconst (v := 0) d_Q_takeFirst_17 (by decide) ?_
  refine yr_istore_n d_Q_takeFirst_18 (by decide) rfl ?_
  refine c_Q_take_loop h ho hk hq hcap b.length 0 _ rfl ⟨rfl, rfl, fun k h1 h2 => funext fun z => yu_ne _ _ (Or.inl h1), fun f hf => yu_ne _ _ (Or.inr hf), yu_same _ _ _ _, fun j _ hj => absurd hj (by omega), fun j hj _ => ?_⟩
  rw [show (ysi ω (kP o) 4 (nI b.length)).2.1 (kP o + 7) j = ω.2.1 (kP o + 7) j from yu_ne _ _ (Or.inl (by omega)), hQ.2.2.2 j (by rw [hl]; exact hj)]
  simp [hq]

def zgrantQ (σ : zS) (o t : Nat) : zS := if zth σ 8 t = 15 then (if (zqu σ o).length < zcp σ o then zsqu σ o (zqu σ o ++ [zth σ 9 t]) else σ) else (match zqu σ o with | [] => σ | x :: b => zsth (zsqu σ o b) 5 t x)

set_option maxHeartbeats 4000000 in
set_option maxRecDepth 20000 in
theorem c_Q_grant {G : yG} {μ : yW} {σ : zS} {o : Nat} (ho : o < zn σ) (hk : zkd σ o = 5) {t : Nat} (ht : t < 6) (hne : ¬ zth σ 8 t = 15 → zqu σ o ≠ [])  : zCT G m_Q_grant [yr (kP o), yr (10 + t)] σ μ (fun r σ' => r = none ∧ σ' = zgrantQ σ o t) := by
  have hk3 : 3 + zkd σ o = 8 := by rw [hk]
  refine zCT_of (by decide) rfl (ycat_of rfl) (Nat.le_of_ble_eq_true rfl) ?_
  refine zr_aload_n d_Q_grant_0 rfl ?_
  refine zr_tgeti d_Q_grant_1 (by first | assumption | omega) sf_Q_grant_1 rfl rfl ?_
  refine zr_bipush (v := 15) d_Q_grant_4 (by decide) ?_
  refine zr_icmp_ne (tgt := 20) d_Q_grant_6 (by decide) (fun c6 => ?_) (fun c6 => ?_)
  · skip
    refine zr_aload_n d_Q_grant_20 rfl ?_
    refine zr_aload_n d_Q_grant_21 rfl ?_
    obtain ⟨x0, b, hq⟩ : ∃ x0 b, zqu σ o = x0 :: b := by
      cases hl : zqu σ o with
      | nil => exact absurd hl (hne c6)
      | cons x0 b => exact ⟨x0, b, rfl⟩
    refine zr_call (zrunV (As := []) (rest := [yr (10 + t)]) d_Q_grant_22 (fun ω h => h.sP' ho hk3) rfl (c_Q_takeFirst ho hk hq) 0 rfl (by decide +kernel) cw_Q_takeFirst (Nat.le_of_ble_eq_true rfl) (ycat_of rfl) (by decide) (by decide)) (fun r σ9 hp => ?_)
    obtain ⟨rfl, rfl⟩ := hp
    refine zr_tputi d_Q_grant_25 (by first | assumption | omega) sf_Q_grant_25 rfl rfl ⟨rfl, rfl⟩ ?_
    refine zr_retv d_Q_grant_28 rfl (by decide) (by decide) ?_
    refine ⟨rfl, ?_⟩
    unfold zgrantQ
    first
      | (rw [if_pos c6]; done)
      | (rw [if_neg c6, hq]; done)
  · skip
    refine zr_aload_n d_Q_grant_9 rfl ?_
    refine zr_aload_n d_Q_grant_10 rfl ?_
    refine zr_tgeti d_Q_grant_11 (by first | assumption | omega) sf_Q_grant_11 rfl rfl ?_
    refine zr_call (zrunV (As := [yi (zth σ 9 t)]) (rest := []) d_Q_grant_14 (fun ω h => h.sP' ho hk3) rfl (c_Q_putLast ho hk) 1 rfl (by decide +kernel) cw_Q_putLast (Nat.le_of_ble_eq_true rfl) (ycat_of rfl) (by decide) (by decide)) (fun r σ9 hp => ?_)
    obtain ⟨rfl, rfl⟩ := hp
    refine zr_goto (tgt := 28) d_Q_grant_17 (by decide) ?_
    refine zr_retv d_Q_grant_28 rfl (by decide) (by decide) ?_
    refine ⟨rfl, ?_⟩
    unfold zgrantQ
    first
      | (rw [if_pos c6]; done)
      | (rw [if_neg c6, hq]; done)
