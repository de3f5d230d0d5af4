/-! the law's loop -/
theorem nI_s6 {L q : Nat} (hL : L ≤ 3072) (hq : q ≤ 4000) : nI L - 6 < nI q ↔ L < q + 6 := by
  by_cases h : L < 6
  · constructor
    · intro _; omega
    · intro _
      have h1 : nI L - 6 < 0 := by
        rcases (show L = 0 ∨ L = 1 ∨ L = 2 ∨ L = 3 ∨ L = 4 ∨ L = 5 by omega) with rfl | rfl | rfl | rfl | rfl | rfl <;> decide
      exact Int32.lt_of_lt_of_le h1 (Int32.not_lt.mp (nI_pos (by omega)))
  · obtain ⟨k, rfl⟩ : ∃ k, L = k + 6 := ⟨L - 6, by omega⟩
    have e : nI (k + 6) - 6 = nI k := by
      rw [← nI_add]
      exact Int32.add_sub_cancel _ _
    rw [e, nI_ltI (by omega) (by omega)]
    omega
theorem sw_out {x : Int32} (h0 : ¬ x = 0) (h1 : ¬ x = 1) (h2 : ¬ x = 2) (h3 : ¬ x = 3) (h4 : ¬ x = 4) (h5 : ¬ x = 5) (h6 : ¬ x = 6) (h7 : ¬ x = 7) (h8 : ¬ x = 8) : x.toInt < 0 ∨ 8 < x.toInt := by
  by_cases hn : x < 0
  · exact Or.inl (Int32.lt_iff_toInt_lt.mp hn)
  · obtain ⟨k, hk, rfl⟩ := nI_of hn
    refine Or.inr ?_
    rw [nI_toInt hk]
    have h8k : 8 < k := by
      refine Nat.not_le.mp (fun hle => ?_)
      rcases (show k = 0 ∨ k = 1 ∨ k = 2 ∨ k = 3 ∨ k = 4 ∨ k = 5 ∨ k = 6 ∨ k = 7 ∨ k = 8 by omega) with rfl | rfl | rfl | rfl | rfl | rfl | rfl | rfl | rfl
      · exact h0 rfl
      · exact h1 rfl
      · exact h2 rfl
      · exact h3 rfl
      · exact h4 rfl
      · exact h5 rfl
      · exact h6 rfl
      · exact h7 rfl
      · exact h8 rfl
    omega
theorem lw_loop {G : yG} {b L : Nat} {xs : Nat → Int32} (hT : (yGl G).stackTraces = false) (hb : b < yGb G) (hL : L ≤ 3072) : ∀ (m q n : Nat) (σ : zS) (ω : yW) (u5 u6 : Option Int32) (cs sl : Nat), L < q + 6 * m → q ≤ 3072 → lwI n σ ω → n + m + 3 < 1000000 → cs + 7 * m ≤ 718118 → sl + 31 * m ≤ 6941751 → yWW G m_W_law (yQN (lwG G b L xs) lwQ) (fun _ => none) 23 [some (yr 400), some (yr 0), some (yr 200), some (yr 300), some (yi (nI q)), (u5.map yi), (u6.map yi)] [] ω cs sl := by
  intro m
  induction m with
  | zero =>
    intro q n σ ω u5 u6 cs sl h1 hq3 hI h3 h4 h5
    refine yr_iload d_W_law_23 rfl ?_
    refine yr_aload_n d_W_law_25 rfl ?_
    refine yr_slen hb hI.2.2.2.2.2.1 d_W_law_26 ?_
    refine yr_bipush (v := 6) d_W_law_27 (by decide) ?_
    refine yr_isub d_W_law_29 ?_
    refine yr_icmp_gt (tgt := 604) d_W_law_30 (by decide) (fun _ => ?_) (fun z => absurd ((nI_s6 hL (by omega)).mpr (by omega)) z)
    refine yr_iconst (v := 1) d_W_law_604 (by decide) ?_
    exact yr_lawend d_W_law_605 (by omega) (by omega)
  | succ m ih =>
    intro q n σ ω u5 u6 cs sl h1 hq3 hI h3 h4 h5
    have h400 := hI.2.2.2.2.2.1
    refine yr_iload d_W_law_23 rfl ?_
    refine yr_aload_n d_W_law_25 rfl ?_
    refine yr_slen hb h400 d_W_law_26 ?_
    refine yr_bipush (v := 6) d_W_law_27 (by decide) ?_
    refine yr_isub d_W_law_29 ?_
    refine yr_icmp_gt (tgt := 604) d_W_law_30 (by decide) (fun _ => ?_) (fun hgt => ?_)
    · refine yr_iconst (v := 1) d_W_law_604 (by decide) ?_
      exact yr_lawend d_W_law_605 (by omega) (by omega)
    have hq : q + 6 ≤ L := Nat.not_lt.mp (fun z => hgt ((nI_s6 hL (by omega)).mpr z))
    have hk : ∀ (n' : Nat) (σ' : zS) (ω' : yW) (u5 u6 : Option Int32), n ≤ n' → n' ≤ n + 1 → lwI n' σ' ω' → yWW G m_W_law (yQN (lwG G b L xs) lwQ) (fun _ => none) 598 [some (yr 400), some (yr 0), some (yr 200), some (yr 300), some (yi (nI q)), (u5.map yi), (u6.map yi)] [] ω' (cs + 7) (sl + 31) := fun n' σ' ω' u5 u6 a1 a2 a3 => by
      refine yr_iinc (v := nI (q + 6)) (ls' := [some (yr 400), some (yr 0), some (yr 200), some (yr 300), some (yi (nI (q + 6))), (u5.map yi), (u6.map yi)]) d_W_law_598 rfl (nI_add q 6) (by decide) rfl ?_
      refine yr_goto (tgt := 23) d_W_law_601 (by decide) ?_
      exact ih (q + 6) n' σ' ω' u5 u6 (cs + 7) (sl + 31) (by omega) (by omega) a3 (by omega) (by omega) (by omega)
    refine yr_aload_n d_W_law_33 rfl ?_
    refine yr_iload d_W_law_34 rfl ?_
    refine yr_sld (j := q) hb h400 d_W_law_36 rfl (by omega) hL ?_
    refine yr_bipush (v := 15) d_W_law_37 (by decide) ?_
    refine yr_iand d_W_law_39 ?_
    generalize xs q &&& 15 = x
    by_cases e0 : x = 0
    · refine yr_tcase (tgt := 92) d_W_law_40 0 e0 (by decide) (by decide) rfl (by decide) ?_
      exact lw_make hT hI hb hq hL (by omega) (by omega) (by omega) hk
    by_cases e1 : x = 1
    · refine yr_tcase (tgt := 160) d_W_law_40 1 e1 (by decide) (by decide) rfl (by decide) ?_
      exact lw_act hT hI hb hq hL (by omega) (by omega) (by omega) hk
    by_cases e2 : x = 2
    · refine yr_tcase (tgt := 264) d_W_law_40 2 e2 (by decide) (by decide) rfl (by decide) ?_
      exact lw_tick hT hI hb hq hL (by omega) (by omega) (by omega) hk
    by_cases e3 : x = 3
    · refine yr_tcase (tgt := 320) d_W_law_40 3 e3 (by decide) (by decide) rfl (by decide) ?_
      exact lw_interrupt hT hI hb hq hL (by omega) (by omega) (by omega) hk
    by_cases e4 : x = 4
    · refine yr_tcase (tgt := 356) d_W_law_40 4 e4 (by decide) (by decide) rfl (by decide) ?_
      exact lw_told hT hI hb hq hL (by omega) (by omega) (by omega) hk
    by_cases e5 : x = 5
    · refine yr_tcase (tgt := 424) d_W_law_40 5 e5 (by decide) (by decide) rfl (by decide) ?_
      exact lw_object hT hI hb hq hL (by omega) (by omega) (by omega) hk
    by_cases e6 : x = 6
    · refine yr_tcase (tgt := 492) d_W_law_40 6 e6 (by decide) (by decide) rfl (by decide) ?_
      exact lw_waiter hT hI hb hq hL (by omega) (by omega) (by omega) hk
    by_cases e7 : x = 7
    · refine yr_tcase (tgt := 560) d_W_law_40 7 e7 (by decide) (by decide) rfl (by decide) ?_
      exact lw_stuck hT hI hb hq hL (by omega) (by omega) (by omega) hk
    by_cases e8 : x = 8
    · refine yr_tcase (tgt := 573) d_W_law_40 8 e8 (by decide) (by decide) rfl (by decide) ?_
      exact lw_count hT hI hb hq hL (by omega) (by omega) (by omega) hk
    refine yr_tdef (tgt := 598) d_W_law_40 (sw_out e0 e1 e2 e3 e4 e5 e6 e7 e8) (by decide) ?_
    exact yr_widen (by omega) (by omega) (hk n σ ω u5 u6 (Nat.le_refl _) (by omega) hI)
