/-! the law's cases -/
theorem lw_told {G : yG} {b L q : Nat} {xs : Nat → Int32} {cs sl : Nat} (hT : (yGl G).stackTraces = false) {n : Nat} {σ : zS} {ω : yW} {u5 u6 : Option Int32} (hI : lwI n σ ω) (hb : b < yGb G) (hq : q + 6 ≤ L) (hL : L ≤ 3072) (hn : n + 3 < 1000000) (hcs : cs + 7 ≤ 718118) (hsl : sl + 31 ≤ 6941751) (hk : ∀ (n' : Nat) (σ' : zS) (ω' : yW) (u5 u6 : Option Int32), n ≤ n' → n' ≤ n + 1 → lwI n' σ' ω' → yWW G m_W_law (yQN (lwG G b L xs) lwQ) (fun _ => none) 598 [some (yr 400), some (yr 0), some (yr 200), some (yr 300), some (yi (nI q)), (u5.map yi), (u6.map yi)] [] ω' (cs + 7) (sl + 31)) : yWW G m_W_law (yQN (lwG G b L xs) lwQ) (fun _ => none) 356 [some (yr 400), some (yr 0), some (yr 200), some (yr 300), some (yi (nI q)), (u5.map yi), (u6.map yi)] [] ω cs sl := by
  have hI9 := hI
  obtain ⟨hz, hS0, hR, h300, hfr, h4, h6⟩ := hI9
  refine yr_aload_n d_W_law_356 rfl ?_
  refine yr_aload_n d_W_law_357 rfl ?_
  refine yr_iload d_W_law_358 rfl ?_
  refine yr_iconst (v := nI 1) d_W_law_360 (by decide) ?_
  refine yr_iadd d_W_law_361 ?_
  refine yr_sld (j := q + 1) hb h4 d_W_law_362 (nI_add _ _) (by omega) hL ?_
  refine yr_aload_n d_W_law_363 rfl ?_
  refine yr_iload d_W_law_364 rfl ?_
  refine yr_iconst (v := nI 2) d_W_law_366 (by decide) ?_
  refine yr_iadd d_W_law_367 ?_
  refine yr_sld (j := q + 2) hb h4 d_W_law_368 (nI_add _ _) (by omega) hL ?_
  refine yr_aload_n d_W_law_369 rfl ?_
  refine yr_callH (fun s ad0 h => h.1) (As := [yr 0, yi (xs (q + 1)), yi (xs (q + 2)), yr 300]) (rest := []) d_W_law_370 (c_W_told hT hz h300 (c_Y_told hT) (fun r σ' h => by obtain ⟨t, -, -, -, rfl, -⟩ := h; exact ⟨_, rfl⟩) (fun E σ' h => h.1)) (show yck (yMm m_W_law) m_W_told 4 = true by decide +kernel) (by decide +kernel) (by decide +kernel) (by decide +kernel) (by decide +kernel) (Nat.le_of_ble_eq_true rfl) (ycat_of rfl) (by show cs + 1 ≤ 718118; omega) (by show sl + 6 ≤ 6941751; omega) (fun k h => absurd rfl h) (fun r ω9 hp => wsh (wHq_sh hp)) (fun r ω9 hp => ?_)
  rcases hp with ⟨v, σ', ω1, hz1, ⟨t, a1, a2, a3, a4, e9⟩, rfl, rfl⟩ | ⟨E, σ', ω9, hz1, ⟨rfl, e9, a1⟩, rfl, rfl⟩
  · rw [e9] at hz1
    have hK := lw_out (v := v) (lw_after hI hz1 rfl)
    have hv9 : (ysi ω1 300 0 v).2.1 300 0 = v := yu_same ω1.2.1 300 0 v
    generalize ysi ω1 300 0 v = ω9 at hK hv9 ⊢
    have hK9 := hK
    obtain ⟨k1, hS, k3, k4, k5, h4⟩ := hK9
    refine yr_istore (ls' := [some (yr 400), some (yr 0), some (yr 200), some (yr 300), some (yi (nI q)), some (yi 0), (u6.map yi)]) d_W_law_373 (by decide) rfl ?_
    refine yr_aload_n d_W_law_375 rfl ?_
    refine yr_aload_n d_W_law_376 rfl ?_
    refine yr_iload d_W_law_377 rfl ?_
    refine yr_iconst (v := nI 1) d_W_law_379 (by decide) ?_
    refine yr_iadd d_W_law_380 ?_
    refine yr_sld (j := q + 1) hb h4 d_W_law_381 (nI_add _ _) (by omega) hL ?_
    refine yr_aload_n d_W_law_382 rfl ?_
    refine yr_iload d_W_law_383 rfl ?_
    refine yr_iconst (v := nI 2) d_W_law_385 (by decide) ?_
    refine yr_iadd d_W_law_386 ?_
    refine yr_sld (j := q + 2) hb h4 d_W_law_387 (nI_add _ _) (by omega) hL ?_
    refine mr_call (s := ω9.1) (F := ω9.2.2) (M := ω9.2.1) (yrunV (X := yNX) (k := 200) (As := [yi (xs (q + 1)), yi (xs (q + 2))]) (rest := []) d_W_law_388 (c_M_told hS) hS.1 rfl (show yck (yMm m_W_law) m_M_told 2 = true by decide +kernel) cw_M_told (by decide +kernel) (by decide +kernel) (by decide +kernel) (by decide +kernel) (Nat.le_of_ble_eq_true rfl) (ycat_of rfl) (by show cs + 1 + 0 ≤ 718118; omega) (by show sl + 6 + 0 ≤ 6941751; omega)) (fun r M9 hp => ?_)
    rcases hp with ⟨t2, b1, b2, b3, rfl, rfl⟩ | ⟨b1, -⟩
    · cases Option.some.inj (a1.symm.trans b1)
      have hm : mR x0 σ (yu ω9.2.1 200 26 0) := mR_200 k3.2.1 (by decide)
      have hvv : v = ztold σ t (xs (q + 2)) := by injection a4 with a4; injection a4
      refine lw_tail_told (k := 0) (rv := _) hS k4 (yu_same _ _ _ _) (fun _ => by rw [yu_ne _ _ (by omega), hv9, hvv]; exact (told_eq hm (ztat_lt a1).1).symm) (by show cs + 1 + 0 ≤ 718118; omega) (by show sl + 6 + 0 ≤ 6941751; omega) (fun u6 => yr_widen (by show cs + 1 + 0 ≤ cs + 7; omega) (by show sl + 6 + 0 ≤ sl + 31; omega) (hk n _ _ (some 0) u6 (Nat.le_refl _) (by omega) (lw_backT hK h6)))
    · rcases b1 with z | z | z
      · rw [a1] at z; cases z
      · exact absurd z a2
      · exact absurd a3 z
  · rw [e9] at hz1
    have hK := lw_after hI hz1 rfl
    have hK9 := hK
    obtain ⟨k1, hS, k3, k4, k5, h4⟩ := hK9
    refine yr_istore (ls' := [some (yr 400), some (yr 0), some (yr 200), some (yr 300), some (yi (nI q)), some (yi (wc "java/lang/IllegalArgumentException")), (u6.map yi)]) d_W_law_373 (by decide) rfl ?_
    refine yr_aload_n d_W_law_375 rfl ?_
    refine yr_aload_n d_W_law_376 rfl ?_
    refine yr_iload d_W_law_377 rfl ?_
    refine yr_iconst (v := nI 1) d_W_law_379 (by decide) ?_
    refine yr_iadd d_W_law_380 ?_
    refine yr_sld (j := q + 1) hb h4 d_W_law_381 (nI_add _ _) (by omega) hL ?_
    refine yr_aload_n d_W_law_382 rfl ?_
    refine yr_iload d_W_law_383 rfl ?_
    refine yr_iconst (v := nI 2) d_W_law_385 (by decide) ?_
    refine yr_iadd d_W_law_386 ?_
    refine yr_sld (j := q + 2) hb h4 d_W_law_387 (nI_add _ _) (by omega) hL ?_
    refine mr_call (s := ω9.1) (F := ω9.2.2) (M := ω9.2.1) (yrunV (X := yNX) (k := 200) (As := [yi (xs (q + 1)), yi (xs (q + 2))]) (rest := []) d_W_law_388 (c_M_told hS) hS.1 rfl (show yck (yMm m_W_law) m_M_told 2 = true by decide +kernel) cw_M_told (by decide +kernel) (by decide +kernel) (by decide +kernel) (by decide +kernel) (Nat.le_of_ble_eq_true rfl) (ycat_of rfl) (by show cs + 1 + 0 ≤ 718118; omega) (by show sl + 6 + 0 ≤ 6941751; omega)) (fun r M9 hp => ?_)
    rcases hp with ⟨t2, b1, b2, b3, rfl, rfl⟩ | ⟨b1, rfl, rv, rfl⟩
    · rcases a1 with z | z | z
      · rw [b1] at z; cases z
      · exact absurd z b2
      · exact absurd b3 z
    · skip
      refine lw_tail_told (k := (wc "java/lang/IllegalArgumentException")) (rv := _) hS k4 (yu_same _ _ _ _) (fun z => absurd z (by decide)) (by show cs + 1 + 0 ≤ 718118; omega) (by show sl + 6 + 0 ≤ 6941751; omega) (fun u6 => yr_widen (by show cs + 1 + 0 ≤ cs + 7; omega) (by show sl + 6 + 0 ≤ sl + 31; omega) (hk n _ _ (some (wc "java/lang/IllegalArgumentException")) u6 (Nat.le_refl _) (by omega) (lw_backT hK h6)))

theorem lw_object {G : yG} {b L q : Nat} {xs : Nat → Int32} {cs sl : Nat} (hT : (yGl G).stackTraces = false) {n : Nat} {σ : zS} {ω : yW} {u5 u6 : Option Int32} (hI : lwI n σ ω) (hb : b < yGb G) (hq : q + 6 ≤ L) (hL : L ≤ 3072) (hn : n + 3 < 1000000) (hcs : cs + 7 ≤ 718118) (hsl : sl + 31 ≤ 6941751) (hk : ∀ (n' : Nat) (σ' : zS) (ω' : yW) (u5 u6 : Option Int32), n ≤ n' → n' ≤ n + 1 → lwI n' σ' ω' → yWW G m_W_law (yQN (lwG G b L xs) lwQ) (fun _ => none) 598 [some (yr 400), some (yr 0), some (yr 200), some (yr 300), some (yi (nI q)), (u5.map yi), (u6.map yi)] [] ω' (cs + 7) (sl + 31)) : yWW G m_W_law (yQN (lwG G b L xs) lwQ) (fun _ => none) 424 [some (yr 400), some (yr 0), some (yr 200), some (yr 300), some (yi (nI q)), (u5.map yi), (u6.map yi)] [] ω cs sl := by
  have hI9 := hI
  obtain ⟨hz, hS0, hR, h300, hfr, h4, h6⟩ := hI9
  refine yr_aload_n d_W_law_424 rfl ?_
  refine yr_aload_n d_W_law_425 rfl ?_
  refine yr_iload d_W_law_426 rfl ?_
  refine yr_iconst (v := nI 1) d_W_law_428 (by decide) ?_
  refine yr_iadd d_W_law_429 ?_
  refine yr_sld (j := q + 1) hb h4 d_W_law_430 (nI_add _ _) (by omega) hL ?_
  refine yr_aload_n d_W_law_431 rfl ?_
  refine yr_iload d_W_law_432 rfl ?_
  refine yr_iconst (v := nI 2) d_W_law_434 (by decide) ?_
  refine yr_iadd d_W_law_435 ?_
  refine yr_sld (j := q + 2) hb h4 d_W_law_436 (nI_add _ _) (by omega) hL ?_
  refine yr_aload_n d_W_law_437 rfl ?_
  refine yr_callH (fun s ad0 h => h.1) (As := [yr 0, yi (xs (q + 1)), yi (xs (q + 2)), yr 300]) (rest := []) d_W_law_438 (c_W_object hT hz h300 (c_Y_object hT hR.1.1.brk) (fun r σ' h => by obtain ⟨t, -, -, -, rfl, -⟩ := h; exact ⟨_, rfl⟩) (fun E σ' h => h.1)) (show yck (yMm m_W_law) m_W_object 4 = true by decide +kernel) (by decide +kernel) (by decide +kernel) (by decide +kernel) (by decide +kernel) (Nat.le_of_ble_eq_true rfl) (ycat_of rfl) (by show cs + 1 ≤ 718118; omega) (by show sl + 6 ≤ 6941751; omega) (fun k h => absurd rfl h) (fun r ω9 hp => wsh (wHq_sh hp)) (fun r ω9 hp => ?_)
  rcases hp with ⟨v, σ', ω1, hz1, ⟨t, a1, a2, a3, a4, e9⟩, rfl, rfl⟩ | ⟨E, σ', ω9, hz1, ⟨rfl, e9, a1⟩, rfl, rfl⟩
  · rw [e9] at hz1
    have hK := lw_out (v := v) (lw_after hI hz1 rfl)
    have hv9 : (ysi ω1 300 0 v).2.1 300 0 = v := yu_same ω1.2.1 300 0 v
    generalize ysi ω1 300 0 v = ω9 at hK hv9 ⊢
    have hK9 := hK
    obtain ⟨k1, hS, k3, k4, k5, h4⟩ := hK9
    refine yr_istore (ls' := [some (yr 400), some (yr 0), some (yr 200), some (yr 300), some (yi (nI q)), some (yi 0), (u6.map yi)]) d_W_law_441 (by decide) rfl ?_
    refine yr_aload_n d_W_law_443 rfl ?_
    refine yr_aload_n d_W_law_444 rfl ?_
    refine yr_iload d_W_law_445 rfl ?_
    refine yr_iconst (v := nI 1) d_W_law_447 (by decide) ?_
    refine yr_iadd d_W_law_448 ?_
    refine yr_sld (j := q + 1) hb h4 d_W_law_449 (nI_add _ _) (by omega) hL ?_
    refine yr_aload_n d_W_law_450 rfl ?_
    refine yr_iload d_W_law_451 rfl ?_
    refine yr_iconst (v := nI 2) d_W_law_453 (by decide) ?_
    refine yr_iadd d_W_law_454 ?_
    refine yr_sld (j := q + 2) hb h4 d_W_law_455 (nI_add _ _) (by omega) hL ?_
    refine mr_call (s := ω9.1) (F := ω9.2.2) (M := ω9.2.1) (yrunV (X := yNX) (k := 200) (As := [yi (xs (q + 1)), yi (xs (q + 2))]) (rest := []) d_W_law_456 (c_M_object hS (n := zn σ) hR.1.1.2.2.2.1 k3.2.1.2.2.2.1) hS.1 rfl (show yck (yMm m_W_law) m_M_object 2 = true by decide +kernel) cw_M_object (by decide +kernel) (by decide +kernel) (by decide +kernel) (by decide +kernel) (Nat.le_of_ble_eq_true rfl) (ycat_of rfl) (by show cs + 1 + 0 ≤ 718118; omega) (by show sl + 6 + 0 ≤ 6941751; omega)) (fun r M9 hp => ?_)
    rcases hp with ⟨t2, b1, b2, b3, rfl, rfl⟩ | ⟨b1, -⟩
    · cases Option.some.inj (a1.symm.trans b1)
      have hm : mR x0 σ (yu ω9.2.1 200 26 0) := mR_200 k3.2.1 (by decide)
      have hvv : v = zobj σ t (xs (q + 2)) := by injection a4 with a4; injection a4
      refine lw_tail_object (k := 0) (rv := _) hS k4 (yu_same _ _ _ _) (fun _ => by rw [yu_ne _ _ (by omega), hv9, hvv]; exact (obj_eq hm hR.1.1 (zpat_lt (by have := hR.1.1.2.2.2.1; omega) a1).1).symm) (by show cs + 1 + 0 ≤ 718118; omega) (by show sl + 6 + 0 ≤ 6941751; omega) (fun u6 => yr_widen (by show cs + 1 + 0 ≤ cs + 7; omega) (by show sl + 6 + 0 ≤ sl + 31; omega) (hk n _ _ (some 0) u6 (Nat.le_refl _) (by omega) (lw_backT hK h6)))
    · rcases b1 with z | z | z
      · rw [a1] at z; cases z
      · exact absurd z a2
      · exact absurd a3 z
  · rw [e9] at hz1
    have hK := lw_after hI hz1 rfl
    have hK9 := hK
    obtain ⟨k1, hS, k3, k4, k5, h4⟩ := hK9
    refine yr_istore (ls' := [some (yr 400), some (yr 0), some (yr 200), some (yr 300), some (yi (nI q)), some (yi (wc "java/lang/IllegalArgumentException")), (u6.map yi)]) d_W_law_441 (by decide) rfl ?_
    refine yr_aload_n d_W_law_443 rfl ?_
    refine yr_aload_n d_W_law_444 rfl ?_
    refine yr_iload d_W_law_445 rfl ?_
    refine yr_iconst (v := nI 1) d_W_law_447 (by decide) ?_
    refine yr_iadd d_W_law_448 ?_
    refine yr_sld (j := q + 1) hb h4 d_W_law_449 (nI_add _ _) (by omega) hL ?_
    refine yr_aload_n d_W_law_450 rfl ?_
    refine yr_iload d_W_law_451 rfl ?_
    refine yr_iconst (v := nI 2) d_W_law_453 (by decide) ?_
    refine yr_iadd d_W_law_454 ?_
    refine yr_sld (j := q + 2) hb h4 d_W_law_455 (nI_add _ _) (by omega) hL ?_
    refine mr_call (s := ω9.1) (F := ω9.2.2) (M := ω9.2.1) (yrunV (X := yNX) (k := 200) (As := [yi (xs (q + 1)), yi (xs (q + 2))]) (rest := []) d_W_law_456 (c_M_object hS (n := zn σ) hR.1.1.2.2.2.1 k3.2.1.2.2.2.1) hS.1 rfl (show yck (yMm m_W_law) m_M_object 2 = true by decide +kernel) cw_M_object (by decide +kernel) (by decide +kernel) (by decide +kernel) (by decide +kernel) (Nat.le_of_ble_eq_true rfl) (ycat_of rfl) (by show cs + 1 + 0 ≤ 718118; omega) (by show sl + 6 + 0 ≤ 6941751; omega)) (fun r M9 hp => ?_)
    rcases hp with ⟨t2, b1, b2, b3, rfl, rfl⟩ | ⟨b1, rfl, rv, rfl⟩
    · rcases a1 with z | z | z
      · rw [b1] at z; cases z
      · exact absurd z b2
      · exact absurd b3 z
    · skip
      refine lw_tail_object (k := (wc "java/lang/IllegalArgumentException")) (rv := _) hS k4 (yu_same _ _ _ _) (fun z => absurd z (by decide)) (by show cs + 1 + 0 ≤ 718118; omega) (by show sl + 6 + 0 ≤ 6941751; omega) (fun u6 => yr_widen (by show cs + 1 + 0 ≤ cs + 7; omega) (by show sl + 6 + 0 ≤ sl + 31; omega) (hk n _ _ (some (wc "java/lang/IllegalArgumentException")) u6 (Nat.le_refl _) (by omega) (lw_backT hK h6)))

theorem lw_waiter {G : yG} {b L q : Nat} {xs : Nat → Int32} {cs sl : Nat} (hT : (yGl G).stackTraces = false) {n : Nat} {σ : zS} {ω : yW} {u5 u6 : Option Int32} (hI : lwI n σ ω) (hb : b < yGb G) (hq : q + 6 ≤ L) (hL : L ≤ 3072) (hn : n + 3 < 1000000) (hcs : cs + 7 ≤ 718118) (hsl : sl + 31 ≤ 6941751) (hk : ∀ (n' : Nat) (σ' : zS) (ω' : yW) (u5 u6 : Option Int32), n ≤ n' → n' ≤ n + 1 → lwI n' σ' ω' → yWW G m_W_law (yQN (lwG G b L xs) lwQ) (fun _ => none) 598 [some (yr 400), some (yr 0), some (yr 200), some (yr 300), some (yi (nI q)), (u5.map yi), (u6.map yi)] [] ω' (cs + 7) (sl + 31)) : yWW G m_W_law (yQN (lwG G b L xs) lwQ) (fun _ => none) 492 [some (yr 400), some (yr 0), some (yr 200), some (yr 300), some (yi (nI q)), (u5.map yi), (u6.map yi)] [] ω cs sl := by
  have hI9 := hI
  obtain ⟨hz, hS0, hR, h300, hfr, h4, h6⟩ := hI9
  refine yr_aload_n d_W_law_492 rfl ?_
  refine yr_aload_n d_W_law_493 rfl ?_
  refine yr_iload d_W_law_494 rfl ?_
  refine yr_iconst (v := nI 1) d_W_law_496 (by decide) ?_
  refine yr_iadd d_W_law_497 ?_
  refine yr_sld (j := q + 1) hb h4 d_W_law_498 (nI_add _ _) (by omega) hL ?_
  refine yr_aload_n d_W_law_499 rfl ?_
  refine yr_iload d_W_law_500 rfl ?_
  refine yr_iconst (v := nI 2) d_W_law_502 (by decide) ?_
  refine yr_iadd d_W_law_503 ?_
  refine yr_sld (j := q + 2) hb h4 d_W_law_504 (nI_add _ _) (by omega) hL ?_
  refine yr_aload_n d_W_law_505 rfl ?_
  refine yr_callH (fun s ad0 h => h.1) (As := [yr 0, yi (xs (q + 1)), yi (xs (q + 2)), yr 300]) (rest := []) d_W_law_506 (c_W_waiter hT hz h300 (c_Y_waiter hT) (fun r σ' h => by obtain ⟨t, t2, -, -, rfl, -⟩ := h; exact ⟨_, rfl⟩) (fun E σ' h => by rcases h.2 with z | z; exact Or.inl z.1; exact Or.inr z.1)) (show yck (yMm m_W_law) m_W_waiter 4 = true by decide +kernel) (by decide +kernel) (by decide +kernel) (by decide +kernel) (by decide +kernel) (Nat.le_of_ble_eq_true rfl) (ycat_of rfl) (by show cs + 1 ≤ 718118; omega) (by show sl + 6 ≤ 6941751; omega) (fun k h => absurd rfl h) (fun r ω9 hp => wsh (wHq_sh hp)) (fun r ω9 hp => ?_)
  rcases hp with ⟨v, σ', ω1, hz1, ⟨o, t, a1, a2, a4, e9⟩, rfl, rfl⟩ | ⟨E, σ', ω9, hz1, ⟨e9, a1⟩, rfl, rfl⟩
  · rw [e9] at hz1
    have hK := lw_out (v := v) (lw_after hI hz1 rfl)
    have hv9 : (ysi ω1 300 0 v).2.1 300 0 = v := yu_same ω1.2.1 300 0 v
    generalize ysi ω1 300 0 v = ω9 at hK hv9 ⊢
    have hK9 := hK
    obtain ⟨k1, hS, k3, k4, k5, h4⟩ := hK9
    refine yr_istore (ls' := [some (yr 400), some (yr 0), some (yr 200), some (yr 300), some (yi (nI q)), some (yi 0), (u6.map yi)]) d_W_law_509 (by decide) rfl ?_
    refine yr_aload_n d_W_law_511 rfl ?_
    refine yr_aload_n d_W_law_512 rfl ?_
    refine yr_iload d_W_law_513 rfl ?_
    refine yr_iconst (v := nI 1) d_W_law_515 (by decide) ?_
    refine yr_iadd d_W_law_516 ?_
    refine yr_sld (j := q + 1) hb h4 d_W_law_517 (nI_add _ _) (by omega) hL ?_
    refine yr_aload_n d_W_law_518 rfl ?_
    refine yr_iload d_W_law_519 rfl ?_
    refine yr_iconst (v := nI 2) d_W_law_521 (by decide) ?_
    refine yr_iadd d_W_law_522 ?_
    refine yr_sld (j := q + 2) hb h4 d_W_law_523 (nI_add _ _) (by omega) hL ?_
    refine mr_call (s := ω9.1) (F := ω9.2.2) (M := ω9.2.1) (yrunV (X := yNX) (k := 200) (As := [yi (xs (q + 1)), yi (xs (q + 2))]) (rest := []) d_W_law_524 (c_M_waiter hS (n := zn σ) (L := fun o => zrw σ 0 o) hR.1.1.2.2.2.1 k3.2.1.2.2.2.1 (fun o ho => ⟨(k3.2.1.2.1.1 o ho).2.2.2.2.2.2.1, (k3.2.1.2.1.1 o ho).2.2.2.2.1, (k3.2.1.2.1.1 o ho).2.2.2.2.2.2.2.1⟩)) hS.1 rfl (show yck (yMm m_W_law) m_M_waiter 2 = true by decide +kernel) cw_M_waiter (by decide +kernel) (by decide +kernel) (by decide +kernel) (by decide +kernel) (Nat.le_of_ble_eq_true rfl) (ycat_of rfl) (by show cs + 1 + 0 ≤ 718118; omega) (by show sl + 6 + 0 ≤ 6941751; omega)) (fun r M9 hp => ?_)
    have hlen : (zrw σ 0 o).length ≤ 6 := hR.1.1.len6 (zpat_lt (by have := hR.1.1.2.2.2.1; omega) a1).1
    rcases hp with ⟨b1, -⟩ | ⟨o2, b1, ⟨b2, -⟩ | ⟨j, hj, b2, rfl, rfl⟩⟩
    · rw [a1] at b1; cases b1
    · cases Option.some.inj (a1.symm.trans b1)
      have z := (zat_eq (y := xs (q + 2)) hlen).1.mpr b2
      rw [a2] at z; cases z
    · cases Option.some.inj (a1.symm.trans b1)
      have z := (zat_eq (y := xs (q + 2)) hlen).2 j hj b2
      have hvv : v = nI t := by injection a4 with a4; injection a4
      have htj : t = (zrw σ 0 o)[j] := Option.some.inj (a2.symm.trans z)
      refine lw_tail_waiter (k := 0) (rv := _) hS k4 (yu_same _ _ _ _) (fun _ => by rw [yu_ne _ _ (by omega), hv9, hvv, htj]) (by show cs + 1 + 0 ≤ 718118; omega) (by show sl + 6 + 0 ≤ 6941751; omega) (fun u6 => yr_widen (by show cs + 1 + 0 ≤ cs + 7; omega) (by show sl + 6 + 0 ≤ sl + 31; omega) (hk n _ _ (some 0) u6 (Nat.le_refl _) (by omega) (lw_backT hK h6)))
  · rw [e9] at hz1
    have hK := lw_after hI hz1 rfl
    have hK9 := hK
    obtain ⟨k1, hS, k3, k4, k5, h4⟩ := hK9
    rcases a1 with ⟨rfl, a1⟩ | ⟨rfl, o, a1, a2⟩
    · refine yr_istore (ls' := [some (yr 400), some (yr 0), some (yr 200), some (yr 300), some (yi (nI q)), some (yi (wc "java/lang/IllegalArgumentException")), (u6.map yi)]) d_W_law_509 (by decide) rfl ?_
      refine yr_aload_n d_W_law_511 rfl ?_
      refine yr_aload_n d_W_law_512 rfl ?_
      refine yr_iload d_W_law_513 rfl ?_
      refine yr_iconst (v := nI 1) d_W_law_515 (by decide) ?_
      refine yr_iadd d_W_law_516 ?_
      refine yr_sld (j := q + 1) hb h4 d_W_law_517 (nI_add _ _) (by omega) hL ?_
      refine yr_aload_n d_W_law_518 rfl ?_
      refine yr_iload d_W_law_519 rfl ?_
      refine yr_iconst (v := nI 2) d_W_law_521 (by decide) ?_
      refine yr_iadd d_W_law_522 ?_
      refine yr_sld (j := q + 2) hb h4 d_W_law_523 (nI_add _ _) (by omega) hL ?_
      refine mr_call (s := ω9.1) (F := ω9.2.2) (M := ω9.2.1) (yrunV (X := yNX) (k := 200) (As := [yi (xs (q + 1)), yi (xs (q + 2))]) (rest := []) d_W_law_524 (c_M_waiter hS (n := zn σ) (L := fun o => zrw σ 0 o) hR.1.1.2.2.2.1 k3.2.1.2.2.2.1 (fun o ho => ⟨(k3.2.1.2.1.1 o ho).2.2.2.2.2.2.1, (k3.2.1.2.1.1 o ho).2.2.2.2.1, (k3.2.1.2.1.1 o ho).2.2.2.2.2.2.2.1⟩)) hS.1 rfl (show yck (yMm m_W_law) m_M_waiter 2 = true by decide +kernel) cw_M_waiter (by decide +kernel) (by decide +kernel) (by decide +kernel) (by decide +kernel) (Nat.le_of_ble_eq_true rfl) (ycat_of rfl) (by show cs + 1 + 0 ≤ 718118; omega) (by show sl + 6 + 0 ≤ 6941751; omega)) (fun r M9 hp => ?_)
      rcases hp with ⟨b1, rfl, rv, rfl⟩ | ⟨o2, b1, -⟩
      · skip
        refine lw_tail_waiter (k := (wc "java/lang/IllegalArgumentException")) (rv := _) hS k4 (yu_same _ _ _ _) (fun z => absurd z (by decide)) (by show cs + 1 + 0 ≤ 718118; omega) (by show sl + 6 + 0 ≤ 6941751; omega) (fun u6 => yr_widen (by show cs + 1 + 0 ≤ cs + 7; omega) (by show sl + 6 + 0 ≤ sl + 31; omega) (hk n _ _ (some (wc "java/lang/IllegalArgumentException")) u6 (Nat.le_refl _) (by omega) (lw_backT hK h6)))
      · rw [a1] at b1; cases b1
    · have hlen : (zrw σ 0 o).length ≤ 6 := hR.1.1.len6 (zpat_lt (by have := hR.1.1.2.2.2.1; omega) a1).1
      refine yr_istore (ls' := [some (yr 400), some (yr 0), some (yr 200), some (yr 300), some (yi (nI q)), some (yi (wc "java/util/NoSuchElementException")), (u6.map yi)]) d_W_law_509 (by decide) rfl ?_
      refine yr_aload_n d_W_law_511 rfl ?_
      refine yr_aload_n d_W_law_512 rfl ?_
      refine yr_iload d_W_law_513 rfl ?_
      refine yr_iconst (v := nI 1) d_W_law_515 (by decide) ?_
      refine yr_iadd d_W_law_516 ?_
      refine yr_sld (j := q + 1) hb h4 d_W_law_517 (nI_add _ _) (by omega) hL ?_
      refine yr_aload_n d_W_law_518 rfl ?_
      refine yr_iload d_W_law_519 rfl ?_
      refine yr_iconst (v := nI 2) d_W_law_521 (by decide) ?_
      refine yr_iadd d_W_law_522 ?_
      refine yr_sld (j := q + 2) hb h4 d_W_law_523 (nI_add _ _) (by omega) hL ?_
      refine mr_call (s := ω9.1) (F := ω9.2.2) (M := ω9.2.1) (yrunV (X := yNX) (k := 200) (As := [yi (xs (q + 1)), yi (xs (q + 2))]) (rest := []) d_W_law_524 (c_M_waiter hS (n := zn σ) (L := fun o => zrw σ 0 o) hR.1.1.2.2.2.1 k3.2.1.2.2.2.1 (fun o ho => ⟨(k3.2.1.2.1.1 o ho).2.2.2.2.2.2.1, (k3.2.1.2.1.1 o ho).2.2.2.2.1, (k3.2.1.2.1.1 o ho).2.2.2.2.2.2.2.1⟩)) hS.1 rfl (show yck (yMm m_W_law) m_M_waiter 2 = true by decide +kernel) cw_M_waiter (by decide +kernel) (by decide +kernel) (by decide +kernel) (by decide +kernel) (Nat.le_of_ble_eq_true rfl) (ycat_of rfl) (by show cs + 1 + 0 ≤ 718118; omega) (by show sl + 6 + 0 ≤ 6941751; omega)) (fun r M9 hp => ?_)
      rcases hp with ⟨b1, -⟩ | ⟨o2, b1, ⟨b2, rfl, rv, rfl⟩ | ⟨j, hj, b2, rfl, rfl⟩⟩
      · rw [a1] at b1; cases b1
      · rw [yu_26]
        refine lw_tail_waiter (k := (wc "java/util/NoSuchElementException")) (rv := _) hS k4 (yu_same _ _ _ _) (fun z => absurd z (by decide)) (by show cs + 1 + 0 ≤ 718118; omega) (by show sl + 6 + 0 ≤ 6941751; omega) (fun u6 => yr_widen (by show cs + 1 + 0 ≤ cs + 7; omega) (by show sl + 6 + 0 ≤ sl + 31; omega) (hk n _ _ (some (wc "java/util/NoSuchElementException")) u6 (Nat.le_refl _) (by omega) (lw_backT hK h6)))
      · cases Option.some.inj (a1.symm.trans b1)
        have z := (zat_eq (y := xs (q + 2)) hlen).2 j hj b2
        rw [a2] at z; cases z

theorem lw_tick {G : yG} {b L q : Nat} {xs : Nat → Int32} {cs sl : Nat} (hT : (yGl G).stackTraces = false) {n : Nat} {σ : zS} {ω : yW} {u5 u6 : Option Int32} (hI : lwI n σ ω) (hb : b < yGb G) (hq : q + 6 ≤ L) (hL : L ≤ 3072) (hn : n + 3 < 1000000) (hcs : cs + 7 ≤ 718118) (hsl : sl + 31 ≤ 6941751) (hk : ∀ (n' : Nat) (σ' : zS) (ω' : yW) (u5 u6 : Option Int32), n ≤ n' → n' ≤ n + 1 → lwI n' σ' ω' → yWW G m_W_law (yQN (lwG G b L xs) lwQ) (fun _ => none) 598 [some (yr 400), some (yr 0), some (yr 200), some (yr 300), some (yi (nI q)), (u5.map yi), (u6.map yi)] [] ω' (cs + 7) (sl + 31)) : yWW G m_W_law (yQN (lwG G b L xs) lwQ) (fun _ => none) 264 [some (yr 400), some (yr 0), some (yr 200), some (yr 300), some (yi (nI q)), (u5.map yi), (u6.map yi)] [] ω cs sl := by
  have hI9 := hI
  obtain ⟨hz, hS0, hR, h300, hfr, h4, h6⟩ := hI9
  refine yr_aload_n d_W_law_264 rfl ?_
  refine yr_aload_n d_W_law_265 rfl ?_
  refine yr_iload d_W_law_266 rfl ?_
  refine yr_iconst (v := nI 1) d_W_law_268 (by decide) ?_
  refine yr_iadd d_W_law_269 ?_
  refine yr_sld (j := q + 1) hb h4 d_W_law_270 (nI_add _ _) (by omega) hL ?_
  refine yr_aload_n d_W_law_271 rfl ?_
  refine yr_callH (fun s ad0 h => h.1) (As := [yr 0, yi (xs (q + 1)), yr 300]) (rest := []) d_W_law_272 (c_W_tick hT hz h300 (c_Y_tick hT (zIA_J n) (zID_J n) (zIE_J n) (zIW_J n) hR.1) (fun r σ' h => by obtain ⟨-, -, rfl, -⟩ := h; exact ⟨_, rfl⟩) (fun E σ' h => h.1)) (show yck (yMm m_W_law) m_W_tick 3 = true by decide +kernel) (by decide +kernel) (by decide +kernel) (by decide +kernel) (by decide +kernel) (Nat.le_of_ble_eq_true rfl) (ycat_of rfl) (by show cs + 1 ≤ 718118; omega) (by show sl + 6 ≤ 6941751; omega) (fun k h => absurd rfl h) (fun r ω9 hp => wsh (wHq_sh hp)) (fun r ω9 hp => ?_)
  rcases hp with ⟨v, σ', ω1, hz1, ⟨a1, a2, a4, rfl⟩, rfl, rfl⟩ | ⟨E, σ', ω9, hz1, ⟨rfl, rfl, a1⟩, rfl, rfl⟩
  · have hK := lw_out (v := v) (lw_after hI hz1 (ztickL_zn _ _ _))
    have hv9 : (ysi ω1 300 0 v).2.1 300 0 = v := yu_same ω1.2.1 300 0 v
    generalize ysi ω1 300 0 v = ω9 at hK hv9 ⊢
    have hK9 := hK
    obtain ⟨k1, hS, k3, k4, k5, h4⟩ := hK9
    refine yr_istore (ls' := [some (yr 400), some (yr 0), some (yr 200), some (yr 300), some (yi (nI q)), some (yi 0), (u6.map yi)]) d_W_law_275 (by decide) rfl ?_
    refine yr_aload_n d_W_law_277 rfl ?_
    refine yr_aload_n d_W_law_278 rfl ?_
    refine yr_iload d_W_law_279 rfl ?_
    refine yr_iconst (v := nI 1) d_W_law_281 (by decide) ?_
    refine yr_iadd d_W_law_282 ?_
    refine yr_sld (j := q + 1) hb h4 d_W_law_283 (nI_add _ _) (by omega) hL ?_
    refine mr_call (s := ω9.1) (F := ω9.2.2) (M := ω9.2.1) (yrunV (X := yNX) (k := 200) (As := [yi (xs (q + 1))]) (rest := []) d_W_law_284 (c_M_tickJ hS k3) hS.1 rfl (show yck (yMm m_W_law) m_M_tick 1 = true by decide +kernel) cw_M_tick (by decide +kernel) (by decide +kernel) (by decide +kernel) (by decide +kernel) (Nat.le_of_ble_eq_true rfl) (ycat_of rfl) (by show cs + 1 + 0 ≤ 718118; omega) (by show sl + 6 + 0 ≤ 6941751; omega)) (fun r M9 hp => ?_)
    rcases hp with ⟨b1, -⟩ | ⟨b1, b2, rfl, hp⟩
    · rcases b1 with z | z
      · exact absurd z a1
      · exact absurd a2 z
    · obtain ⟨w1, w2, w3⟩ := lw_back0 hK hp h6
      have hvv : v = (ztickL (xs (q + 1)).toNatClampNeg 0 σ).2 := by injection a4 with a4; injection a4
      refine lw_tail_tick (k := 0) (rv := _) hS k4 (w2) (fun _ => by rw [w3, hv9, hvv]) (by show cs + 1 + 0 ≤ 718118; omega) (by show sl + 6 + 0 ≤ 6941751; omega) (fun u6 => yr_widen (by show cs + 1 + 0 ≤ cs + 7; omega) (by show sl + 6 + 0 ≤ sl + 31; omega) (hk n _ _ (some 0) u6 (Nat.le_refl _) (by omega) (w1)))
  · have hK := lw_after hI hz1 rfl
    have hK9 := hK
    obtain ⟨k1, hS, k3, k4, k5, h4⟩ := hK9
    refine yr_istore (ls' := [some (yr 400), some (yr 0), some (yr 200), some (yr 300), some (yi (nI q)), some (yi (wc "java/lang/IllegalArgumentException")), (u6.map yi)]) d_W_law_275 (by decide) rfl ?_
    refine yr_aload_n d_W_law_277 rfl ?_
    refine yr_aload_n d_W_law_278 rfl ?_
    refine yr_iload d_W_law_279 rfl ?_
    refine yr_iconst (v := nI 1) d_W_law_281 (by decide) ?_
    refine yr_iadd d_W_law_282 ?_
    refine yr_sld (j := q + 1) hb h4 d_W_law_283 (nI_add _ _) (by omega) hL ?_
    refine mr_call (s := ω9.1) (F := ω9.2.2) (M := ω9.2.1) (yrunV (X := yNX) (k := 200) (As := [yi (xs (q + 1))]) (rest := []) d_W_law_284 (c_M_tickJ hS k3) hS.1 rfl (show yck (yMm m_W_law) m_M_tick 1 = true by decide +kernel) cw_M_tick (by decide +kernel) (by decide +kernel) (by decide +kernel) (by decide +kernel) (Nat.le_of_ble_eq_true rfl) (ycat_of rfl) (by show cs + 1 + 0 ≤ 718118; omega) (by show sl + 6 + 0 ≤ 6941751; omega)) (fun r M9 hp => ?_)
    rcases hp with ⟨b1, rfl, rv, rfl⟩ | ⟨b1, b2, -⟩
    · skip
      refine lw_tail_tick (k := (wc "java/lang/IllegalArgumentException")) (rv := _) hS k4 (yu_same _ _ _ _) (fun z => absurd z (by decide)) (by show cs + 1 + 0 ≤ 718118; omega) (by show sl + 6 + 0 ≤ 6941751; omega) (fun u6 => yr_widen (by show cs + 1 + 0 ≤ cs + 7; omega) (by show sl + 6 + 0 ≤ sl + 31; omega) (hk n _ _ (some (wc "java/lang/IllegalArgumentException")) u6 (Nat.le_refl _) (by omega) (lw_backT hK h6)))
    · rcases a1 with z | z
      · exact absurd z b1
      · exact absurd b2 z

theorem lw_act {G : yG} {b L q : Nat} {xs : Nat → Int32} {cs sl : Nat} (hT : (yGl G).stackTraces = false) {n : Nat} {σ : zS} {ω : yW} {u5 u6 : Option Int32} (hI : lwI n σ ω) (hb : b < yGb G) (hq : q + 6 ≤ L) (hL : L ≤ 3072) (hn : n + 3 < 1000000) (hcs : cs + 7 ≤ 718118) (hsl : sl + 31 ≤ 6941751) (hk : ∀ (n' : Nat) (σ' : zS) (ω' : yW) (u5 u6 : Option Int32), n ≤ n' → n' ≤ n + 1 → lwI n' σ' ω' → yWW G m_W_law (yQN (lwG G b L xs) lwQ) (fun _ => none) 598 [some (yr 400), some (yr 0), some (yr 200), some (yr 300), some (yi (nI q)), (u5.map yi), (u6.map yi)] [] ω' (cs + 7) (sl + 31)) : yWW G m_W_law (yQN (lwG G b L xs) lwQ) (fun _ => none) 160 [some (yr 400), some (yr 0), some (yr 200), some (yr 300), some (yi (nI q)), (u5.map yi), (u6.map yi)] [] ω cs sl := by
  have hI9 := hI
  obtain ⟨hz, hS0, hR, h300, hfr, h4, h6⟩ := hI9
  refine yr_aload_n d_W_law_160 rfl ?_
  refine yr_aload_n d_W_law_161 rfl ?_
  refine yr_iload d_W_law_162 rfl ?_
  refine yr_iconst (v := nI 1) d_W_law_164 (by decide) ?_
  refine yr_iadd d_W_law_165 ?_
  refine yr_sld (j := q + 1) hb h4 d_W_law_166 (nI_add _ _) (by omega) hL ?_
  refine yr_aload_n d_W_law_167 rfl ?_
  refine yr_iload d_W_law_168 rfl ?_
  refine yr_iconst (v := nI 2) d_W_law_170 (by decide) ?_
  refine yr_iadd d_W_law_171 ?_
  refine yr_sld (j := q + 2) hb h4 d_W_law_172 (nI_add _ _) (by omega) hL ?_
  refine yr_aload_n d_W_law_173 rfl ?_
  refine yr_iload d_W_law_174 rfl ?_
  refine yr_iconst (v := nI 3) d_W_law_176 (by decide) ?_
  refine yr_iadd d_W_law_177 ?_
  refine yr_sld (j := q + 3) hb h4 d_W_law_178 (nI_add _ _) (by omega) hL ?_
  refine yr_aload_n d_W_law_179 rfl ?_
  refine yr_iload d_W_law_180 rfl ?_
  refine yr_iconst (v := nI 4) d_W_law_182 (by decide) ?_
  refine yr_iadd d_W_law_183 ?_
  refine yr_sld (j := q + 4) hb h4 d_W_law_184 (nI_add _ _) (by omega) hL ?_
  refine yr_aload_n d_W_law_185 rfl ?_
  refine yr_iload d_W_law_186 rfl ?_
  refine yr_iconst (v := nI 5) d_W_law_188 (by decide) ?_
  refine yr_iadd d_W_law_189 ?_
  refine yr_sld (j := q + 5) hb h4 d_W_law_190 (nI_add _ _) (by omega) hL ?_
  refine yr_aload_n d_W_law_191 rfl ?_
  refine yr_callH (fun s ad0 h => h.1) (As := [yr 0, yi (xs (q + 1)), yi (xs (q + 2)), yi (xs (q + 3)), yi (xs (q + 4)), yi (xs (q + 5)), yr 300]) (rest := []) d_W_law_192 (c_W_act hT hz h300 (c_Y_act hT (zIA_J (n + 1)) (zIF_J hn) hR.1) (fun r σ' h => by obtain ⟨t, o, -, -, -, -, -, -, -, rfl, -⟩ := h; exact ⟨_, rfl⟩) (fun E σ' h => by
    rcases h.2 with z | ⟨t, o, -, -, -, -, z | z⟩
    · exact Or.inl z.1
    · exact Or.inr (Or.inr z.1)
    · exact Or.inr (Or.inl z.1))) (show yck (yMm m_W_law) m_W_act 7 = true by decide +kernel) (by decide +kernel) (by decide +kernel) (by decide +kernel) (by decide +kernel) (Nat.le_of_ble_eq_true rfl) (ycat_of rfl) (by show cs + 1 ≤ 718118; omega) (by show sl + 6 ≤ 6941751; omega) (fun k h => absurd rfl h) (fun r ω9 hp => wsh (wHq_sh hp)) (fun r ω9 hp => ?_)
  rcases hp with ⟨v, σ', ω1, hz1, ⟨t, o, a1, a2, a3, a4, a5, a6, a7, a8, rfl⟩, rfl, rfl⟩ | ⟨E, σ', ω9, hz1, ⟨rfl, ax⟩, rfl, rfl⟩
  · have hK := lw_out (v := v) (lw_after hI hz1 zact_zn)
    have hv9 : (ysi ω1 300 0 v).2.1 300 0 = v := yu_same ω1.2.1 300 0 v
    generalize ysi ω1 300 0 v = ω9 at hK hv9 ⊢
    have hK9 := hK
    obtain ⟨k1, hS, k3, k4, k5, h4⟩ := hK9
    refine yr_istore (ls' := [some (yr 400), some (yr 0), some (yr 200), some (yr 300), some (yi (nI q)), some (yi 0), (u6.map yi)]) d_W_law_195 (by decide) rfl ?_
    refine yr_aload_n d_W_law_197 rfl ?_
    refine yr_aload_n d_W_law_198 rfl ?_
    refine yr_iload d_W_law_199 rfl ?_
    refine yr_iconst (v := nI 1) d_W_law_201 (by decide) ?_
    refine yr_iadd d_W_law_202 ?_
    refine yr_sld (j := q + 1) hb h4 d_W_law_203 (nI_add _ _) (by omega) hL ?_
    refine yr_aload_n d_W_law_204 rfl ?_
    refine yr_iload d_W_law_205 rfl ?_
    refine yr_iconst (v := nI 2) d_W_law_207 (by decide) ?_
    refine yr_iadd d_W_law_208 ?_
    refine yr_sld (j := q + 2) hb h4 d_W_law_209 (nI_add _ _) (by omega) hL ?_
    refine yr_aload_n d_W_law_210 rfl ?_
    refine yr_iload d_W_law_211 rfl ?_
    refine yr_iconst (v := nI 3) d_W_law_213 (by decide) ?_
    refine yr_iadd d_W_law_214 ?_
    refine yr_sld (j := q + 3) hb h4 d_W_law_215 (nI_add _ _) (by omega) hL ?_
    refine yr_aload_n d_W_law_216 rfl ?_
    refine yr_iload d_W_law_217 rfl ?_
    refine yr_iconst (v := nI 4) d_W_law_219 (by decide) ?_
    refine yr_iadd d_W_law_220 ?_
    refine yr_sld (j := q + 4) hb h4 d_W_law_221 (nI_add _ _) (by omega) hL ?_
    refine yr_aload_n d_W_law_222 rfl ?_
    refine yr_iload d_W_law_223 rfl ?_
    refine yr_iconst (v := nI 5) d_W_law_225 (by decide) ?_
    refine yr_iadd d_W_law_226 ?_
    refine yr_sld (j := q + 5) hb h4 d_W_law_227 (nI_add _ _) (by omega) hL ?_
    refine mr_call (s := ω9.1) (F := ω9.2.2) (M := ω9.2.1) (yrunV (X := yNX) (k := 200) (As := [yi (xs (q + 1)), yi (xs (q + 2)), yi (xs (q + 3)), yi (xs (q + 4)), yi (xs (q + 5))]) (rest := []) d_W_law_228 (c_M_actJ hS k3 hn) hS.1 rfl (show yck (yMm m_W_law) m_M_act 5 = true by decide +kernel) cw_M_act (by decide +kernel) (by decide +kernel) (by decide +kernel) (by decide +kernel) (Nat.le_of_ble_eq_true rfl) (ycat_of rfl) (by show cs + 1 + 0 ≤ 718118; omega) (by show sl + 6 + 0 ≤ 6941751; omega)) (fun r M9 hp => ?_)
    rcases hp with ⟨b1, -⟩ | ⟨t2, o2, b1, b2, b3, b4, b5⟩
    · rcases b1 with z | z | z | z
      · rw [a1] at z; cases z
      · rw [a2] at z; cases z
      · rw [a3] at z; cases z
      · rw [a4] at z; cases z
    · cases Option.some.inj (a1.symm.trans b1)
      cases Option.some.inj (a2.symm.trans b2)
      rcases b5 with ⟨z, -⟩ | ⟨-, z, -⟩ | ⟨-, -, -, rfl, hp⟩
      · exact absurd a5 z
      · rcases z with z | z
        · exact absurd a6 z
        · rw [a7] at z; cases z
      · obtain ⟨w1, w2, w3⟩ := lw_back0 hK hp (by omega)
        have hvv : v = zth (zact σ o t (xs (q + 3)) (xs (q + 4)) (xs (q + 5))) 3 t := by injection a8 with a8; injection a8
        refine lw_tail_act (k := 0) (rv := _) hS k4 (w2) (fun _ => by rw [w3, hv9, hvv]) (by show cs + 1 + 0 ≤ 718118; omega) (by show sl + 6 + 0 ≤ 6941751; omega) (fun u6 => yr_widen (by show cs + 1 + 0 ≤ cs + 7; omega) (by show sl + 6 + 0 ≤ sl + 31; omega) (hk (n + 1) _ _ (some 0) u6 (by omega) (Nat.le_refl _) (w1)))
  · have hK := lw_after hI hz1 rfl
    have hK9 := hK
    obtain ⟨k1, hS, k3, k4, k5, h4⟩ := hK9
    rcases ax with ⟨rfl, ax⟩ | ⟨t, o, a1, a2, a3, a4, ⟨rfl, a5⟩ | ⟨rfl, a5, a6⟩⟩
    · refine yr_istore (ls' := [some (yr 400), some (yr 0), some (yr 200), some (yr 300), some (yi (nI q)), some (yi (wc "java/lang/IllegalArgumentException")), (u6.map yi)]) d_W_law_195 (by decide) rfl ?_
      refine yr_aload_n d_W_law_197 rfl ?_
      refine yr_aload_n d_W_law_198 rfl ?_
      refine yr_iload d_W_law_199 rfl ?_
      refine yr_iconst (v := nI 1) d_W_law_201 (by decide) ?_
      refine yr_iadd d_W_law_202 ?_
      refine yr_sld (j := q + 1) hb h4 d_W_law_203 (nI_add _ _) (by omega) hL ?_
      refine yr_aload_n d_W_law_204 rfl ?_
      refine yr_iload d_W_law_205 rfl ?_
      refine yr_iconst (v := nI 2) d_W_law_207 (by decide) ?_
      refine yr_iadd d_W_law_208 ?_
      refine yr_sld (j := q + 2) hb h4 d_W_law_209 (nI_add _ _) (by omega) hL ?_
      refine yr_aload_n d_W_law_210 rfl ?_
      refine yr_iload d_W_law_211 rfl ?_
      refine yr_iconst (v := nI 3) d_W_law_213 (by decide) ?_
      refine yr_iadd d_W_law_214 ?_
      refine yr_sld (j := q + 3) hb h4 d_W_law_215 (nI_add _ _) (by omega) hL ?_
      refine yr_aload_n d_W_law_216 rfl ?_
      refine yr_iload d_W_law_217 rfl ?_
      refine yr_iconst (v := nI 4) d_W_law_219 (by decide) ?_
      refine yr_iadd d_W_law_220 ?_
      refine yr_sld (j := q + 4) hb h4 d_W_law_221 (nI_add _ _) (by omega) hL ?_
      refine yr_aload_n d_W_law_222 rfl ?_
      refine yr_iload d_W_law_223 rfl ?_
      refine yr_iconst (v := nI 5) d_W_law_225 (by decide) ?_
      refine yr_iadd d_W_law_226 ?_
      refine yr_sld (j := q + 5) hb h4 d_W_law_227 (nI_add _ _) (by omega) hL ?_
      refine mr_call (s := ω9.1) (F := ω9.2.2) (M := ω9.2.1) (yrunV (X := yNX) (k := 200) (As := [yi (xs (q + 1)), yi (xs (q + 2)), yi (xs (q + 3)), yi (xs (q + 4)), yi (xs (q + 5))]) (rest := []) d_W_law_228 (c_M_actJ hS k3 hn) hS.1 rfl (show yck (yMm m_W_law) m_M_act 5 = true by decide +kernel) cw_M_act (by decide +kernel) (by decide +kernel) (by decide +kernel) (by decide +kernel) (Nat.le_of_ble_eq_true rfl) (ycat_of rfl) (by show cs + 1 + 0 ≤ 718118; omega) (by show sl + 6 + 0 ≤ 6941751; omega)) (fun r M9 hp => ?_)
      rcases hp with ⟨b1, rfl, rv, rfl⟩ | ⟨t2, o2, b1, b2, b3, b4, -⟩
      · skip
        refine lw_tail_act (k := (wc "java/lang/IllegalArgumentException")) (rv := _) hS k4 (yu_same _ _ _ _) (fun z => absurd z (by decide)) (by show cs + 1 + 0 ≤ 718118; omega) (by show sl + 6 + 0 ≤ 6941751; omega) (fun u6 => yr_widen (by show cs + 1 + 0 ≤ cs + 7; omega) (by show sl + 6 + 0 ≤ sl + 31; omega) (hk n _ _ (some (wc "java/lang/IllegalArgumentException")) u6 (Nat.le_refl _) (by omega) (lw_backT hK h6)))
      · rcases ax with z | z | z | z
        · rw [b1] at z; cases z
        · rw [b2] at z; cases z
        · rw [b3] at z; cases z
        · rw [b4] at z; cases z
    · refine yr_istore (ls' := [some (yr 400), some (yr 0), some (yr 200), some (yr 300), some (yi (nI q)), some (yi (wc "java/lang/UnsupportedOperationException")), (u6.map yi)]) d_W_law_195 (by decide) rfl ?_
      refine yr_aload_n d_W_law_197 rfl ?_
      refine yr_aload_n d_W_law_198 rfl ?_
      refine yr_iload d_W_law_199 rfl ?_
      refine yr_iconst (v := nI 1) d_W_law_201 (by decide) ?_
      refine yr_iadd d_W_law_202 ?_
      refine yr_sld (j := q + 1) hb h4 d_W_law_203 (nI_add _ _) (by omega) hL ?_
      refine yr_aload_n d_W_law_204 rfl ?_
      refine yr_iload d_W_law_205 rfl ?_
      refine yr_iconst (v := nI 2) d_W_law_207 (by decide) ?_
      refine yr_iadd d_W_law_208 ?_
      refine yr_sld (j := q + 2) hb h4 d_W_law_209 (nI_add _ _) (by omega) hL ?_
      refine yr_aload_n d_W_law_210 rfl ?_
      refine yr_iload d_W_law_211 rfl ?_
      refine yr_iconst (v := nI 3) d_W_law_213 (by decide) ?_
      refine yr_iadd d_W_law_214 ?_
      refine yr_sld (j := q + 3) hb h4 d_W_law_215 (nI_add _ _) (by omega) hL ?_
      refine yr_aload_n d_W_law_216 rfl ?_
      refine yr_iload d_W_law_217 rfl ?_
      refine yr_iconst (v := nI 4) d_W_law_219 (by decide) ?_
      refine yr_iadd d_W_law_220 ?_
      refine yr_sld (j := q + 4) hb h4 d_W_law_221 (nI_add _ _) (by omega) hL ?_
      refine yr_aload_n d_W_law_222 rfl ?_
      refine yr_iload d_W_law_223 rfl ?_
      refine yr_iconst (v := nI 5) d_W_law_225 (by decide) ?_
      refine yr_iadd d_W_law_226 ?_
      refine yr_sld (j := q + 5) hb h4 d_W_law_227 (nI_add _ _) (by omega) hL ?_
      refine mr_call (s := ω9.1) (F := ω9.2.2) (M := ω9.2.1) (yrunV (X := yNX) (k := 200) (As := [yi (xs (q + 1)), yi (xs (q + 2)), yi (xs (q + 3)), yi (xs (q + 4)), yi (xs (q + 5))]) (rest := []) d_W_law_228 (c_M_actJ hS k3 hn) hS.1 rfl (show yck (yMm m_W_law) m_M_act 5 = true by decide +kernel) cw_M_act (by decide +kernel) (by decide +kernel) (by decide +kernel) (by decide +kernel) (Nat.le_of_ble_eq_true rfl) (ycat_of rfl) (by show cs + 1 + 0 ≤ 718118; omega) (by show sl + 6 + 0 ≤ 6941751; omega)) (fun r M9 hp => ?_)
      rcases hp with ⟨b1, -⟩ | ⟨t2, o2, b1, b2, b3, b4, b5⟩
      · rcases b1 with z | z | z | z
        · rw [a1] at z; cases z
        · rw [a2] at z; cases z
        · rw [a3] at z; cases z
        · rw [a4] at z; cases z
      · cases Option.some.inj (a1.symm.trans b1)
        cases Option.some.inj (a2.symm.trans b2)
        rcases b5 with ⟨-, rfl, rv, rfl⟩ | ⟨z, -⟩ | ⟨z, -⟩
        · rw [yu_26]
          refine lw_tail_act (k := (wc "java/lang/UnsupportedOperationException")) (rv := _) hS k4 (yu_same _ _ _ _) (fun z => absurd z (by decide)) (by show cs + 1 + 0 ≤ 718118; omega) (by show sl + 6 + 0 ≤ 6941751; omega) (fun u6 => yr_widen (by show cs + 1 + 0 ≤ cs + 7; omega) (by show sl + 6 + 0 ≤ sl + 31; omega) (hk n _ _ (some (wc "java/lang/UnsupportedOperationException")) u6 (Nat.le_refl _) (by omega) (lw_backT hK h6)))
        · exact absurd z a5
        · exact absurd z a5
    · refine yr_istore (ls' := [some (yr 400), some (yr 0), some (yr 200), some (yr 300), some (yi (nI q)), some (yi (wc "java/lang/IllegalStateException")), (u6.map yi)]) d_W_law_195 (by decide) rfl ?_
      refine yr_aload_n d_W_law_197 rfl ?_
      refine yr_aload_n d_W_law_198 rfl ?_
      refine yr_iload d_W_law_199 rfl ?_
      refine yr_iconst (v := nI 1) d_W_law_201 (by decide) ?_
      refine yr_iadd d_W_law_202 ?_
      refine yr_sld (j := q + 1) hb h4 d_W_law_203 (nI_add _ _) (by omega) hL ?_
      refine yr_aload_n d_W_law_204 rfl ?_
      refine yr_iload d_W_law_205 rfl ?_
      refine yr_iconst (v := nI 2) d_W_law_207 (by decide) ?_
      refine yr_iadd d_W_law_208 ?_
      refine yr_sld (j := q + 2) hb h4 d_W_law_209 (nI_add _ _) (by omega) hL ?_
      refine yr_aload_n d_W_law_210 rfl ?_
      refine yr_iload d_W_law_211 rfl ?_
      refine yr_iconst (v := nI 3) d_W_law_213 (by decide) ?_
      refine yr_iadd d_W_law_214 ?_
      refine yr_sld (j := q + 3) hb h4 d_W_law_215 (nI_add _ _) (by omega) hL ?_
      refine yr_aload_n d_W_law_216 rfl ?_
      refine yr_iload d_W_law_217 rfl ?_
      refine yr_iconst (v := nI 4) d_W_law_219 (by decide) ?_
      refine yr_iadd d_W_law_220 ?_
      refine yr_sld (j := q + 4) hb h4 d_W_law_221 (nI_add _ _) (by omega) hL ?_
      refine yr_aload_n d_W_law_222 rfl ?_
      refine yr_iload d_W_law_223 rfl ?_
      refine yr_iconst (v := nI 5) d_W_law_225 (by decide) ?_
      refine yr_iadd d_W_law_226 ?_
      refine yr_sld (j := q + 5) hb h4 d_W_law_227 (nI_add _ _) (by omega) hL ?_
      refine mr_call (s := ω9.1) (F := ω9.2.2) (M := ω9.2.1) (yrunV (X := yNX) (k := 200) (As := [yi (xs (q + 1)), yi (xs (q + 2)), yi (xs (q + 3)), yi (xs (q + 4)), yi (xs (q + 5))]) (rest := []) d_W_law_228 (c_M_actJ hS k3 hn) hS.1 rfl (show yck (yMm m_W_law) m_M_act 5 = true by decide +kernel) cw_M_act (by decide +kernel) (by decide +kernel) (by decide +kernel) (by decide +kernel) (Nat.le_of_ble_eq_true rfl) (ycat_of rfl) (by show cs + 1 + 0 ≤ 718118; omega) (by show sl + 6 + 0 ≤ 6941751; omega)) (fun r M9 hp => ?_)
      rcases hp with ⟨b1, -⟩ | ⟨t2, o2, b1, b2, b3, b4, b5⟩
      · rcases b1 with z | z | z | z
        · rw [a1] at z; cases z
        · rw [a2] at z; cases z
        · rw [a3] at z; cases z
        · rw [a4] at z; cases z
      · cases Option.some.inj (a1.symm.trans b1)
        cases Option.some.inj (a2.symm.trans b2)
        rcases b5 with ⟨z, -⟩ | ⟨-, -, rfl, rv, rfl⟩ | ⟨-, z1, z2, -⟩
        · exact absurd a5 z
        · rw [yu_26]
          refine lw_tail_act (k := (wc "java/lang/IllegalStateException")) (rv := _) hS k4 (yu_same _ _ _ _) (fun z => absurd z (by decide)) (by show cs + 1 + 0 ≤ 718118; omega) (by show sl + 6 + 0 ≤ 6941751; omega) (fun u6 => yr_widen (by show cs + 1 + 0 ≤ cs + 7; omega) (by show sl + 6 + 0 ≤ sl + 31; omega) (hk n _ _ (some (wc "java/lang/IllegalStateException")) u6 (Nat.le_refl _) (by omega) (lw_backT hK h6)))
        · rcases a6 with z | z
          · exact absurd z1 z
          · rw [z2] at z; cases z

theorem lw_interrupt {G : yG} {b L q : Nat} {xs : Nat → Int32} {cs sl : Nat} (hT : (yGl G).stackTraces = false) {n : Nat} {σ : zS} {ω : yW} {u5 u6 : Option Int32} (hI : lwI n σ ω) (hb : b < yGb G) (hq : q + 6 ≤ L) (hL : L ≤ 3072) (hn : n + 3 < 1000000) (hcs : cs + 7 ≤ 718118) (hsl : sl + 31 ≤ 6941751) (hk : ∀ (n' : Nat) (σ' : zS) (ω' : yW) (u5 u6 : Option Int32), n ≤ n' → n' ≤ n + 1 → lwI n' σ' ω' → yWW G m_W_law (yQN (lwG G b L xs) lwQ) (fun _ => none) 598 [some (yr 400), some (yr 0), some (yr 200), some (yr 300), some (yi (nI q)), (u5.map yi), (u6.map yi)] [] ω' (cs + 7) (sl + 31)) : yWW G m_W_law (yQN (lwG G b L xs) lwQ) (fun _ => none) 320 [some (yr 400), some (yr 0), some (yr 200), some (yr 300), some (yi (nI q)), (u5.map yi), (u6.map yi)] [] ω cs sl := by
  have hI9 := hI
  obtain ⟨hz, hS0, hR, h300, hfr, h4, h6⟩ := hI9
  refine yr_aload_n d_W_law_320 rfl ?_
  refine yr_aload_n d_W_law_321 rfl ?_
  refine yr_iload d_W_law_322 rfl ?_
  refine yr_iconst (v := nI 1) d_W_law_324 (by decide) ?_
  refine yr_iadd d_W_law_325 ?_
  refine yr_sld (j := q + 1) hb h4 d_W_law_326 (nI_add _ _) (by omega) hL ?_
  refine yr_callH (fun s ad0 h => h.1) (As := [yr 0, yi (xs (q + 1))]) (rest := []) d_W_law_327 (c_W_interrupt hT hz h300 (c_Y_interrupt hT (zIA_J n) (zIB_J n) hR.1) (fun r σ' h => by obtain ⟨t, -, rfl, -⟩ := h; rfl) (fun E σ' h => h.1)) (show yck (yMm m_W_law) m_W_interrupt 2 = true by decide +kernel) (by decide +kernel) (by decide +kernel) (by decide +kernel) (by decide +kernel) (Nat.le_of_ble_eq_true rfl) (ycat_of rfl) (by show cs + 1 ≤ 718118; omega) (by show sl + 6 ≤ 6941751; omega) (fun k h => absurd rfl h) (fun r ω9 hp => wsh (wHv_sh hp)) (fun r ω9 hp => ?_)
  rcases hp with ⟨σ', ω9, hz1, ⟨t, a1, a4, rfl⟩, rfl, rfl⟩ | ⟨E, σ', ω9, hz1, ⟨rfl, rfl, a1⟩, rfl, rfl⟩
  · have hK := lw_after hI hz1 zint_zn
    have hK9 := hK
    obtain ⟨k1, hS, k3, k4, k5, h4⟩ := hK9
    refine yr_istore (ls' := [some (yr 400), some (yr 0), some (yr 200), some (yr 300), some (yi (nI q)), some (yi 0), (u6.map yi)]) d_W_law_330 (by decide) rfl ?_
    refine yr_aload_n d_W_law_332 rfl ?_
    refine yr_aload_n d_W_law_333 rfl ?_
    refine yr_iload d_W_law_334 rfl ?_
    refine yr_iconst (v := nI 1) d_W_law_336 (by decide) ?_
    refine yr_iadd d_W_law_337 ?_
    refine yr_sld (j := q + 1) hb h4 d_W_law_338 (nI_add _ _) (by omega) hL ?_
    refine mr_call (s := ω9.1) (F := ω9.2.2) (M := ω9.2.1) (yrunV (X := yNX) (k := 200) (As := [yi (xs (q + 1))]) (rest := []) d_W_law_339 (c_M_interruptJ hS k3) hS.1 rfl (show yck (yMm m_W_law) m_M_interrupt 1 = true by decide +kernel) cw_M_interrupt (by decide +kernel) (by decide +kernel) (by decide +kernel) (by decide +kernel) (Nat.le_of_ble_eq_true rfl) (ycat_of rfl) (by show cs + 1 + 0 ≤ 718118; omega) (by show sl + 6 + 0 ≤ 6941751; omega)) (fun r M9 hp => ?_)
    obtain ⟨rfl, hp⟩ := hp
    rcases hp with ⟨b1, -⟩ | ⟨t2, b1, hp⟩
    · rw [a1] at b1; cases b1
    · cases Option.some.inj (a1.symm.trans b1)
      obtain ⟨w1, w2, w3⟩ := lw_back0 hK hp h6
      refine yr_aload_n d_W_law_342 rfl ?_
      refine mr_call (yrunV (X := yNX) (k := 200) (As := []) (rest := []) d_W_law_343 (c_M_thrown hS) hS.1 rfl (show yck (yMm m_W_law) m_M_thrown 0 = true by decide +kernel) cw_M_thrown (by decide +kernel) (by decide +kernel) (by decide +kernel) (by decide +kernel) (Nat.le_of_ble_eq_true rfl) (ycat_of rfl) (by show cs + 1 + 0 + 0 ≤ 718118; omega) (by show sl + 6 + 0 + 0 ≤ 6941751; omega)) (fun r9 M8 hp9 => ?_)
      obtain ⟨rfl, rfl⟩ := hp9
      refine yr_iload d_W_law_346 rfl ?_
      refine yr_icmp_eq (tgt := 353) d_W_law_348 (by decide) (fun _ => ?_) (fun z => absurd (w2) z)
      refine yr_goto (tgt := 598) d_W_law_353 (by decide) ?_
      exact yr_widen (by show cs + 1 + 0 + 0 ≤ cs + 7; omega) (by show sl + 6 + 0 + 0 ≤ sl + 31; omega) (hk n _ _ (some 0) u6 (Nat.le_refl _) (by omega) (w1))
  · have hK := lw_after hI hz1 rfl
    have hK9 := hK
    obtain ⟨k1, hS, k3, k4, k5, h4⟩ := hK9
    refine yr_istore (ls' := [some (yr 400), some (yr 0), some (yr 200), some (yr 300), some (yi (nI q)), some (yi (wc "java/lang/IllegalArgumentException")), (u6.map yi)]) d_W_law_330 (by decide) rfl ?_
    refine yr_aload_n d_W_law_332 rfl ?_
    refine yr_aload_n d_W_law_333 rfl ?_
    refine yr_iload d_W_law_334 rfl ?_
    refine yr_iconst (v := nI 1) d_W_law_336 (by decide) ?_
    refine yr_iadd d_W_law_337 ?_
    refine yr_sld (j := q + 1) hb h4 d_W_law_338 (nI_add _ _) (by omega) hL ?_
    refine mr_call (s := ω9.1) (F := ω9.2.2) (M := ω9.2.1) (yrunV (X := yNX) (k := 200) (As := [yi (xs (q + 1))]) (rest := []) d_W_law_339 (c_M_interruptJ hS k3) hS.1 rfl (show yck (yMm m_W_law) m_M_interrupt 1 = true by decide +kernel) cw_M_interrupt (by decide +kernel) (by decide +kernel) (by decide +kernel) (by decide +kernel) (Nat.le_of_ble_eq_true rfl) (ycat_of rfl) (by show cs + 1 + 0 ≤ 718118; omega) (by show sl + 6 + 0 ≤ 6941751; omega)) (fun r M9 hp => ?_)
    obtain ⟨rfl, hp⟩ := hp
    rcases hp with ⟨b1, rfl⟩ | ⟨t2, b1, hp⟩
    · skip
      refine yr_aload_n d_W_law_342 rfl ?_
      refine mr_call (yrunV (X := yNX) (k := 200) (As := []) (rest := []) d_W_law_343 (c_M_thrown hS) hS.1 rfl (show yck (yMm m_W_law) m_M_thrown 0 = true by decide +kernel) cw_M_thrown (by decide +kernel) (by decide +kernel) (by decide +kernel) (by decide +kernel) (Nat.le_of_ble_eq_true rfl) (ycat_of rfl) (by show cs + 1 + 0 + 0 ≤ 718118; omega) (by show sl + 6 + 0 + 0 ≤ 6941751; omega)) (fun r9 M8 hp9 => ?_)
      obtain ⟨rfl, rfl⟩ := hp9
      refine yr_iload d_W_law_346 rfl ?_
      refine yr_icmp_eq (tgt := 353) d_W_law_348 (by decide) (fun _ => ?_) (fun z => absurd (yu_same _ _ _ _) z)
      refine yr_goto (tgt := 598) d_W_law_353 (by decide) ?_
      exact yr_widen (by show cs + 1 + 0 + 0 ≤ cs + 7; omega) (by show sl + 6 + 0 + 0 ≤ sl + 31; omega) (hk n _ _ (some (wc "java/lang/IllegalArgumentException")) u6 (Nat.le_refl _) (by omega) (lw_backT hK h6))
    · rw [a1] at b1; cases b1

theorem mk_bad {c s : Nat} {x y : Int32} (h1 : c < 6) (h2 : 1 ≤ s) (h3 : s ≤ 3) (h4 : x = nI c) (h5 : y = nI s) : ¬ (x < 0 ∨ 5 < x ∨ y < 1 ∨ ¬ y ≤ 3) := by
  subst h4
  subst h5
  rw [show (5 : Int32) = nI 5 from rfl, show (1 : Int32) = nI 1 from rfl, show (3 : Int32) = nI 3 from rfl, nI_ltI (by decide) (by omega), nI_ltI (by omega) (by decide), nI_leI (by omega) (by decide)]
  rintro (z | z | z | z)
  · exact absurd z (nI_pos (by omega))
  · omega
  · omega
  · omega

theorem lw_make {G : yG} {b L q : Nat} {xs : Nat → Int32} {cs sl : Nat} (hT : (yGl G).stackTraces = false) {n : Nat} {σ : zS} {ω : yW} {u5 u6 : Option Int32} (hI : lwI n σ ω) (hb : b < yGb G) (hq : q + 6 ≤ L) (hL : L ≤ 3072) (hn : n + 3 < 1000000) (hcs : cs + 7 ≤ 718118) (hsl : sl + 31 ≤ 6941751) (hk : ∀ (n' : Nat) (σ' : zS) (ω' : yW) (u5 u6 : Option Int32), n ≤ n' → n' ≤ n + 1 → lwI n' σ' ω' → yWW G m_W_law (yQN (lwG G b L xs) lwQ) (fun _ => none) 598 [some (yr 400), some (yr 0), some (yr 200), some (yr 300), some (yi (nI q)), (u5.map yi), (u6.map yi)] [] ω' (cs + 7) (sl + 31)) : yWW G m_W_law (yQN (lwG G b L xs) lwQ) (fun _ => none) 92 [some (yr 400), some (yr 0), some (yr 200), some (yr 300), some (yi (nI q)), (u5.map yi), (u6.map yi)] [] ω cs sl := by
  have hI9 := hI
  obtain ⟨hz, hS0, hR, h300, hfr, h4, h6⟩ := hI9
  refine yr_aload_n d_W_law_92 rfl ?_
  refine yr_aload_n d_W_law_93 rfl ?_
  refine yr_iload d_W_law_94 rfl ?_
  refine yr_iconst (v := nI 1) d_W_law_96 (by decide) ?_
  refine yr_iadd d_W_law_97 ?_
  refine yr_sld (j := q + 1) hb h4 d_W_law_98 (nI_add _ _) (by omega) hL ?_
  refine yr_aload_n d_W_law_99 rfl ?_
  refine yr_iload d_W_law_100 rfl ?_
  refine yr_iconst (v := nI 2) d_W_law_102 (by decide) ?_
  refine yr_iadd d_W_law_103 ?_
  refine yr_sld (j := q + 2) hb h4 d_W_law_104 (nI_add _ _) (by omega) hL ?_
  refine yr_aload_n d_W_law_105 rfl ?_
  refine yr_callH (fun s ad0 h => h.1) (As := [yr 0, yi (xs (q + 1)), yi (xs (q + 2)), yr 300]) (rest := []) d_W_law_106 (c_W_make hT hz h300 (fun h6 j hj => hfr _ j (Nat.le_refl _) h6 hj)) (show yck (yMm m_W_law) m_W_make 4 = true by decide +kernel) (by decide +kernel) (by decide +kernel) (by decide +kernel) (by decide +kernel) (Nat.le_of_ble_eq_true rfl) (ycat_of rfl) (by show cs + 7 ≤ 718118; omega) (by show sl + 31 ≤ 6941751; omega) (fun k h => absurd rfl h) (fun r ω9 hp => ?_) (fun r ω9 hp => ?_)
  · rcases hp with ⟨c, s9, -, -, -, -, -, hn6, -, rfl⟩ | ⟨rfl, -⟩ | ⟨rfl, -⟩
    · refine ⟨fun k h => wMk_none (c := c) (o := zn σ) (s := s9) h, fun k hk9 => ?_⟩
      have e4 : (ysi (wMake ω c (zn σ) s9) 300 0 (nI (zn σ))).1 400 = none := (wMk_sh (ω := ω) (c := c) (o := zn σ) (s := s9) (by unfold kP; omega)).trans h4
      by_cases e : k = 400
      · rw [e]
        exact Or.inr e4
      · refine Or.inl ?_
        rcases hk9 with hk9 | hk9
        · simp at hk9
        · have hk9 : k = 0 ∨ k = 200 ∨ k = 300 := by
            cases u5 <;> cases u6 <;> simp [e] at hk9 <;> exact hk9
          rcases hk9 with rfl | rfl | rfl
          · rw [hz.1.1]; exact fun z => nomatch z
          · rw [hS0.1]; exact fun z => nomatch z
          · rw [h300]; exact fun z => nomatch z
    · exact wsh rfl
    · exact wsh rfl
  rcases hp with ⟨c, s9, a1, a2, a3, a4, a5, a6, rfl, rfl⟩ | ⟨rfl, rfl, a1⟩ | ⟨rfl, rfl, c, s9, a1, a2, a3, a4, a5, a6⟩
  · have hsh : ∀ k, 200 ≤ k → (wMake ω c (zn σ) s9).1 k = ω.1 k := fun k hk9 => wMk_sh (ω := ω) (c := c) (o := zn σ) (s := s9) (by unfold kP; omega)
    have hK0 : lwK n σ (zmk σ c s9) (wMake ω c (zn σ) s9) := by
      refine ⟨zC_make hz a1 a2 a3 a6, mSh_of hS0 (fun k a _ => hsh k a) (wMake_o a1 200 (by unfold kP; omega) (by decide) (by decide)).2, mRS_cells hR (fun K a _ => (wMake_o a1 K (by unfold kP; omega) (by omega) (by omega)).1), (hsh 300 (by omega)).trans h300, fun o j b1 b2 b3 => ?_, (hsh 400 (by omega)).trans h4⟩
      have b1 : zn σ + 1 ≤ o := b1
      exact (wMk_sh (ω := ω) (c := c) (o := zn σ) (s := s9) (by unfold kP; omega)).trans (hfr o j (by omega) b2 b3)
    have hK := lw_out (v := nI (zn σ)) hK0
    have hv9 : (ysi (wMake ω c (zn σ) s9) 300 0 (nI (zn σ))).2.1 300 0 = nI (zn σ) := yu_same (wMake ω c (zn σ) s9).2.1 300 0 _
    generalize ysi (wMake ω c (zn σ) s9) 300 0 (nI (zn σ)) = ω9 at hK hv9 ⊢
    have hK9 := hK
    obtain ⟨k1, hS, k3, k4, k5, h4⟩ := hK9
    refine yr_istore (ls' := [some (yr 400), some (yr 0), some (yr 200), some (yr 300), some (yi (nI q)), some (yi 0), (u6.map yi)]) d_W_law_109 (by decide) rfl ?_
    refine yr_aload_n d_W_law_111 rfl ?_
    refine yr_aload_n d_W_law_112 rfl ?_
    refine yr_iload d_W_law_113 rfl ?_
    refine yr_iconst (v := nI 1) d_W_law_115 (by decide) ?_
    refine yr_iadd d_W_law_116 ?_
    refine yr_sld (j := q + 1) hb h4 d_W_law_117 (nI_add _ _) (by omega) hL ?_
    refine yr_aload_n d_W_law_118 rfl ?_
    refine yr_iload d_W_law_119 rfl ?_
    refine yr_iconst (v := nI 2) d_W_law_121 (by decide) ?_
    refine yr_iadd d_W_law_122 ?_
    refine yr_sld (j := q + 2) hb h4 d_W_law_123 (nI_add _ _) (by omega) hL ?_
    refine mr_call (s := ω9.1) (F := ω9.2.2) (M := ω9.2.1) (yrunV (X := yNX) (k := 200) (As := [yi (xs (q + 1)), yi (xs (q + 2))]) (rest := []) d_W_law_124 (c_M_make hS (n := zn σ) hR.1.1.2.2.2.1 k3.2.1.2.2.2.1) hS.1 rfl (show yck (yMm m_W_law) m_M_make 2 = true by decide +kernel) cw_M_make (by decide +kernel) (by decide +kernel) (by decide +kernel) (by decide +kernel) (Nat.le_of_ble_eq_true rfl) (ycat_of rfl) (by show cs + 7 + 0 ≤ 718118; omega) (by show sl + 31 + 0 ≤ 6941751; omega)) (fun r M9 hp => ?_)
    rcases hp with ⟨b1, -⟩ | ⟨c2, s2, b1, b2, b3, b4, b5, ⟨b6, -⟩ | ⟨b6, rfl, rfl⟩⟩
    · exact absurd b1 (mk_bad a1 a2 a3 a4 a5)
    · omega
    · have ec : c = c2 := (nI_eq (by omega) (by omega)).mp (a4.symm.trans b4)
      have es : s9 = s2 := (nI_eq (by omega) (by omega)).mp (a5.symm.trans b5)
      subst ec
      subst es
      obtain ⟨w1, w2, w3⟩ := lw_back0 hK (mRS_make k3 h6 a1 a2 a3 a6) h6
      refine lw_tail_make (k := 0) (rv := _) hS k4 (w2) (fun _ => by rw [w3, hv9]) (by show cs + 7 + 0 ≤ 718118; omega) (by show sl + 31 + 0 ≤ 6941751; omega) (fun u6 => yr_widen (by show cs + 7 + 0 ≤ cs + 7; omega) (by show sl + 31 + 0 ≤ sl + 31; omega) (hk n _ _ (some 0) u6 (Nat.le_refl _) (by omega) (w1)))
  · have hK : lwK n σ σ ω9 := ⟨hz, hS0, hR, h300, hfr, h4⟩
    have hK9 := hK
    obtain ⟨k1, hS, k3, k4, k5, -⟩ := hK9
    refine yr_istore (ls' := [some (yr 400), some (yr 0), some (yr 200), some (yr 300), some (yi (nI q)), some (yi 1), (u6.map yi)]) d_W_law_109 (by decide) rfl ?_
    refine yr_aload_n d_W_law_111 rfl ?_
    refine yr_aload_n d_W_law_112 rfl ?_
    refine yr_iload d_W_law_113 rfl ?_
    refine yr_iconst (v := nI 1) d_W_law_115 (by decide) ?_
    refine yr_iadd d_W_law_116 ?_
    refine yr_sld (j := q + 1) hb h4 d_W_law_117 (nI_add _ _) (by omega) hL ?_
    refine yr_aload_n d_W_law_118 rfl ?_
    refine yr_iload d_W_law_119 rfl ?_
    refine yr_iconst (v := nI 2) d_W_law_121 (by decide) ?_
    refine yr_iadd d_W_law_122 ?_
    refine yr_sld (j := q + 2) hb h4 d_W_law_123 (nI_add _ _) (by omega) hL ?_
    refine mr_call (s := ω9.1) (F := ω9.2.2) (M := ω9.2.1) (yrunV (X := yNX) (k := 200) (As := [yi (xs (q + 1)), yi (xs (q + 2))]) (rest := []) d_W_law_124 (c_M_make hS (n := zn σ) hR.1.1.2.2.2.1 k3.2.1.2.2.2.1) hS.1 rfl (show yck (yMm m_W_law) m_M_make 2 = true by decide +kernel) cw_M_make (by decide +kernel) (by decide +kernel) (by decide +kernel) (by decide +kernel) (Nat.le_of_ble_eq_true rfl) (ycat_of rfl) (by show cs + 7 + 0 ≤ 718118; omega) (by show sl + 31 + 0 ≤ 6941751; omega)) (fun r M9 hp => ?_)
    rcases hp with ⟨b1, rfl, rv, rfl⟩ | ⟨c2, s2, b1, b2, b3, b4, b5, -⟩
    · skip
      refine lw_tail_make (k := 1) (rv := _) hS k4 (yu_same _ _ _ _) (fun z => absurd z (by decide)) (by show cs + 7 + 0 ≤ 718118; omega) (by show sl + 31 + 0 ≤ 6941751; omega) (fun u6 => yr_widen (by show cs + 7 + 0 ≤ cs + 7; omega) (by show sl + 31 + 0 ≤ sl + 31; omega) (hk n _ _ (some 1) u6 (Nat.le_refl _) (by omega) (lw_backT hK h6)))
    · exact absurd (or_assoc.mp a1) (mk_bad b1 b2 b3 b4 b5)
  · have hK : lwK n σ σ ω9 := ⟨hz, hS0, hR, h300, hfr, h4⟩
    have hK9 := hK
    obtain ⟨k1, hS, k3, k4, k5, -⟩ := hK9
    refine yr_istore (ls' := [some (yr 400), some (yr 0), some (yr 200), some (yr 300), some (yi (nI q)), some (yi 2), (u6.map yi)]) d_W_law_109 (by decide) rfl ?_
    refine yr_aload_n d_W_law_111 rfl ?_
    refine yr_aload_n d_W_law_112 rfl ?_
    refine yr_iload d_W_law_113 rfl ?_
    refine yr_iconst (v := nI 1) d_W_law_115 (by decide) ?_
    refine yr_iadd d_W_law_116 ?_
    refine yr_sld (j := q + 1) hb h4 d_W_law_117 (nI_add _ _) (by omega) hL ?_
    refine yr_aload_n d_W_law_118 rfl ?_
    refine yr_iload d_W_law_119 rfl ?_
    refine yr_iconst (v := nI 2) d_W_law_121 (by decide) ?_
    refine yr_iadd d_W_law_122 ?_
    refine yr_sld (j := q + 2) hb h4 d_W_law_123 (nI_add _ _) (by omega) hL ?_
    refine mr_call (s := ω9.1) (F := ω9.2.2) (M := ω9.2.1) (yrunV (X := yNX) (k := 200) (As := [yi (xs (q + 1)), yi (xs (q + 2))]) (rest := []) d_W_law_124 (c_M_make hS (n := zn σ) hR.1.1.2.2.2.1 k3.2.1.2.2.2.1) hS.1 rfl (show yck (yMm m_W_law) m_M_make 2 = true by decide +kernel) cw_M_make (by decide +kernel) (by decide +kernel) (by decide +kernel) (by decide +kernel) (Nat.le_of_ble_eq_true rfl) (ycat_of rfl) (by show cs + 7 + 0 ≤ 718118; omega) (by show sl + 31 + 0 ≤ 6941751; omega)) (fun r M9 hp => ?_)
    rcases hp with ⟨b1, -⟩ | ⟨c2, s2, b1, b2, b3, b4, b5, ⟨b6, rfl, rv, rfl⟩ | ⟨b6, -⟩⟩
    · exact absurd b1 (mk_bad a1 a2 a3 a4 a5)
    · rw [yu_26]
      refine lw_tail_make (k := 2) (rv := _) hS k4 (yu_same _ _ _ _) (fun z => absurd z (by decide)) (by show cs + 7 + 0 ≤ 718118; omega) (by show sl + 31 + 0 ≤ 6941751; omega) (fun u6 => yr_widen (by show cs + 7 + 0 ≤ cs + 7; omega) (by show sl + 31 + 0 ≤ sl + 31; omega) (hk n _ _ (some 2) u6 (Nat.le_refl _) (by omega) (lw_backT hK h6)))
    · exact absurd ((nI_ltI (by omega) (by decide)).mpr b6) a6

theorem lw_stuck {G : yG} {b L q : Nat} {xs : Nat → Int32} {cs sl : Nat} (hT : (yGl G).stackTraces = false) {n : Nat} {σ : zS} {ω : yW} {u5 u6 : Option Int32} (hI : lwI n σ ω) (hb : b < yGb G) (hq : q + 6 ≤ L) (hL : L ≤ 3072) (hn : n + 3 < 1000000) (hcs : cs + 7 ≤ 718118) (hsl : sl + 31 ≤ 6941751) (hk : ∀ (n' : Nat) (σ' : zS) (ω' : yW) (u5 u6 : Option Int32), n ≤ n' → n' ≤ n + 1 → lwI n' σ' ω' → yWW G m_W_law (yQN (lwG G b L xs) lwQ) (fun _ => none) 598 [some (yr 400), some (yr 0), some (yr 200), some (yr 300), some (yi (nI q)), (u5.map yi), (u6.map yi)] [] ω' (cs + 7) (sl + 31)) : yWW G m_W_law (yQN (lwG G b L xs) lwQ) (fun _ => none) 560 [some (yr 400), some (yr 0), some (yr 200), some (yr 300), some (yi (nI q)), (u5.map yi), (u6.map yi)] [] ω cs sl := by
  have hI9 := hI
  obtain ⟨hz, hS0, hR, h300, hfr, h4, h6⟩ := hI9
  refine yr_aload_n d_W_law_560 rfl ?_
  refine yr_callN (yrunV (X := yNX) (k := 0) (As := []) (rest := []) d_W_law_561 (c_Y_stuck ω hz) hz.1.1 rfl (show yck (yMm m_W_law) m_Y_stuck 0 = true by decide +kernel) cw_Y_stuck (by decide +kernel) (by decide +kernel) (by decide +kernel) (by decide +kernel) (Nat.le_of_ble_eq_true rfl) (ycat_of rfl) (by show cs + 0 ≤ 718118; omega) (by show sl + 0 ≤ 6941751; omega)) (fun k h => absurd rfl h) (fun r ω1 ⟨σ', hz1, _⟩ => wsame hz1) (fun r ω9 hp => ?_)
  obtain ⟨σ', hz1, rfl, rfl⟩ := hp
  have hK := lw_after hI hz1 rfl
  have hK9 := hK
  obtain ⟨k1, hS, k3, k4, k5, h4⟩ := hK9
  refine yr_aload_n d_W_law_564 rfl ?_
  refine mr_call (s := ω9.1) (F := ω9.2.2) (M := ω9.2.1) (yrunV (X := yNX) (k := 200) (As := []) (rest := [yi (zcnt (fun t => zcomes σ' t) 6)]) d_W_law_565 (c_M_stuck hS (lean_eq k3.2.1 hR.1.1)) hS.1 rfl (show yck (yMm m_W_law) m_M_stuck 0 = true by decide +kernel) cw_M_stuck (by decide +kernel) (by decide +kernel) (by decide +kernel) (by decide +kernel) (Nat.le_of_ble_eq_true rfl) (ycat_of rfl) (by show cs + 0 + 0 ≤ 718118; omega) (by show sl + 0 + 0 ≤ 6941751; omega)) (fun r M9 hp => ?_)
  obtain ⟨rfl, rfl⟩ := hp
  refine yr_icmp_eq (tgt := 598) d_W_law_568 (by decide) (fun _ => ?_) (fun z => absurd (stuck_eq k3.2.1 hR.1.1).symm z)
  exact yr_widen (by show cs + 0 + 0 ≤ cs + 7; omega) (by show sl + 0 + 0 ≤ sl + 31; omega) (hk n _ _ u5 u6 (Nat.le_refl _) (by omega) (lw_backT hK h6))

theorem lw_count {G : yG} {b L q : Nat} {xs : Nat → Int32} {cs sl : Nat} (hT : (yGl G).stackTraces = false) {n : Nat} {σ : zS} {ω : yW} {u5 u6 : Option Int32} (hI : lwI n σ ω) (hb : b < yGb G) (hq : q + 6 ≤ L) (hL : L ≤ 3072) (hn : n + 3 < 1000000) (hcs : cs + 7 ≤ 718118) (hsl : sl + 31 ≤ 6941751) (hk : ∀ (n' : Nat) (σ' : zS) (ω' : yW) (u5 u6 : Option Int32), n ≤ n' → n' ≤ n + 1 → lwI n' σ' ω' → yWW G m_W_law (yQN (lwG G b L xs) lwQ) (fun _ => none) 598 [some (yr 400), some (yr 0), some (yr 200), some (yr 300), some (yi (nI q)), (u5.map yi), (u6.map yi)] [] ω' (cs + 7) (sl + 31)) : yWW G m_W_law (yQN (lwG G b L xs) lwQ) (fun _ => none) 573 [some (yr 400), some (yr 0), some (yr 200), some (yr 300), some (yi (nI q)), (u5.map yi), (u6.map yi)] [] ω cs sl := by
  have hI9 := hI
  obtain ⟨hz, hS0, hR, h300, hfr, h4, h6⟩ := hI9
  refine yr_aload_n d_W_law_573 rfl ?_
  refine yr_aload_n d_W_law_574 rfl ?_
  refine yr_iload d_W_law_575 rfl ?_
  refine yr_iconst (v := nI 1) d_W_law_577 (by decide) ?_
  refine yr_iadd d_W_law_578 ?_
  refine yr_sld (j := q + 1) hb h4 d_W_law_579 (nI_add _ _) (by omega) hL ?_
  refine yr_callN (yrunV (X := yNX) (k := 0) (As := [yi (xs (q + 1))]) (rest := []) d_W_law_580 (c_Y_count ω hz) hz.1.1 rfl (show yck (yMm m_W_law) m_Y_count 1 = true by decide +kernel) cw_Y_count (by decide +kernel) (by decide +kernel) (by decide +kernel) (by decide +kernel) (Nat.le_of_ble_eq_true rfl) (ycat_of rfl) (by show cs + 0 ≤ 718118; omega) (by show sl + 0 ≤ 6941751; omega)) (fun k h => absurd rfl h) (fun r ω1 ⟨σ', hz1, _⟩ => wsame hz1) (fun r ω9 hp => ?_)
  obtain ⟨σ', hz1, rfl, rfl⟩ := hp
  have hK := lw_after hI hz1 rfl
  have hK9 := hK
  obtain ⟨k1, hS, k3, k4, k5, h4⟩ := hK9
  refine yr_aload_n d_W_law_583 rfl ?_
  refine yr_aload_n d_W_law_584 rfl ?_
  refine yr_iload d_W_law_585 rfl ?_
  refine yr_iconst (v := nI 1) d_W_law_587 (by decide) ?_
  refine yr_iadd d_W_law_588 ?_
  refine yr_sld (j := q + 1) hb h4 d_W_law_589 (nI_add _ _) (by omega) hL ?_
  refine mr_call (s := ω9.1) (F := ω9.2.2) (M := ω9.2.1) (yrunV (X := yNX) (k := 200) (As := [yi (xs (q + 1))]) (rest := [yi (zcount σ' (xs (q + 1)))]) d_W_law_590 (c_M_count hS) hS.1 rfl (show yck (yMm m_W_law) m_M_count 1 = true by decide +kernel) cw_M_count (by decide +kernel) (by decide +kernel) (by decide +kernel) (by decide +kernel) (Nat.le_of_ble_eq_true rfl) (ycat_of rfl) (by show cs + 0 + 0 ≤ 718118; omega) (by show sl + 0 + 0 ≤ 6941751; omega)) (fun r M9 hp => ?_)
  obtain ⟨rfl, rfl⟩ := hp
  refine yr_icmp_eq (tgt := 598) d_W_law_593 (by decide) (fun _ => ?_) (fun z => absurd (count_eq (mR_200 k3.2.1 (by decide))).symm z)
  exact yr_widen (by show cs + 0 + 0 ≤ cs + 7; omega) (by show sl + 0 + 0 ≤ sl + 31; omega) (hk n _ _ u5 u6 (Nat.le_refl _) (by omega) (lw_backT hK h6))
