/-! the yard: tick and act -/

set_option maxHeartbeats 4000000 in
set_option maxRecDepth 20000 in
theorem c_Y_tick_loop {G : yG} {μ : yW} {n : Nat} {J : zS → Prop} {X : String → zS → Prop} (hn : n ≤ 50) (hA : zIA J) (hD : zID J) (hE : zIE J) (hW : zIW J) : ∀ (m q : Nat) (c : Int32) (σ : zS), m + q = n → J σ → yWP G m_Y_tick (zQX G m_Y_tick μ (fun r σ' => r = some (yi (ztickL m c σ).2) ∧ σ' = (ztickL m c σ).1) X) μ.1 23 [some (yr 0), some (yi (nI n)), some (yi c), some (yi (nI q))] [] (zC σ μ) 0 0 := by
  intro m
  induction m with
  | zero =>
    intro q c σ hm hJ
    refine zr_iload_n d_Y_tick_23 rfl ?_
    refine zr_iload_n d_Y_tick_24 rfl ?_
    refine zr_icmp_ge (tgt := 41) d_Y_tick_25 (by decide) (fun c18 => ?_) (fun c18 => absurd (nI_le (by omega) (by omega)) c18)
    refine zr_iload_n d_Y_tick_41 rfl ?_
    exact zx_reti d_Y_tick_42 rfl (by decide) (by decide) ⟨rfl, rfl⟩
  | succ m ih =>
    intro q c σ hm hJ
    refine zr_iload_n d_Y_tick_23 rfl ?_
    refine zr_iload_n d_Y_tick_24 rfl ?_
    refine zr_icmp_ge (tgt := 41) d_Y_tick_25 (by decide) (fun c18 => absurd c18 (nI_ge (by omega) (by omega))) (fun c18 => ?_)
    refine zr_iload_n d_Y_tick_28 rfl ?_
    refine zr_aload_n d_Y_tick_29 rfl ?_
    refine zr_call (zrunV (As := []) (rest := [yi c]) d_Y_tick_30 (fun ω h => h.1.1) rfl (c_Y_passOneTick hA hD hE hW hJ) 0 rfl (by decide +kernel) cw_Y_passOneTick (Nat.le_of_ble_eq_true rfl) (ycat_of rfl) (by decide) (by decide)) (fun r σ9 hp => ?_)
    obtain ⟨rfl, rfl⟩ := hp
    refine zr_iadd d_Y_tick_33 ?_
    refine zr_istore_n d_Y_tick_34 (by decide) rfl ?_
    refine zr_iinc (v := nI (q + 1)) d_Y_tick_35 rfl (nI_1 q) (by decide) rfl ?_
    refine zr_goto (tgt := 23) d_Y_tick_38 (by decide) ?_
    exact ih (q + 1) _ _ (by omega) (ztickOne_J hA hD hE hW hJ)

/-- weaker ends -/
theorem yWW_post {G : yG} {i : yM} {sh0 : Nat → Option ySh} {pc : Nat} {ls : List (Option yV)} {st : List yV} {ω : yW} {cs sl : Nat} {P P' : Option yV → yW → Prop} {X : String → yW → Prop} (k : yWW G i (yQf G i sh0 P X) sh0 pc ls st ω cs sl) (h : ∀ r ω', P r ω' → P' r ω') : yWW G i (yQf G i sh0 P' X) sh0 pc ls st ω cs sl := by
  intro p e s m args below meth c ad0 ad H locs lsA C hE hS hH hL T hT XX
  obtain ⟨t, a1, o, b1, b2, b3⟩ := k p e s m args below meth c ad0 ad H locs lsA C hE hS hH hL T hT XX
  refine ⟨t, a1, o, b1, b2, ?_⟩
  rcases b3 with ⟨⟨r, ad', ω', q1, q2, q3⟩, c5⟩ | b3
  · exact Or.inl ⟨⟨r, ad', ω', q1, h r ω' q2, q3⟩, c5⟩
  · exact Or.inr b3
set_option maxHeartbeats 4000000 in
set_option maxRecDepth 20000 in
theorem c_Y_tick {G : yG} {μ : yW} (hT : (yGl G).stackTraces = false) {σ : zS} {x : Int32} {J : zS → Prop} (hA : zIA J) (hD : zID J) (hE : zIE J) (hW : zIW J) (hJ : J σ) : zCX G m_Y_tick [yr 0, yi x] σ μ (fun r σ' => ¬ x < 1 ∧ x ≤ 50 ∧ r = some (yi (ztickL x.toNatClampNeg 0 σ).2) ∧ σ' = (ztickL x.toNatClampNeg 0 σ).1) (fun E σ' => E = "java/lang/IllegalArgumentException" ∧ σ' = σ ∧ (x < 1 ∨ ¬ x ≤ 50)) := by
  refine zCX_of (by decide) rfl (ycat_of rfl) (Nat.le_of_ble_eq_true rfl) ?_
  refine zr_iload_n d_Y_tick_0 rfl ?_
  refine zr_iconst (v := 1) d_Y_tick_1 (by decide) ?_
  refine zr_icmp_lt (tgt := 11) d_Y_tick_2 (by decide) (fun c2 => ?_) (fun c2 => ?_)
  · skip
    first
      | exact zx_throw (E := "java/lang/IllegalArgumentException") hT rfl d_Y_tick_11 d_Y_tick_14 d_Y_tick_15 d_Y_tick_18 (by decide +kernel) (by decide +kernel) (by decide +kernel) (by decide +kernel) (by decide) (by decide) (ycat_of rfl) (by decide) (by decide) ⟨rfl, rfl, Or.inl c2⟩
      | exact zx_throw (E := "java/lang/IllegalArgumentException") hT rfl d_Y_tick_11 d_Y_tick_14 d_Y_tick_15 d_Y_tick_18 (by decide +kernel) (by decide +kernel) (by decide +kernel) (by decide +kernel) (by decide) (by decide) (ycat_of rfl) (by decide) (by decide) ⟨rfl, rfl, Or.inr c8⟩
  · skip
    refine zr_iload_n d_Y_tick_5 rfl ?_
    refine zr_bipush (v := 50) d_Y_tick_6 (by decide) ?_
    refine zr_icmp_le (tgt := 19) d_Y_tick_8 (by decide) (fun c8 => ?_) (fun c8 => ?_)
    · skip
      refine zr_iconst (v := 0) d_Y_tick_19 (by decide) ?_
      refine zr_istore_n d_Y_tick_20 (by decide) rfl ?_
      refine zr_iconst (v := 0) d_Y_tick_21 (by decide) ?_
      refine zr_istore_n d_Y_tick_22 (by decide) rfl ?_
      have hx0 : ¬ x < 0 := fun z => c2 (Int32.lt_trans z (by decide))
      obtain ⟨n, hn, rfl⟩ := nI_of hx0
      have hn50 : n ≤ 50 := by
        rw [show (50 : Int32) = nI 50 from rfl, nI_leI hn (by omega)] at c8
        exact c8
      rw [nI_clamp hn]
      have k := c_Y_tick_loop (G := G) (μ := μ) (n := n) (X := fun E σ' => E = "java/lang/IllegalArgumentException" ∧ σ' = σ ∧ (nI n < 1 ∨ ¬ nI n ≤ 50)) hn50 hA hD hE hW n 0 0 σ rfl hJ
      intro ω h
      refine yWW_post (k ω h) (fun r ω' hp => ?_)
      obtain ⟨σ', h1, h2, h3⟩ := hp
      exact ⟨σ', h1, c2, c8, h2, h3⟩
    · skip
      first
        | exact zx_throw (E := "java/lang/IllegalArgumentException") hT rfl d_Y_tick_11 d_Y_tick_14 d_Y_tick_15 d_Y_tick_18 (by decide +kernel) (by decide +kernel) (by decide +kernel) (by decide +kernel) (by decide) (by decide) (ycat_of rfl) (by decide) (by decide) ⟨rfl, rfl, Or.inl c2⟩
        | exact zx_throw (E := "java/lang/IllegalArgumentException") hT rfl d_Y_tick_11 d_Y_tick_14 d_Y_tick_15 d_Y_tick_18 (by decide +kernel) (by decide +kernel) (by decide +kernel) (by decide +kernel) (by decide) (by decide) (ycat_of rfl) (by decide) (by decide) ⟨rfl, rfl, Or.inr c8⟩

theorem zisAct_in {a g : Int32} (h : zisAct a g = true) : ¬ a < 0 ∧ a < 17 := by
  unfold zisAct at h
  split at h
  · rename_i hc
    rcases hc with rfl | rfl | rfl <;> decide
  · split at h
    · rename_i hc
      rcases hc with rfl | rfl <;> decide
    · rw [decide_eq_true_eq] at h
      exact ⟨h.1, Int32.not_le.mp h.2⟩
/-- what an invariant must give for an act -/
def zIF (J J' : zS → Prop) : Prop := ∀ σ t o a g p, J σ → t < 6 → o < zn σ → zisAct a g = true → zisPat p = true → yst a.toNatClampNeg = nI (zkd σ o) → zth σ 2 t = 0 → zallows σ o t a g = true → (zonce (zbegin σ t a g) o t = true → zgpre (zbegin σ t a g) o t) ∧ (zrw σ 0 o).length < 6 ∧ (zkd σ o = 0 → (zrw σ (zcj g) o).length < 6) ∧ J' (zperf (zbegin σ t a g) o t p)
def zact (σ : zS) (o t : Nat) (a g p : Int32) : zS := zset o 7 (zperf (zbegin σ t a g) o t p)

set_option maxHeartbeats 4000000 in
set_option maxRecDepth 20000 in
theorem c_Y_act {G : yG} {μ : yW} (hT : (yGl G).stackTraces = false) {σ : zS} {x y a g p : Int32} {J J' : zS → Prop} (hA : zIA J') (hF : zIF J J') (hJ : J σ) : zCX G m_Y_act [yr 0, yi x, yi y, yi a, yi g, yi p] σ μ (fun r σ' => ∃ t o, ztat x = some t ∧ zpat (zn σ) y = some o ∧ zisAct a g = true ∧ zisPat p = true ∧ yst a.toNatClampNeg = nI (zkd σ o) ∧ zth σ 2 t = 0 ∧ zallows σ o t a g = true ∧ r = some (yi (zth (zact σ o t a g p) 3 t)) ∧ σ' = zact σ o t a g p) (fun E σ' => σ' = σ ∧ ((E = "java/lang/IllegalArgumentException" ∧ (ztat x = none ∨ zpat (zn σ) y = none ∨ zisAct a g = false ∨ zisPat p = false)) ∨ ∃ t o, ztat x = some t ∧ zpat (zn σ) y = some o ∧ zisAct a g = true ∧ zisPat p = true ∧ ((E = "java/lang/UnsupportedOperationException" ∧ ¬ yst a.toNatClampNeg = nI (zkd σ o)) ∨ (E = "java/lang/IllegalStateException" ∧ yst a.toNatClampNeg = nI (zkd σ o) ∧ (¬ zth σ 2 t = 0 ∨ zallows σ o t a g = false))))) := by
  refine zCX_of (by decide) rfl (ycat_of rfl) (Nat.le_of_ble_eq_true rfl) ?_
  refine zr_aload_n d_Y_act_0 rfl ?_
  refine zr_iload_n d_Y_act_1 rfl ?_
  refine yWP_use (fun ω h => h.1.2.2.2.2.1) (fun hn6 => ?_)
  refine zr_call (zrunV (As := [yi x]) (rest := []) d_Y_act_2 (fun ω h => h.1.1) rfl (c_Y_threadAt) 1 rfl (by decide +kernel) cw_Y_threadAt (Nat.le_of_ble_eq_true rfl) (ycat_of rfl) (by decide) (by decide)) (fun r σ9 hp => ?_)
  obtain ⟨rfl, rfl⟩ := hp
  refine zr_astore d_Y_act_5 (by decide) rfl ?_
  refine zr_aload_n d_Y_act_7 rfl ?_
  refine zr_iload_n d_Y_act_8 rfl ?_
  refine zr_call (zrunV (As := [yi y]) (rest := []) d_Y_act_9 (fun ω h => h.1.1) rfl (c_Y_placeAt) 1 rfl (by decide +kernel) cw_Y_placeAt (Nat.le_of_ble_eq_true rfl) (ycat_of rfl) (by decide) (by decide)) (fun r σ8 hp => ?_)
  obtain ⟨rfl, rfl⟩ := hp
  have hta : ∃ w, w = ztat x := ⟨_, rfl⟩
  obtain ⟨w, hta⟩ := hta
  rw [← hta]
  have htp : ∃ w, w = zpat (zn σ8) y := ⟨_, rfl⟩
  obtain ⟨w2, htp⟩ := htp
  rw [← htp]
  refine zr_astore d_Y_act_12 (by decide) rfl ?_
  refine zr_aload d_Y_act_14 rfl ?_
  cases w with
  | none =>
    refine zr_ifnull (tgt := 41) d_Y_act_16 (by decide) (fun c16 => ?_) (fun a1 c16 => nomatch c16)
    exact zx_throw (E := "java/lang/IllegalArgumentException") hT rfl d_Y_act_41 d_Y_act_44 d_Y_act_45 d_Y_act_48 (by decide +kernel) (by decide +kernel) (by decide +kernel) (by decide +kernel) (by decide) (by decide) (ycat_of rfl) (by decide) (by decide) ⟨rfl, Or.inl ⟨rfl, Or.inl rfl⟩⟩
  | some t =>
    replace hta := hta.symm
    have ht : t < 6 := (ztat_lt hta).1
    refine zr_ifnull (tgt := 41) d_Y_act_16 (by decide) (fun c16 => nomatch c16) (fun a1 c16 => ?_)
    refine zr_aload d_Y_act_19 rfl ?_
    cases w2 with
    | none =>
      refine zr_ifnull (tgt := 41) d_Y_act_21 (by decide) (fun c21 => ?_) (fun a1 c21 => nomatch c21)
      exact zx_throw (E := "java/lang/IllegalArgumentException") hT rfl d_Y_act_41 d_Y_act_44 d_Y_act_45 d_Y_act_48 (by decide +kernel) (by decide +kernel) (by decide +kernel) (by decide +kernel) (by decide) (by decide) (ycat_of rfl) (by decide) (by decide) ⟨rfl, Or.inl ⟨rfl, Or.inr (Or.inl rfl)⟩⟩
    | some o =>
      replace htp := htp.symm
      have ho : o < zn σ8 := (zpat_lt (by omega) htp).1
      refine yWP_use (fun ω h => h.kd ho) (fun hk6 => ?_)
      refine zr_ifnull (tgt := 41) d_Y_act_21 (by decide) (fun c21 => nomatch c21) (fun a1 c21 => ?_)
      refine zr_iload_n d_Y_act_24 rfl ?_
      refine zr_iload d_Y_act_25 rfl ?_
      refine zr_call (zrunS (As := [yi a, yi g]) (rest := []) d_Y_act_27 c_Y_isAct 2 rfl (by decide +kernel) cw_Y_isAct (Nat.le_of_ble_eq_true rfl) (ycat_of rfl) (by decide) (by decide)) (fun r σ7 hp => ?_)
      obtain ⟨rfl, rfl⟩ := hp
      refine zr_if_eq (tgt := 41) d_Y_act_30 (by decide) (fun c30 => ?_) (fun c30 => ?_)
      · skip
        first
          | (rw [zb_eq] at c30
             exact zx_throw (E := "java/lang/IllegalArgumentException") hT rfl d_Y_act_41 d_Y_act_44 d_Y_act_45 d_Y_act_48 (by decide +kernel) (by decide +kernel) (by decide +kernel) (by decide +kernel) (by decide) (by decide) (ycat_of rfl) (by decide) (by decide) ⟨rfl, Or.inl ⟨rfl, Or.inr (Or.inr (Or.inl c30))⟩⟩)
          | (rw [zb_eq] at c38
             exact zx_throw (E := "java/lang/IllegalArgumentException") hT rfl d_Y_act_41 d_Y_act_44 d_Y_act_45 d_Y_act_48 (by decide +kernel) (by decide +kernel) (by decide +kernel) (by decide +kernel) (by decide) (by decide) (ycat_of rfl) (by decide) (by decide) ⟨rfl, Or.inl ⟨rfl, Or.inr (Or.inr (Or.inr c38))⟩⟩)
      · skip
        refine zr_iload d_Y_act_33 rfl ?_
        refine zr_call (zrunS (As := [yi p]) (rest := []) d_Y_act_35 c_Y_isPatience 1 rfl (by decide +kernel) cw_Y_isPatience (Nat.le_of_ble_eq_true rfl) (ycat_of rfl) (by decide) (by decide)) (fun r σ6 hp => ?_)
        obtain ⟨rfl, rfl⟩ := hp
        refine zr_if_ne (tgt := 49) d_Y_act_38 (by decide) (fun c38 => ?_) (fun c38 => ?_)
        · skip
          rw [zb_ne] at c30 c38
          have hain := zisAct_in c30
          refine zr_gsld d_Y_act_49 d_Y_act_52 d_Y_act_53 rfl (by decide +kernel) ?_ ?_
          · intro z
            rcases z with z | z
            · exact hain.1 z
            · obtain ⟨q, hq, hx9⟩ := nI_of hain.1
              have h17 := hain.2
              rw [hx9, show (17 : Int32) = nI 17 from rfl, nI_ltI hq (by omega)] at h17
              rw [hx9, nI_clamp hq] at z
              exact absurd z (by show ¬ 17 ≤ q; omega)
          refine zr_aload d_Y_act_54 rfl ?_
          refine zr_pkind (ci := 0) d_Y_act_56 (by first | assumption | omega) (by assumption) sf_Y_act_56 ?_
          refine zr_icmp_eq (tgt := 70) d_Y_act_59 (by decide) (fun c59 => ?_) (fun c59 => ?_)
          · skip
            refine zr_aload d_Y_act_70 rfl ?_
            refine zr_tgeti d_Y_act_72 (by first | assumption | omega) sf_Y_act_72 rfl rfl ?_
            refine zr_if_ne (tgt := 91) d_Y_act_75 (by decide) (fun c75 => ?_) (fun c75 => ?_)
            · skip
              first
                | exact zx_throw (E := "java/lang/IllegalStateException") hT rfl d_Y_act_91 d_Y_act_94 d_Y_act_95 d_Y_act_98 (by decide +kernel) (by decide +kernel) (by decide +kernel) (by decide +kernel) (by decide) (by decide) (ycat_of rfl) (by decide) (by decide) ⟨rfl, Or.inr ⟨t, o, rfl, rfl, c30, c38, Or.inr ⟨rfl, c59, Or.inl c75⟩⟩⟩
                | (rw [zb_eq] at c88
                   exact zx_throw (E := "java/lang/IllegalStateException") hT rfl d_Y_act_91 d_Y_act_94 d_Y_act_95 d_Y_act_98 (by decide +kernel) (by decide +kernel) (by decide +kernel) (by decide +kernel) (by decide) (by decide) (ycat_of rfl) (by decide) (by decide) ⟨rfl, Or.inr ⟨t, o, rfl, rfl, c30, c38, Or.inr ⟨rfl, c59, Or.inr c88⟩⟩⟩)
            · skip
              refine zr_aload d_Y_act_78 rfl ?_
              refine zr_aload d_Y_act_80 rfl ?_
              refine zr_iload_n d_Y_act_82 rfl ?_
              refine zr_iload d_Y_act_83 rfl ?_
              refine zr_callP (sel := sel_allows) (o := o) (As := [yr (10 + t), yi a, yi g]) (rest := []) (x := yMy m_P_allows) (owner := "MonitorYard$Place") (priv := false) d_Y_act_85 ho (v_allows ho ht) 3 rfl (by decide +kernel) sel_allows_code (zdecl (i' := m_P_allows) (by decide +kernel) cw_P_allows) (by decide) (Nat.le_of_ble_eq_true rfl) (ycat_of rfl) (by decide) (by decide) (fun r σ5 hp => ?_)
              obtain ⟨rfl, rfl⟩ := hp
              refine zr_if_ne (tgt := 99) d_Y_act_88 (by decide) (fun c88 => ?_) (fun c88 => ?_)
              · skip
                refine zr_aload d_Y_act_99 rfl ?_
                refine zr_iload_n d_Y_act_101 rfl ?_
                refine zr_iload d_Y_act_102 rfl ?_
                rw [zb_ne] at c88
                obtain ⟨f1, f2, f3, f4⟩ := hF _ t o a g p hJ ht ho c30 c38 c59 c75 c88
                refine zr_call (zrunV (As := [yi a, yi g]) (rest := []) d_Y_act_104 (fun ω h => h.sT ht) rfl (c_T_begin ht) 2 rfl (by decide +kernel) cw_T_begin (Nat.le_of_ble_eq_true rfl) (ycat_of rfl) (by decide) (by decide)) (fun r σ4 hp => ?_)
                obtain ⟨rfl, rfl⟩ := hp
                refine zr_aload d_Y_act_107 rfl ?_
                refine zr_aload d_Y_act_109 rfl ?_
                refine zr_iload d_Y_act_111 rfl ?_
                have f3c : zkd (zbegin σ5 t a g) o = 0 → (zrw (zbegin σ5 t a g) (zcj (zth (zbegin σ5 t a g) 9 t)) o).length < 6 := by
                  intro hk0
                  have e9 : zth (zbegin σ5 t a g) 9 t = g := by
                    unfold zbegin
                    rw [zth_ne (Or.inl (by decide)), zth_ne (Or.inl (by decide)), zth_same]
                  rw [e9]
                  exact f3 hk0
                refine zr_callP (sel := (fun _ => m_P_perform)) (o := o) (As := [yr (10 + t), yi p]) (rest := []) (x := yMy m_P_perform) (owner := "MonitorYard$Place") (priv := false) d_Y_act_113 ho (c_P_perform (σ := zbegin σ5 t a g) ho ht f1 f2 f3c) 2 rfl (by decide +kernel) (fun _ _ => cw_P_perform) (zdecl (i' := m_P_perform) (by decide +kernel) cw_P_perform) (by decide) (Nat.le_of_ble_eq_true rfl) (ycat_of rfl) (by decide) (by decide) (fun r σ3 hp => ?_)
                obtain ⟨rfl, rfl⟩ := hp
                have ho2 : o < zn (zperf (zbegin σ5 t a g) o t p) := by rw [zperf_n.1]; exact ho
                refine zr_aload d_Y_act_116 rfl ?_
                refine zr_callP (sel := (fun _ => m_P_settle)) (o := o) (As := []) (rest := []) (x := yMy m_P_settle) (owner := "MonitorYard$Place") (priv := false) d_Y_act_118 ho2 (c_P_settle ho2 (hA.J o) ⟨f4, ho2⟩) 0 rfl (by decide +kernel) (fun _ _ => cw_P_settle) (zdecl (i' := m_P_settle) (by decide +kernel) cw_P_settle) (by decide) (Nat.le_of_ble_eq_true rfl) (ycat_of rfl) (by decide) (by decide) (fun r σ3 hp => ?_)
                obtain ⟨rfl, rfl⟩ := hp
                refine zr_aload d_Y_act_121 rfl ?_
                refine zr_tgeti d_Y_act_123 (by first | assumption | omega) sf_Y_act_123 rfl rfl ?_
                refine zx_reti d_Y_act_126 rfl (by decide) (by decide) ?_
                exact ⟨t, o, rfl, rfl, c30, c38, c59, c75, c88, rfl, rfl⟩
              · skip
                first
                  | exact zx_throw (E := "java/lang/IllegalStateException") hT rfl d_Y_act_91 d_Y_act_94 d_Y_act_95 d_Y_act_98 (by decide +kernel) (by decide +kernel) (by decide +kernel) (by decide +kernel) (by decide) (by decide) (ycat_of rfl) (by decide) (by decide) ⟨rfl, Or.inr ⟨t, o, rfl, rfl, c30, c38, Or.inr ⟨rfl, c59, Or.inl c75⟩⟩⟩
                  | (rw [zb_eq] at c88
                     exact zx_throw (E := "java/lang/IllegalStateException") hT rfl d_Y_act_91 d_Y_act_94 d_Y_act_95 d_Y_act_98 (by decide +kernel) (by decide +kernel) (by decide +kernel) (by decide +kernel) (by decide) (by decide) (ycat_of rfl) (by decide) (by decide) ⟨rfl, Or.inr ⟨t, o, rfl, rfl, c30, c38, Or.inr ⟨rfl, c59, Or.inr c88⟩⟩⟩)
          · skip
            exact zx_throw (E := "java/lang/UnsupportedOperationException") hT rfl d_Y_act_62 d_Y_act_65 d_Y_act_66 d_Y_act_69 (by decide +kernel) (by decide +kernel) (by decide +kernel) (by decide +kernel) (by decide) (by decide) (ycat_of rfl) (by decide) (by decide) ⟨rfl, Or.inr ⟨t, o, rfl, rfl, c30, c38, Or.inl ⟨rfl, c59⟩⟩⟩
        · skip
          first
            | (rw [zb_eq] at c30
               exact zx_throw (E := "java/lang/IllegalArgumentException") hT rfl d_Y_act_41 d_Y_act_44 d_Y_act_45 d_Y_act_48 (by decide +kernel) (by decide +kernel) (by decide +kernel) (by decide +kernel) (by decide) (by decide) (ycat_of rfl) (by decide) (by decide) ⟨rfl, Or.inl ⟨rfl, Or.inr (Or.inr (Or.inl c30))⟩⟩)
            | (rw [zb_eq] at c38
               exact zx_throw (E := "java/lang/IllegalArgumentException") hT rfl d_Y_act_41 d_Y_act_44 d_Y_act_45 d_Y_act_48 (by decide +kernel) (by decide +kernel) (by decide +kernel) (by decide +kernel) (by decide) (by decide) (ycat_of rfl) (by decide) (by decide) ⟨rfl, Or.inl ⟨rfl, Or.inr (Or.inr (Or.inr c38))⟩⟩)
