/-! the yard: calls that may throw -/
def zX (μ : yW) (X : String → zS → Prop) : String → yW → Prop := fun E ω' => ∃ σ', zC σ' μ ω' ∧ X E σ'
def zCX (G : yG) (i : yM) (As : List yV) (σ : zS) (μ : yW) (P : Option yV → zS → Prop) (X : String → zS → Prop) : Prop := ∀ ω, zC σ μ ω → yCT G i As ω (zP μ P) (zX μ X)
abbrev zQX (G : yG) (i : yM) (μ : yW) (P : Option yV → zS → Prop) (X : String → zS → Prop) : yQT := yQf G i μ.1 (zP μ P) (zX μ X)
section ZX
variable {G : yG} {i : yM} {pc : Nat} {ls : List (Option yV)} {st : List yV} {σ : zS} {μ : yW} {cs sl : Nat} {P : Option yV → zS → Prop} {X : String → zS → Prop}
theorem zCX_of {As : List yV} (hpl : plainName (yMy i).cls = true) (hh : yMh i = []) (hcat : ∀ v ∈ As, ∀ ad, (ycv ad v).category = 1) (hlen : As.length ≤ yMl i) (k : yWP G i (zQX G i μ P X) μ.1 0 (As.map some ++ List.replicate (yMl i - As.length) none) [] (zC σ μ) 0 0) : zCX G i As σ μ P X := by
  intro ω h
  have k1 : yWW G i (yQf G i μ.1 (zP μ P) (zX μ X)) μ.1 0 (As.map some ++ List.replicate (yMl i - As.length) none) [] ω 0 0 := k ω h
  rw [← h.2.1] at k1
  exact yCT_of hpl hh hcat hlen k1
theorem zx_reti {x : Int32} (hd : decode (yMb i) pc = .ok (.ireturn, 1)) (hr : yMr i = some .int) (hc : cs ≤ (yMm i).cells) (hs : sl ≤ (yMm i).slots) (hP : P (some (yi x)) σ) : yWP G i (zQX G i μ P X) μ.1 pc ls [yi x] (zC σ μ) cs sl := fun ω h => yr_reti hd hr hc hs ⟨σ, h, hP⟩
theorem zx_retv (hd : decode (yMb i) pc = .ok (.return_, 1)) (hr : yMr i = none) (hc : cs ≤ (yMm i).cells) (hs : sl ≤ (yMm i).slots) (hP : P none σ) : yWP G i (zQX G i μ P X) μ.1 pc ls [] (zC σ μ) cs sl := fun ω h => yr_retv hd hr hc hs ⟨σ, h, hP⟩
theorem zx_throw {E : String} {ik ic : Nat} (hT : (yGl G).stackTraces = false) (hh : yMh i = []) (d0 : decode (yMb i) pc = .ok (.new ik, 3)) (d3 : decode (yMb i) (pc + 3) = .ok (.dup, 1)) (d4 : decode (yMb i) (pc + 4) = .ok (.invokespecial ic, 3)) (d7 : decode (yMb i) (pc + 7) = .ok (.athrow, 1)) (hcls : Bundle.fit E = true)
    (hk : Cond.classLink (yMy i).cls ik E ∈ lw_tbl) (hini : Cond.initialized E ∈ lw_tbl) (hat : ∀ w ∈ vx_at0 (yMy i).cls ic E ySup, w ∈ lw_tbl ∧ ynw w = true ∧ vx_ot w = true) (hf : 6 ≤ (yMm i).frames) (hlo : st.length + 81 ≤ (yMm i).locals) (hcat : ∀ v ∈ st, ∀ ad, (ycv ad v).category = 1) (hc : cs + 1 ≤ (yMm i).cells) (hs : sl + 6 ≤ (yMm i).slots) (hX : X E σ) : yWP G i (zQX G i μ P X) μ.1 pc ls st (zC σ μ) cs sl :=
  fun ω h => yr_throw hT hh d0 d3 d4 d7 hcls hk hini hat hf hlo hcat hc hs ⟨σ, h, hX⟩
end ZX
def ztold (σ : zS) (t : Nat) (y : Int32) : Int32 := if y = 0 then zth σ 2 t else if y = 1 then zth σ 3 t else if y = 2 then (match zwh σ t with | none => -1 | some o => nI o) else if y = 3 then zth σ 5 t else if y = 4 then (if zth σ 6 t = 0 then 0 else 1) else zth σ 7 t
def zobj (σ : zS) (o : Nat) (y : Int32) : Int32 := if y = 0 then nI (zkd σ o) else if y = 1 then zlevel σ o else if y = 2 then zowner σ o else if y = 3 then nI (zrw σ 0 o).length else if y = 4 then zwaiters σ o 0 else if y = 5 then zwaiters σ o 1 else if y = 6 then ztimes σ o else (if zbroken σ o = 0 then 0 else 1)

set_option maxHeartbeats 4000000 in
set_option maxRecDepth 20000 in
theorem c_Y_told {G : yG} {μ : yW} (hT : (yGl G).stackTraces = false) {σ : zS} {x y : Int32} : zCX G m_Y_told [yr 0, yi x, yi y] σ μ (fun r σ' => ∃ t, ztat x = some t ∧ ¬ y < 0 ∧ y ≤ 5 ∧ r = some (yi (ztold σ t y)) ∧ σ' = σ) (fun E σ' => E = "java/lang/IllegalArgumentException" ∧ σ' = σ ∧ (ztat x = none ∨ y < 0 ∨ ¬ y ≤ 5)) := by
  refine zCX_of (by decide) rfl (ycat_of rfl) (Nat.le_of_ble_eq_true rfl) ?_
  refine zr_aload_n d_Y_told_0 rfl ?_
  refine zr_iload_n d_Y_told_1 rfl ?_
  refine zr_call (zrunV (As := [yi x]) (rest := []) d_Y_told_2 (fun ω h => h.1.1) rfl (c_Y_threadAt) 1 rfl (by decide +kernel) cw_Y_threadAt (Nat.le_of_ble_eq_true rfl) (ycat_of rfl) (by decide) (by decide)) (fun r σ9 hp => ?_)
  obtain ⟨rfl, rfl⟩ := hp
  have hta : ∃ w, w = ztat x := ⟨_, rfl⟩
  obtain ⟨w, hta⟩ := hta
  rw [← hta]
  refine zr_astore_n d_Y_told_5 (by decide) rfl ?_
  refine zr_aload_n d_Y_told_6 rfl ?_
  cases w with
  | none =>
    refine zr_ifnull (tgt := 19) d_Y_told_7 (by decide) (fun c7 => ?_) (fun a c7 => nomatch c7)
    exact zx_throw (E := "java/lang/IllegalArgumentException") hT rfl d_Y_told_19 d_Y_told_22 d_Y_told_23 d_Y_told_26 (by decide +kernel) (by decide +kernel) (by decide +kernel) (by decide +kernel) (by decide) (by decide) (ycat_of rfl) (by decide) (by decide) ⟨rfl, rfl, Or.inl rfl⟩
  | some t =>
    replace hta := hta.symm
    have ht : t < 6 := (ztat_lt hta).1
    refine zr_ifnull (tgt := 19) d_Y_told_7 (by decide) (fun c7 => nomatch c7) (fun a c7 => ?_)
    refine zr_iload_n d_Y_told_10 rfl ?_
    refine zr_if_lt (tgt := 19) d_Y_told_11 (by decide) (fun c11 => ?_) (fun c11 => ?_)
    · skip
      first
        | exact zx_throw (E := "java/lang/IllegalArgumentException") hT rfl d_Y_told_19 d_Y_told_22 d_Y_told_23 d_Y_told_26 (by decide +kernel) (by decide +kernel) (by decide +kernel) (by decide +kernel) (by decide) (by decide) (ycat_of rfl) (by decide) (by decide) ⟨rfl, rfl, Or.inr (Or.inl c11)⟩
        | exact zx_throw (E := "java/lang/IllegalArgumentException") hT rfl d_Y_told_19 d_Y_told_22 d_Y_told_23 d_Y_told_26 (by decide +kernel) (by decide +kernel) (by decide +kernel) (by decide +kernel) (by decide) (by decide) (ycat_of rfl) (by decide) (by decide) ⟨rfl, rfl, Or.inr (Or.inr c16)⟩
    · skip
      refine zr_iload_n d_Y_told_14 rfl ?_
      refine zr_iconst (v := 5) d_Y_told_15 (by decide) ?_
      refine zr_icmp_le (tgt := 27) d_Y_told_16 (by decide) (fun c16 => ?_) (fun c16 => ?_)
      · skip
        refine zr_iload_n d_Y_told_27 rfl ?_
        by_cases s0 : y = 0
        · refine zr_tcase d_Y_told_28 0 s0 (by decide) (by decide) rfl (tgt := 64) (by decide) ?_
          refine zr_aload_n d_Y_told_64 rfl ?_
          refine zr_tgeti d_Y_told_65 (by first | assumption | omega) sf_Y_told_65 rfl rfl ?_
          refine zx_reti d_Y_told_68 rfl (by decide) (by decide) ?_
          refine ⟨t, rfl, c11, c16, ?_, rfl⟩
          simp only [ztold, *]
          first | rfl | (simp; done) | (simp; rfl)
        · skip
          by_cases s1 : y = 1
          · refine zr_tcase d_Y_told_28 1 s1 (by decide) (by decide) rfl (tgt := 69) (by decide) ?_
            refine zr_aload_n d_Y_told_69 rfl ?_
            refine zr_tgeti d_Y_told_70 (by first | assumption | omega) sf_Y_told_70 rfl rfl ?_
            refine zx_reti d_Y_told_73 rfl (by decide) (by decide) ?_
            refine ⟨t, rfl, c11, c16, ?_, rfl⟩
            simp only [ztold, *]
            first | rfl | (simp; done) | (simp; rfl)
          · skip
            by_cases s2 : y = 2
            · refine zr_tcase d_Y_told_28 2 s2 (by decide) (by decide) rfl (tgt := 74) (by decide) ?_
              refine zr_aload_n d_Y_told_74 rfl ?_
              cases hw : zwh σ9 t with
              | none =>
                refine zr_tplace d_Y_told_75 ht sf_Y_told_75 ?_
                rw [hw]
                refine zr_ifnonnull (tgt := 85) d_Y_told_78 (by decide) (fun a c78 => nomatch c78) (fun c78 => ?_)
                refine zr_iconst (v := -1) d_Y_told_81 (by decide) ?_
                refine zr_goto (tgt := 92) d_Y_told_82 (by decide) ?_
                refine zx_reti d_Y_told_92 rfl (by decide) (by decide) ⟨t, rfl, c11, c16, ?_, rfl⟩
                simp [ztold, s2, hw]
              | some o =>
                refine yWP_use (fun ω h => (h.th ht).2.2.2.2.2 o hw) (fun ho => ?_)
                refine zr_tplace d_Y_told_75 ht sf_Y_told_75 ?_
                rw [hw]
                refine zr_ifnonnull (tgt := 85) d_Y_told_78 (by decide) (fun a c78 => ?_) (fun c78 => nomatch c78)
                refine zr_aload_n d_Y_told_85 rfl ?_
                refine zr_tplace d_Y_told_86 ht sf_Y_told_86 ?_
                rw [hw]
                refine zr_pnum d_Y_told_89 ho sf_Y_told_89 ?_
                refine zx_reti d_Y_told_92 rfl (by decide) (by decide) ⟨t, rfl, c11, c16, ?_, rfl⟩
                simp [ztold, s2, hw]
            · skip
              by_cases s3 : y = 3
              · refine zr_tcase d_Y_told_28 3 s3 (by decide) (by decide) rfl (tgt := 93) (by decide) ?_
                refine zr_aload_n d_Y_told_93 rfl ?_
                refine zr_tgeti d_Y_told_94 (by first | assumption | omega) sf_Y_told_94 rfl rfl ?_
                refine zx_reti d_Y_told_97 rfl (by decide) (by decide) ?_
                refine ⟨t, rfl, c11, c16, ?_, rfl⟩
                simp only [ztold, *]
                first | rfl | (simp; done) | (simp; rfl)
              · skip
                by_cases s4 : y = 4
                · refine zr_tcase d_Y_told_28 4 s4 (by decide) (by decide) rfl (tgt := 98) (by decide) ?_
                  refine zr_aload_n d_Y_told_98 rfl ?_
                  refine zr_tgeti d_Y_told_99 (by first | assumption | omega) sf_Y_told_99 rfl rfl ?_
                  refine zr_if_eq (tgt := 109) d_Y_told_102 (by decide) (fun c102 => ?_) (fun c102 => ?_)
                  · skip
                    refine zr_iconst (v := 0) d_Y_told_109 (by decide) ?_
                    refine zx_reti d_Y_told_110 rfl (by decide) (by decide) ?_
                    refine ⟨t, rfl, c11, c16, ?_, rfl⟩
                    simp only [ztold, *]
                    first | rfl | (simp; done) | (simp; rfl)
                  · skip
                    refine zr_iconst (v := 1) d_Y_told_105 (by decide) ?_
                    refine zr_goto (tgt := 110) d_Y_told_106 (by decide) ?_
                    refine zx_reti d_Y_told_110 rfl (by decide) (by decide) ?_
                    refine ⟨t, rfl, c11, c16, ?_, rfl⟩
                    simp only [ztold, *]
                    first | rfl | (simp; done) | (simp; rfl)
                · skip
                  refine zr_tdef d_Y_told_28 (by have q0 := lv_neT s0 (a := 0) (by decide); have q1 := lv_neT s1 (a := 1) (by decide); have q2 := lv_neT s2 (a := 2) (by decide); have q3 := lv_neT s3 (a := 3) (by decide); have q4 := lv_neT s4 (a := 4) (by decide); omega) (tgt := 111) (by decide) ?_
                  refine zr_aload_n d_Y_told_111 rfl ?_
                  refine zr_tgeti d_Y_told_112 (by first | assumption | omega) sf_Y_told_112 rfl rfl ?_
                  refine zx_reti d_Y_told_115 rfl (by decide) (by decide) ?_
                  refine ⟨t, rfl, c11, c16, ?_, rfl⟩
                  simp only [ztold, *]
                  first | rfl | (simp; done) | (simp; rfl)
      · skip
        first
          | exact zx_throw (E := "java/lang/IllegalArgumentException") hT rfl d_Y_told_19 d_Y_told_22 d_Y_told_23 d_Y_told_26 (by decide +kernel) (by decide +kernel) (by decide +kernel) (by decide +kernel) (by decide) (by decide) (ycat_of rfl) (by decide) (by decide) ⟨rfl, rfl, Or.inr (Or.inl c11)⟩
          | exact zx_throw (E := "java/lang/IllegalArgumentException") hT rfl d_Y_told_19 d_Y_told_22 d_Y_told_23 d_Y_told_26 (by decide +kernel) (by decide +kernel) (by decide +kernel) (by decide +kernel) (by decide) (by decide) (ycat_of rfl) (by decide) (by decide) ⟨rfl, rfl, Or.inr (Or.inr c16)⟩

set_option maxHeartbeats 4000000 in
set_option maxRecDepth 20000 in
theorem c_Y_object {G : yG} {μ : yW} (hT : (yGl G).stackTraces = false) {σ : zS} {x y : Int32} (hb : ∀ o, o < zn σ → zkd σ o = 4 → narrow .boolean (.int (zpl σ 4 o)) = .int (zpl σ 4 o)) : zCX G m_Y_object [yr 0, yi x, yi y] σ μ (fun r σ' => ∃ q, zpat (zn σ) x = some q ∧ ¬ y < 0 ∧ y ≤ 7 ∧ r = some (yi (zobj σ q y)) ∧ σ' = σ) (fun E σ' => E = "java/lang/IllegalArgumentException" ∧ σ' = σ ∧ (zpat (zn σ) x = none ∨ y < 0 ∨ ¬ y ≤ 7)) := by
  refine zCX_of (by decide) rfl (ycat_of rfl) (Nat.le_of_ble_eq_true rfl) ?_
  refine zr_aload_n d_Y_object_0 rfl ?_
  refine zr_iload_n d_Y_object_1 rfl ?_
  refine yWP_use (fun ω h => h.1.2.2.2.2.1) (fun hn6 => ?_)
  refine zr_call (zrunV (As := [yi x]) (rest := []) d_Y_object_2 (fun ω h => h.1.1) rfl (c_Y_placeAt) 1 rfl (by decide +kernel) cw_Y_placeAt (Nat.le_of_ble_eq_true rfl) (ycat_of rfl) (by decide) (by decide)) (fun r σ9 hp => ?_)
  obtain ⟨rfl, rfl⟩ := hp
  have hta : ∃ w, w = zpat (zn σ9) x := ⟨_, rfl⟩
  obtain ⟨w, hta⟩ := hta
  rw [← hta]
  refine zr_astore_n d_Y_object_5 (by decide) rfl ?_
  refine zr_aload_n d_Y_object_6 rfl ?_
  cases w with
  | none =>
    refine zr_ifnull (tgt := 20) d_Y_object_7 (by decide) (fun c7 => ?_) (fun a c7 => nomatch c7)
    exact zx_throw (E := "java/lang/IllegalArgumentException") hT rfl d_Y_object_20 d_Y_object_23 d_Y_object_24 d_Y_object_27 (by decide +kernel) (by decide +kernel) (by decide +kernel) (by decide +kernel) (by decide) (by decide) (ycat_of rfl) (by decide) (by decide) ⟨rfl, rfl, Or.inl rfl⟩
  | some q =>
    replace hta := hta.symm
    have ho : q < zn σ9 := (zpat_lt (by omega) hta).1
    have hv : zrv σ9 0 q := ⟨ho, Or.inl rfl⟩
    refine yWP_use (fun ω h => h.kd ho) (fun hk6 => ?_)
    refine zr_ifnull (tgt := 20) d_Y_object_7 (by decide) (fun c7 => nomatch c7) (fun a c7 => ?_)
    refine zr_iload_n d_Y_object_10 rfl ?_
    refine zr_if_lt (tgt := 20) d_Y_object_11 (by decide) (fun c11 => ?_) (fun c11 => ?_)
    · skip
      first
        | exact zx_throw (E := "java/lang/IllegalArgumentException") hT rfl d_Y_object_20 d_Y_object_23 d_Y_object_24 d_Y_object_27 (by decide +kernel) (by decide +kernel) (by decide +kernel) (by decide +kernel) (by decide) (by decide) (ycat_of rfl) (by decide) (by decide) ⟨rfl, rfl, Or.inr (Or.inl c11)⟩
        | exact zx_throw (E := "java/lang/IllegalArgumentException") hT rfl d_Y_object_20 d_Y_object_23 d_Y_object_24 d_Y_object_27 (by decide +kernel) (by decide +kernel) (by decide +kernel) (by decide +kernel) (by decide) (by decide) (ycat_of rfl) (by decide) (by decide) ⟨rfl, rfl, Or.inr (Or.inr c17)⟩
    · skip
      refine zr_iload_n d_Y_object_14 rfl ?_
      refine zr_bipush (v := 7) d_Y_object_15 (by decide) ?_
      refine zr_icmp_le (tgt := 28) d_Y_object_17 (by decide) (fun c17 => ?_) (fun c17 => ?_)
      · skip
        refine zr_iload_n d_Y_object_28 rfl ?_
        by_cases s0 : y = 0
        · refine zr_tcase d_Y_object_29 0 s0 (by decide) (by decide) rfl (tgt := 72) (by decide) ?_
          refine zr_aload_n d_Y_object_72 rfl ?_
          refine zr_pkind (ci := 0) d_Y_object_73 (by first | assumption | omega) (by assumption) sf_Y_object_73 ?_
          refine zx_reti d_Y_object_76 rfl (by decide) (by decide) ?_
          refine ⟨q, rfl, c11, c17, ?_, rfl⟩
          simp only [zobj, *]
          first | rfl | (simp; done) | (simp; rfl)
        · skip
          by_cases s1 : y = 1
          · refine zr_tcase d_Y_object_29 1 s1 (by decide) (by decide) rfl (tgt := 77) (by decide) ?_
            refine zr_aload_n d_Y_object_77 rfl ?_
            refine zr_callP (sel := sel_level) (o := q) (As := []) (rest := []) (x := ⟨"MonitorYard$Place", "level", "()I"⟩) (owner := "MonitorYard$Place") (priv := false) d_Y_object_78 ho (v_level ho) 0 rfl (by decide +kernel) sel_level_code (zdeclA (x := ⟨"MonitorYard$Place", "level", "()I"⟩) (by decide +kernel)) (by decide) (Nat.le_of_ble_eq_true rfl) (ycat_of rfl) (by decide) (by decide) (fun r σ8 hp => ?_)
            obtain ⟨rfl, rfl⟩ := hp
            refine zx_reti d_Y_object_81 rfl (by decide) (by decide) ?_
            refine ⟨q, rfl, c11, c17, ?_, rfl⟩
            simp only [zobj, *]
            first | rfl | (simp; done) | (simp; rfl)
          · skip
            by_cases s2 : y = 2
            · refine zr_tcase d_Y_object_29 2 s2 (by decide) (by decide) rfl (tgt := 82) (by decide) ?_
              refine zr_aload_n d_Y_object_82 rfl ?_
              refine zr_callP (sel := sel_owner) (o := q) (As := []) (rest := []) (x := yMy m_P_owner) (owner := "MonitorYard$Place") (priv := false) d_Y_object_83 ho (v_owner ho) 0 rfl (by decide +kernel) sel_owner_code (zdecl (i' := m_P_owner) (by decide +kernel) cw_P_owner) (by decide) (Nat.le_of_ble_eq_true rfl) (ycat_of rfl) (by decide) (by decide) (fun r σ8 hp => ?_)
              obtain ⟨rfl, rfl⟩ := hp
              refine zx_reti d_Y_object_86 rfl (by decide) (by decide) ?_
              refine ⟨q, rfl, c11, c17, ?_, rfl⟩
              simp only [zobj, *]
              first | rfl | (simp; done) | (simp; rfl)
            · skip
              by_cases s3 : y = 3
              · refine zr_tcase d_Y_object_29 3 s3 (by decide) (by decide) rfl (tgt := 87) (by decide) ?_
                refine zr_aload_n d_Y_object_87 rfl ?_
                refine zr_prow d_Y_object_88 (by first | assumption | omega) sf_Y_object_88 ?_
                refine zr_rlen d_Y_object_91 (by assumption) sf_Y_object_91 ?_
                refine zx_reti d_Y_object_94 rfl (by decide) (by decide) ?_
                refine ⟨q, rfl, c11, c17, ?_, rfl⟩
                simp only [zobj, *]
                first | rfl | (simp; done) | (simp; rfl)
              · skip
                by_cases s4 : y = 4
                · refine zr_tcase d_Y_object_29 4 s4 (by decide) (by decide) rfl (tgt := 95) (by decide) ?_
                  refine zr_aload_n d_Y_object_95 rfl ?_
                  refine zr_iconst (v := 0) d_Y_object_96 (by decide) ?_
                  refine zr_callP (sel := sel_waiters) (o := q) (As := [yi 0]) (rest := []) (x := yMy m_P_waitersAt) (owner := "MonitorYard$Place") (priv := false) d_Y_object_97 ho (v_waiters ho) 1 rfl (by decide +kernel) sel_waiters_code (zdecl (i' := m_P_waitersAt) (by decide +kernel) cw_P_waitersAt) (by decide) (Nat.le_of_ble_eq_true rfl) (ycat_of rfl) (by decide) (by decide) (fun r σ8 hp => ?_)
                  obtain ⟨rfl, rfl⟩ := hp
                  refine zx_reti d_Y_object_100 rfl (by decide) (by decide) ?_
                  refine ⟨q, rfl, c11, c17, ?_, rfl⟩
                  simp only [zobj, *]
                  first | rfl | (simp; done) | (simp; rfl)
                · skip
                  by_cases s5 : y = 5
                  · refine zr_tcase d_Y_object_29 5 s5 (by decide) (by decide) rfl (tgt := 101) (by decide) ?_
                    refine zr_aload_n d_Y_object_101 rfl ?_
                    refine zr_iconst (v := 1) d_Y_object_102 (by decide) ?_
                    refine zr_callP (sel := sel_waiters) (o := q) (As := [yi 1]) (rest := []) (x := yMy m_P_waitersAt) (owner := "MonitorYard$Place") (priv := false) d_Y_object_103 ho (v_waiters ho) 1 rfl (by decide +kernel) sel_waiters_code (zdecl (i' := m_P_waitersAt) (by decide +kernel) cw_P_waitersAt) (by decide) (Nat.le_of_ble_eq_true rfl) (ycat_of rfl) (by decide) (by decide) (fun r σ8 hp => ?_)
                    obtain ⟨rfl, rfl⟩ := hp
                    refine zx_reti d_Y_object_106 rfl (by decide) (by decide) ?_
                    refine ⟨q, rfl, c11, c17, ?_, rfl⟩
                    simp only [zobj, *]
                    first | rfl | (simp; done) | (simp; rfl)
                  · skip
                    by_cases s6 : y = 6
                    · refine zr_tcase d_Y_object_29 6 s6 (by decide) (by decide) rfl (tgt := 107) (by decide) ?_
                      refine zr_aload_n d_Y_object_107 rfl ?_
                      refine zr_callP (sel := sel_timesRead) (o := q) (As := []) (rest := []) (x := yMy m_P_timesRead) (owner := "MonitorYard$Place") (priv := false) d_Y_object_108 ho (v_timesRead ho) 0 rfl (by decide +kernel) sel_timesRead_code (zdecl (i' := m_P_timesRead) (by decide +kernel) cw_P_timesRead) (by decide) (Nat.le_of_ble_eq_true rfl) (ycat_of rfl) (by decide) (by decide) (fun r σ8 hp => ?_)
                      obtain ⟨rfl, rfl⟩ := hp
                      refine zx_reti d_Y_object_111 rfl (by decide) (by decide) ?_
                      refine ⟨q, rfl, c11, c17, ?_, rfl⟩
                      simp only [zobj, *]
                      first | rfl | (simp; done) | (simp; rfl)
                    · skip
                      refine zr_tdef d_Y_object_29 (by have q0 := lv_neT s0 (a := 0) (by decide); have q1 := lv_neT s1 (a := 1) (by decide); have q2 := lv_neT s2 (a := 2) (by decide); have q3 := lv_neT s3 (a := 3) (by decide); have q4 := lv_neT s4 (a := 4) (by decide); have q5 := lv_neT s5 (a := 5) (by decide); have q6 := lv_neT s6 (a := 6) (by decide); omega) (tgt := 112) (by decide) ?_
                      refine zr_aload_n d_Y_object_112 rfl ?_
                      refine zr_callP (sel := sel_isBroken) (o := q) (As := []) (rest := []) (x := yMy m_P_isBroken) (owner := "MonitorYard$Place") (priv := false) d_Y_object_113 ho (v_isBroken ho (hb q ho)) 0 rfl (by decide +kernel) sel_isBroken_code (zdecl (i' := m_P_isBroken) (by decide +kernel) cw_P_isBroken) (by decide) (Nat.le_of_ble_eq_true rfl) (ycat_of rfl) (by decide) (by decide) (fun r σ8 hp => ?_)
                      obtain ⟨rfl, rfl⟩ := hp
                      refine zr_if_eq (tgt := 123) d_Y_object_116 (by decide) (fun c116 => ?_) (fun c116 => ?_)
                      · skip
                        refine zr_iconst (v := 0) d_Y_object_123 (by decide) ?_
                        refine zx_reti d_Y_object_124 rfl (by decide) (by decide) ?_
                        refine ⟨q, rfl, c11, c17, ?_, rfl⟩
                        simp only [zobj, *]
                        first | rfl | (simp; done) | (simp; rfl)
                      · skip
                        refine zr_iconst (v := 1) d_Y_object_119 (by decide) ?_
                        refine zr_goto (tgt := 124) d_Y_object_120 (by decide) ?_
                        refine zx_reti d_Y_object_124 rfl (by decide) (by decide) ?_
                        refine ⟨q, rfl, c11, c17, ?_, rfl⟩
                        simp only [zobj, *]
                        first | rfl | (simp; done) | (simp; rfl)
      · skip
        first
          | exact zx_throw (E := "java/lang/IllegalArgumentException") hT rfl d_Y_object_20 d_Y_object_23 d_Y_object_24 d_Y_object_27 (by decide +kernel) (by decide +kernel) (by decide +kernel) (by decide +kernel) (by decide) (by decide) (ycat_of rfl) (by decide) (by decide) ⟨rfl, rfl, Or.inr (Or.inl c11)⟩
          | exact zx_throw (E := "java/lang/IllegalArgumentException") hT rfl d_Y_object_20 d_Y_object_23 d_Y_object_24 d_Y_object_27 (by decide +kernel) (by decide +kernel) (by decide +kernel) (by decide +kernel) (by decide) (by decide) (ycat_of rfl) (by decide) (by decide) ⟨rfl, rfl, Or.inr (Or.inr c17)⟩

set_option maxHeartbeats 4000000 in
set_option maxRecDepth 20000 in
theorem c_Y_waiter {G : yG} {μ : yW} (hT : (yGl G).stackTraces = false) {σ : zS} {x y : Int32} : zCX G m_Y_waiter [yr 0, yi x, yi y] σ μ (fun r σ' => ∃ q t, zpat (zn σ) x = some q ∧ zat (zrw σ 0 q) y = some t ∧ r = some (yi (nI t)) ∧ σ' = σ) (fun E σ' => σ' = σ ∧ ((E = "java/lang/IllegalArgumentException" ∧ zpat (zn σ) x = none) ∨ (E = "java/util/NoSuchElementException" ∧ ∃ q, zpat (zn σ) x = some q ∧ zat (zrw σ 0 q) y = none))) := by
  refine zCX_of (by decide) rfl (ycat_of rfl) (Nat.le_of_ble_eq_true rfl) ?_
  refine zr_aload_n d_Y_waiter_0 rfl ?_
  refine zr_iload_n d_Y_waiter_1 rfl ?_
  refine yWP_use (fun ω h => h.1.2.2.2.2.1) (fun hn6 => ?_)
  refine zr_call (zrunV (As := [yi x]) (rest := []) d_Y_waiter_2 (fun ω h => h.1.1) rfl (c_Y_placeAt) 1 rfl (by decide +kernel) cw_Y_placeAt (Nat.le_of_ble_eq_true rfl) (ycat_of rfl) (by decide) (by decide)) (fun r σ9 hp => ?_)
  obtain ⟨rfl, rfl⟩ := hp
  have hta : ∃ w, w = zpat (zn σ9) x := ⟨_, rfl⟩
  obtain ⟨w, hta⟩ := hta
  rw [← hta]
  refine zr_astore_n d_Y_waiter_5 (by decide) rfl ?_
  refine zr_aload_n d_Y_waiter_6 rfl ?_
  cases w with
  | none =>
    refine zr_ifnonnull (tgt := 18) d_Y_waiter_7 (by decide) (fun a c7 => nomatch c7) (fun c7 => ?_)
    exact zx_throw (E := "java/lang/IllegalArgumentException") hT rfl d_Y_waiter_10 d_Y_waiter_13 d_Y_waiter_14 d_Y_waiter_17 (by decide +kernel) (by decide +kernel) (by decide +kernel) (by decide +kernel) (by decide) (by decide) (ycat_of rfl) (by decide) (by decide) ⟨rfl, Or.inl ⟨rfl, rfl⟩⟩
  | some q =>
    replace hta := hta.symm
    have ho : q < zn σ9 := (zpat_lt (by omega) hta).1
    have hv : zrv σ9 0 q := ⟨ho, Or.inl rfl⟩
    refine yWP_use (fun ω h => (zlist h hv).2) (fun hall => ?_)
    refine zr_ifnonnull (tgt := 18) d_Y_waiter_7 (by decide) (fun a c7 => ?_) (fun c7 => nomatch c7)
    refine zr_aload_n d_Y_waiter_18 rfl ?_
    refine zr_prow d_Y_waiter_19 (by first | assumption | omega) sf_Y_waiter_19 ?_
    refine zr_iload_n d_Y_waiter_22 rfl ?_
    refine zr_call (zrunV (As := [yi y]) (rest := []) d_Y_waiter_23 (fun ω h => (h.row hv).2.1) rfl (c_R_at' (x := y) hv) 1 rfl (by decide +kernel) cw_R_at (Nat.le_of_ble_eq_true rfl) (ycat_of rfl) (by decide) (by decide)) (fun r σ8 hp => ?_)
    obtain ⟨rfl, rfl⟩ := hp
    cases hz : zat (zrw σ8 0 q) y with
    | none =>
      refine zr_astore d_Y_waiter_26 (by decide) rfl ?_
      refine zr_aload d_Y_waiter_28 rfl ?_
      refine zr_ifnonnull (tgt := 41) d_Y_waiter_30 (by decide) (fun a c30 => nomatch c30) (fun c30 => ?_)
      exact zx_throw (E := "java/util/NoSuchElementException") hT rfl d_Y_waiter_33 d_Y_waiter_36 d_Y_waiter_37 d_Y_waiter_40 (by decide +kernel) (by decide +kernel) (by decide +kernel) (by decide +kernel) (by decide) (by decide) (ycat_of rfl) (by decide) (by decide) ⟨rfl, Or.inr ⟨rfl, q, rfl, hz⟩⟩
    | some t =>
      have ht : t < 6 := by
        unfold zat at hz
        split at hz
        · cases hz
        · exact hall t (List.mem_of_getElem? hz)
      refine zr_astore d_Y_waiter_26 (by decide) rfl ?_
      refine zr_aload d_Y_waiter_28 rfl ?_
      refine zr_ifnonnull (tgt := 41) d_Y_waiter_30 (by decide) (fun a c30 => ?_) (fun c30 => nomatch c30)
      refine zr_aload d_Y_waiter_41 rfl ?_
      refine zr_tnum d_Y_waiter_43 ht sf_Y_waiter_43 ?_
      exact zx_reti d_Y_waiter_46 rfl (by decide) (by decide) ⟨q, t, rfl, hz, rfl, rfl⟩
