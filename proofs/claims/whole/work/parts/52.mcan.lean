/-! the model: readers, can, sameSort, ofKind, notNow -/
def mrd (M : mM) (o : Nat) (b : Int32) : Int32 := zsum (fun t => if nI t = b then 0 else M 220 (o * 6 + t)) 6
def mcan (M : mM) (t o : Nat) (a : Int32) : Bool := if a = 0 ∨ a = 5 then decide (M 215 o < 0 ∨ M 215 o = nI t) else if a = 7 then decide ((M 215 o < 0 ∨ M 215 o = nI t) ∧ mrd M o (nI t) = 0) else if a = 9 then decide (¬ M 214 o < M 207 t) else if a = 11 then decide (M 214 o = 0) else if a = 15 then decide (¬ M 213 o ≤ M 214 o) else if a = 16 then decide (¬ M 214 o ≤ 0) else false
def mL (M : mM) (K b : Nat) (l : List Nat) : Prop := ∀ j (h : j < l.length), M K (b + j) = nI l[j]
def mss (M : mM) (l : List Nat) (a : Int32) : Bool := l.any (fun u => decide ((M 206 u = 15) ↔ (a = 15)))
def mofk (k a : Int32) : Bool := if k = 0 then decide (a < 5) else if k = 1 then mIn a 5 8 else if k = 2 then decide (a = 9 ∨ a = 10) else if k = 3 then decide (a = 11 ∨ a = 12) else if k = 4 then decide (a = 13 ∨ a = 14) else decide (14 < a)
def mnn (M : mM) (t o : Nat) (a g : Int32) : Bool := if ¬ M 201 t = 0 then true else if mIn a 1 4 = true ∨ a = 8 then decide (¬ M 215 o = nI t) else if a = 6 then decide (M 220 (o * 6 + t) = 0) else decide (a = 10 ∧ ¬ M 214 o + g ≤ 50)

set_option maxHeartbeats 4000000 in
set_option maxRecDepth 20000 in
theorem c_M_readers_loop {G : yG} {s : Nat → Option ySh} {F : Nat → Nat → Option Nat} {M : mM} (hS : mSh s F) {o : Nat} {b : Int32} (ho : o < 6) : ∀ (m q : Nat), m + q = 6 → yWW G m_M_readers (mQ G m_M_readers s F (fun r M' => r = some (yi (mrd M o b)) ∧ M' = M)) s 5 [some (yr 200), some (yi (nI o)), some (yi b), some (yi (zsum (fun t => if nI t = b then 0 else M 220 (o * 6 + t)) q)), some (yi (nI q))] [] (mw s F M) 0 0 := by
  intro m
  induction m with
  | zero =>
    intro q hm
    refine yr_iload d_M_readers_5 rfl ?_
    refine yr_bipush (v := 6) d_M_readers_7 (by decide) ?_
    refine yr_icmp_ge (tgt := 39) d_M_readers_9 (by decide) (fun c9 => ?_) (fun c9 => absurd (nI_le (a := 6) (by omega) (by omega)) c9)
    refine yr_iload_n d_M_readers_39 rfl ?_
    exact yr_reti d_M_readers_40 rfl (by decide) (by decide) ⟨_, rfl, by unfold mrd; rw [show q = 6 by omega], rfl⟩
  | succ m ih =>
    intro q hm
    refine yr_iload d_M_readers_5 rfl ?_
    refine yr_bipush (v := 6) d_M_readers_7 (by decide) ?_
    refine yr_icmp_ge (tgt := 39) d_M_readers_9 (by decide) (fun c9 => absurd c9 (nI_ge (b := 6) (by omega) (by omega))) (fun c9 => ?_)
    refine yr_iload d_M_readers_12 rfl ?_
    refine yr_iload_n d_M_readers_14 rfl ?_
    refine yr_icmp_eq (tgt := 33) d_M_readers_15 (by decide) (fun c15 => ?_) (fun c15 => ?_)
    · skip
      refine yr_iinc (v := nI (q + 1)) d_M_readers_33 rfl (nI_1 (q)) (by decide) rfl ?_
      refine yr_goto (tgt := 5) d_M_readers_36 (by decide) ?_
      first
        | (have e : zsum (fun t => if nI t = b then 0 else M 220 (o * 6 + t)) (q + 1) = zsum (fun t => if nI t = b then 0 else M 220 (o * 6 + t)) q := by
             show zsum (fun t => if nI t = b then 0 else M 220 (o * 6 + t)) q + (if nI q = b then 0 else M 220 (o * 6 + q)) = _
             rw [if_pos c15]; exact Int32.add_zero _
           have k := ih (q + 1) (by omega)
           rw [e] at k
           exact k)
        | (have e : zsum (fun t => if nI t = b then 0 else M 220 (o * 6 + t)) (q + 1) = zsum (fun t => if nI t = b then 0 else M 220 (o * 6 + t)) q + M 220 (o * 6 + q) := by
             show zsum (fun t => if nI t = b then 0 else M 220 (o * 6 + t)) q + (if nI q = b then 0 else M 220 (o * 6 + q)) = _
             rw [if_neg c15]
           have k := ih (q + 1) (by omega)
           rw [e] at k
           exact k)
    · skip
      refine yr_iload_n d_M_readers_18 rfl ?_
      refine yr_aload_n d_M_readers_19 rfl ?_
      refine mr_arr (a := 19) (K := 220) hS d_M_readers_20 sf_M_readers_20 rfl (by decide) rfl ?_
      refine yr_iload_n d_M_readers_23 rfl ?_
      refine yr_bipush (v := 6) d_M_readers_24 (by decide) ?_
      refine yr_imul d_M_readers_26 ?_
      refine yr_iload d_M_readers_27 rfl ?_
      refine yr_iadd d_M_readers_29 ?_
      refine mr_ld (a := 19) (K := 220) (n := 36) (j := ((o * 6) + q)) hS d_M_readers_30 (by decide) rfl rfl rfl (by simp only [nI0, nI1, nI2, nI3, nI4, nI6, nI_mulN, nI_add]) (by omega) ?_
      refine yr_iadd d_M_readers_31 ?_
      refine yr_istore_n d_M_readers_32 (by decide) rfl ?_
      refine yr_iinc (v := nI (q + 1)) d_M_readers_33 rfl (nI_1 (q)) (by decide) rfl ?_
      refine yr_goto (tgt := 5) d_M_readers_36 (by decide) ?_
      first
        | (have e : zsum (fun t => if nI t = b then 0 else M 220 (o * 6 + t)) (q + 1) = zsum (fun t => if nI t = b then 0 else M 220 (o * 6 + t)) q := by
             show zsum (fun t => if nI t = b then 0 else M 220 (o * 6 + t)) q + (if nI q = b then 0 else M 220 (o * 6 + q)) = _
             rw [if_pos c15]; exact Int32.add_zero _
           have k := ih (q + 1) (by omega)
           rw [e] at k
           exact k)
        | (have e : zsum (fun t => if nI t = b then 0 else M 220 (o * 6 + t)) (q + 1) = zsum (fun t => if nI t = b then 0 else M 220 (o * 6 + t)) q + M 220 (o * 6 + q) := by
             show zsum (fun t => if nI t = b then 0 else M 220 (o * 6 + t)) q + (if nI q = b then 0 else M 220 (o * 6 + q)) = _
             rw [if_neg c15]
           have k := ih (q + 1) (by omega)
           rw [e] at k
           exact k)

set_option maxHeartbeats 4000000 in
set_option maxRecDepth 20000 in
theorem c_M_readers {G : yG} {s : Nat → Option ySh} {F : Nat → Nat → Option Nat} {M : mM} (hS : mSh s F) {o : Nat} {b : Int32} (ho : o < 6) : mCT G m_M_readers [yr 200, yi (nI o), yi b] s F M (fun r M' => r = some (yi (mrd M o b)) ∧ M' = M) := by
  refine yCT_of (by decide) rfl (ycat_of rfl) (Nat.le_of_ble_eq_true rfl) ?_
  refine yr_iconst (v := 0) d_M_readers_0 (by decide) ?_
  refine yr_istore_n d_M_readers_1 (by decide) rfl ?_
  refine yr_iconst (v := 0) d_M_readers_2 (by decide) ?_
  refine yr_istore d_M_readers_3 (by decide) rfl ?_
  exact c_M_readers_loop hS ho 6 0 rfl

set_option maxHeartbeats 4000000 in
set_option maxRecDepth 20000 in
theorem c_M_can {G : yG} {s : Nat → Option ySh} {F : Nat → Nat → Option Nat} {M : mM} (hS : mSh s F) {t o : Nat} {a : Int32} (ht : t < 6) (ho : o < 6) : mCT G m_M_can [yr 200, yi (nI t), yi (nI o), yi a] s F M (fun r M' => r = some (yi (zb (mcan M t o a))) ∧ M' = M) := by
  refine yCT_of (by decide) rfl (ycat_of rfl) (Nat.le_of_ble_eq_true rfl) ?_
  refine yr_iload_n d_M_can_0 rfl ?_
  by_cases s0 : a = 0
  · refine yr_tcase d_M_can_1 0 s0 (by decide) (by decide) rfl (tgt := 84) (by decide) ?_
    refine yr_aload_n d_M_can_84 rfl ?_
    refine mr_arr (a := 14) (K := 215) hS d_M_can_85 sf_M_can_85 rfl (by decide) rfl ?_
    refine yr_iload_n d_M_can_88 rfl ?_
    refine mr_ld (a := 14) (K := 215) (n := 6) (j := o) hS d_M_can_89 (by decide) rfl rfl rfl (by simp only [nI0, nI1, nI2, nI3, nI4, nI6, nI_mulN, nI_add]) (by omega) ?_
    refine yr_if_lt (tgt := 103) d_M_can_90 (by decide) (fun c90 => ?_) (fun c90 => ?_)
    · skip
      refine yr_iconst (v := 1) d_M_can_103 (by decide) ?_
      refine yr_goto (tgt := 108) d_M_can_104 (by decide) ?_
      refine yr_retz d_M_can_108 rfl rfl (by decide) (by decide) ?_
      refine ⟨_, rfl, ?_, rfl⟩
      subst s0
      simp [mcan, zb, *]
    · skip
      refine yr_aload_n d_M_can_93 rfl ?_
      refine mr_arr (a := 14) (K := 215) hS d_M_can_94 sf_M_can_94 rfl (by decide) rfl ?_
      refine yr_iload_n d_M_can_97 rfl ?_
      refine mr_ld (a := 14) (K := 215) (n := 6) (j := o) hS d_M_can_98 (by decide) rfl rfl rfl (by simp only [nI0, nI1, nI2, nI3, nI4, nI6, nI_mulN, nI_add]) (by omega) ?_
      refine yr_iload_n d_M_can_99 rfl ?_
      refine yr_icmp_ne (tgt := 107) d_M_can_100 (by decide) (fun c100 => ?_) (fun c100 => ?_)
      · skip
        refine yr_iconst (v := 0) d_M_can_107 (by decide) ?_
        refine yr_retz d_M_can_108 rfl rfl (by decide) (by decide) ?_
        refine ⟨_, rfl, ?_, rfl⟩
        subst s0
        simp [mcan, zb, *]
      · skip
        refine yr_iconst (v := 1) d_M_can_103 (by decide) ?_
        refine yr_goto (tgt := 108) d_M_can_104 (by decide) ?_
        refine yr_retz d_M_can_108 rfl rfl (by decide) (by decide) ?_
        refine ⟨_, rfl, ?_, rfl⟩
        subst s0
        simp [mcan, zb, *]
  · skip
    by_cases s1 : a = 1
    · refine yr_tcase d_M_can_1 1 s1 (by decide) (by decide) rfl (tgt := 240) (by decide) ?_
      refine yr_iconst (v := 0) d_M_can_240 (by decide) ?_
      refine yr_retz d_M_can_241 rfl rfl (by decide) (by decide) ?_
      refine ⟨_, rfl, ?_, rfl⟩
      subst s1
      simp [mcan, zb]
    · skip
      by_cases s2 : a = 2
      · refine yr_tcase d_M_can_1 2 s2 (by decide) (by decide) rfl (tgt := 240) (by decide) ?_
        refine yr_iconst (v := 0) d_M_can_240 (by decide) ?_
        refine yr_retz d_M_can_241 rfl rfl (by decide) (by decide) ?_
        refine ⟨_, rfl, ?_, rfl⟩
        subst s2
        simp [mcan, zb]
      · skip
        by_cases s3 : a = 3
        · refine yr_tcase d_M_can_1 3 s3 (by decide) (by decide) rfl (tgt := 240) (by decide) ?_
          refine yr_iconst (v := 0) d_M_can_240 (by decide) ?_
          refine yr_retz d_M_can_241 rfl rfl (by decide) (by decide) ?_
          refine ⟨_, rfl, ?_, rfl⟩
          subst s3
          simp [mcan, zb]
        · skip
          by_cases s4 : a = 4
          · refine yr_tcase d_M_can_1 4 s4 (by decide) (by decide) rfl (tgt := 240) (by decide) ?_
            refine yr_iconst (v := 0) d_M_can_240 (by decide) ?_
            refine yr_retz d_M_can_241 rfl rfl (by decide) (by decide) ?_
            refine ⟨_, rfl, ?_, rfl⟩
            subst s4
            simp [mcan, zb]
          · skip
            by_cases s5 : a = 5
            · refine yr_tcase d_M_can_1 5 s5 (by decide) (by decide) rfl (tgt := 109) (by decide) ?_
              refine yr_aload_n d_M_can_109 rfl ?_
              refine mr_arr (a := 14) (K := 215) hS d_M_can_110 sf_M_can_110 rfl (by decide) rfl ?_
              refine yr_iload_n d_M_can_113 rfl ?_
              refine mr_ld (a := 14) (K := 215) (n := 6) (j := o) hS d_M_can_114 (by decide) rfl rfl rfl (by simp only [nI0, nI1, nI2, nI3, nI4, nI6, nI_mulN, nI_add]) (by omega) ?_
              refine yr_if_lt (tgt := 128) d_M_can_115 (by decide) (fun c115 => ?_) (fun c115 => ?_)
              · skip
                refine yr_iconst (v := 1) d_M_can_128 (by decide) ?_
                refine yr_goto (tgt := 133) d_M_can_129 (by decide) ?_
                refine yr_retz d_M_can_133 rfl rfl (by decide) (by decide) ?_
                refine ⟨_, rfl, ?_, rfl⟩
                subst s5
                simp [mcan, zb, *]
              · skip
                refine yr_aload_n d_M_can_118 rfl ?_
                refine mr_arr (a := 14) (K := 215) hS d_M_can_119 sf_M_can_119 rfl (by decide) rfl ?_
                refine yr_iload_n d_M_can_122 rfl ?_
                refine mr_ld (a := 14) (K := 215) (n := 6) (j := o) hS d_M_can_123 (by decide) rfl rfl rfl (by simp only [nI0, nI1, nI2, nI3, nI4, nI6, nI_mulN, nI_add]) (by omega) ?_
                refine yr_iload_n d_M_can_124 rfl ?_
                refine yr_icmp_ne (tgt := 132) d_M_can_125 (by decide) (fun c125 => ?_) (fun c125 => ?_)
                · skip
                  refine yr_iconst (v := 0) d_M_can_132 (by decide) ?_
                  refine yr_retz d_M_can_133 rfl rfl (by decide) (by decide) ?_
                  refine ⟨_, rfl, ?_, rfl⟩
                  subst s5
                  simp [mcan, zb, *]
                · skip
                  refine yr_iconst (v := 1) d_M_can_128 (by decide) ?_
                  refine yr_goto (tgt := 133) d_M_can_129 (by decide) ?_
                  refine yr_retz d_M_can_133 rfl rfl (by decide) (by decide) ?_
                  refine ⟨_, rfl, ?_, rfl⟩
                  subst s5
                  simp [mcan, zb, *]
            · skip
              by_cases s6 : a = 6
              · refine yr_tcase d_M_can_1 6 s6 (by decide) (by decide) rfl (tgt := 240) (by decide) ?_
                refine yr_iconst (v := 0) d_M_can_240 (by decide) ?_
                refine yr_retz d_M_can_241 rfl rfl (by decide) (by decide) ?_
                refine ⟨_, rfl, ?_, rfl⟩
                subst s6
                simp [mcan, zb]
              · skip
                by_cases s7 : a = 7
                · refine yr_tcase d_M_can_1 7 s7 (by decide) (by decide) rfl (tgt := 134) (by decide) ?_
                  refine yr_aload_n d_M_can_134 rfl ?_
                  refine mr_arr (a := 14) (K := 215) hS d_M_can_135 sf_M_can_135 rfl (by decide) rfl ?_
                  refine yr_iload_n d_M_can_138 rfl ?_
                  refine mr_ld (a := 14) (K := 215) (n := 6) (j := o) hS d_M_can_139 (by decide) rfl rfl rfl (by simp only [nI0, nI1, nI2, nI3, nI4, nI6, nI_mulN, nI_add]) (by omega) ?_
                  refine yr_if_lt (tgt := 153) d_M_can_140 (by decide) (fun c140 => ?_) (fun c140 => ?_)
                  · skip
                    refine yr_aload_n d_M_can_153 rfl ?_
                    refine yr_iload_n d_M_can_154 rfl ?_
                    refine yr_iload_n d_M_can_155 rfl ?_
                    refine mr_call (yrunV (X := yNX) (k := 200) (As := [yi (nI o), yi (nI t)]) (rest := []) d_M_can_156 (c_M_readers hS ho) hS.1 rfl (show yck (yMm m_M_can) m_M_readers 2 = true by decide +kernel) cw_M_readers (by decide +kernel) (by decide +kernel) (by decide +kernel) (by decide +kernel) (Nat.le_of_ble_eq_true rfl) (ycat_of rfl) (by decide) (by decide)) (fun r M9 hp => ?_)
                    obtain ⟨rfl, rfl⟩ := hp
                    refine yr_if_ne (tgt := 166) d_M_can_159 (by decide) (fun c159 => ?_) (fun c159 => ?_)
                    · skip
                      refine yr_iconst (v := 0) d_M_can_166 (by decide) ?_
                      refine yr_retz d_M_can_167 rfl rfl (by decide) (by decide) ?_
                      refine ⟨_, rfl, ?_, rfl⟩
                      subst s7
                      simp [mcan, zb, *]
                    · skip
                      refine yr_iconst (v := 1) d_M_can_162 (by decide) ?_
                      refine yr_goto (tgt := 167) d_M_can_163 (by decide) ?_
                      refine yr_retz d_M_can_167 rfl rfl (by decide) (by decide) ?_
                      refine ⟨_, rfl, ?_, rfl⟩
                      subst s7
                      simp [mcan, zb, *]
                  · skip
                    refine yr_aload_n d_M_can_143 rfl ?_
                    refine mr_arr (a := 14) (K := 215) hS d_M_can_144 sf_M_can_144 rfl (by decide) rfl ?_
                    refine yr_iload_n d_M_can_147 rfl ?_
                    refine mr_ld (a := 14) (K := 215) (n := 6) (j := o) hS d_M_can_148 (by decide) rfl rfl rfl (by simp only [nI0, nI1, nI2, nI3, nI4, nI6, nI_mulN, nI_add]) (by omega) ?_
                    refine yr_iload_n d_M_can_149 rfl ?_
                    refine yr_icmp_ne (tgt := 166) d_M_can_150 (by decide) (fun c150 => ?_) (fun c150 => ?_)
                    · skip
                      refine yr_iconst (v := 0) d_M_can_166 (by decide) ?_
                      refine yr_retz d_M_can_167 rfl rfl (by decide) (by decide) ?_
                      refine ⟨_, rfl, ?_, rfl⟩
                      subst s7
                      simp [mcan, zb, *]
                    · skip
                      refine yr_aload_n d_M_can_153 rfl ?_
                      refine yr_iload_n d_M_can_154 rfl ?_
                      refine yr_iload_n d_M_can_155 rfl ?_
                      refine mr_call (yrunV (X := yNX) (k := 200) (As := [yi (nI o), yi (nI t)]) (rest := []) d_M_can_156 (c_M_readers hS ho) hS.1 rfl (show yck (yMm m_M_can) m_M_readers 2 = true by decide +kernel) cw_M_readers (by decide +kernel) (by decide +kernel) (by decide +kernel) (by decide +kernel) (Nat.le_of_ble_eq_true rfl) (ycat_of rfl) (by decide) (by decide)) (fun r M9 hp => ?_)
                      obtain ⟨rfl, rfl⟩ := hp
                      refine yr_if_ne (tgt := 166) d_M_can_159 (by decide) (fun c159 => ?_) (fun c159 => ?_)
                      · skip
                        refine yr_iconst (v := 0) d_M_can_166 (by decide) ?_
                        refine yr_retz d_M_can_167 rfl rfl (by decide) (by decide) ?_
                        refine ⟨_, rfl, ?_, rfl⟩
                        subst s7
                        simp [mcan, zb, *]
                      · skip
                        refine yr_iconst (v := 1) d_M_can_162 (by decide) ?_
                        refine yr_goto (tgt := 167) d_M_can_163 (by decide) ?_
                        refine yr_retz d_M_can_167 rfl rfl (by decide) (by decide) ?_
                        refine ⟨_, rfl, ?_, rfl⟩
                        subst s7
                        simp [mcan, zb, *]
                · skip
                  by_cases s8 : a = 8
                  · refine yr_tcase d_M_can_1 8 s8 (by decide) (by decide) rfl (tgt := 240) (by decide) ?_
                    refine yr_iconst (v := 0) d_M_can_240 (by decide) ?_
                    refine yr_retz d_M_can_241 rfl rfl (by decide) (by decide) ?_
                    refine ⟨_, rfl, ?_, rfl⟩
                    subst s8
                    simp [mcan, zb]
                  · skip
                    by_cases s9 : a = 9
                    · refine yr_tcase d_M_can_1 9 s9 (by decide) (by decide) rfl (tgt := 168) (by decide) ?_
                      refine yr_aload_n d_M_can_168 rfl ?_
                      refine mr_arr (a := 13) (K := 214) hS d_M_can_169 sf_M_can_169 rfl (by decide) rfl ?_
                      refine yr_iload_n d_M_can_172 rfl ?_
                      refine mr_ld (a := 13) (K := 214) (n := 6) (j := o) hS d_M_can_173 (by decide) rfl rfl rfl (by simp only [nI0, nI1, nI2, nI3, nI4, nI6, nI_mulN, nI_add]) (by omega) ?_
                      refine yr_aload_n d_M_can_174 rfl ?_
                      refine mr_arr (a := 6) (K := 207) hS d_M_can_175 sf_M_can_175 rfl (by decide) rfl ?_
                      refine yr_iload_n d_M_can_178 rfl ?_
                      refine mr_ld (a := 6) (K := 207) (n := 6) (j := t) hS d_M_can_179 (by decide) rfl rfl rfl (by simp only [nI0, nI1, nI2, nI3, nI4, nI6, nI_mulN, nI_add]) (by omega) ?_
                      refine yr_icmp_lt (tgt := 187) d_M_can_180 (by decide) (fun c180 => ?_) (fun c180 => ?_)
                      · skip
                        refine yr_iconst (v := 0) d_M_can_187 (by decide) ?_
                        refine yr_retz d_M_can_188 rfl rfl (by decide) (by decide) ?_
                        refine ⟨_, rfl, ?_, rfl⟩
                        subst s9
                        simp [mcan, zb, *]
                      · skip
                        refine yr_iconst (v := 1) d_M_can_183 (by decide) ?_
                        refine yr_goto (tgt := 188) d_M_can_184 (by decide) ?_
                        refine yr_retz d_M_can_188 rfl rfl (by decide) (by decide) ?_
                        refine ⟨_, rfl, ?_, rfl⟩
                        subst s9
                        simp [mcan, zb, *]
                    · skip
                      by_cases s10 : a = 10
                      · refine yr_tcase d_M_can_1 10 s10 (by decide) (by decide) rfl (tgt := 240) (by decide) ?_
                        refine yr_iconst (v := 0) d_M_can_240 (by decide) ?_
                        refine yr_retz d_M_can_241 rfl rfl (by decide) (by decide) ?_
                        refine ⟨_, rfl, ?_, rfl⟩
                        subst s10
                        simp [mcan, zb]
                      · skip
                        by_cases s11 : a = 11
                        · refine yr_tcase d_M_can_1 11 s11 (by decide) (by decide) rfl (tgt := 189) (by decide) ?_
                          refine yr_aload_n d_M_can_189 rfl ?_
                          refine mr_arr (a := 13) (K := 214) hS d_M_can_190 sf_M_can_190 rfl (by decide) rfl ?_
                          refine yr_iload_n d_M_can_193 rfl ?_
                          refine mr_ld (a := 13) (K := 214) (n := 6) (j := o) hS d_M_can_194 (by decide) rfl rfl rfl (by simp only [nI0, nI1, nI2, nI3, nI4, nI6, nI_mulN, nI_add]) (by omega) ?_
                          refine yr_if_ne (tgt := 202) d_M_can_195 (by decide) (fun c195 => ?_) (fun c195 => ?_)
                          · skip
                            refine yr_iconst (v := 0) d_M_can_202 (by decide) ?_
                            refine yr_retz d_M_can_203 rfl rfl (by decide) (by decide) ?_
                            refine ⟨_, rfl, ?_, rfl⟩
                            subst s11
                            simp [mcan, zb, *]
                          · skip
                            refine yr_iconst (v := 1) d_M_can_198 (by decide) ?_
                            refine yr_goto (tgt := 203) d_M_can_199 (by decide) ?_
                            refine yr_retz d_M_can_203 rfl rfl (by decide) (by decide) ?_
                            refine ⟨_, rfl, ?_, rfl⟩
                            subst s11
                            simp [mcan, zb, *]
                        · skip
                          by_cases s12 : a = 12
                          · refine yr_tcase d_M_can_1 12 s12 (by decide) (by decide) rfl (tgt := 240) (by decide) ?_
                            refine yr_iconst (v := 0) d_M_can_240 (by decide) ?_
                            refine yr_retz d_M_can_241 rfl rfl (by decide) (by decide) ?_
                            refine ⟨_, rfl, ?_, rfl⟩
                            subst s12
                            simp [mcan, zb]
                          · skip
                            by_cases s13 : a = 13
                            · refine yr_tcase d_M_can_1 13 s13 (by decide) (by decide) rfl (tgt := 240) (by decide) ?_
                              refine yr_iconst (v := 0) d_M_can_240 (by decide) ?_
                              refine yr_retz d_M_can_241 rfl rfl (by decide) (by decide) ?_
                              refine ⟨_, rfl, ?_, rfl⟩
                              subst s13
                              simp [mcan, zb]
                            · skip
                              by_cases s14 : a = 14
                              · refine yr_tcase d_M_can_1 14 s14 (by decide) (by decide) rfl (tgt := 240) (by decide) ?_
                                refine yr_iconst (v := 0) d_M_can_240 (by decide) ?_
                                refine yr_retz d_M_can_241 rfl rfl (by decide) (by decide) ?_
                                refine ⟨_, rfl, ?_, rfl⟩
                                subst s14
                                simp [mcan, zb]
                              · skip
                                by_cases s15 : a = 15
                                · refine yr_tcase d_M_can_1 15 s15 (by decide) (by decide) rfl (tgt := 204) (by decide) ?_
                                  refine yr_aload_n d_M_can_204 rfl ?_
                                  refine mr_arr (a := 13) (K := 214) hS d_M_can_205 sf_M_can_205 rfl (by decide) rfl ?_
                                  refine yr_iload_n d_M_can_208 rfl ?_
                                  refine mr_ld (a := 13) (K := 214) (n := 6) (j := o) hS d_M_can_209 (by decide) rfl rfl rfl (by simp only [nI0, nI1, nI2, nI3, nI4, nI6, nI_mulN, nI_add]) (by omega) ?_
                                  refine yr_aload_n d_M_can_210 rfl ?_
                                  refine mr_arr (a := 12) (K := 213) hS d_M_can_211 sf_M_can_211 rfl (by decide) rfl ?_
                                  refine yr_iload_n d_M_can_214 rfl ?_
                                  refine mr_ld (a := 12) (K := 213) (n := 6) (j := o) hS d_M_can_215 (by decide) rfl rfl rfl (by simp only [nI0, nI1, nI2, nI3, nI4, nI6, nI_mulN, nI_add]) (by omega) ?_
                                  refine yr_icmp_ge (tgt := 223) d_M_can_216 (by decide) (fun c216 => ?_) (fun c216 => ?_)
                                  · skip
                                    refine yr_iconst (v := 0) d_M_can_223 (by decide) ?_
                                    refine yr_retz d_M_can_224 rfl rfl (by decide) (by decide) ?_
                                    refine ⟨_, rfl, ?_, rfl⟩
                                    subst s15
                                    simp [mcan, zb, *]
                                  · skip
                                    refine yr_iconst (v := 1) d_M_can_219 (by decide) ?_
                                    refine yr_goto (tgt := 224) d_M_can_220 (by decide) ?_
                                    refine yr_retz d_M_can_224 rfl rfl (by decide) (by decide) ?_
                                    refine ⟨_, rfl, ?_, rfl⟩
                                    subst s15
                                    simp [mcan, zb, *]
                                · skip
                                  by_cases s16 : a = 16
                                  · refine yr_tcase d_M_can_1 16 s16 (by decide) (by decide) rfl (tgt := 225) (by decide) ?_
                                    refine yr_aload_n d_M_can_225 rfl ?_
                                    refine mr_arr (a := 13) (K := 214) hS d_M_can_226 sf_M_can_226 rfl (by decide) rfl ?_
                                    refine yr_iload_n d_M_can_229 rfl ?_
                                    refine mr_ld (a := 13) (K := 214) (n := 6) (j := o) hS d_M_can_230 (by decide) rfl rfl rfl (by simp only [nI0, nI1, nI2, nI3, nI4, nI6, nI_mulN, nI_add]) (by omega) ?_
                                    refine yr_if_le (tgt := 238) d_M_can_231 (by decide) (fun c231 => ?_) (fun c231 => ?_)
                                    · skip
                                      refine yr_iconst (v := 0) d_M_can_238 (by decide) ?_
                                      refine yr_retz d_M_can_239 rfl rfl (by decide) (by decide) ?_
                                      refine ⟨_, rfl, ?_, rfl⟩
                                      subst s16
                                      simp [mcan, zb, *]
                                    · skip
                                      refine yr_iconst (v := 1) d_M_can_234 (by decide) ?_
                                      refine yr_goto (tgt := 239) d_M_can_235 (by decide) ?_
                                      refine yr_retz d_M_can_239 rfl rfl (by decide) (by decide) ?_
                                      refine ⟨_, rfl, ?_, rfl⟩
                                      subst s16
                                      simp [mcan, zb, *]
                                  · skip
                                    refine yr_tdef d_M_can_1 (by have q0 := lv_neT s0 (a := 0) (by decide); have q1 := lv_neT s1 (a := 1) (by decide); have q2 := lv_neT s2 (a := 2) (by decide); have q3 := lv_neT s3 (a := 3) (by decide); have q4 := lv_neT s4 (a := 4) (by decide); have q5 := lv_neT s5 (a := 5) (by decide); have q6 := lv_neT s6 (a := 6) (by decide); have q7 := lv_neT s7 (a := 7) (by decide); have q8 := lv_neT s8 (a := 8) (by decide); have q9 := lv_neT s9 (a := 9) (by decide); have q10 := lv_neT s10 (a := 10) (by decide); have q11 := lv_neT s11 (a := 11) (by decide); have q12 := lv_neT s12 (a := 12) (by decide); have q13 := lv_neT s13 (a := 13) (by decide); have q14 := lv_neT s14 (a := 14) (by decide); have q15 := lv_neT s15 (a := 15) (by decide); have q16 := lv_neT s16 (a := 16) (by decide); omega) (tgt := 240) (by decide) ?_
                                    refine yr_iconst (v := 0) d_M_can_240 (by decide) ?_
                                    refine yr_retz d_M_can_241 rfl rfl (by decide) (by decide) ?_
                                    refine ⟨_, rfl, ?_, rfl⟩
                                    simp [mcan, zb, s0, s1, s2, s3, s4, s5, s6, s7, s8, s9, s10, s11, s12, s13, s14, s15, s16]

theorem mss_cons {M : mM} {l : List Nat} {q : Nat} {a : Int32} (h : q < l.length) : mss M (l.drop q) a = (decide ((M 206 l[q] = 15) ↔ (a = 15)) || mss M (l.drop (q + 1)) a) := by
  rw [List.drop_eq_getElem_cons h]; rfl

set_option maxHeartbeats 4000000 in
set_option maxRecDepth 20000 in
theorem c_M_sameSort_loop {G : yG} {s : Nat → Option ySh} {F : Nat → Nat → Option Nat} {M : mM} (hS : mSh s F) {o : Nat} {a : Int32} {l : List Nat} (ho : o < 6) (hl6 : l.length ≤ 6) (hls : M 216 o = nI l.length) (hr : mL M 217 (o * 6) l) (hall : ∀ u ∈ l, u < 6) : ∀ (m q : Nat), m + q = l.length → yWW G m_M_sameSort (mQ G m_M_sameSort s F (fun r M' => r = some (yi (zb (mss M (l.drop q) a))) ∧ M' = M)) s 2 [some (yr 200), some (yi (nI o)), some (yi a), some (yi (nI q))] [] (mw s F M) 0 0 := by
  intro m
  induction m with
  | zero =>
    intro q hm
    refine yr_iload_n d_M_sameSort_2 rfl ?_
    refine yr_aload_n d_M_sameSort_3 rfl ?_
    refine mr_arr (a := 15) (K := 216) hS d_M_sameSort_4 sf_M_sameSort_4 rfl (by decide) rfl ?_
    refine yr_iload_n d_M_sameSort_7 rfl ?_
    refine mr_ld (a := 15) (K := 216) (n := 6) (j := o) hS d_M_sameSort_8 (by decide) rfl rfl rfl (by simp only [nI0, nI1, nI2, nI3, nI4, nI6, nI_mulN, nI_add]) (by omega) ?_
    rw [hls]
    refine yr_icmp_ge (tgt := 60) d_M_sameSort_9 (by decide) (fun c9 => ?_) (fun c9 => absurd (nI_le (by omega) (by omega)) c9)
    refine yr_iconst (v := 0) d_M_sameSort_60 (by decide) ?_
    exact yr_retz d_M_sameSort_61 rfl rfl (by decide) (by decide) ⟨_, rfl, by rw [List.drop_eq_nil_of_le (by omega)]; rfl, rfl⟩
  | succ m ih =>
    intro q hm
    have hq : q < l.length := by omega
    have hu : l[q] < 6 := hall _ (List.getElem_mem hq)
    rw [mss_cons hq]
    refine yr_iload_n d_M_sameSort_2 rfl ?_
    refine yr_aload_n d_M_sameSort_3 rfl ?_
    refine mr_arr (a := 15) (K := 216) hS d_M_sameSort_4 sf_M_sameSort_4 rfl (by decide) rfl ?_
    refine yr_iload_n d_M_sameSort_7 rfl ?_
    refine mr_ld (a := 15) (K := 216) (n := 6) (j := o) hS d_M_sameSort_8 (by decide) rfl rfl rfl (by simp only [nI0, nI1, nI2, nI3, nI4, nI6, nI_mulN, nI_add]) (by omega) ?_
    rw [hls]
    refine yr_icmp_ge (tgt := 60) d_M_sameSort_9 (by decide) (fun c9 => absurd c9 (nI_ge (by omega) (by omega))) (fun c9 => ?_)
    refine yr_aload_n d_M_sameSort_12 rfl ?_
    refine mr_arr (a := 5) (K := 206) hS d_M_sameSort_13 sf_M_sameSort_13 rfl (by decide) rfl ?_
    refine yr_aload_n d_M_sameSort_16 rfl ?_
    refine mr_arr (a := 16) (K := 217) hS d_M_sameSort_17 sf_M_sameSort_17 rfl (by decide) rfl ?_
    refine yr_iload_n d_M_sameSort_20 rfl ?_
    refine yr_bipush (v := 6) d_M_sameSort_21 (by decide) ?_
    refine yr_imul d_M_sameSort_23 ?_
    refine yr_iload_n d_M_sameSort_24 rfl ?_
    refine yr_iadd d_M_sameSort_25 ?_
    refine mr_ld (a := 16) (K := 217) (n := 36) (j := ((o * 6) + q)) hS d_M_sameSort_26 (by decide) rfl rfl rfl (by simp only [nI0, nI1, nI2, nI3, nI4, nI6, nI_mulN, nI_add]) (by omega) ?_
    rw [hr q hq]
    refine mr_ld (a := 5) (K := 206) (n := 6) (j := l[q]) hS d_M_sameSort_27 (by decide) rfl rfl rfl (by simp only [nI0, nI1, nI2, nI3, nI4, nI6, nI_mulN, nI_add]) (by omega) ?_
    refine yr_bipush (v := 15) d_M_sameSort_28 (by decide) ?_
    refine yr_icmp_ne (tgt := 37) d_M_sameSort_30 (by decide) (fun c30 => ?_) (fun c30 => ?_)
    · skip
      refine yr_iconst (v := 0) d_M_sameSort_37 (by decide) ?_
      refine yr_iload_n d_M_sameSort_38 rfl ?_
      refine yr_bipush (v := 15) d_M_sameSort_39 (by decide) ?_
      refine yr_icmp_ne (tgt := 48) d_M_sameSort_41 (by decide) (fun c41 => ?_) (fun c41 => ?_)
      · skip
        refine yr_iconst (v := 0) d_M_sameSort_48 (by decide) ?_
        refine yr_icmp_ne (tgt := 54) d_M_sameSort_49 (by decide) (fun c49 => ?_) (fun c49 => ?_)
        · skip
          have k := ih (q + 1) (by omega)
          first
          | exact absurd c49 (by decide)
          | (rw [show decide ((M 206 l[q] = 15) ↔ (a = 15)) = false by simp [*], Bool.false_or]
             refine yr_iinc (v := nI (q + 1)) d_M_sameSort_54 rfl (nI_1 q) (by decide) rfl ?_
             refine yr_goto (tgt := 2) d_M_sameSort_57 (by decide) ?_
             exact k)
          | exact absurd rfl c49
        · skip
          refine yr_iconst (v := 1) d_M_sameSort_52 (by decide) ?_
          refine yr_retz d_M_sameSort_53 rfl rfl (by decide) (by decide) ?_
          refine ⟨_, rfl, ?_, rfl⟩
          first
          | (simp [zb, *]; done)
          | exact absurd rfl c49
          | exact absurd c49 (by decide)
      · skip
        refine yr_iconst (v := 1) d_M_sameSort_44 (by decide) ?_
        refine yr_goto (tgt := 49) d_M_sameSort_45 (by decide) ?_
        refine yr_icmp_ne (tgt := 54) d_M_sameSort_49 (by decide) (fun c49 => ?_) (fun c49 => ?_)
        · skip
          have k := ih (q + 1) (by omega)
          first
          | exact absurd c49 (by decide)
          | (rw [show decide ((M 206 l[q] = 15) ↔ (a = 15)) = false by simp [*], Bool.false_or]
             refine yr_iinc (v := nI (q + 1)) d_M_sameSort_54 rfl (nI_1 q) (by decide) rfl ?_
             refine yr_goto (tgt := 2) d_M_sameSort_57 (by decide) ?_
             exact k)
          | exact absurd rfl c49
        · skip
          refine yr_iconst (v := 1) d_M_sameSort_52 (by decide) ?_
          refine yr_retz d_M_sameSort_53 rfl rfl (by decide) (by decide) ?_
          refine ⟨_, rfl, ?_, rfl⟩
          first
          | (simp [zb, *]; done)
          | exact absurd rfl c49
          | exact absurd c49 (by decide)
    · skip
      refine yr_iconst (v := 1) d_M_sameSort_33 (by decide) ?_
      refine yr_goto (tgt := 38) d_M_sameSort_34 (by decide) ?_
      refine yr_iload_n d_M_sameSort_38 rfl ?_
      refine yr_bipush (v := 15) d_M_sameSort_39 (by decide) ?_
      refine yr_icmp_ne (tgt := 48) d_M_sameSort_41 (by decide) (fun c41 => ?_) (fun c41 => ?_)
      · skip
        refine yr_iconst (v := 0) d_M_sameSort_48 (by decide) ?_
        refine yr_icmp_ne (tgt := 54) d_M_sameSort_49 (by decide) (fun c49 => ?_) (fun c49 => ?_)
        · skip
          have k := ih (q + 1) (by omega)
          first
          | exact absurd c49 (by decide)
          | (rw [show decide ((M 206 l[q] = 15) ↔ (a = 15)) = false by simp [*], Bool.false_or]
             refine yr_iinc (v := nI (q + 1)) d_M_sameSort_54 rfl (nI_1 q) (by decide) rfl ?_
             refine yr_goto (tgt := 2) d_M_sameSort_57 (by decide) ?_
             exact k)
          | exact absurd rfl c49
        · skip
          refine yr_iconst (v := 1) d_M_sameSort_52 (by decide) ?_
          refine yr_retz d_M_sameSort_53 rfl rfl (by decide) (by decide) ?_
          refine ⟨_, rfl, ?_, rfl⟩
          first
          | (simp [zb, *]; done)
          | exact absurd rfl c49
          | exact absurd c49 (by decide)
      · skip
        refine yr_iconst (v := 1) d_M_sameSort_44 (by decide) ?_
        refine yr_goto (tgt := 49) d_M_sameSort_45 (by decide) ?_
        refine yr_icmp_ne (tgt := 54) d_M_sameSort_49 (by decide) (fun c49 => ?_) (fun c49 => ?_)
        · skip
          have k := ih (q + 1) (by omega)
          first
          | exact absurd c49 (by decide)
          | (rw [show decide ((M 206 l[q] = 15) ↔ (a = 15)) = false by simp [*], Bool.false_or]
             refine yr_iinc (v := nI (q + 1)) d_M_sameSort_54 rfl (nI_1 q) (by decide) rfl ?_
             refine yr_goto (tgt := 2) d_M_sameSort_57 (by decide) ?_
             exact k)
          | exact absurd rfl c49
        · skip
          refine yr_iconst (v := 1) d_M_sameSort_52 (by decide) ?_
          refine yr_retz d_M_sameSort_53 rfl rfl (by decide) (by decide) ?_
          refine ⟨_, rfl, ?_, rfl⟩
          first
          | (simp [zb, *]; done)
          | exact absurd rfl c49
          | exact absurd c49 (by decide)

set_option maxHeartbeats 4000000 in
set_option maxRecDepth 20000 in
theorem c_M_sameSort {G : yG} {s : Nat → Option ySh} {F : Nat → Nat → Option Nat} {M : mM} (hS : mSh s F) {o : Nat} {a : Int32} {l : List Nat} (ho : o < 6) (hl6 : l.length ≤ 6) (hls : M 216 o = nI l.length) (hr : mL M 217 (o * 6) l) (hall : ∀ u ∈ l, u < 6) : mCT G m_M_sameSort [yr 200, yi (nI o), yi a] s F M (fun r M' => r = some (yi (zb (mss M l a))) ∧ M' = M) := by
  refine yCT_of (by decide) rfl (ycat_of rfl) (Nat.le_of_ble_eq_true rfl) ?_
  refine yr_iconst (v := 0) d_M_sameSort_0 (by decide) ?_
  refine yr_istore_n d_M_sameSort_1 (by decide) rfl ?_
  exact c_M_sameSort_loop hS ho hl6 hls hr hall l.length 0 rfl

set_option maxHeartbeats 4000000 in
set_option maxRecDepth 20000 in
theorem c_M_ofKind {G : yG} {s : Nat → Option ySh} {F : Nat → Nat → Option Nat} {M : mM} (hS : mSh s F) {k a : Int32} : mCT G m_M_ofKind [yr 200, yi k, yi a] s F M (fun r M' => r = some (yi (zb (mofk k a))) ∧ M' = M) := by
  refine yCT_of (by decide) rfl (ycat_of rfl) (Nat.le_of_ble_eq_true rfl) ?_
  refine yr_iload_n d_M_ofKind_0 rfl ?_
  by_cases s0 : k = 0
  · refine yr_tcase d_M_ofKind_1 0 s0 (by decide) (by decide) rfl (tgt := 36) (by decide) ?_
    refine yr_iload_n d_M_ofKind_36 rfl ?_
    refine yr_iconst (v := 5) d_M_ofKind_37 (by decide) ?_
    refine yr_icmp_ge (tgt := 45) d_M_ofKind_38 (by decide) (fun c38 => ?_) (fun c38 => ?_)
    · skip
      refine yr_iconst (v := 0) d_M_ofKind_45 (by decide) ?_
      refine yr_retz d_M_ofKind_46 rfl rfl (by decide) (by decide) ?_
      refine ⟨_, rfl, ?_, rfl⟩
      subst s0
      simp [mofk, zb]
      first | exact c38 | exact Int32.not_le.mp c38 | exact Int32.not_lt.mpr c38
    · skip
      refine yr_iconst (v := 1) d_M_ofKind_41 (by decide) ?_
      refine yr_goto (tgt := 46) d_M_ofKind_42 (by decide) ?_
      refine yr_retz d_M_ofKind_46 rfl rfl (by decide) (by decide) ?_
      refine ⟨_, rfl, ?_, rfl⟩
      subst s0
      simp [mofk, zb]
      first | exact c38 | exact Int32.not_le.mp c38 | exact Int32.not_lt.mpr c38
  · skip
    by_cases s1 : k = 1
    · refine yr_tcase d_M_ofKind_1 1 s1 (by decide) (by decide) rfl (tgt := 47) (by decide) ?_
      refine yr_iload_n d_M_ofKind_47 rfl ?_
      refine yr_iconst (v := 5) d_M_ofKind_48 (by decide) ?_
      refine yr_bipush (v := 8) d_M_ofKind_49 (by decide) ?_
      refine mr_call (yrunS (X := yNX) (As := [yi a, yi 5, yi 8]) (rest := []) d_M_ofKind_51 (c_M_in hS) (show yck (yMm m_M_ofKind) m_M_in 3 = true by decide +kernel) cw_M_in (by decide +kernel) (by decide +kernel) (by decide +kernel) (Nat.le_of_ble_eq_true rfl) (ycat_of rfl) (by decide) (by decide)) (fun r M9 hp => ?_)
      obtain ⟨rfl, rfl⟩ := hp
      exact yr_retz d_M_ofKind_54 rfl (zb_nar _) (by decide) (by decide) ⟨_, rfl, by subst s1; rfl, rfl⟩
    · skip
      by_cases s2 : k = 2
      · refine yr_tcase d_M_ofKind_1 2 s2 (by decide) (by decide) rfl (tgt := 55) (by decide) ?_
        refine yr_iload_n d_M_ofKind_55 rfl ?_
        refine yr_bipush (v := 9) d_M_ofKind_56 (by decide) ?_
        refine yr_icmp_eq (tgt := 67) d_M_ofKind_58 (by decide) (fun c58 => ?_) (fun c58 => ?_)
        · skip
          refine yr_iconst (v := 1) d_M_ofKind_67 (by decide) ?_
          refine yr_goto (tgt := 72) d_M_ofKind_68 (by decide) ?_
          refine yr_retz d_M_ofKind_72 rfl rfl (by decide) (by decide) ?_
          refine ⟨_, rfl, ?_, rfl⟩
          subst s2
          simp [mofk, zb, *]
        · skip
          refine yr_iload_n d_M_ofKind_61 rfl ?_
          refine yr_bipush (v := 10) d_M_ofKind_62 (by decide) ?_
          refine yr_icmp_ne (tgt := 71) d_M_ofKind_64 (by decide) (fun c64 => ?_) (fun c64 => ?_)
          · skip
            refine yr_iconst (v := 0) d_M_ofKind_71 (by decide) ?_
            refine yr_retz d_M_ofKind_72 rfl rfl (by decide) (by decide) ?_
            refine ⟨_, rfl, ?_, rfl⟩
            subst s2
            simp [mofk, zb, *]
          · skip
            refine yr_iconst (v := 1) d_M_ofKind_67 (by decide) ?_
            refine yr_goto (tgt := 72) d_M_ofKind_68 (by decide) ?_
            refine yr_retz d_M_ofKind_72 rfl rfl (by decide) (by decide) ?_
            refine ⟨_, rfl, ?_, rfl⟩
            subst s2
            simp [mofk, zb, *]
      · skip
        by_cases s3 : k = 3
        · refine yr_tcase d_M_ofKind_1 3 s3 (by decide) (by decide) rfl (tgt := 73) (by decide) ?_
          refine yr_iload_n d_M_ofKind_73 rfl ?_
          refine yr_bipush (v := 11) d_M_ofKind_74 (by decide) ?_
          refine yr_icmp_eq (tgt := 85) d_M_ofKind_76 (by decide) (fun c76 => ?_) (fun c76 => ?_)
          · skip
            refine yr_iconst (v := 1) d_M_ofKind_85 (by decide) ?_
            refine yr_goto (tgt := 90) d_M_ofKind_86 (by decide) ?_
            refine yr_retz d_M_ofKind_90 rfl rfl (by decide) (by decide) ?_
            refine ⟨_, rfl, ?_, rfl⟩
            subst s3
            simp [mofk, zb, *]
          · skip
            refine yr_iload_n d_M_ofKind_79 rfl ?_
            refine yr_bipush (v := 12) d_M_ofKind_80 (by decide) ?_
            refine yr_icmp_ne (tgt := 89) d_M_ofKind_82 (by decide) (fun c82 => ?_) (fun c82 => ?_)
            · skip
              refine yr_iconst (v := 0) d_M_ofKind_89 (by decide) ?_
              refine yr_retz d_M_ofKind_90 rfl rfl (by decide) (by decide) ?_
              refine ⟨_, rfl, ?_, rfl⟩
              subst s3
              simp [mofk, zb, *]
            · skip
              refine yr_iconst (v := 1) d_M_ofKind_85 (by decide) ?_
              refine yr_goto (tgt := 90) d_M_ofKind_86 (by decide) ?_
              refine yr_retz d_M_ofKind_90 rfl rfl (by decide) (by decide) ?_
              refine ⟨_, rfl, ?_, rfl⟩
              subst s3
              simp [mofk, zb, *]
        · skip
          by_cases s4 : k = 4
          · refine yr_tcase d_M_ofKind_1 4 s4 (by decide) (by decide) rfl (tgt := 91) (by decide) ?_
            refine yr_iload_n d_M_ofKind_91 rfl ?_
            refine yr_bipush (v := 13) d_M_ofKind_92 (by decide) ?_
            refine yr_icmp_eq (tgt := 103) d_M_ofKind_94 (by decide) (fun c94 => ?_) (fun c94 => ?_)
            · skip
              refine yr_iconst (v := 1) d_M_ofKind_103 (by decide) ?_
              refine yr_goto (tgt := 108) d_M_ofKind_104 (by decide) ?_
              refine yr_retz d_M_ofKind_108 rfl rfl (by decide) (by decide) ?_
              refine ⟨_, rfl, ?_, rfl⟩
              subst s4
              simp [mofk, zb, *]
            · skip
              refine yr_iload_n d_M_ofKind_97 rfl ?_
              refine yr_bipush (v := 14) d_M_ofKind_98 (by decide) ?_
              refine yr_icmp_ne (tgt := 107) d_M_ofKind_100 (by decide) (fun c100 => ?_) (fun c100 => ?_)
              · skip
                refine yr_iconst (v := 0) d_M_ofKind_107 (by decide) ?_
                refine yr_retz d_M_ofKind_108 rfl rfl (by decide) (by decide) ?_
                refine ⟨_, rfl, ?_, rfl⟩
                subst s4
                simp [mofk, zb, *]
              · skip
                refine yr_iconst (v := 1) d_M_ofKind_103 (by decide) ?_
                refine yr_goto (tgt := 108) d_M_ofKind_104 (by decide) ?_
                refine yr_retz d_M_ofKind_108 rfl rfl (by decide) (by decide) ?_
                refine ⟨_, rfl, ?_, rfl⟩
                subst s4
                simp [mofk, zb, *]
          · skip
            refine yr_tdef d_M_ofKind_1 (by have q0 := lv_neT s0 (a := 0) (by decide); have q1 := lv_neT s1 (a := 1) (by decide); have q2 := lv_neT s2 (a := 2) (by decide); have q3 := lv_neT s3 (a := 3) (by decide); have q4 := lv_neT s4 (a := 4) (by decide); omega) (tgt := 109) (by decide) ?_
            refine yr_iload_n d_M_ofKind_109 rfl ?_
            refine yr_bipush (v := 14) d_M_ofKind_110 (by decide) ?_
            refine yr_icmp_le (tgt := 119) d_M_ofKind_112 (by decide) (fun c112 => ?_) (fun c112 => ?_)
            · skip
              refine yr_iconst (v := 0) d_M_ofKind_119 (by decide) ?_
              refine yr_retz d_M_ofKind_120 rfl rfl (by decide) (by decide) ?_
              refine ⟨_, rfl, ?_, rfl⟩
              simp [mofk, zb, s0, s1, s2, s3, s4]
              first | exact c112 | exact Int32.not_le.mp c112 | exact Int32.not_lt.mpr c112
            · skip
              refine yr_iconst (v := 1) d_M_ofKind_115 (by decide) ?_
              refine yr_goto (tgt := 120) d_M_ofKind_116 (by decide) ?_
              refine yr_retz d_M_ofKind_120 rfl rfl (by decide) (by decide) ?_
              refine ⟨_, rfl, ?_, rfl⟩
              simp [mofk, zb, s0, s1, s2, s3, s4]
              first | exact c112 | exact Int32.not_le.mp c112 | exact Int32.not_lt.mpr c112

set_option maxHeartbeats 4000000 in
set_option maxRecDepth 20000 in
theorem c_M_notNow {G : yG} {s : Nat → Option ySh} {F : Nat → Nat → Option Nat} {M : mM} (hS : mSh s F) {t o : Nat} {a g : Int32} (ht : t < 6) (ho : o < 6) : mCT G m_M_notNow [yr 200, yi (nI t), yi (nI o), yi a, yi g] s F M (fun r M' => r = some (yi (zb (mnn M t o a g))) ∧ M' = M) := by
  refine yCT_of (by decide) rfl (ycat_of rfl) (Nat.le_of_ble_eq_true rfl) ?_
  refine yr_aload_n d_M_notNow_0 rfl ?_
  refine mr_arr (a := 0) (K := 201) hS d_M_notNow_1 sf_M_notNow_1 rfl (by decide) rfl ?_
  refine yr_iload_n d_M_notNow_4 rfl ?_
  refine mr_ld (a := 0) (K := 201) (n := 6) (j := t) hS d_M_notNow_5 (by decide) rfl rfl rfl (by simp only [nI0, nI1, nI2, nI3, nI4, nI6, nI_mulN, nI_add]) (by omega) ?_
  refine yr_if_eq (tgt := 11) d_M_notNow_6 (by decide) (fun c6 => ?_) (fun c6 => ?_)
  · skip
    refine yr_iload_n d_M_notNow_11 rfl ?_
    refine yr_iconst (v := 1) d_M_notNow_12 (by decide) ?_
    refine yr_iconst (v := 4) d_M_notNow_13 (by decide) ?_
    refine mr_call (yrunS (X := yNX) (As := [yi a, yi 1, yi 4]) (rest := []) d_M_notNow_14 (c_M_in hS) (show yck (yMm m_M_notNow) m_M_in 3 = true by decide +kernel) cw_M_in (by decide +kernel) (by decide +kernel) (by decide +kernel) (Nat.le_of_ble_eq_true rfl) (ycat_of rfl) (by decide) (by decide)) (fun r M9 hp => ?_)
    obtain ⟨rfl, rfl⟩ := hp
    have hz : ∀ b, zb b = 0 ↔ b = false := fun b => by cases b <;> decide
    refine yr_if_ne (tgt := 26) d_M_notNow_17 (by decide) (fun c17 => ?_) (fun c17 => ?_)
    · skip
      refine yr_aload_n d_M_notNow_26 rfl ?_
      refine mr_arr (a := 14) (K := 215) hS d_M_notNow_27 sf_M_notNow_27 rfl (by decide) rfl ?_
      refine yr_iload_n d_M_notNow_30 rfl ?_
      refine mr_ld (a := 14) (K := 215) (n := 6) (j := o) hS d_M_notNow_31 (by decide) rfl rfl rfl (by simp only [nI0, nI1, nI2, nI3, nI4, nI6, nI_mulN, nI_add]) (by omega) ?_
      refine yr_iload_n d_M_notNow_32 rfl ?_
      refine yr_icmp_eq (tgt := 40) d_M_notNow_33 (by decide) (fun c33 => ?_) (fun c33 => ?_)
      · skip
        refine yr_iconst (v := 0) d_M_notNow_40 (by decide) ?_
        refine yr_retz d_M_notNow_41 rfl rfl (by decide) (by decide) ?_
        refine ⟨_, rfl, ?_, rfl⟩
        simp_all [mnn, zb]
      · skip
        refine yr_iconst (v := 1) d_M_notNow_36 (by decide) ?_
        refine yr_goto (tgt := 41) d_M_notNow_37 (by decide) ?_
        refine yr_retz d_M_notNow_41 rfl rfl (by decide) (by decide) ?_
        refine ⟨_, rfl, ?_, rfl⟩
        simp_all [mnn, zb]
    · skip
      refine yr_iload_n d_M_notNow_20 rfl ?_
      refine yr_bipush (v := 8) d_M_notNow_21 (by decide) ?_
      refine yr_icmp_ne (tgt := 42) d_M_notNow_23 (by decide) (fun c23 => ?_) (fun c23 => ?_)
      · skip
        refine yr_iload_n d_M_notNow_42 rfl ?_
        refine yr_bipush (v := 6) d_M_notNow_43 (by decide) ?_
        refine yr_icmp_ne (tgt := 68) d_M_notNow_45 (by decide) (fun c45 => ?_) (fun c45 => ?_)
        · skip
          refine yr_iload_n d_M_notNow_68 rfl ?_
          refine yr_bipush (v := 10) d_M_notNow_69 (by decide) ?_
          refine yr_icmp_ne (tgt := 92) d_M_notNow_71 (by decide) (fun c71 => ?_) (fun c71 => ?_)
          · skip
            refine yr_iconst (v := 0) d_M_notNow_92 (by decide) ?_
            refine yr_retz d_M_notNow_93 rfl rfl (by decide) (by decide) ?_
            refine ⟨_, rfl, ?_, rfl⟩
            simp_all [mnn, zb]
          · skip
            refine yr_aload_n d_M_notNow_74 rfl ?_
            refine mr_arr (a := 13) (K := 214) hS d_M_notNow_75 sf_M_notNow_75 rfl (by decide) rfl ?_
            refine yr_iload_n d_M_notNow_78 rfl ?_
            refine mr_ld (a := 13) (K := 214) (n := 6) (j := o) hS d_M_notNow_79 (by decide) rfl rfl rfl (by simp only [nI0, nI1, nI2, nI3, nI4, nI6, nI_mulN, nI_add]) (by omega) ?_
            refine yr_iload d_M_notNow_80 rfl ?_
            refine yr_iadd d_M_notNow_82 ?_
            refine yr_bipush (v := 50) d_M_notNow_83 (by decide) ?_
            refine yr_icmp_le (tgt := 92) d_M_notNow_85 (by decide) (fun c85 => ?_) (fun c85 => ?_)
            · skip
              refine yr_iconst (v := 0) d_M_notNow_92 (by decide) ?_
              refine yr_retz d_M_notNow_93 rfl rfl (by decide) (by decide) ?_
              refine ⟨_, rfl, ?_, rfl⟩
              simp_all [mnn, zb]
            · skip
              refine yr_iconst (v := 1) d_M_notNow_88 (by decide) ?_
              refine yr_goto (tgt := 93) d_M_notNow_89 (by decide) ?_
              refine yr_retz d_M_notNow_93 rfl rfl (by decide) (by decide) ?_
              refine ⟨_, rfl, ?_, rfl⟩
              simp_all [mnn, zb]
        · skip
          refine yr_aload_n d_M_notNow_48 rfl ?_
          refine mr_arr (a := 19) (K := 220) hS d_M_notNow_49 sf_M_notNow_49 rfl (by decide) rfl ?_
          refine yr_iload_n d_M_notNow_52 rfl ?_
          refine yr_bipush (v := 6) d_M_notNow_53 (by decide) ?_
          refine yr_imul d_M_notNow_55 ?_
          refine yr_iload_n d_M_notNow_56 rfl ?_
          refine yr_iadd d_M_notNow_57 ?_
          refine mr_ld (a := 19) (K := 220) (n := 36) (j := ((o * 6) + t)) hS d_M_notNow_58 (by decide) rfl rfl rfl (by simp only [nI0, nI1, nI2, nI3, nI4, nI6, nI_mulN, nI_add]) (by omega) ?_
          refine yr_if_ne (tgt := 66) d_M_notNow_59 (by decide) (fun c59 => ?_) (fun c59 => ?_)
          · skip
            refine yr_iconst (v := 0) d_M_notNow_66 (by decide) ?_
            refine yr_retz d_M_notNow_67 rfl rfl (by decide) (by decide) ?_
            refine ⟨_, rfl, ?_, rfl⟩
            simp_all [mnn, zb]
          · skip
            refine yr_iconst (v := 1) d_M_notNow_62 (by decide) ?_
            refine yr_goto (tgt := 67) d_M_notNow_63 (by decide) ?_
            refine yr_retz d_M_notNow_67 rfl rfl (by decide) (by decide) ?_
            refine ⟨_, rfl, ?_, rfl⟩
            simp_all [mnn, zb]
      · skip
        refine yr_aload_n d_M_notNow_26 rfl ?_
        refine mr_arr (a := 14) (K := 215) hS d_M_notNow_27 sf_M_notNow_27 rfl (by decide) rfl ?_
        refine yr_iload_n d_M_notNow_30 rfl ?_
        refine mr_ld (a := 14) (K := 215) (n := 6) (j := o) hS d_M_notNow_31 (by decide) rfl rfl rfl (by simp only [nI0, nI1, nI2, nI3, nI4, nI6, nI_mulN, nI_add]) (by omega) ?_
        refine yr_iload_n d_M_notNow_32 rfl ?_
        refine yr_icmp_eq (tgt := 40) d_M_notNow_33 (by decide) (fun c33 => ?_) (fun c33 => ?_)
        · skip
          refine yr_iconst (v := 0) d_M_notNow_40 (by decide) ?_
          refine yr_retz d_M_notNow_41 rfl rfl (by decide) (by decide) ?_
          refine ⟨_, rfl, ?_, rfl⟩
          simp_all [mnn, zb]
        · skip
          refine yr_iconst (v := 1) d_M_notNow_36 (by decide) ?_
          refine yr_goto (tgt := 41) d_M_notNow_37 (by decide) ?_
          refine yr_retz d_M_notNow_41 rfl rfl (by decide) (by decide) ?_
          refine ⟨_, rfl, ?_, rfl⟩
          simp_all [mnn, zb]
  · skip
    refine yr_iconst (v := 1) d_M_notNow_9 (by decide) ?_
    refine yr_retz d_M_notNow_10 rfl rfl (by decide) (by decide) ?_
    refine ⟨_, rfl, ?_, rfl⟩
    simp_all [mnn, zb]
