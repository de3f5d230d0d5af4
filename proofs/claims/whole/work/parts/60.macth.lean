/-! the model: act's head -/
theorem zb0 {b : Bool} : zb b = 0 ↔ b = false := by cases b <;> decide
theorem zb1 {b : Bool} : ¬ zb b = 0 ↔ b = true := by cases b <;> decide
def mArg (a g : Int32) : Bool := !((mIn a 2 4 && !mIn g 0 1) || (decide (a = 9 ∨ a = 10) && !mIn g 1 3))
def mFin (n : Nat) (x y a p : Int32) : Bool := mIn x 0 5 && (mIn y 0 (nI n - 1) && (mIn a 0 16 && mIn p (-1) 100))

set_option maxHeartbeats 4000000 in
set_option maxRecDepth 20000 in
theorem c_M_actA {G : yG} {s : Nat → Option ySh} {F : Nat → Nat → Option Nat} {M : mM} (hS : mSh s F) {x y a g p : Int32} {n : Nat} (hob : M 200 23 = nI n) {POST : Option yV → mM → Prop} {x7 x8 : Option yV} {x6 : Option yV} (hk : yWW G m_M_act (mQ G m_M_act s F POST) s 51 [some (yr 200), some (yi x), some (yi y), some (yi a), some (yi g), some (yi p), some (yi (zb (mFin n x y a p))), x7, x8] [] (mw s F M) 0 0) : yWW G m_M_act (mQ G m_M_act s F POST) s 0 [some (yr 200), some (yi x), some (yi y), some (yi a), some (yi g), some (yi p), x6, x7, x8] [] (mw s F M) 0 0 := by
  refine yr_iload_n d_M_act_0 rfl ?_
  refine yr_iconst (v := 0) d_M_act_1 (by decide) ?_
  refine yr_iconst (v := 5) d_M_act_2 (by decide) ?_
  refine mr_call (yrunS (X := yNX) (As := [yi x, yi 0, yi 5]) (rest := []) d_M_act_3 (c_M_in hS) (show yck (yMm m_M_act) m_M_in 3 = true by decide +kernel) cw_M_in (by decide +kernel) (by decide +kernel) (by decide +kernel) (Nat.le_of_ble_eq_true rfl) (ycat_of rfl) (by decide) (by decide)) (fun r M9 hp => ?_)
  obtain ⟨rfl, hM9⟩ := hp
  rw [hM9]
  refine yr_if_eq (tgt := 48) d_M_act_6 (by decide) (fun c6 => ?_) (fun c6 => ?_)
  · skip
    refine yr_iconst (v := 0) d_M_act_48 (by decide) ?_
    refine yr_istore d_M_act_49 (by decide) rfl ?_
    first
    | (rw [show mFin n x y a p = true by unfold mFin; rw [zb1.mp c6, zb1.mp c20, zb1.mp c30, zb1.mp c41]; rfl] at hk; exact hk)
    | (rw [show mFin n x y a p = false by unfold mFin; rw [zb0.mp c6]; rfl] at hk; exact hk)
    | (rw [show mFin n x y a p = false by unfold mFin; rw [zb0.mp c20, Bool.false_and, Bool.and_false]] at hk; exact hk)
    | (rw [show mFin n x y a p = false by unfold mFin; rw [zb0.mp c30, Bool.false_and, Bool.and_false, Bool.and_false]] at hk; exact hk)
    | (rw [show mFin n x y a p = false by unfold mFin; rw [zb0.mp c41, Bool.and_false, Bool.and_false, Bool.and_false]] at hk; exact hk)
  · skip
    refine yr_iload_n d_M_act_9 rfl ?_
    refine yr_iconst (v := 0) d_M_act_10 (by decide) ?_
    refine yr_aload_n d_M_act_11 rfl ?_
    refine mr_geti (f := 23) hS d_M_act_12 sf_M_act_12 rfl ?_
    rw [hob]
    refine yr_iconst (v := 1) d_M_act_15 (by decide) ?_
    refine yr_isub d_M_act_16 ?_
    refine mr_call (yrunS (X := yNX) (As := [yi y, yi 0, yi (nI n - 1)]) (rest := []) d_M_act_17 (c_M_in hS) (show yck (yMm m_M_act) m_M_in 3 = true by decide +kernel) cw_M_in (by decide +kernel) (by decide +kernel) (by decide +kernel) (Nat.le_of_ble_eq_true rfl) (ycat_of rfl) (by decide) (by decide)) (fun r M9 hp => ?_)
    obtain ⟨rfl, hM9⟩ := hp
    rw [hM9]
    refine yr_if_eq (tgt := 48) d_M_act_20 (by decide) (fun c20 => ?_) (fun c20 => ?_)
    · skip
      refine yr_iconst (v := 0) d_M_act_48 (by decide) ?_
      refine yr_istore d_M_act_49 (by decide) rfl ?_
      first
      | (rw [show mFin n x y a p = true by unfold mFin; rw [zb1.mp c6, zb1.mp c20, zb1.mp c30, zb1.mp c41]; rfl] at hk; exact hk)
      | (rw [show mFin n x y a p = false by unfold mFin; rw [zb0.mp c6]; rfl] at hk; exact hk)
      | (rw [show mFin n x y a p = false by unfold mFin; rw [zb0.mp c20, Bool.false_and, Bool.and_false]] at hk; exact hk)
      | (rw [show mFin n x y a p = false by unfold mFin; rw [zb0.mp c30, Bool.false_and, Bool.and_false, Bool.and_false]] at hk; exact hk)
      | (rw [show mFin n x y a p = false by unfold mFin; rw [zb0.mp c41, Bool.and_false, Bool.and_false, Bool.and_false]] at hk; exact hk)
    · skip
      refine yr_iload_n d_M_act_23 rfl ?_
      refine yr_iconst (v := 0) d_M_act_24 (by decide) ?_
      refine yr_bipush (v := 16) d_M_act_25 (by decide) ?_
      refine mr_call (yrunS (X := yNX) (As := [yi a, yi 0, yi 16]) (rest := []) d_M_act_27 (c_M_in hS) (show yck (yMm m_M_act) m_M_in 3 = true by decide +kernel) cw_M_in (by decide +kernel) (by decide +kernel) (by decide +kernel) (Nat.le_of_ble_eq_true rfl) (ycat_of rfl) (by decide) (by decide)) (fun r M9 hp => ?_)
      obtain ⟨rfl, hM9⟩ := hp
      rw [hM9]
      refine yr_if_eq (tgt := 48) d_M_act_30 (by decide) (fun c30 => ?_) (fun c30 => ?_)
      · skip
        refine yr_iconst (v := 0) d_M_act_48 (by decide) ?_
        refine yr_istore d_M_act_49 (by decide) rfl ?_
        first
        | (rw [show mFin n x y a p = true by unfold mFin; rw [zb1.mp c6, zb1.mp c20, zb1.mp c30, zb1.mp c41]; rfl] at hk; exact hk)
        | (rw [show mFin n x y a p = false by unfold mFin; rw [zb0.mp c6]; rfl] at hk; exact hk)
        | (rw [show mFin n x y a p = false by unfold mFin; rw [zb0.mp c20, Bool.false_and, Bool.and_false]] at hk; exact hk)
        | (rw [show mFin n x y a p = false by unfold mFin; rw [zb0.mp c30, Bool.false_and, Bool.and_false, Bool.and_false]] at hk; exact hk)
        | (rw [show mFin n x y a p = false by unfold mFin; rw [zb0.mp c41, Bool.and_false, Bool.and_false, Bool.and_false]] at hk; exact hk)
      · skip
        refine yr_iload d_M_act_33 rfl ?_
        refine yr_iconst (v := -1) d_M_act_35 (by decide) ?_
        refine yr_bipush (v := 100) d_M_act_36 (by decide) ?_
        refine mr_call (yrunS (X := yNX) (As := [yi p, yi (-1), yi 100]) (rest := []) d_M_act_38 (c_M_in hS) (show yck (yMm m_M_act) m_M_in 3 = true by decide +kernel) cw_M_in (by decide +kernel) (by decide +kernel) (by decide +kernel) (Nat.le_of_ble_eq_true rfl) (ycat_of rfl) (by decide) (by decide)) (fun r M9 hp => ?_)
        obtain ⟨rfl, hM9⟩ := hp
        rw [hM9]
        refine yr_if_eq (tgt := 48) d_M_act_41 (by decide) (fun c41 => ?_) (fun c41 => ?_)
        · skip
          refine yr_iconst (v := 0) d_M_act_48 (by decide) ?_
          refine yr_istore d_M_act_49 (by decide) rfl ?_
          first
          | (rw [show mFin n x y a p = true by unfold mFin; rw [zb1.mp c6, zb1.mp c20, zb1.mp c30, zb1.mp c41]; rfl] at hk; exact hk)
          | (rw [show mFin n x y a p = false by unfold mFin; rw [zb0.mp c6]; rfl] at hk; exact hk)
          | (rw [show mFin n x y a p = false by unfold mFin; rw [zb0.mp c20, Bool.false_and, Bool.and_false]] at hk; exact hk)
          | (rw [show mFin n x y a p = false by unfold mFin; rw [zb0.mp c30, Bool.false_and, Bool.and_false, Bool.and_false]] at hk; exact hk)
          | (rw [show mFin n x y a p = false by unfold mFin; rw [zb0.mp c41, Bool.and_false, Bool.and_false, Bool.and_false]] at hk; exact hk)
        · skip
          refine yr_iconst (v := 1) d_M_act_44 (by decide) ?_
          refine yr_goto (tgt := 49) d_M_act_45 (by decide) ?_
          refine yr_istore d_M_act_49 (by decide) rfl ?_
          first
          | (rw [show mFin n x y a p = true by unfold mFin; rw [zb1.mp c6, zb1.mp c20, zb1.mp c30, zb1.mp c41]; rfl] at hk; exact hk)
          | (rw [show mFin n x y a p = false by unfold mFin; rw [zb0.mp c6]; rfl] at hk; exact hk)
          | (rw [show mFin n x y a p = false by unfold mFin; rw [zb0.mp c20, Bool.false_and, Bool.and_false]] at hk; exact hk)
          | (rw [show mFin n x y a p = false by unfold mFin; rw [zb0.mp c30, Bool.false_and, Bool.and_false, Bool.and_false]] at hk; exact hk)
          | (rw [show mFin n x y a p = false by unfold mFin; rw [zb0.mp c41, Bool.and_false, Bool.and_false, Bool.and_false]] at hk; exact hk)

set_option maxHeartbeats 4000000 in
set_option maxRecDepth 20000 in
theorem c_M_actB {G : yG} {s : Nat → Option ySh} {F : Nat → Nat → Option Nat} {M : mM} (hS : mSh s F) {x y a g p : Int32} {f : Bool} {POST : Option yV → mM → Prop} {x7 x8 : Option yV} (hk : yWW G m_M_act (mQ G m_M_act s F POST) s 95 [some (yr 200), some (yi x), some (yi y), some (yi a), some (yi g), some (yi p), some (yi (zb (f && mArg a g))), x7, x8] [] (mw s F M) 0 0) : yWW G m_M_act (mQ G m_M_act s F POST) s 51 [some (yr 200), some (yi x), some (yi y), some (yi a), some (yi g), some (yi p), some (yi (zb f)), x7, x8] [] (mw s F M) 0 0 := by
  refine yr_iload_n d_M_act_51 rfl ?_
  refine yr_iconst (v := 2) d_M_act_52 (by decide) ?_
  refine yr_iconst (v := 4) d_M_act_53 (by decide) ?_
  refine mr_call (yrunS (X := yNX) (As := [yi a, yi 2, yi 4]) (rest := []) d_M_act_54 (c_M_in hS) (show yck (yMm m_M_act) m_M_in 3 = true by decide +kernel) cw_M_in (by decide +kernel) (by decide +kernel) (by decide +kernel) (Nat.le_of_ble_eq_true rfl) (ycat_of rfl) (by decide) (by decide)) (fun r M9 hp => ?_)
  obtain ⟨rfl, hM9⟩ := hp
  rw [hM9]
  refine yr_if_eq (tgt := 70) d_M_act_57 (by decide) (fun c57 => ?_) (fun c57 => ?_)
  · skip
    refine yr_iload_n d_M_act_70 rfl ?_
    refine yr_bipush (v := 9) d_M_act_71 (by decide) ?_
    refine yr_icmp_eq (tgt := 82) d_M_act_73 (by decide) (fun c73 => ?_) (fun c73 => ?_)
    · skip
      refine yr_iload d_M_act_82 rfl ?_
      refine yr_iconst (v := 1) d_M_act_84 (by decide) ?_
      refine yr_iconst (v := 3) d_M_act_85 (by decide) ?_
      refine mr_call (yrunS (X := yNX) (As := [yi g, yi 1, yi 3]) (rest := []) d_M_act_86 (c_M_in hS) (show yck (yMm m_M_act) m_M_in 3 = true by decide +kernel) cw_M_in (by decide +kernel) (by decide +kernel) (by decide +kernel) (Nat.le_of_ble_eq_true rfl) (ycat_of rfl) (by decide) (by decide)) (fun r M9 hp => ?_)
      obtain ⟨rfl, hM9⟩ := hp
      rw [hM9]
      refine yr_if_ne (tgt := 95) d_M_act_89 (by decide) (fun c89 => ?_) (fun c89 => ?_)
      · skip
        first
        | (rw [show mArg a g = false by unfold mArg; rw [zb1.mp c57, zb0.mp c67]; rfl, Bool.and_false] at hk; exact hk)
        | (rw [show mArg a g = false by unfold mArg; rw [zb0.mp c89, show decide (a = 9 ∨ a = 10) = true from decide_eq_true (by first | exact Or.inl c73 | exact Or.inr c79)]; simp, Bool.and_false] at hk; exact hk)
        | (rw [show mArg a g = true by unfold mArg; rw [zb1.mp c89]; first | (rw [zb0.mp c57]; simp; done) | (rw [zb1.mp c67]; simp; done), Bool.and_true] at hk; exact hk)
        | (rw [show mArg a g = true by unfold mArg; rw [show decide (a = 9 ∨ a = 10) = false from decide_eq_false (fun z => z.elim c73 c79)]; first | (rw [zb0.mp c57]; simp; done) | (rw [zb1.mp c67]; simp; done), Bool.and_true] at hk; exact hk)
      · skip
        refine yr_iconst (v := 0) d_M_act_92 (by decide) ?_
        refine yr_istore d_M_act_93 (by decide) rfl ?_
        first
        | (rw [show mArg a g = false by unfold mArg; rw [zb1.mp c57, zb0.mp c67]; rfl, Bool.and_false] at hk; exact hk)
        | (rw [show mArg a g = false by unfold mArg; rw [zb0.mp c89, show decide (a = 9 ∨ a = 10) = true from decide_eq_true (by first | exact Or.inl c73 | exact Or.inr c79)]; simp, Bool.and_false] at hk; exact hk)
        | (rw [show mArg a g = true by unfold mArg; rw [zb1.mp c89]; first | (rw [zb0.mp c57]; simp; done) | (rw [zb1.mp c67]; simp; done), Bool.and_true] at hk; exact hk)
        | (rw [show mArg a g = true by unfold mArg; rw [show decide (a = 9 ∨ a = 10) = false from decide_eq_false (fun z => z.elim c73 c79)]; first | (rw [zb0.mp c57]; simp; done) | (rw [zb1.mp c67]; simp; done), Bool.and_true] at hk; exact hk)
    · skip
      refine yr_iload_n d_M_act_76 rfl ?_
      refine yr_bipush (v := 10) d_M_act_77 (by decide) ?_
      refine yr_icmp_ne (tgt := 95) d_M_act_79 (by decide) (fun c79 => ?_) (fun c79 => ?_)
      · skip
        first
        | (rw [show mArg a g = false by unfold mArg; rw [zb1.mp c57, zb0.mp c67]; rfl, Bool.and_false] at hk; exact hk)
        | (rw [show mArg a g = false by unfold mArg; rw [zb0.mp c89, show decide (a = 9 ∨ a = 10) = true from decide_eq_true (by first | exact Or.inl c73 | exact Or.inr c79)]; simp, Bool.and_false] at hk; exact hk)
        | (rw [show mArg a g = true by unfold mArg; rw [zb1.mp c89]; first | (rw [zb0.mp c57]; simp; done) | (rw [zb1.mp c67]; simp; done), Bool.and_true] at hk; exact hk)
        | (rw [show mArg a g = true by unfold mArg; rw [show decide (a = 9 ∨ a = 10) = false from decide_eq_false (fun z => z.elim c73 c79)]; first | (rw [zb0.mp c57]; simp; done) | (rw [zb1.mp c67]; simp; done), Bool.and_true] at hk; exact hk)
      · skip
        refine yr_iload d_M_act_82 rfl ?_
        refine yr_iconst (v := 1) d_M_act_84 (by decide) ?_
        refine yr_iconst (v := 3) d_M_act_85 (by decide) ?_
        refine mr_call (yrunS (X := yNX) (As := [yi g, yi 1, yi 3]) (rest := []) d_M_act_86 (c_M_in hS) (show yck (yMm m_M_act) m_M_in 3 = true by decide +kernel) cw_M_in (by decide +kernel) (by decide +kernel) (by decide +kernel) (Nat.le_of_ble_eq_true rfl) (ycat_of rfl) (by decide) (by decide)) (fun r M9 hp => ?_)
        obtain ⟨rfl, hM9⟩ := hp
        rw [hM9]
        refine yr_if_ne (tgt := 95) d_M_act_89 (by decide) (fun c89 => ?_) (fun c89 => ?_)
        · skip
          first
          | (rw [show mArg a g = false by unfold mArg; rw [zb1.mp c57, zb0.mp c67]; rfl, Bool.and_false] at hk; exact hk)
          | (rw [show mArg a g = false by unfold mArg; rw [zb0.mp c89, show decide (a = 9 ∨ a = 10) = true from decide_eq_true (by first | exact Or.inl c73 | exact Or.inr c79)]; simp, Bool.and_false] at hk; exact hk)
          | (rw [show mArg a g = true by unfold mArg; rw [zb1.mp c89]; first | (rw [zb0.mp c57]; simp; done) | (rw [zb1.mp c67]; simp; done), Bool.and_true] at hk; exact hk)
          | (rw [show mArg a g = true by unfold mArg; rw [show decide (a = 9 ∨ a = 10) = false from decide_eq_false (fun z => z.elim c73 c79)]; first | (rw [zb0.mp c57]; simp; done) | (rw [zb1.mp c67]; simp; done), Bool.and_true] at hk; exact hk)
        · skip
          refine yr_iconst (v := 0) d_M_act_92 (by decide) ?_
          refine yr_istore d_M_act_93 (by decide) rfl ?_
          first
          | (rw [show mArg a g = false by unfold mArg; rw [zb1.mp c57, zb0.mp c67]; rfl, Bool.and_false] at hk; exact hk)
          | (rw [show mArg a g = false by unfold mArg; rw [zb0.mp c89, show decide (a = 9 ∨ a = 10) = true from decide_eq_true (by first | exact Or.inl c73 | exact Or.inr c79)]; simp, Bool.and_false] at hk; exact hk)
          | (rw [show mArg a g = true by unfold mArg; rw [zb1.mp c89]; first | (rw [zb0.mp c57]; simp; done) | (rw [zb1.mp c67]; simp; done), Bool.and_true] at hk; exact hk)
          | (rw [show mArg a g = true by unfold mArg; rw [show decide (a = 9 ∨ a = 10) = false from decide_eq_false (fun z => z.elim c73 c79)]; first | (rw [zb0.mp c57]; simp; done) | (rw [zb1.mp c67]; simp; done), Bool.and_true] at hk; exact hk)
  · skip
    refine yr_iload d_M_act_60 rfl ?_
    refine yr_iconst (v := 0) d_M_act_62 (by decide) ?_
    refine yr_iconst (v := 1) d_M_act_63 (by decide) ?_
    refine mr_call (yrunS (X := yNX) (As := [yi g, yi 0, yi 1]) (rest := []) d_M_act_64 (c_M_in hS) (show yck (yMm m_M_act) m_M_in 3 = true by decide +kernel) cw_M_in (by decide +kernel) (by decide +kernel) (by decide +kernel) (Nat.le_of_ble_eq_true rfl) (ycat_of rfl) (by decide) (by decide)) (fun r M9 hp => ?_)
    obtain ⟨rfl, hM9⟩ := hp
    rw [hM9]
    refine yr_if_eq (tgt := 92) d_M_act_67 (by decide) (fun c67 => ?_) (fun c67 => ?_)
    · skip
      refine yr_iconst (v := 0) d_M_act_92 (by decide) ?_
      refine yr_istore d_M_act_93 (by decide) rfl ?_
      first
      | (rw [show mArg a g = false by unfold mArg; rw [zb1.mp c57, zb0.mp c67]; rfl, Bool.and_false] at hk; exact hk)
      | (rw [show mArg a g = false by unfold mArg; rw [zb0.mp c89, show decide (a = 9 ∨ a = 10) = true from decide_eq_true (by first | exact Or.inl c73 | exact Or.inr c79)]; simp, Bool.and_false] at hk; exact hk)
      | (rw [show mArg a g = true by unfold mArg; rw [zb1.mp c89]; first | (rw [zb0.mp c57]; simp; done) | (rw [zb1.mp c67]; simp; done), Bool.and_true] at hk; exact hk)
      | (rw [show mArg a g = true by unfold mArg; rw [show decide (a = 9 ∨ a = 10) = false from decide_eq_false (fun z => z.elim c73 c79)]; first | (rw [zb0.mp c57]; simp; done) | (rw [zb1.mp c67]; simp; done), Bool.and_true] at hk; exact hk)
    · skip
      refine yr_iload_n d_M_act_70 rfl ?_
      refine yr_bipush (v := 9) d_M_act_71 (by decide) ?_
      refine yr_icmp_eq (tgt := 82) d_M_act_73 (by decide) (fun c73 => ?_) (fun c73 => ?_)
      · skip
        refine yr_iload d_M_act_82 rfl ?_
        refine yr_iconst (v := 1) d_M_act_84 (by decide) ?_
        refine yr_iconst (v := 3) d_M_act_85 (by decide) ?_
        refine mr_call (yrunS (X := yNX) (As := [yi g, yi 1, yi 3]) (rest := []) d_M_act_86 (c_M_in hS) (show yck (yMm m_M_act) m_M_in 3 = true by decide +kernel) cw_M_in (by decide +kernel) (by decide +kernel) (by decide +kernel) (Nat.le_of_ble_eq_true rfl) (ycat_of rfl) (by decide) (by decide)) (fun r M9 hp => ?_)
        obtain ⟨rfl, hM9⟩ := hp
        rw [hM9]
        refine yr_if_ne (tgt := 95) d_M_act_89 (by decide) (fun c89 => ?_) (fun c89 => ?_)
        · skip
          first
          | (rw [show mArg a g = false by unfold mArg; rw [zb1.mp c57, zb0.mp c67]; rfl, Bool.and_false] at hk; exact hk)
          | (rw [show mArg a g = false by unfold mArg; rw [zb0.mp c89, show decide (a = 9 ∨ a = 10) = true from decide_eq_true (by first | exact Or.inl c73 | exact Or.inr c79)]; simp, Bool.and_false] at hk; exact hk)
          | (rw [show mArg a g = true by unfold mArg; rw [zb1.mp c89]; first | (rw [zb0.mp c57]; simp; done) | (rw [zb1.mp c67]; simp; done), Bool.and_true] at hk; exact hk)
          | (rw [show mArg a g = true by unfold mArg; rw [show decide (a = 9 ∨ a = 10) = false from decide_eq_false (fun z => z.elim c73 c79)]; first | (rw [zb0.mp c57]; simp; done) | (rw [zb1.mp c67]; simp; done), Bool.and_true] at hk; exact hk)
        · skip
          refine yr_iconst (v := 0) d_M_act_92 (by decide) ?_
          refine yr_istore d_M_act_93 (by decide) rfl ?_
          first
          | (rw [show mArg a g = false by unfold mArg; rw [zb1.mp c57, zb0.mp c67]; rfl, Bool.and_false] at hk; exact hk)
          | (rw [show mArg a g = false by unfold mArg; rw [zb0.mp c89, show decide (a = 9 ∨ a = 10) = true from decide_eq_true (by first | exact Or.inl c73 | exact Or.inr c79)]; simp, Bool.and_false] at hk; exact hk)
          | (rw [show mArg a g = true by unfold mArg; rw [zb1.mp c89]; first | (rw [zb0.mp c57]; simp; done) | (rw [zb1.mp c67]; simp; done), Bool.and_true] at hk; exact hk)
          | (rw [show mArg a g = true by unfold mArg; rw [show decide (a = 9 ∨ a = 10) = false from decide_eq_false (fun z => z.elim c73 c79)]; first | (rw [zb0.mp c57]; simp; done) | (rw [zb1.mp c67]; simp; done), Bool.and_true] at hk; exact hk)
      · skip
        refine yr_iload_n d_M_act_76 rfl ?_
        refine yr_bipush (v := 10) d_M_act_77 (by decide) ?_
        refine yr_icmp_ne (tgt := 95) d_M_act_79 (by decide) (fun c79 => ?_) (fun c79 => ?_)
        · skip
          first
          | (rw [show mArg a g = false by unfold mArg; rw [zb1.mp c57, zb0.mp c67]; rfl, Bool.and_false] at hk; exact hk)
          | (rw [show mArg a g = false by unfold mArg; rw [zb0.mp c89, show decide (a = 9 ∨ a = 10) = true from decide_eq_true (by first | exact Or.inl c73 | exact Or.inr c79)]; simp, Bool.and_false] at hk; exact hk)
          | (rw [show mArg a g = true by unfold mArg; rw [zb1.mp c89]; first | (rw [zb0.mp c57]; simp; done) | (rw [zb1.mp c67]; simp; done), Bool.and_true] at hk; exact hk)
          | (rw [show mArg a g = true by unfold mArg; rw [show decide (a = 9 ∨ a = 10) = false from decide_eq_false (fun z => z.elim c73 c79)]; first | (rw [zb0.mp c57]; simp; done) | (rw [zb1.mp c67]; simp; done), Bool.and_true] at hk; exact hk)
        · skip
          refine yr_iload d_M_act_82 rfl ?_
          refine yr_iconst (v := 1) d_M_act_84 (by decide) ?_
          refine yr_iconst (v := 3) d_M_act_85 (by decide) ?_
          refine mr_call (yrunS (X := yNX) (As := [yi g, yi 1, yi 3]) (rest := []) d_M_act_86 (c_M_in hS) (show yck (yMm m_M_act) m_M_in 3 = true by decide +kernel) cw_M_in (by decide +kernel) (by decide +kernel) (by decide +kernel) (Nat.le_of_ble_eq_true rfl) (ycat_of rfl) (by decide) (by decide)) (fun r M9 hp => ?_)
          obtain ⟨rfl, hM9⟩ := hp
          rw [hM9]
          refine yr_if_ne (tgt := 95) d_M_act_89 (by decide) (fun c89 => ?_) (fun c89 => ?_)
          · skip
            first
            | (rw [show mArg a g = false by unfold mArg; rw [zb1.mp c57, zb0.mp c67]; rfl, Bool.and_false] at hk; exact hk)
            | (rw [show mArg a g = false by unfold mArg; rw [zb0.mp c89, show decide (a = 9 ∨ a = 10) = true from decide_eq_true (by first | exact Or.inl c73 | exact Or.inr c79)]; simp, Bool.and_false] at hk; exact hk)
            | (rw [show mArg a g = true by unfold mArg; rw [zb1.mp c89]; first | (rw [zb0.mp c57]; simp; done) | (rw [zb1.mp c67]; simp; done), Bool.and_true] at hk; exact hk)
            | (rw [show mArg a g = true by unfold mArg; rw [show decide (a = 9 ∨ a = 10) = false from decide_eq_false (fun z => z.elim c73 c79)]; first | (rw [zb0.mp c57]; simp; done) | (rw [zb1.mp c67]; simp; done), Bool.and_true] at hk; exact hk)
          · skip
            refine yr_iconst (v := 0) d_M_act_92 (by decide) ?_
            refine yr_istore d_M_act_93 (by decide) rfl ?_
            first
            | (rw [show mArg a g = false by unfold mArg; rw [zb1.mp c57, zb0.mp c67]; rfl, Bool.and_false] at hk; exact hk)
            | (rw [show mArg a g = false by unfold mArg; rw [zb0.mp c89, show decide (a = 9 ∨ a = 10) = true from decide_eq_true (by first | exact Or.inl c73 | exact Or.inr c79)]; simp, Bool.and_false] at hk; exact hk)
            | (rw [show mArg a g = true by unfold mArg; rw [zb1.mp c89]; first | (rw [zb0.mp c57]; simp; done) | (rw [zb1.mp c67]; simp; done), Bool.and_true] at hk; exact hk)
            | (rw [show mArg a g = true by unfold mArg; rw [show decide (a = 9 ∨ a = 10) = false from decide_eq_false (fun z => z.elim c73 c79)]; first | (rw [zb0.mp c57]; simp; done) | (rw [zb1.mp c67]; simp; done), Bool.and_true] at hk; exact hk)

set_option maxHeartbeats 4000000 in
set_option maxRecDepth 20000 in
theorem c_M_actC {G : yG} {s : Nat → Option ySh} {F : Nat → Nat → Option Nat} {M : mM} (hS : mSh s F) {x y a g p : Int32} {POST : Option yV → mM → Prop} {x7 x8 : Option yV} {f : Bool} (hb : f = false → POST (some (yi 0)) (yu M 200 26 1)) (hk : f = true → yWW G m_M_act (mQ G m_M_act s F POST) s 106 [some (yr 200), some (yi x), some (yi y), some (yi a), some (yi g), some (yi p), some (yi (zb true)), x7, x8] [] (mw s F (yu M 200 26 0)) 0 0) : yWW G m_M_act (mQ G m_M_act s F POST) s 95 [some (yr 200), some (yi x), some (yi y), some (yi a), some (yi g), some (yi p), some (yi (zb f)), x7, x8] [] (mw s F M) 0 0 := by
  cases f with
  | false =>
    refine yr_aload_n d_M_act_95 rfl ?_
    refine yr_iload d_M_act_96 rfl ?_
    refine mr_call (yrunV (X := yNX) (k := 200) (As := [yi (zb false)]) (rest := []) d_M_act_98 (c_M_bad (b := false) hS) hS.1 rfl (show yck (yMm m_M_act) m_M_bad 1 = true by decide +kernel) cw_M_bad (by decide +kernel) (by decide +kernel) (by decide +kernel) (by decide +kernel) (Nat.le_of_ble_eq_true rfl) (ycat_of rfl) (by decide) (by decide)) (fun r M9 hp => ?_)
    obtain ⟨rfl, hM9⟩ := hp
    rw [hM9, show mBad M false = yu M 200 26 1 from rfl]
    refine yr_if_eq (tgt := 106) d_M_act_101 (by decide) (fun c101 => absurd c101 (by decide)) (fun c101 => ?_)
    refine yr_iconst (v := 0) d_M_act_104 (by decide) ?_
    exact yr_reti d_M_act_105 rfl (by decide) (by decide) ⟨_, rfl, hb rfl⟩
  | true =>
    refine yr_aload_n d_M_act_95 rfl ?_
    refine yr_iload d_M_act_96 rfl ?_
    refine mr_call (yrunV (X := yNX) (k := 200) (As := [yi (zb true)]) (rest := []) d_M_act_98 (c_M_bad (b := true) hS) hS.1 rfl (show yck (yMm m_M_act) m_M_bad 1 = true by decide +kernel) cw_M_bad (by decide +kernel) (by decide +kernel) (by decide +kernel) (by decide +kernel) (Nat.le_of_ble_eq_true rfl) (ycat_of rfl) (by decide) (by decide)) (fun r M9 hp => ?_)
    obtain ⟨rfl, hM9⟩ := hp
    rw [hM9, show mBad M true = yu M 200 26 0 from rfl]
    refine yr_if_eq (tgt := 106) d_M_act_101 (by decide) (fun c101 => ?_) (fun c101 => absurd rfl c101)
    exact hk rfl

set_option maxHeartbeats 4000000 in
set_option maxRecDepth 20000 in
theorem c_M_actD {G : yG} {s : Nat → Option ySh} {F : Nat → Nat → Option Nat} {M : mM} (hS : mSh s F) {t o : Nat} {a g p : Int32} (ht : t < 6) (ho : o < 6) (hth : M 200 26 = 0) {POST : Option yV → mM → Prop} {x6 x7 x8 : Option yV} (hk3 : mofk (M 212 o) a = false → POST (some (yi 0)) (yu M 200 26 3)) (hk2 : mofk (M 212 o) a = true → mnn M t o a g = true → POST (some (yi 0)) (yu M 200 26 2)) (hk : mofk (M 212 o) a = true → mnn M t o a g = false → yWW G m_M_act (mQ G m_M_act s F POST) s 154 [some (yr 200), some (yi (nI t)), some (yi (nI o)), some (yi a), some (yi g), some (yi p), x6, x7, x8] [] (mw s F M) 0 0) : yWW G m_M_act (mQ G m_M_act s F POST) s 106 [some (yr 200), some (yi (nI t)), some (yi (nI o)), some (yi a), some (yi g), some (yi p), x6, x7, x8] [] (mw s F M) 0 0 := by
  cases h1 : mofk (M 212 o) a with
  | false =>
    refine yr_aload_n d_M_act_106 rfl ?_
    refine yr_aload_n d_M_act_107 rfl ?_
    refine mr_arr (a := 11) (K := 212) hS d_M_act_108 sf_M_act_108 rfl (by decide) rfl ?_
    refine yr_iload_n d_M_act_111 rfl ?_
    refine mr_ld (a := 11) (K := 212) (n := 6) (j := o) hS d_M_act_112 (by decide) rfl rfl rfl (by simp only [nI0, nI1, nI2, nI3, nI4, nI6, nI_mulN, nI_add]) (by omega) ?_
    refine yr_iload_n d_M_act_113 rfl ?_
    refine mr_call (yrunV (X := yNX) (k := 200) (As := [yi (M 212 o), yi a]) (rest := []) d_M_act_114 (c_M_ofKind hS) hS.1 rfl (show yck (yMm m_M_act) m_M_ofKind 2 = true by decide +kernel) cw_M_ofKind (by decide +kernel) (by decide +kernel) (by decide +kernel) (by decide +kernel) (Nat.le_of_ble_eq_true rfl) (ycat_of rfl) (by decide) (by decide)) (fun r M9 hp => ?_)
    obtain ⟨rfl, hM9⟩ := hp
    rw [hM9]
    refine yr_if_ne (tgt := 128) d_M_act_117 (by decide) (fun c117 => absurd (by rw [h1]; rfl) c117) (fun c117 => ?_)
    refine yr_aload_n d_M_act_120 rfl ?_
    refine yr_iconst (v := 3) d_M_act_121 (by decide) ?_
    refine mr_puti (f := 26) hS d_M_act_122 sf_M_act_122 rfl rfl ⟨rfl, rfl⟩ ?_
    refine yr_goto (tgt := 145) d_M_act_125 (by decide) ?_
    refine yr_aload_n d_M_act_145 rfl ?_
    refine mr_geti (f := 26) hS d_M_act_146 sf_M_act_146 rfl ?_
    rw [yu_same]
    refine yr_if_le (tgt := 154) d_M_act_149 (by decide) (fun c149 => absurd c149 (by decide)) (fun c149 => ?_)
    refine yr_iconst (v := 0) d_M_act_152 (by decide) ?_
    exact yr_reti d_M_act_153 rfl (by decide) (by decide) ⟨_, rfl, hk3 h1⟩
  | true =>
    cases h2 : mnn M t o a g with
    | true =>
      refine yr_aload_n d_M_act_106 rfl ?_
      refine yr_aload_n d_M_act_107 rfl ?_
      refine mr_arr (a := 11) (K := 212) hS d_M_act_108 sf_M_act_108 rfl (by decide) rfl ?_
      refine yr_iload_n d_M_act_111 rfl ?_
      refine mr_ld (a := 11) (K := 212) (n := 6) (j := o) hS d_M_act_112 (by decide) rfl rfl rfl (by simp only [nI0, nI1, nI2, nI3, nI4, nI6, nI_mulN, nI_add]) (by omega) ?_
      refine yr_iload_n d_M_act_113 rfl ?_
      refine mr_call (yrunV (X := yNX) (k := 200) (As := [yi (M 212 o), yi a]) (rest := []) d_M_act_114 (c_M_ofKind hS) hS.1 rfl (show yck (yMm m_M_act) m_M_ofKind 2 = true by decide +kernel) cw_M_ofKind (by decide +kernel) (by decide +kernel) (by decide +kernel) (by decide +kernel) (Nat.le_of_ble_eq_true rfl) (ycat_of rfl) (by decide) (by decide)) (fun r M9 hp => ?_)
      obtain ⟨rfl, hM9⟩ := hp
      rw [hM9]
      refine yr_if_ne (tgt := 128) d_M_act_117 (by decide) (fun c117 => ?_) (fun c117 => absurd c117 (by rw [h1]; decide))
      refine yr_aload_n d_M_act_128 rfl ?_
      refine yr_iload_n d_M_act_129 rfl ?_
      refine yr_iload_n d_M_act_130 rfl ?_
      refine yr_iload_n d_M_act_131 rfl ?_
      refine yr_iload d_M_act_132 rfl ?_
      refine mr_call (yrunV (X := yNX) (k := 200) (As := [yi (nI t), yi (nI o), yi a, yi g]) (rest := []) d_M_act_134 (c_M_notNow hS ht ho) hS.1 rfl (show yck (yMm m_M_act) m_M_notNow 4 = true by decide +kernel) cw_M_notNow (by decide +kernel) (by decide +kernel) (by decide +kernel) (by decide +kernel) (Nat.le_of_ble_eq_true rfl) (ycat_of rfl) (by decide) (by decide)) (fun r M9 hp => ?_)
      obtain ⟨rfl, hM9⟩ := hp
      rw [hM9]
      refine yr_if_eq (tgt := 145) d_M_act_137 (by decide) (fun c137 => absurd c137 (by rw [h2]; decide)) (fun c137 => ?_)
      refine yr_aload_n d_M_act_140 rfl ?_
      refine yr_iconst (v := 2) d_M_act_141 (by decide) ?_
      refine mr_puti (f := 26) hS d_M_act_142 sf_M_act_142 rfl rfl ⟨rfl, rfl⟩ ?_
      refine yr_aload_n d_M_act_145 rfl ?_
      refine mr_geti (f := 26) hS d_M_act_146 sf_M_act_146 rfl ?_
      rw [yu_same]
      refine yr_if_le (tgt := 154) d_M_act_149 (by decide) (fun c149 => absurd c149 (by decide)) (fun c149 => ?_)
      refine yr_iconst (v := 0) d_M_act_152 (by decide) ?_
      exact yr_reti d_M_act_153 rfl (by decide) (by decide) ⟨_, rfl, hk2 h1 h2⟩
    | false =>
      refine yr_aload_n d_M_act_106 rfl ?_
      refine yr_aload_n d_M_act_107 rfl ?_
      refine mr_arr (a := 11) (K := 212) hS d_M_act_108 sf_M_act_108 rfl (by decide) rfl ?_
      refine yr_iload_n d_M_act_111 rfl ?_
      refine mr_ld (a := 11) (K := 212) (n := 6) (j := o) hS d_M_act_112 (by decide) rfl rfl rfl (by simp only [nI0, nI1, nI2, nI3, nI4, nI6, nI_mulN, nI_add]) (by omega) ?_
      refine yr_iload_n d_M_act_113 rfl ?_
      refine mr_call (yrunV (X := yNX) (k := 200) (As := [yi (M 212 o), yi a]) (rest := []) d_M_act_114 (c_M_ofKind hS) hS.1 rfl (show yck (yMm m_M_act) m_M_ofKind 2 = true by decide +kernel) cw_M_ofKind (by decide +kernel) (by decide +kernel) (by decide +kernel) (by decide +kernel) (Nat.le_of_ble_eq_true rfl) (ycat_of rfl) (by decide) (by decide)) (fun r M9 hp => ?_)
      obtain ⟨rfl, hM9⟩ := hp
      rw [hM9]
      refine yr_if_ne (tgt := 128) d_M_act_117 (by decide) (fun c117 => ?_) (fun c117 => absurd c117 (by rw [h1]; decide))
      refine yr_aload_n d_M_act_128 rfl ?_
      refine yr_iload_n d_M_act_129 rfl ?_
      refine yr_iload_n d_M_act_130 rfl ?_
      refine yr_iload_n d_M_act_131 rfl ?_
      refine yr_iload d_M_act_132 rfl ?_
      refine mr_call (yrunV (X := yNX) (k := 200) (As := [yi (nI t), yi (nI o), yi a, yi g]) (rest := []) d_M_act_134 (c_M_notNow hS ht ho) hS.1 rfl (show yck (yMm m_M_act) m_M_notNow 4 = true by decide +kernel) cw_M_notNow (by decide +kernel) (by decide +kernel) (by decide +kernel) (by decide +kernel) (Nat.le_of_ble_eq_true rfl) (ycat_of rfl) (by decide) (by decide)) (fun r M9 hp => ?_)
      obtain ⟨rfl, hM9⟩ := hp
      rw [hM9]
      refine yr_if_eq (tgt := 145) d_M_act_137 (by decide) (fun c137 => ?_) (fun c137 => absurd (by rw [h2]; rfl) c137)
      refine yr_aload_n d_M_act_145 rfl ?_
      refine mr_geti (f := 26) hS d_M_act_146 sf_M_act_146 rfl ?_
      rw [hth]
      refine yr_if_le (tgt := 154) d_M_act_149 (by decide) (fun c149 => ?_) (fun c149 => absurd (by decide) c149)
      exact hk h1 h2

set_option maxHeartbeats 4000000 in
set_option maxRecDepth 20000 in
theorem c_M_actS1 {G : yG} {s : Nat → Option ySh} {F : Nat → Nat → Option Nat} {M : mM} (hS : mSh s F) {t o : Nat} {g p : Int32} (ht : t < 6) (ho : o < 6) {POST : Option yV → mM → Prop} {x6 x7 x8 : Option yV} (hct : mCT G m_M_simple [yr 200, yi (nI t), yi (nI o), yi 1, yi g] s F M (fun r M' => r = some (yi 0) ∧ POST (some (yi 0)) M')) : yWW G m_M_act (mQ G m_M_act s F POST) s 154 [some (yr 200), some (yi (nI t)), some (yi (nI o)), some (yi 1), some (yi g), some (yi p), x6, x7, x8] [] (mw s F M) 0 0 := by
  refine yr_iload_n d_M_act_154 rfl ?_
  refine yr_iconst (v := 1) d_M_act_155 (by decide) ?_
  refine yr_icmp_eq (tgt := 199) d_M_act_156 (by decide) (fun c156 => ?_) (fun c156 => absurd rfl c156)
  refine yr_aload_n d_M_act_199 rfl ?_
  refine yr_iload_n d_M_act_200 rfl ?_
  refine yr_iload_n d_M_act_201 rfl ?_
  refine yr_iload_n d_M_act_202 rfl ?_
  refine yr_iload d_M_act_203 rfl ?_
  refine mr_call (yrunV (X := yNX) (k := 200) (As := [yi (nI t), yi (nI o), yi 1, yi g]) (rest := []) d_M_act_205 (hct) hS.1 rfl (show yck (yMm m_M_act) m_M_simple 4 = true by decide +kernel) cw_M_simple (by decide +kernel) (by decide +kernel) (by decide +kernel) (by decide +kernel) (Nat.le_of_ble_eq_true rfl) (ycat_of rfl) (by decide) (by decide)) (fun r M9 hp => ?_)
  obtain ⟨rfl, hp⟩ := hp
  exact yr_reti d_M_act_208 rfl (by decide) (by decide) ⟨_, rfl, hp⟩

set_option maxHeartbeats 4000000 in
set_option maxRecDepth 20000 in
theorem c_M_actS3 {G : yG} {s : Nat → Option ySh} {F : Nat → Nat → Option Nat} {M : mM} (hS : mSh s F) {t o : Nat} {g p : Int32} (ht : t < 6) (ho : o < 6) {POST : Option yV → mM → Prop} {x6 x7 x8 : Option yV} (hct : mCT G m_M_simple [yr 200, yi (nI t), yi (nI o), yi 3, yi g] s F M (fun r M' => r = some (yi 0) ∧ POST (some (yi 0)) M')) : yWW G m_M_act (mQ G m_M_act s F POST) s 154 [some (yr 200), some (yi (nI t)), some (yi (nI o)), some (yi 3), some (yi g), some (yi p), x6, x7, x8] [] (mw s F M) 0 0 := by
  refine yr_iload_n d_M_act_154 rfl ?_
  refine yr_iconst (v := 1) d_M_act_155 (by decide) ?_
  refine yr_icmp_eq (tgt := 199) d_M_act_156 (by decide) (fun c156 => absurd c156 (by decide)) (fun c156 => ?_)
  refine yr_iload_n d_M_act_159 rfl ?_
  refine yr_iconst (v := 3) d_M_act_160 (by decide) ?_
  refine yr_icmp_eq (tgt := 199) d_M_act_161 (by decide) (fun c161 => ?_) (fun c161 => absurd rfl c161)
  refine yr_aload_n d_M_act_199 rfl ?_
  refine yr_iload_n d_M_act_200 rfl ?_
  refine yr_iload_n d_M_act_201 rfl ?_
  refine yr_iload_n d_M_act_202 rfl ?_
  refine yr_iload d_M_act_203 rfl ?_
  refine mr_call (yrunV (X := yNX) (k := 200) (As := [yi (nI t), yi (nI o), yi 3, yi g]) (rest := []) d_M_act_205 (hct) hS.1 rfl (show yck (yMm m_M_act) m_M_simple 4 = true by decide +kernel) cw_M_simple (by decide +kernel) (by decide +kernel) (by decide +kernel) (by decide +kernel) (Nat.le_of_ble_eq_true rfl) (ycat_of rfl) (by decide) (by decide)) (fun r M9 hp => ?_)
  obtain ⟨rfl, hp⟩ := hp
  exact yr_reti d_M_act_208 rfl (by decide) (by decide) ⟨_, rfl, hp⟩

set_option maxHeartbeats 4000000 in
set_option maxRecDepth 20000 in
theorem c_M_actS4 {G : yG} {s : Nat → Option ySh} {F : Nat → Nat → Option Nat} {M : mM} (hS : mSh s F) {t o : Nat} {g p : Int32} (ht : t < 6) (ho : o < 6) {POST : Option yV → mM → Prop} {x6 x7 x8 : Option yV} (hct : mCT G m_M_simple [yr 200, yi (nI t), yi (nI o), yi 4, yi g] s F M (fun r M' => r = some (yi 0) ∧ POST (some (yi 0)) M')) : yWW G m_M_act (mQ G m_M_act s F POST) s 154 [some (yr 200), some (yi (nI t)), some (yi (nI o)), some (yi 4), some (yi g), some (yi p), x6, x7, x8] [] (mw s F M) 0 0 := by
  refine yr_iload_n d_M_act_154 rfl ?_
  refine yr_iconst (v := 1) d_M_act_155 (by decide) ?_
  refine yr_icmp_eq (tgt := 199) d_M_act_156 (by decide) (fun c156 => absurd c156 (by decide)) (fun c156 => ?_)
  refine yr_iload_n d_M_act_159 rfl ?_
  refine yr_iconst (v := 3) d_M_act_160 (by decide) ?_
  refine yr_icmp_eq (tgt := 199) d_M_act_161 (by decide) (fun c161 => absurd c161 (by decide)) (fun c161 => ?_)
  refine yr_iload_n d_M_act_164 rfl ?_
  refine yr_iconst (v := 4) d_M_act_165 (by decide) ?_
  refine yr_icmp_eq (tgt := 199) d_M_act_166 (by decide) (fun c166 => ?_) (fun c166 => absurd rfl c166)
  refine yr_aload_n d_M_act_199 rfl ?_
  refine yr_iload_n d_M_act_200 rfl ?_
  refine yr_iload_n d_M_act_201 rfl ?_
  refine yr_iload_n d_M_act_202 rfl ?_
  refine yr_iload d_M_act_203 rfl ?_
  refine mr_call (yrunV (X := yNX) (k := 200) (As := [yi (nI t), yi (nI o), yi 4, yi g]) (rest := []) d_M_act_205 (hct) hS.1 rfl (show yck (yMm m_M_act) m_M_simple 4 = true by decide +kernel) cw_M_simple (by decide +kernel) (by decide +kernel) (by decide +kernel) (by decide +kernel) (Nat.le_of_ble_eq_true rfl) (ycat_of rfl) (by decide) (by decide)) (fun r M9 hp => ?_)
  obtain ⟨rfl, hp⟩ := hp
  exact yr_reti d_M_act_208 rfl (by decide) (by decide) ⟨_, rfl, hp⟩

set_option maxHeartbeats 4000000 in
set_option maxRecDepth 20000 in
theorem c_M_actS6 {G : yG} {s : Nat → Option ySh} {F : Nat → Nat → Option Nat} {M : mM} (hS : mSh s F) {t o : Nat} {g p : Int32} (ht : t < 6) (ho : o < 6) {POST : Option yV → mM → Prop} {x6 x7 x8 : Option yV} (hct : mCT G m_M_simple [yr 200, yi (nI t), yi (nI o), yi 6, yi g] s F M (fun r M' => r = some (yi 0) ∧ POST (some (yi 0)) M')) : yWW G m_M_act (mQ G m_M_act s F POST) s 154 [some (yr 200), some (yi (nI t)), some (yi (nI o)), some (yi 6), some (yi g), some (yi p), x6, x7, x8] [] (mw s F M) 0 0 := by
  refine yr_iload_n d_M_act_154 rfl ?_
  refine yr_iconst (v := 1) d_M_act_155 (by decide) ?_
  refine yr_icmp_eq (tgt := 199) d_M_act_156 (by decide) (fun c156 => absurd c156 (by decide)) (fun c156 => ?_)
  refine yr_iload_n d_M_act_159 rfl ?_
  refine yr_iconst (v := 3) d_M_act_160 (by decide) ?_
  refine yr_icmp_eq (tgt := 199) d_M_act_161 (by decide) (fun c161 => absurd c161 (by decide)) (fun c161 => ?_)
  refine yr_iload_n d_M_act_164 rfl ?_
  refine yr_iconst (v := 4) d_M_act_165 (by decide) ?_
  refine yr_icmp_eq (tgt := 199) d_M_act_166 (by decide) (fun c166 => absurd c166 (by decide)) (fun c166 => ?_)
  refine yr_iload_n d_M_act_169 rfl ?_
  refine yr_bipush (v := 6) d_M_act_170 (by decide) ?_
  refine yr_icmp_eq (tgt := 199) d_M_act_172 (by decide) (fun c172 => ?_) (fun c172 => absurd rfl c172)
  refine yr_aload_n d_M_act_199 rfl ?_
  refine yr_iload_n d_M_act_200 rfl ?_
  refine yr_iload_n d_M_act_201 rfl ?_
  refine yr_iload_n d_M_act_202 rfl ?_
  refine yr_iload d_M_act_203 rfl ?_
  refine mr_call (yrunV (X := yNX) (k := 200) (As := [yi (nI t), yi (nI o), yi 6, yi g]) (rest := []) d_M_act_205 (hct) hS.1 rfl (show yck (yMm m_M_act) m_M_simple 4 = true by decide +kernel) cw_M_simple (by decide +kernel) (by decide +kernel) (by decide +kernel) (by decide +kernel) (Nat.le_of_ble_eq_true rfl) (ycat_of rfl) (by decide) (by decide)) (fun r M9 hp => ?_)
  obtain ⟨rfl, hp⟩ := hp
  exact yr_reti d_M_act_208 rfl (by decide) (by decide) ⟨_, rfl, hp⟩

set_option maxHeartbeats 4000000 in
set_option maxRecDepth 20000 in
theorem c_M_actS8 {G : yG} {s : Nat → Option ySh} {F : Nat → Nat → Option Nat} {M : mM} (hS : mSh s F) {t o : Nat} {g p : Int32} (ht : t < 6) (ho : o < 6) {POST : Option yV → mM → Prop} {x6 x7 x8 : Option yV} (hct : mCT G m_M_simple [yr 200, yi (nI t), yi (nI o), yi 8, yi g] s F M (fun r M' => r = some (yi 0) ∧ POST (some (yi 0)) M')) : yWW G m_M_act (mQ G m_M_act s F POST) s 154 [some (yr 200), some (yi (nI t)), some (yi (nI o)), some (yi 8), some (yi g), some (yi p), x6, x7, x8] [] (mw s F M) 0 0 := by
  refine yr_iload_n d_M_act_154 rfl ?_
  refine yr_iconst (v := 1) d_M_act_155 (by decide) ?_
  refine yr_icmp_eq (tgt := 199) d_M_act_156 (by decide) (fun c156 => absurd c156 (by decide)) (fun c156 => ?_)
  refine yr_iload_n d_M_act_159 rfl ?_
  refine yr_iconst (v := 3) d_M_act_160 (by decide) ?_
  refine yr_icmp_eq (tgt := 199) d_M_act_161 (by decide) (fun c161 => absurd c161 (by decide)) (fun c161 => ?_)
  refine yr_iload_n d_M_act_164 rfl ?_
  refine yr_iconst (v := 4) d_M_act_165 (by decide) ?_
  refine yr_icmp_eq (tgt := 199) d_M_act_166 (by decide) (fun c166 => absurd c166 (by decide)) (fun c166 => ?_)
  refine yr_iload_n d_M_act_169 rfl ?_
  refine yr_bipush (v := 6) d_M_act_170 (by decide) ?_
  refine yr_icmp_eq (tgt := 199) d_M_act_172 (by decide) (fun c172 => absurd c172 (by decide)) (fun c172 => ?_)
  refine yr_iload_n d_M_act_175 rfl ?_
  refine yr_bipush (v := 8) d_M_act_176 (by decide) ?_
  refine yr_icmp_eq (tgt := 199) d_M_act_178 (by decide) (fun c178 => ?_) (fun c178 => absurd rfl c178)
  refine yr_aload_n d_M_act_199 rfl ?_
  refine yr_iload_n d_M_act_200 rfl ?_
  refine yr_iload_n d_M_act_201 rfl ?_
  refine yr_iload_n d_M_act_202 rfl ?_
  refine yr_iload d_M_act_203 rfl ?_
  refine mr_call (yrunV (X := yNX) (k := 200) (As := [yi (nI t), yi (nI o), yi 8, yi g]) (rest := []) d_M_act_205 (hct) hS.1 rfl (show yck (yMm m_M_act) m_M_simple 4 = true by decide +kernel) cw_M_simple (by decide +kernel) (by decide +kernel) (by decide +kernel) (by decide +kernel) (Nat.le_of_ble_eq_true rfl) (ycat_of rfl) (by decide) (by decide)) (fun r M9 hp => ?_)
  obtain ⟨rfl, hp⟩ := hp
  exact yr_reti d_M_act_208 rfl (by decide) (by decide) ⟨_, rfl, hp⟩

set_option maxHeartbeats 4000000 in
set_option maxRecDepth 20000 in
theorem c_M_actS10 {G : yG} {s : Nat → Option ySh} {F : Nat → Nat → Option Nat} {M : mM} (hS : mSh s F) {t o : Nat} {g p : Int32} (ht : t < 6) (ho : o < 6) {POST : Option yV → mM → Prop} {x6 x7 x8 : Option yV} (hct : mCT G m_M_simple [yr 200, yi (nI t), yi (nI o), yi 10, yi g] s F M (fun r M' => r = some (yi 0) ∧ POST (some (yi 0)) M')) : yWW G m_M_act (mQ G m_M_act s F POST) s 154 [some (yr 200), some (yi (nI t)), some (yi (nI o)), some (yi 10), some (yi g), some (yi p), x6, x7, x8] [] (mw s F M) 0 0 := by
  refine yr_iload_n d_M_act_154 rfl ?_
  refine yr_iconst (v := 1) d_M_act_155 (by decide) ?_
  refine yr_icmp_eq (tgt := 199) d_M_act_156 (by decide) (fun c156 => absurd c156 (by decide)) (fun c156 => ?_)
  refine yr_iload_n d_M_act_159 rfl ?_
  refine yr_iconst (v := 3) d_M_act_160 (by decide) ?_
  refine yr_icmp_eq (tgt := 199) d_M_act_161 (by decide) (fun c161 => absurd c161 (by decide)) (fun c161 => ?_)
  refine yr_iload_n d_M_act_164 rfl ?_
  refine yr_iconst (v := 4) d_M_act_165 (by decide) ?_
  refine yr_icmp_eq (tgt := 199) d_M_act_166 (by decide) (fun c166 => absurd c166 (by decide)) (fun c166 => ?_)
  refine yr_iload_n d_M_act_169 rfl ?_
  refine yr_bipush (v := 6) d_M_act_170 (by decide) ?_
  refine yr_icmp_eq (tgt := 199) d_M_act_172 (by decide) (fun c172 => absurd c172 (by decide)) (fun c172 => ?_)
  refine yr_iload_n d_M_act_175 rfl ?_
  refine yr_bipush (v := 8) d_M_act_176 (by decide) ?_
  refine yr_icmp_eq (tgt := 199) d_M_act_178 (by decide) (fun c178 => absurd c178 (by decide)) (fun c178 => ?_)
  refine yr_iload_n d_M_act_181 rfl ?_
  refine yr_bipush (v := 10) d_M_act_182 (by decide) ?_
  refine yr_icmp_eq (tgt := 199) d_M_act_184 (by decide) (fun c184 => ?_) (fun c184 => absurd rfl c184)
  refine yr_aload_n d_M_act_199 rfl ?_
  refine yr_iload_n d_M_act_200 rfl ?_
  refine yr_iload_n d_M_act_201 rfl ?_
  refine yr_iload_n d_M_act_202 rfl ?_
  refine yr_iload d_M_act_203 rfl ?_
  refine mr_call (yrunV (X := yNX) (k := 200) (As := [yi (nI t), yi (nI o), yi 10, yi g]) (rest := []) d_M_act_205 (hct) hS.1 rfl (show yck (yMm m_M_act) m_M_simple 4 = true by decide +kernel) cw_M_simple (by decide +kernel) (by decide +kernel) (by decide +kernel) (by decide +kernel) (Nat.le_of_ble_eq_true rfl) (ycat_of rfl) (by decide) (by decide)) (fun r M9 hp => ?_)
  obtain ⟨rfl, hp⟩ := hp
  exact yr_reti d_M_act_208 rfl (by decide) (by decide) ⟨_, rfl, hp⟩

set_option maxHeartbeats 4000000 in
set_option maxRecDepth 20000 in
theorem c_M_actS12 {G : yG} {s : Nat → Option ySh} {F : Nat → Nat → Option Nat} {M : mM} (hS : mSh s F) {t o : Nat} {g p : Int32} (ht : t < 6) (ho : o < 6) {POST : Option yV → mM → Prop} {x6 x7 x8 : Option yV} (hct : mCT G m_M_simple [yr 200, yi (nI t), yi (nI o), yi 12, yi g] s F M (fun r M' => r = some (yi 0) ∧ POST (some (yi 0)) M')) : yWW G m_M_act (mQ G m_M_act s F POST) s 154 [some (yr 200), some (yi (nI t)), some (yi (nI o)), some (yi 12), some (yi g), some (yi p), x6, x7, x8] [] (mw s F M) 0 0 := by
  refine yr_iload_n d_M_act_154 rfl ?_
  refine yr_iconst (v := 1) d_M_act_155 (by decide) ?_
  refine yr_icmp_eq (tgt := 199) d_M_act_156 (by decide) (fun c156 => absurd c156 (by decide)) (fun c156 => ?_)
  refine yr_iload_n d_M_act_159 rfl ?_
  refine yr_iconst (v := 3) d_M_act_160 (by decide) ?_
  refine yr_icmp_eq (tgt := 199) d_M_act_161 (by decide) (fun c161 => absurd c161 (by decide)) (fun c161 => ?_)
  refine yr_iload_n d_M_act_164 rfl ?_
  refine yr_iconst (v := 4) d_M_act_165 (by decide) ?_
  refine yr_icmp_eq (tgt := 199) d_M_act_166 (by decide) (fun c166 => absurd c166 (by decide)) (fun c166 => ?_)
  refine yr_iload_n d_M_act_169 rfl ?_
  refine yr_bipush (v := 6) d_M_act_170 (by decide) ?_
  refine yr_icmp_eq (tgt := 199) d_M_act_172 (by decide) (fun c172 => absurd c172 (by decide)) (fun c172 => ?_)
  refine yr_iload_n d_M_act_175 rfl ?_
  refine yr_bipush (v := 8) d_M_act_176 (by decide) ?_
  refine yr_icmp_eq (tgt := 199) d_M_act_178 (by decide) (fun c178 => absurd c178 (by decide)) (fun c178 => ?_)
  refine yr_iload_n d_M_act_181 rfl ?_
  refine yr_bipush (v := 10) d_M_act_182 (by decide) ?_
  refine yr_icmp_eq (tgt := 199) d_M_act_184 (by decide) (fun c184 => absurd c184 (by decide)) (fun c184 => ?_)
  refine yr_iload_n d_M_act_187 rfl ?_
  refine yr_bipush (v := 12) d_M_act_188 (by decide) ?_
  refine yr_icmp_eq (tgt := 199) d_M_act_190 (by decide) (fun c190 => ?_) (fun c190 => absurd rfl c190)
  refine yr_aload_n d_M_act_199 rfl ?_
  refine yr_iload_n d_M_act_200 rfl ?_
  refine yr_iload_n d_M_act_201 rfl ?_
  refine yr_iload_n d_M_act_202 rfl ?_
  refine yr_iload d_M_act_203 rfl ?_
  refine mr_call (yrunV (X := yNX) (k := 200) (As := [yi (nI t), yi (nI o), yi 12, yi g]) (rest := []) d_M_act_205 (hct) hS.1 rfl (show yck (yMm m_M_act) m_M_simple 4 = true by decide +kernel) cw_M_simple (by decide +kernel) (by decide +kernel) (by decide +kernel) (by decide +kernel) (Nat.le_of_ble_eq_true rfl) (ycat_of rfl) (by decide) (by decide)) (fun r M9 hp => ?_)
  obtain ⟨rfl, hp⟩ := hp
  exact yr_reti d_M_act_208 rfl (by decide) (by decide) ⟨_, rfl, hp⟩

set_option maxHeartbeats 4000000 in
set_option maxRecDepth 20000 in
theorem c_M_actS14 {G : yG} {s : Nat → Option ySh} {F : Nat → Nat → Option Nat} {M : mM} (hS : mSh s F) {t o : Nat} {g p : Int32} (ht : t < 6) (ho : o < 6) {POST : Option yV → mM → Prop} {x6 x7 x8 : Option yV} (hct : mCT G m_M_simple [yr 200, yi (nI t), yi (nI o), yi 14, yi g] s F M (fun r M' => r = some (yi 0) ∧ POST (some (yi 0)) M')) : yWW G m_M_act (mQ G m_M_act s F POST) s 154 [some (yr 200), some (yi (nI t)), some (yi (nI o)), some (yi 14), some (yi g), some (yi p), x6, x7, x8] [] (mw s F M) 0 0 := by
  refine yr_iload_n d_M_act_154 rfl ?_
  refine yr_iconst (v := 1) d_M_act_155 (by decide) ?_
  refine yr_icmp_eq (tgt := 199) d_M_act_156 (by decide) (fun c156 => absurd c156 (by decide)) (fun c156 => ?_)
  refine yr_iload_n d_M_act_159 rfl ?_
  refine yr_iconst (v := 3) d_M_act_160 (by decide) ?_
  refine yr_icmp_eq (tgt := 199) d_M_act_161 (by decide) (fun c161 => absurd c161 (by decide)) (fun c161 => ?_)
  refine yr_iload_n d_M_act_164 rfl ?_
  refine yr_iconst (v := 4) d_M_act_165 (by decide) ?_
  refine yr_icmp_eq (tgt := 199) d_M_act_166 (by decide) (fun c166 => absurd c166 (by decide)) (fun c166 => ?_)
  refine yr_iload_n d_M_act_169 rfl ?_
  refine yr_bipush (v := 6) d_M_act_170 (by decide) ?_
  refine yr_icmp_eq (tgt := 199) d_M_act_172 (by decide) (fun c172 => absurd c172 (by decide)) (fun c172 => ?_)
  refine yr_iload_n d_M_act_175 rfl ?_
  refine yr_bipush (v := 8) d_M_act_176 (by decide) ?_
  refine yr_icmp_eq (tgt := 199) d_M_act_178 (by decide) (fun c178 => absurd c178 (by decide)) (fun c178 => ?_)
  refine yr_iload_n d_M_act_181 rfl ?_
  refine yr_bipush (v := 10) d_M_act_182 (by decide) ?_
  refine yr_icmp_eq (tgt := 199) d_M_act_184 (by decide) (fun c184 => absurd c184 (by decide)) (fun c184 => ?_)
  refine yr_iload_n d_M_act_187 rfl ?_
  refine yr_bipush (v := 12) d_M_act_188 (by decide) ?_
  refine yr_icmp_eq (tgt := 199) d_M_act_190 (by decide) (fun c190 => absurd c190 (by decide)) (fun c190 => ?_)
  refine yr_iload_n d_M_act_193 rfl ?_
  refine yr_bipush (v := 14) d_M_act_194 (by decide) ?_
  refine yr_icmp_ne (tgt := 209) d_M_act_196 (by decide) (fun c196 => absurd rfl c196) (fun c196 => ?_)
  refine yr_aload_n d_M_act_199 rfl ?_
  refine yr_iload_n d_M_act_200 rfl ?_
  refine yr_iload_n d_M_act_201 rfl ?_
  refine yr_iload_n d_M_act_202 rfl ?_
  refine yr_iload d_M_act_203 rfl ?_
  refine mr_call (yrunV (X := yNX) (k := 200) (As := [yi (nI t), yi (nI o), yi 14, yi g]) (rest := []) d_M_act_205 (hct) hS.1 rfl (show yck (yMm m_M_act) m_M_simple 4 = true by decide +kernel) cw_M_simple (by decide +kernel) (by decide +kernel) (by decide +kernel) (by decide +kernel) (Nat.le_of_ble_eq_true rfl) (ycat_of rfl) (by decide) (by decide)) (fun r M9 hp => ?_)
  obtain ⟨rfl, hp⟩ := hp
  exact yr_reti d_M_act_208 rfl (by decide) (by decide) ⟨_, rfl, hp⟩

set_option maxHeartbeats 4000000 in
set_option maxRecDepth 20000 in
theorem c_M_actN {G : yG} {s : Nat → Option ySh} {F : Nat → Nat → Option Nat} {M : mM} (hS : mSh s F) {t o : Nat} {a g p : Int32} (ht : t < 6) (ho : o < 6) (h1 : ¬ a = 1) (h3 : ¬ a = 3) (h4 : ¬ a = 4) (h6 : ¬ a = 6) (h8 : ¬ a = 8) (h10 : ¬ a = 10) (h12 : ¬ a = 12) (h14 : ¬ a = 14) {POST : Option yV → mM → Prop} {x6 x7 x8 : Option yV} (hk : yWW G m_M_act (mQ G m_M_act s F POST) s 209 [some (yr 200), some (yi (nI t)), some (yi (nI o)), some (yi a), some (yi g), some (yi p), x6, x7, x8] [] (mw s F M) 0 0) : yWW G m_M_act (mQ G m_M_act s F POST) s 154 [some (yr 200), some (yi (nI t)), some (yi (nI o)), some (yi a), some (yi g), some (yi p), x6, x7, x8] [] (mw s F M) 0 0 := by
  refine yr_iload_n d_M_act_154 rfl ?_
  refine yr_iconst (v := 1) d_M_act_155 (by decide) ?_
  refine yr_icmp_eq (tgt := 199) d_M_act_156 (by decide) (fun c156 => absurd c156 h1) (fun c156 => ?_)
  refine yr_iload_n d_M_act_159 rfl ?_
  refine yr_iconst (v := 3) d_M_act_160 (by decide) ?_
  refine yr_icmp_eq (tgt := 199) d_M_act_161 (by decide) (fun c161 => absurd c161 h3) (fun c161 => ?_)
  refine yr_iload_n d_M_act_164 rfl ?_
  refine yr_iconst (v := 4) d_M_act_165 (by decide) ?_
  refine yr_icmp_eq (tgt := 199) d_M_act_166 (by decide) (fun c166 => absurd c166 h4) (fun c166 => ?_)
  refine yr_iload_n d_M_act_169 rfl ?_
  refine yr_bipush (v := 6) d_M_act_170 (by decide) ?_
  refine yr_icmp_eq (tgt := 199) d_M_act_172 (by decide) (fun c172 => absurd c172 h6) (fun c172 => ?_)
  refine yr_iload_n d_M_act_175 rfl ?_
  refine yr_bipush (v := 8) d_M_act_176 (by decide) ?_
  refine yr_icmp_eq (tgt := 199) d_M_act_178 (by decide) (fun c178 => absurd c178 h8) (fun c178 => ?_)
  refine yr_iload_n d_M_act_181 rfl ?_
  refine yr_bipush (v := 10) d_M_act_182 (by decide) ?_
  refine yr_icmp_eq (tgt := 199) d_M_act_184 (by decide) (fun c184 => absurd c184 h10) (fun c184 => ?_)
  refine yr_iload_n d_M_act_187 rfl ?_
  refine yr_bipush (v := 12) d_M_act_188 (by decide) ?_
  refine yr_icmp_eq (tgt := 199) d_M_act_190 (by decide) (fun c190 => absurd c190 h12) (fun c190 => ?_)
  refine yr_iload_n d_M_act_193 rfl ?_
  refine yr_bipush (v := 14) d_M_act_194 (by decide) ?_
  refine yr_icmp_ne (tgt := 209) d_M_act_196 (by decide) (fun c196 => ?_) (fun c196 => absurd c196 h14)
  exact hk
