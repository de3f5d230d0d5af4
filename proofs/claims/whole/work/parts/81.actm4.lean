/-- act, where nothing is thrown -/
theorem c_act_body {G : yG} {s : Nat → Option ySh} {F : Nat → Nat → Option Nat} (hS : mSh s F) {n t o : Nat} {σ : zS} {M M0 : mM} {a g p : Int32} {x6 x7 x8 : Option yV} (hR : mR0 n M0 σ M) (hn : n + 3 < 1000000) (ht : t < 6) (ho : o < zn σ) (hia : zisAct a g = true) (hip : zisPat p = true) (hyk : yst (a : Int32).toNatClampNeg = nI (zkd σ o)) (h2 : zth σ 2 t = 0) (hal : zallows σ o t a g = true) : yWW G m_M_act (mQ G m_M_act s F (mAP n M0 σ o t a g p)) s 154 [some (yr 200), some (yi (nI t)), some (yi (nI o)), some (yi a), some (yi g), some (yi p), x6, x7, x8] [] (mw s F M) 0 0 := by
  have hv := hR.1.1.1
  have ho6 : o < 6 := by have := hv.2.2.2.1; omega
  have hj : a = 2 ∨ a = 3 ∨ a = 4 → ∃ j, j < 2 ∧ g = nI j := fun z => by
    have hia := hia
    unfold zisAct at hia
    rw [if_pos z] at hia
    rcases of_decide_eq_true hia with rfl | rfl
    · exact ⟨0, by decide, rfl⟩
    · exact ⟨1, by decide, rfl⟩
  rcases zAK_of hia hyk (hv.2.2.2.2.2 o ho).1 with ⟨hk, ha⟩ | ⟨hk, ha⟩ | ⟨hk, ha⟩ | ⟨hk, ha⟩ | ⟨hk, ha⟩ | ⟨hk, ha⟩
  · rcases ha with rfl | rfl | rfl | rfl | rfl
    · exact c_M_actN hS ht ho6 (by decide) (by decide) (by decide) (by decide) (by decide) (by decide) (by decide) (by decide) (c_M_act_209 hS ht ho6 (c_act_gen hS hR hn ht ho hia hip hyk h2 hal ⟨Or.inl ⟨hk, Or.inl rfl⟩, fun z => absurd z (by decide), fun _ => rfl⟩ (by decide) (by decide) (by rw [hk]; decide)))
    · exact c_act_S1 hS hR hn ht ho hia hip hyk h2 hal hk
    · obtain ⟨j, hj2, rfl⟩ := hj (Or.inl rfl)
      exact c_M_actN hS ht ho6 (by decide) (by decide) (by decide) (by decide) (by decide) (by decide) (by decide) (by decide) (c_M_act_209 hS ht ho6 (c_act_wait hS hR hn ht ho hia hip hyk h2 hal hk hj2))
    · obtain ⟨j, hj2, rfl⟩ := hj (Or.inr (Or.inl rfl))
      exact c_act_S3 hS hR hn ht ho hia hip hyk h2 hal hk hj2
    · obtain ⟨j, hj2, rfl⟩ := hj (Or.inr (Or.inr rfl))
      exact c_act_S4 hS hR hn ht ho hia hip hyk h2 hal hk hj2
  · rcases ha with rfl | rfl | rfl | rfl
    · exact c_M_actN hS ht ho6 (by decide) (by decide) (by decide) (by decide) (by decide) (by decide) (by decide) (by decide) (c_M_act_209 hS ht ho6 (c_act_gen hS hR hn ht ho hia hip hyk h2 hal ⟨Or.inr (Or.inl ⟨hk, Or.inl rfl⟩), fun z => absurd z (by decide), fun _ => rfl⟩ (by decide) (by decide) (by rw [hk]; decide)))
    · exact c_act_S6 hS hR hn ht ho hia hip hyk h2 hal hk
    · exact c_M_actN hS ht ho6 (by decide) (by decide) (by decide) (by decide) (by decide) (by decide) (by decide) (by decide) (c_M_act_209 hS ht ho6 (c_act_gen hS hR hn ht ho hia hip hyk h2 hal ⟨Or.inr (Or.inl ⟨hk, Or.inr rfl⟩), fun z => absurd z (by decide), fun _ => rfl⟩ (by decide) (by decide) (by rw [hk]; decide)))
    · exact c_act_S8 hS hR hn ht ho hia hip hyk h2 hal hk
  · rcases ha with rfl | rfl
    · exact c_M_actN hS ht ho6 (by decide) (by decide) (by decide) (by decide) (by decide) (by decide) (by decide) (by decide) (c_M_act_209 hS ht ho6 (c_act_gen hS hR hn ht ho hia hip hyk h2 hal ⟨Or.inr (Or.inr (Or.inl ⟨hk, rfl⟩)), fun z => absurd z (by decide), fun _ => rfl⟩ (by decide) (by decide) (by rw [hk]; decide)))
    · exact c_act_S10 hS hR hn ht ho hia hip hyk h2 hal hk
  · rcases ha with rfl | rfl
    · exact c_M_actN hS ht ho6 (by decide) (by decide) (by decide) (by decide) (by decide) (by decide) (by decide) (by decide) (c_M_act_209 hS ht ho6 (c_act_gen hS hR hn ht ho hia hip hyk h2 hal ⟨Or.inr (Or.inr (Or.inr (Or.inl ⟨hk, rfl⟩))), fun z => absurd z (by decide), fun _ => rfl⟩ (by decide) (by decide) (by rw [hk]; decide)))
    · exact c_act_S12 hS hR hn ht ho hia hip hyk h2 hal hk
  · rcases ha with rfl | rfl
    · exact c_M_actN hS ht ho6 (by decide) (by decide) (by decide) (by decide) (by decide) (by decide) (by decide) (by decide) (c_M_act_209 hS ht ho6 (c_act_arrive hS hR hn ht ho hia hip hyk h2 hal hk))
    · exact c_act_S14 hS hR hn ht ho hia hip hyk h2 hal hk
  · rcases ha with rfl | rfl
    · exact c_M_actN hS ht ho6 (by decide) (by decide) (by decide) (by decide) (by decide) (by decide) (by decide) (by decide) (c_M_act_209 hS ht ho6 (c_act_gen hS hR hn ht ho hia hip hyk h2 hal ⟨Or.inr (Or.inr (Or.inr (Or.inr (Or.inr ⟨hk, Or.inl rfl⟩)))), fun z => absurd z (by decide), fun _ => rfl⟩ (by decide) (by decide) (by rw [hk]; decide)))
    · exact c_M_actN hS ht ho6 (by decide) (by decide) (by decide) (by decide) (by decide) (by decide) (by decide) (by decide) (c_M_act_209 hS ht ho6 (c_act_gen hS hR hn ht ho hia hip hyk h2 hal ⟨Or.inr (Or.inr (Or.inr (Or.inr (Or.inr ⟨hk, Or.inr rfl⟩)))), fun z => absurd z (by decide), fun _ => rfl⟩ (by decide) (by decide) (by rw [hk]; decide)))
theorem mnn_eq {σ : zS} {M : mM} {o t : Nat} {a g : Int32} (hr : mR x0 σ M) (hv : zNv x0 σ) (ho : o < zn σ) (ht : t < 6) (hk : zAK (zkd σ o) a) : mnn M t o a g = !(decide (zth σ 2 t = 0) && zallows σ o t a g) := by
  have hp := hv.2.2.2.2.2 o ho
  obtain ⟨g1, g2, g3, g4, g5, g6, g7, g8, gg9, g10, g11⟩ := hr.2.1.1 o ho
  obtain ⟨u1, -⟩ := mRu_of hr ht rfl
  unfold mnn
  rw [u1]
  by_cases h2 : zth σ 2 t = 0
  · rw [if_neg (fun z => z h2), decide_eq_true h2, Bool.true_and]
    have hown : decide (¬ M 215 o = nI t) = !decide (zho σ o = some t) := by
      rw [g4, ← decide_not]
      exact decide_eq_decide.mpr (not_congr (znum_eq hp.2.2.2.1 ht))
    show _ = !zallowsC (zkd σ o) σ o t a g
    rcases hk with ⟨hk, ha⟩ | ⟨hk, ha⟩ | ⟨hk, ha⟩ | ⟨hk, ha⟩ | ⟨hk, ha⟩ | ⟨hk, ha⟩
    · rw [hk]
      show _ = !decide (a = 0 ∨ zho σ o = some t)
      rcases ha with rfl | rfl | rfl | rfl | rfl
      · rw [if_neg (by decide), if_neg (by decide)]
        simp
      all_goals
        rw [if_pos (by decide), hown]
        simp
    · rw [hk]
      show _ = !(if a = 6 then decide (0 < zrd σ o t) else if a = 8 then decide (zho σ o = some t) else true)
      rcases ha with rfl | rfl | rfl | rfl
      · rw [if_neg (by decide), if_neg (by decide), if_neg (by decide), if_neg (by decide)]
        simp
      · rw [if_neg (by decide), if_pos rfl, if_pos rfl, g10 t ht, if_pos hk, ← decide_not]
        refine decide_eq_decide.mpr ?_
        have hnn := (hp.2.2.2.2.2.2.1 hk).1 t ht
        constructor
        · intro z; rw [z]; decide
        · intro z
          exact Int32.le_antisymm (Int32.not_lt.mp z) (Int32.not_lt.mp hnn)
      · rw [if_neg (by decide), if_neg (by decide), if_neg (by decide), if_neg (by decide)]
        simp
      · rw [if_pos (by decide), if_neg (by decide), if_pos rfl, hown]
    · rw [hk]
      show _ = !decide (¬ a = 10 ∨ ¬ 50 < zpl σ 3 o + g)
      have h3 : M 214 o = zpl σ 3 o := by
        rw [g3]
        show zamtC (zkd σ o) _ o = _
        rw [hk]
        rfl
      rcases ha with rfl | rfl
      · rw [if_neg (by decide), if_neg (by decide)]
        simp
      · rw [if_neg (by decide), if_neg (by decide), h3, ← decide_not]
        refine decide_eq_decide.mpr ?_
        constructor
        · rintro ⟨-, z⟩ z2
          rcases z2 with z2 | z2
          · exact z2 rfl
          · exact z (Int32.not_lt.mp z2)
        · intro z
          exact ⟨rfl, fun z2 => z (Or.inr (Int32.not_lt.mpr z2))⟩
    · rw [hk]
      show _ = !true
      rcases ha with rfl | rfl <;> (rw [if_neg (by decide), if_neg (by decide)]; simp)
    · rw [hk]
      show _ = !true
      rcases ha with rfl | rfl <;> (rw [if_neg (by decide), if_neg (by decide)]; simp)
    · rw [hk]
      show _ = !true
      rcases ha with rfl | rfl <;> (rw [if_neg (by decide), if_neg (by decide)]; simp)
  · rw [if_pos h2, decide_eq_false h2]
    rfl
theorem zisAct_eq {a g : Int32} : zisAct a g = (mIn a 0 16 && mArg a g) := by
  have e16 : mIn a 0 16 = decide (¬ a < 0 ∧ ¬ 17 ≤ a) := by
    unfold mIn
    refine decide_eq_decide.mpr ?_
    rw [Int32.not_lt, Int32.not_le]
    refine and_congr_right (fun z => ?_)
    obtain ⟨k, hk, rfl⟩ := nI_of (Int32.not_lt.mpr z)
    rw [show (16 : Int32) = nI 16 from rfl, show (17 : Int32) = nI 17 from rfl, nI_leI hk (by decide), nI_ltI hk (by decide)]
    omega
  unfold zisAct mArg
  by_cases h1 : a = 2 ∨ a = 3 ∨ a = 4
  · rw [if_pos h1]
    have e1 : mIn a 0 16 = true := by rcases h1 with rfl | rfl | rfl <;> decide
    have e2 : mIn a 2 4 = true := by rcases h1 with rfl | rfl | rfl <;> decide
    have e3 : decide (a = 9 ∨ a = 10) = false := by rcases h1 with rfl | rfl | rfl <;> decide
    rw [e1, e2, e3]
    have e4 : decide (g = 0 ∨ g = 1) = mIn g 0 1 := by
      unfold mIn
      refine decide_eq_decide.mpr ⟨?_, fun z => ?_⟩
      · rintro (rfl | rfl) <;> decide
      · obtain ⟨k, hk, rfl⟩ := nI_of (Int32.not_lt.mpr z.1)
        have z2 : nI k ≤ nI 1 := z.2
        rw [nI_leI hk (by decide)] at z2
        rcases (show k = 0 ∨ k = 1 by omega) with rfl | rfl
        · exact Or.inl rfl
        · exact Or.inr rfl
    rw [e4]
    simp
  · rw [if_neg h1]
    have e2 : mIn a 2 4 = false := by
      refine decide_eq_false (fun z => h1 ?_)
      obtain ⟨k, hk, rfl⟩ := nI_of (fun y => Int32.lt_irrefl (Int32.lt_trans (Int32.lt_of_lt_of_le (by decide) z.1) y : (0 : Int32) < 0))
      have z1 : nI 2 ≤ nI k := z.1
      have z2 : nI k ≤ nI 4 := z.2
      rw [nI_leI (by decide) hk] at z1
      rw [nI_leI hk (by decide)] at z2
      rcases (show k = 2 ∨ k = 3 ∨ k = 4 by omega) with rfl | rfl | rfl
      · exact Or.inl rfl
      · exact Or.inr (Or.inl rfl)
      · exact Or.inr (Or.inr rfl)
    rw [e2]
    by_cases h9 : a = 9 ∨ a = 10
    · rw [if_pos h9]
      have e1 : mIn a 0 16 = true := by rcases h9 with rfl | rfl <;> decide
      have e3 : decide (a = 9 ∨ a = 10) = true := decide_eq_true h9
      rw [e1, e3]
      have e4 : decide (¬ g < 1 ∧ ¬ 3 < g) = mIn g 1 3 := by
        unfold mIn
        refine decide_eq_decide.mpr ?_
        rw [Int32.not_lt, Int32.not_lt]
      rw [e4]
      simp
    · rw [if_neg h9, decide_eq_false h9, e16]
      simp
theorem zisPat_eq {p : Int32} : zisPat p = mIn p (-1) 100 := by
  unfold zisPat mIn
  refine decide_eq_decide.mpr ?_
  rw [Int32.not_lt, Int32.not_lt]
def mAQ (n : Nat) (σ : zS) (M : mM) (x y a g p : Int32) : Option yV → mM → Prop := fun r M' => ((ztat x = none ∨ zpat (zn σ) y = none ∨ zisAct a g = false ∨ zisPat p = false) ∧ M' = yu M 200 26 1 ∧ ∃ v, r = some (yi v)) ∨ ∃ t o, ztat x = some t ∧ zpat (zn σ) y = some o ∧ zisAct a g = true ∧ zisPat p = true ∧ ((¬ yst a.toNatClampNeg = nI (zkd σ o) ∧ M' = yu (yu M 200 26 0) 200 26 3 ∧ ∃ v, r = some (yi v)) ∨ (yst a.toNatClampNeg = nI (zkd σ o) ∧ (¬ zth σ 2 t = 0 ∨ zallows σ o t a g = false) ∧ M' = yu (yu M 200 26 0) 200 26 2 ∧ ∃ v, r = some (yi v)) ∨ (yst a.toNatClampNeg = nI (zkd σ o) ∧ zth σ 2 t = 0 ∧ zallows σ o t a g = true ∧ mAP n (yu M 200 26 0) σ o t a g p r M'))
