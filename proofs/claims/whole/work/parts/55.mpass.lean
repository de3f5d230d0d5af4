/-! the model: grant by act; pass -/
def mGrant (M : mM) (t o : Nat) (a : Int32) (n : Nat) : mM := if a = 0 ∨ a = 7 then mHold M t o else if a = 5 then mRead M t o else if a = 9 then mAsk M t o else if a = 15 then mPut M t o n else if a = 16 then mTake M t o n else M
def mGok (M : mM) (o : Nat) (a : Int32) (n : Nat) : Prop := (a = 0 ∨ a = 5 ∨ a = 7 ∨ a = 9 ∨ a = 11 ∨ a = 15 ∨ a = 16) ∧ (a = 15 → n < 3 ∧ M 214 o = nI n) ∧ (a = 16 → n < 3 ∧ M 214 o = nI (n + 1))
theorem c_M_grant {G : yG} {s : Nat → Option ySh} {F : Nat → Nat → Option Nat} {M : mM} (hS : mSh s F) {t o n : Nat} {a : Int32} (ht : t < 6) (ho : o < 6) (h : mGok M o a n) : mCT G m_M_grant [yr 200, yi (nI t), yi (nI o), yi a] s F M (fun r M' => r = none ∧ M' = mGrant M t o a n) := by
  obtain ⟨ha, h15, h16⟩ := h
  rcases ha with rfl | rfl | rfl | rfl | rfl | rfl | rfl
  · exact c_M_grant0 hS ht ho
  · exact c_M_grant5 hS ht ho
  · exact c_M_grant7 hS ht ho
  · exact c_M_grant9 hS ht ho
  · exact c_M_grant11 hS ht ho
  · exact c_M_grant15 hS ht ho (h15 rfl).1 (h15 rfl).2
  · exact c_M_grant16 hS ht ho (h16 rfl).1 (h16 rfl).2
def mGf (K : Nat) : Prop := K ≠ 204 ∧ K ≠ 214 ∧ K ≠ 215 ∧ K ≠ 220 ∧ K ≠ 221
theorem mGrant_keep {M : mM} {t o n K j : Nat} {a : Int32} (hK : mGf K) : mGrant M t o a n K j = M K j := by
  obtain ⟨h0, h1, h2, h3, h4⟩ := hK
  unfold mGrant
  split
  · exact (yu_ne _ _ (Or.inl h1)).trans (yu_ne _ _ (Or.inl h2))
  · split
    · exact yu_ne _ _ (Or.inl h3)
    · split
      · exact yu_ne _ _ (Or.inl h1)
      · split
        · exact (yu_ne _ _ (Or.inl h1)).trans (yu_ne _ _ (Or.inl h4))
        · split
          · exact (mSft_at (by omega)).trans ((yu_ne _ _ (Or.inl h1)).trans (yu_ne _ _ (Or.inl h0)))
          · rfl
def mStep (M : mM) (u o i n l h : Nat) : mM := mEndL (mRem (mGrant M u o (M 206 u) n) 217 (o * 6) 216 o i l) u h
/-- what a relation of states and models must have, to stand through the row's going -/
def mPass (o : Nat) (R : zS → mM → Prop) : Prop := ∀ σ M, R σ M → (zrw σ 0 o).length ≤ 6 ∧ (∀ u ∈ zrw σ 0 o, u < 6) ∧ (zrw σ 0 o).Nodup ∧ M 216 o = nI (zrw σ 0 o).length ∧ mL M 217 (o * 6) (zrw σ 0 o) ∧
  ∀ u ∈ zrw σ 0 o, mcan M u o (M 206 u) = zcan σ o u ∧ zbit σ o u = (if zkd σ o = 5 ∧ ¬ M 206 u = 15 then 2 else 1) ∧ (M 206 u = 15 → zkd σ o = 5) ∧
    (zcan σ o u = true → ∃ n h, mGok M o (M 206 u) n ∧ h < 5 ∧ (if M 211 u = 0 then 0 else M 209 u) = nI h ∧ ∀ i, (zrw σ 0 o)[i]? = some u → R (zgr σ o u) (mStep M u o i n ((zrw σ 0 o).length - 1) h))
def mFl (kd : Nat) (x : Int32) (P O : Bool) : Prop := (kd = 5 → (x = 0 ∧ P = true ∧ O = true) ∨ (x = 1 ∧ P = false ∧ O = true) ∨ (x = 2 ∧ P = true ∧ O = false) ∨ (x = 3 ∧ P = false ∧ O = false)) ∧ (¬ kd = 5 → P = true ∧ ((x = 0 ∧ O = true) ∨ (x = 1 ∧ O = false)))
theorem mFl_put {x : Int32} {P O : Bool} (h : mFl 5 x P O) : ((x &&& 1) = 0 ↔ P = true) ∧ mFl 5 (x ||| 1) false O := by
  have h9 := h.1 rfl
  refine ⟨?_, fun _ => ?_, fun z => absurd rfl z⟩
  · rcases h9 with ⟨rfl, rfl, rfl⟩ | ⟨rfl, rfl, rfl⟩ | ⟨rfl, rfl, rfl⟩ | ⟨rfl, rfl, rfl⟩ <;> decide
  · rcases h9 with ⟨rfl, rfl, rfl⟩ | ⟨rfl, rfl, rfl⟩ | ⟨rfl, rfl, rfl⟩ | ⟨rfl, rfl, rfl⟩ <;> decide
theorem mFl_other {kd : Nat} {x : Int32} {P O : Bool} (h : mFl kd x P O) : ((x &&& (if kd = 5 then 2 else 1)) = 0 ↔ O = true) ∧ mFl kd (x ||| (if kd = 5 then 2 else 1)) P false := by
  by_cases e : kd = 5
  · rw [if_pos e]
    subst e
    have h9 := h.1 rfl
    refine ⟨?_, fun _ => ?_, fun z => absurd rfl z⟩
    · rcases h9 with ⟨rfl, rfl, rfl⟩ | ⟨rfl, rfl, rfl⟩ | ⟨rfl, rfl, rfl⟩ | ⟨rfl, rfl, rfl⟩ <;> decide
    · rcases h9 with ⟨rfl, rfl, rfl⟩ | ⟨rfl, rfl, rfl⟩ | ⟨rfl, rfl, rfl⟩ | ⟨rfl, rfl, rfl⟩ <;> decide
  · rw [if_neg e]
    obtain ⟨hP, h9⟩ := h.2 e
    refine ⟨?_, fun z => absurd z e, fun _ => ⟨hP, ?_⟩⟩
    · rcases h9 with ⟨rfl, rfl⟩ | ⟨rfl, rfl⟩ <;> decide
    · rcases h9 with ⟨rfl, rfl⟩ | ⟨rfl, rfl⟩ <;> decide
theorem zgo_le {o : Nat} : ∀ (m : Nat) (x : Int32) (p : Nat) (σ : zS), (zgo o m x p σ).2 ≤ p + m
  | 0, x, p, σ => Nat.le_refl _
  | m + 1, x, p, σ => by
    unfold zgo
    split
    · exact Nat.le_add_right _ _
    · split
      · exact Nat.le_trans (zgo_le m _ _ _) (by omega)
      · exact Nat.le_trans (zgo_le m _ _ _) (by omega)
theorem zgo_full {o : Nat} {σ : zS} (hb : ∀ u ∈ zrw σ 0 o, zbit σ o u = 1 ∨ zbit σ o u = 2) : ∀ (m p : Nat), (zrw σ 0 o).length = p + m → zgo o m 3 p σ = (σ, p + m)
  | 0, p, _ => rfl
  | m + 1, p, h => by
    have hp : p < (zrw σ 0 o).length := by omega
    unfold zgo
    rw [List.getElem?_eq_getElem hp]
    have h9 := hb _ (List.getElem_mem hp)
    have e1 : ¬ ((3 : Int32) &&& zbit σ o (zrw σ 0 o)[p]) = 0 := by rcases h9 with h9 | h9 <;> rw [h9] <;> decide
    have e2 : (3 : Int32) ||| zbit σ o (zrw σ 0 o)[p] = 3 := by rcases h9 with h9 | h9 <;> rw [h9] <;> decide
    show (if ((3 : Int32) &&& zbit σ o (zrw σ 0 o)[p]) = 0 ∧ _ then _ else zgo o m (3 ||| zbit σ o (zrw σ 0 o)[p]) (p + 1) σ) = _
    rw [if_neg (fun z => e1 z.1), e2, zgo_full hb m (p + 1) (by omega)]
    congr 1
    omega
theorem zgo_grant {o m p u : Nat} {x : Int32} {σ : zS} (hu : (zrw σ 0 o)[p]? = some u) (h1 : (x &&& zbit σ o u) = 0) (h2 : zcan σ o u = true) : zgo o (m + 1) x p σ = zgo o m x p (zgr σ o u) := by
  conv => lhs; unfold zgo
  rw [hu]
  exact if_pos ⟨h1, h2⟩
theorem zgo_ref {o m p u : Nat} {x : Int32} {σ : zS} (hu : (zrw σ 0 o)[p]? = some u) (h : ¬ ((x &&& zbit σ o u) = 0 ∧ zcan σ o u = true)) : zgo o (m + 1) x p σ = zgo o m (x ||| zbit σ o u) (p + 1) σ := by
  conv => lhs; unfold zgo
  rw [hu]
  exact if_neg h
theorem nI_back (q : Nat) : nI q + -1 + 1 = nI q := by
  rw [Int32.add_assoc]
  exact Int32.add_zero _

set_option maxHeartbeats 8000000 in
set_option maxRecDepth 20000 in
theorem c_M_pass_in {G : yG} {s : Nat → Option ySh} {F : Nat → Nat → Option Nat} (hS : mSh s F) {o : Nat} (ho : o < 6) {R : zS → mM → Prop} (hR : mPass o R) {POST : Option yV → mM → Prop} : ∀ (m q : Nat) (P O gr : Bool) (x : Int32) (σ : zS) (M : mM) (x6 x7 x8 : Option yV), R σ M → (zrw σ 0 o).length = q + m → mFl (zkd σ o) x P O → (∀ (σ' : zS) (M' : mM) (b P' O' : Bool) (q' : Nat) (x6 x7 x8 : Option yV), R σ' M' → σ' = (zgo o m x q σ).1 → b = (gr || decide ((zgo o m x q σ).2 < q + m)) → (zrw σ' 0 o).length = (zgo o m x q σ).2 → yWW G m_M_pass (mQ G m_M_pass s F POST) s 191 [some (yr 200), some (yi (nI o)), some (yi (zb b)), some (yi (zb P')), some (yi (zb O')), some (yi (nI q')), x6, x7, x8] [] (mw s F M') 0 0) → yWW G m_M_pass (mQ G m_M_pass s F POST) s 16 [some (yr 200), some (yi (nI o)), some (yi (zb gr)), some (yi (zb P)), some (yi (zb O)), some (yi (nI q)), x6, x7, x8] [] (mw s F M) 0 0 := by
  intro m
  induction m with
  | zero =>
    intro q P O gr x σ M x6 x7 x8 hRM hlen hfl hk
    obtain ⟨h6, hall, hnd, hsz, hL, hrow⟩ := hR σ M hRM
    refine yr_iload d_M_pass_16 rfl ?_
    refine yr_aload_n d_M_pass_18 rfl ?_
    refine mr_arr (a := 15) (K := 216) hS d_M_pass_19 sf_M_pass_19 rfl (by decide) rfl ?_
    refine yr_iload_n d_M_pass_22 rfl ?_
    refine mr_ld (a := 15) (K := 216) (n := 6) (j := o) hS d_M_pass_23 (by decide) rfl rfl rfl (by simp only [nI0, nI1, nI2, nI3, nI4, nI6, nI_mulN, nI_add]) (by omega) ?_
    rw [hsz]
    refine yr_icmp_ge (tgt := 191) d_M_pass_24 (by decide) (fun c24 => ?_) (fun c24 => absurd (nI_le (by omega) (by omega)) c24)
    exact hk σ M _ _ _ _ _ _ _ hRM rfl (by rw [show decide ((zgo o 0 x q σ).2 < q + 0) = false from decide_eq_false (Nat.lt_irrefl _), Bool.or_false]) hlen
  | succ m ih =>
    intro q P O gr x σ M x6 x7 x8 hRM hlen hfl hk
    obtain ⟨h6, hall, hnd, hsz, hL, hrow⟩ := hR σ M hRM
    have hq : q < (zrw σ 0 o).length := by omega
    obtain ⟨u, hu⟩ : ∃ u, (zrw σ 0 o)[q]? = some u := ⟨_, List.getElem?_eq_getElem hq⟩
    have huq : (zrw σ 0 o)[q] = u := by rw [List.getElem?_eq_getElem hq] at hu; exact Option.some.inj hu
    have hum : u ∈ zrw σ 0 o := by rw [← huq]; exact List.getElem_mem hq
    have hu6 : u < 6 := hall u hum
    have hLq : M 217 (o * 6 + q) = nI u := by rw [hL q hq, huq]
    obtain ⟨hcan, hbit, hp5, hgr⟩ := hrow u hum
    cases P with
    | false =>
      cases O with
      | false =>
        have z3 : zgo o (m + 1) x q σ = (σ, q + (m + 1)) := by
          have hx : x = 3 := by
            rcases Nat.decEq (zkd σ o) 5 with e | e
            · exact absurd (hfl.2 e).1 (by decide)
            · rcases hfl.1 e with h9 | h9 | h9 | h9
              · exact absurd h9.2.1 (by decide)
              · exact absurd h9.2.2 (by decide)
              · exact absurd h9.2.1 (by decide)
              · exact h9.1
          rw [hx]
          refine zgo_full (fun v hv => ?_) (m + 1) q hlen
          rw [(hrow v hv).2.1]
          split
          · exact Or.inr rfl
          · exact Or.inl rfl
        refine yr_iload d_M_pass_16 rfl ?_
        refine yr_aload_n d_M_pass_18 rfl ?_
        refine mr_arr (a := 15) (K := 216) hS d_M_pass_19 sf_M_pass_19 rfl (by decide) rfl ?_
        refine yr_iload_n d_M_pass_22 rfl ?_
        refine mr_ld (a := 15) (K := 216) (n := 6) (j := o) hS d_M_pass_23 (by decide) rfl rfl rfl (by simp only [nI0, nI1, nI2, nI3, nI4, nI6, nI_mulN, nI_add]) (by omega) ?_
        rw [hsz]
        refine yr_icmp_ge (tgt := 191) d_M_pass_24 (by decide) (fun c24 => absurd c24 (nI_ge (by omega) (by omega))) (fun c24 => ?_)
        refine yr_iload_n d_M_pass_27 rfl ?_
        refine yr_if_ne (tgt := 36) d_M_pass_28 (by decide) (fun c28 => absurd (show zb false = 0 from rfl) c28) (fun c28 => ?_)
        refine yr_iload d_M_pass_31 rfl ?_
        refine yr_if_eq (tgt := 191) d_M_pass_33 (by decide) (fun c33 => ?_) (fun c33 => absurd (show zb false = 0 from rfl) c33)
        exact hk σ M _ _ _ _ _ _ _ hRM (by rw [z3]) (by rw [z3, show decide ((σ, q + (m + 1)).2 < q + (m + 1)) = false from decide_eq_false (Nat.lt_irrefl _), Bool.or_false]) (by rw [z3]; exact hlen)
      | true =>
        by_cases hput : M 206 u = 15
        · skip
          have hb1 : zbit σ o u = 1 := by rw [hbit, if_neg (fun z => z.2 hput)]
          have hf2 : mFl 5 x false true := by have := hfl; rw [hp5 hput] at this; exact this
          have hfn := mFl_put hf2
          have hnot : ¬ ((x &&& zbit σ o u) = 0 ∧ zcan σ o u = true) := fun z => by
            have := hfn.1.mp (by rw [← hb1]; exact z.1)
            cases this
          refine yr_iload d_M_pass_16 rfl ?_
          refine yr_aload_n d_M_pass_18 rfl ?_
          refine mr_arr (a := 15) (K := 216) hS d_M_pass_19 sf_M_pass_19 rfl (by decide) rfl ?_
          refine yr_iload_n d_M_pass_22 rfl ?_
          refine mr_ld (a := 15) (K := 216) (n := 6) (j := o) hS d_M_pass_23 (by decide) rfl rfl rfl (by simp only [nI0, nI1, nI2, nI3, nI4, nI6, nI_mulN, nI_add]) (by omega) ?_
          rw [hsz]
          refine yr_icmp_ge (tgt := 191) d_M_pass_24 (by decide) (fun c24 => absurd c24 (nI_ge (by omega) (by omega))) (fun c24 => ?_)
          refine yr_iload_n d_M_pass_27 rfl ?_
          refine yr_if_ne (tgt := 36) d_M_pass_28 (by decide) (fun c28 => absurd (show zb false = 0 from rfl) c28) (fun c28 => ?_)
          refine yr_iload d_M_pass_31 rfl ?_
          refine yr_if_eq (tgt := 191) d_M_pass_33 (by decide) (fun c33 => absurd c33 (by decide)) (fun c33 => ?_)
          refine yr_aload_n d_M_pass_36 rfl ?_
          refine mr_arr (a := 16) (K := 217) hS d_M_pass_37 sf_M_pass_37 rfl (by decide) rfl ?_
          refine yr_iload_n d_M_pass_40 rfl ?_
          refine yr_bipush (v := 6) d_M_pass_41 (by decide) ?_
          refine yr_imul d_M_pass_43 ?_
          refine yr_iload d_M_pass_44 rfl ?_
          refine yr_iadd d_M_pass_46 ?_
          refine mr_ld (a := 16) (K := 217) (n := 36) (j := ((o * 6) + q)) hS d_M_pass_47 (by decide) rfl rfl rfl (by simp only [nI0, nI1, nI2, nI3, nI4, nI6, nI_mulN, nI_add]) (by omega) ?_
          rw [hLq]
          refine yr_istore d_M_pass_48 (by decide) rfl ?_
          refine yr_aload_n d_M_pass_50 rfl ?_
          refine mr_arr (a := 5) (K := 206) hS d_M_pass_51 sf_M_pass_51 rfl (by decide) rfl ?_
          refine yr_iload d_M_pass_54 rfl ?_
          refine mr_ld (a := 5) (K := 206) (n := 6) (j := u) hS d_M_pass_56 (by decide) rfl rfl rfl (by simp only [nI0, nI1, nI2, nI3, nI4, nI6, nI_mulN, nI_add]) (by omega) ?_
          refine yr_istore d_M_pass_57 (by decide) rfl ?_
          refine yr_iload d_M_pass_59 rfl ?_
          refine yr_bipush (v := 15) d_M_pass_61 (by decide) ?_
          refine yr_icmp_ne (tgt := 70) d_M_pass_63 (by decide) (fun c63 => absurd hput c63) (fun c63 => ?_)
          refine yr_iconst (v := 1) d_M_pass_66 (by decide) ?_
          refine yr_goto (tgt := 71) d_M_pass_67 (by decide) ?_
          refine yr_istore d_M_pass_71 (by decide) rfl ?_
          refine yr_iload d_M_pass_73 rfl ?_
          refine yr_if_eq (tgt := 85) d_M_pass_75 (by decide) (fun c75 => absurd c75 (by decide)) (fun c75 => ?_)
          refine yr_iload_n d_M_pass_78 rfl ?_
          refine yr_if_ne (tgt := 93) d_M_pass_79 (by decide) (fun c79 => absurd (show zb false = 0 from rfl) c79) (fun c79 => ?_)
          refine yr_goto (tgt := 185) d_M_pass_82 (by decide) ?_
          refine yr_iinc (v := nI (q + 1)) d_M_pass_185 rfl (nI_1 (q)) (by decide) rfl ?_
          refine yr_goto (tgt := 16) d_M_pass_188 (by decide) ?_
          refine ih (q + 1) false true gr (x ||| zbit σ o u) σ M _ _ _ hRM (by omega) (by rw [hb1, hp5 hput]; exact hfn.2) (fun σ' M' b P' O' q' y6 y7 y8 a1 a2 a3 a4 => hk σ' M' b P' O' q' y6 y7 y8 a1 (by rw [zgo_ref hu hnot]; exact a2) (by rw [zgo_ref hu hnot, show q + (m + 1) = q + 1 + m by omega]; exact a3) (by rw [zgo_ref hu hnot]; exact a4))
        · cases hc : zcan σ o u with
          | false =>
            have hb1 : zbit σ o u = (if zkd σ o = 5 then 2 else 1) := by
              rw [hbit]
              by_cases e : zkd σ o = 5
              · rw [if_pos ⟨e, hput⟩, if_pos e]
              · rw [if_neg (fun z => e z.1), if_neg e]
            have hfn := mFl_other hfl
            have hnot : ¬ ((x &&& zbit σ o u) = 0 ∧ zcan σ o u = true) := fun z => by rw [hc] at z; cases z.2
            refine yr_iload d_M_pass_16 rfl ?_
            refine yr_aload_n d_M_pass_18 rfl ?_
            refine mr_arr (a := 15) (K := 216) hS d_M_pass_19 sf_M_pass_19 rfl (by decide) rfl ?_
            refine yr_iload_n d_M_pass_22 rfl ?_
            refine mr_ld (a := 15) (K := 216) (n := 6) (j := o) hS d_M_pass_23 (by decide) rfl rfl rfl (by simp only [nI0, nI1, nI2, nI3, nI4, nI6, nI_mulN, nI_add]) (by omega) ?_
            rw [hsz]
            refine yr_icmp_ge (tgt := 191) d_M_pass_24 (by decide) (fun c24 => absurd c24 (nI_ge (by omega) (by omega))) (fun c24 => ?_)
            refine yr_iload_n d_M_pass_27 rfl ?_
            refine yr_if_ne (tgt := 36) d_M_pass_28 (by decide) (fun c28 => absurd (show zb false = 0 from rfl) c28) (fun c28 => ?_)
            refine yr_iload d_M_pass_31 rfl ?_
            refine yr_if_eq (tgt := 191) d_M_pass_33 (by decide) (fun c33 => absurd c33 (by decide)) (fun c33 => ?_)
            refine yr_aload_n d_M_pass_36 rfl ?_
            refine mr_arr (a := 16) (K := 217) hS d_M_pass_37 sf_M_pass_37 rfl (by decide) rfl ?_
            refine yr_iload_n d_M_pass_40 rfl ?_
            refine yr_bipush (v := 6) d_M_pass_41 (by decide) ?_
            refine yr_imul d_M_pass_43 ?_
            refine yr_iload d_M_pass_44 rfl ?_
            refine yr_iadd d_M_pass_46 ?_
            refine mr_ld (a := 16) (K := 217) (n := 36) (j := ((o * 6) + q)) hS d_M_pass_47 (by decide) rfl rfl rfl (by simp only [nI0, nI1, nI2, nI3, nI4, nI6, nI_mulN, nI_add]) (by omega) ?_
            rw [hLq]
            refine yr_istore d_M_pass_48 (by decide) rfl ?_
            refine yr_aload_n d_M_pass_50 rfl ?_
            refine mr_arr (a := 5) (K := 206) hS d_M_pass_51 sf_M_pass_51 rfl (by decide) rfl ?_
            refine yr_iload d_M_pass_54 rfl ?_
            refine mr_ld (a := 5) (K := 206) (n := 6) (j := u) hS d_M_pass_56 (by decide) rfl rfl rfl (by simp only [nI0, nI1, nI2, nI3, nI4, nI6, nI_mulN, nI_add]) (by omega) ?_
            refine yr_istore d_M_pass_57 (by decide) rfl ?_
            refine yr_iload d_M_pass_59 rfl ?_
            refine yr_bipush (v := 15) d_M_pass_61 (by decide) ?_
            refine yr_icmp_ne (tgt := 70) d_M_pass_63 (by decide) (fun c63 => ?_) (fun c63 => absurd c63 hput)
            refine yr_iconst (v := 0) d_M_pass_70 (by decide) ?_
            refine yr_istore d_M_pass_71 (by decide) rfl ?_
            refine yr_iload d_M_pass_73 rfl ?_
            refine yr_if_eq (tgt := 85) d_M_pass_75 (by decide) (fun c75 => ?_) (fun c75 => absurd rfl c75)
            refine yr_iload d_M_pass_85 rfl ?_
            refine yr_if_ne (tgt := 93) d_M_pass_87 (by decide) (fun c87 => ?_) (fun c87 => absurd c87 (by decide))
            refine yr_aload_n d_M_pass_93 rfl ?_
            refine yr_iload d_M_pass_94 rfl ?_
            refine yr_iload_n d_M_pass_96 rfl ?_
            refine yr_iload d_M_pass_97 rfl ?_
            refine mr_call (yrunV (X := yNX) (k := 200) (As := [yi (nI u), yi (nI o), yi (M 206 u)]) (rest := []) d_M_pass_99 (c_M_can hS hu6 ho) hS.1 rfl (show yck (yMm m_M_pass) m_M_can 3 = true by decide +kernel) cw_M_can (by decide +kernel) (by decide +kernel) (by decide +kernel) (by decide +kernel) (Nat.le_of_ble_eq_true rfl) (ycat_of rfl) (by decide) (by decide)) (fun r M9 hp => ?_)
            obtain ⟨rfl, hM9⟩ := hp
            rw [hM9]
            refine yr_if_eq (tgt := 172) d_M_pass_102 (by decide) (fun c102 => ?_) (fun c102 => absurd (by rw [hcan, hc]; rfl) c102)
            refine yr_iload d_M_pass_172 rfl ?_
            refine yr_if_eq (tgt := 182) d_M_pass_174 (by decide) (fun c174 => ?_) (fun c174 => absurd rfl c174)
            refine yr_iconst (v := 0) d_M_pass_182 (by decide) ?_
            refine yr_istore d_M_pass_183 (by decide) rfl ?_
            refine yr_iinc (v := nI (q + 1)) d_M_pass_185 rfl (nI_1 (q)) (by decide) rfl ?_
            refine yr_goto (tgt := 16) d_M_pass_188 (by decide) ?_
            refine ih (q + 1) false false gr (x ||| zbit σ o u) σ M _ _ _ hRM (by omega) (by rw [hb1]; exact hfn.2) (fun σ' M' b P' O' q' y6 y7 y8 a1 a2 a3 a4 => hk σ' M' b P' O' q' y6 y7 y8 a1 (by rw [zgo_ref hu hnot]; exact a2) (by rw [zgo_ref hu hnot, show q + (m + 1) = q + 1 + m by omega]; exact a3) (by rw [zgo_ref hu hnot]; exact a4))
          | true =>
            have hb1 : zbit σ o u = (if zkd σ o = 5 then 2 else 1) := by
              rw [hbit]
              by_cases e : zkd σ o = 5
              · rw [if_pos ⟨e, hput⟩, if_pos e]
              · rw [if_neg (fun z => e z.1), if_neg e]
            have hfn := mFl_other hfl
            have hand : (x &&& zbit σ o u) = 0 := by rw [hb1]; exact hfn.1.mpr rfl
            obtain ⟨n, h, hgok, hh5, hthen, hstep⟩ := hgr hc
            have hstep := hstep q hu
            have hne : ∀ j, j < q → (hj : j < (zrw σ 0 o).length) → ¬ nI (zrw σ 0 o)[j] = nI u := by
              intro j hjq hj z
              have h9 : (zrw σ 0 o)[j] < 6 := hall _ (List.getElem_mem hj)
              rw [nI_eq (by omega) (by omega), ← huq] at z
              exact absurd ((List.getElem_inj hnd).mp z) (by omega)
            have k211 : (mRem (mGrant M u o (M 206 u) n) 217 (o * 6) 216 o q ((zrw σ 0 o).length - 1)) 211 u = M 211 u := (mRem_keep (by decide) (by decide)).trans (mGrant_keep (by unfold mGf; decide))
            have k209 : (mRem (mGrant M u o (M 206 u) n) 217 (o * 6) 216 o q ((zrw σ 0 o).length - 1)) 209 u = M 209 u := (mRem_keep (by decide) (by decide)).trans (mGrant_keep (by unfold mGf; decide))
            have hlen2 : (zrw (zgr σ o u) 0 o).length = q + m := by
              have h8 := hR _ _ hstep
              have h9 := h8.2.2.2.1
              unfold mStep at h9
              rw [mEndL_keep mFree216, mRem_sz (by decide), nI_eq (by omega) (by have := h8.1; omega)] at h9
              omega
            refine yr_iload d_M_pass_16 rfl ?_
            refine yr_aload_n d_M_pass_18 rfl ?_
            refine mr_arr (a := 15) (K := 216) hS d_M_pass_19 sf_M_pass_19 rfl (by decide) rfl ?_
            refine yr_iload_n d_M_pass_22 rfl ?_
            refine mr_ld (a := 15) (K := 216) (n := 6) (j := o) hS d_M_pass_23 (by decide) rfl rfl rfl (by simp only [nI0, nI1, nI2, nI3, nI4, nI6, nI_mulN, nI_add]) (by omega) ?_
            rw [hsz]
            refine yr_icmp_ge (tgt := 191) d_M_pass_24 (by decide) (fun c24 => absurd c24 (nI_ge (by omega) (by omega))) (fun c24 => ?_)
            refine yr_iload_n d_M_pass_27 rfl ?_
            refine yr_if_ne (tgt := 36) d_M_pass_28 (by decide) (fun c28 => absurd (show zb false = 0 from rfl) c28) (fun c28 => ?_)
            refine yr_iload d_M_pass_31 rfl ?_
            refine yr_if_eq (tgt := 191) d_M_pass_33 (by decide) (fun c33 => absurd c33 (by decide)) (fun c33 => ?_)
            refine yr_aload_n d_M_pass_36 rfl ?_
            refine mr_arr (a := 16) (K := 217) hS d_M_pass_37 sf_M_pass_37 rfl (by decide) rfl ?_
            refine yr_iload_n d_M_pass_40 rfl ?_
            refine yr_bipush (v := 6) d_M_pass_41 (by decide) ?_
            refine yr_imul d_M_pass_43 ?_
            refine yr_iload d_M_pass_44 rfl ?_
            refine yr_iadd d_M_pass_46 ?_
            refine mr_ld (a := 16) (K := 217) (n := 36) (j := ((o * 6) + q)) hS d_M_pass_47 (by decide) rfl rfl rfl (by simp only [nI0, nI1, nI2, nI3, nI4, nI6, nI_mulN, nI_add]) (by omega) ?_
            rw [hLq]
            refine yr_istore d_M_pass_48 (by decide) rfl ?_
            refine yr_aload_n d_M_pass_50 rfl ?_
            refine mr_arr (a := 5) (K := 206) hS d_M_pass_51 sf_M_pass_51 rfl (by decide) rfl ?_
            refine yr_iload d_M_pass_54 rfl ?_
            refine mr_ld (a := 5) (K := 206) (n := 6) (j := u) hS d_M_pass_56 (by decide) rfl rfl rfl (by simp only [nI0, nI1, nI2, nI3, nI4, nI6, nI_mulN, nI_add]) (by omega) ?_
            refine yr_istore d_M_pass_57 (by decide) rfl ?_
            refine yr_iload d_M_pass_59 rfl ?_
            refine yr_bipush (v := 15) d_M_pass_61 (by decide) ?_
            refine yr_icmp_ne (tgt := 70) d_M_pass_63 (by decide) (fun c63 => ?_) (fun c63 => absurd c63 hput)
            refine yr_iconst (v := 0) d_M_pass_70 (by decide) ?_
            refine yr_istore d_M_pass_71 (by decide) rfl ?_
            refine yr_iload d_M_pass_73 rfl ?_
            refine yr_if_eq (tgt := 85) d_M_pass_75 (by decide) (fun c75 => ?_) (fun c75 => absurd rfl c75)
            refine yr_iload d_M_pass_85 rfl ?_
            refine yr_if_ne (tgt := 93) d_M_pass_87 (by decide) (fun c87 => ?_) (fun c87 => absurd c87 (by decide))
            refine yr_aload_n d_M_pass_93 rfl ?_
            refine yr_iload d_M_pass_94 rfl ?_
            refine yr_iload_n d_M_pass_96 rfl ?_
            refine yr_iload d_M_pass_97 rfl ?_
            refine mr_call (yrunV (X := yNX) (k := 200) (As := [yi (nI u), yi (nI o), yi (M 206 u)]) (rest := []) d_M_pass_99 (c_M_can hS hu6 ho) hS.1 rfl (show yck (yMm m_M_pass) m_M_can 3 = true by decide +kernel) cw_M_can (by decide +kernel) (by decide +kernel) (by decide +kernel) (by decide +kernel) (Nat.le_of_ble_eq_true rfl) (ycat_of rfl) (by decide) (by decide)) (fun r M9 hp => ?_)
            obtain ⟨rfl, hM9⟩ := hp
            rw [hM9]
            refine yr_if_eq (tgt := 172) d_M_pass_102 (by decide) (fun c102 => absurd c102 (by rw [hcan, hc]; decide)) (fun c102 => ?_)
            refine yr_aload_n d_M_pass_105 rfl ?_
            refine yr_iload d_M_pass_106 rfl ?_
            refine yr_iload_n d_M_pass_108 rfl ?_
            refine yr_iload d_M_pass_109 rfl ?_
            refine mr_call (yrunV (X := yNX) (k := 200) (As := [yi (nI u), yi (nI o), yi (M 206 u)]) (rest := []) d_M_pass_111 (c_M_grant hS hu6 ho hgok) hS.1 rfl (show yck (yMm m_M_pass) m_M_grant 3 = true by decide +kernel) cw_M_grant (by decide +kernel) (by decide +kernel) (by decide +kernel) (by decide +kernel) (Nat.le_of_ble_eq_true rfl) (ycat_of rfl) (by decide) (by decide)) (fun r M9 hp => ?_)
            obtain ⟨rfl, rfl⟩ := hp
            refine yr_aload_n d_M_pass_114 rfl ?_
            refine yr_aload_n d_M_pass_115 rfl ?_
            refine mr_arr (a := 16) (K := 217) hS d_M_pass_116 sf_M_pass_116 rfl (by decide) rfl ?_
            refine yr_iload_n d_M_pass_119 rfl ?_
            refine yr_bipush (v := 6) d_M_pass_120 (by decide) ?_
            refine yr_imul d_M_pass_122 ?_
            refine yr_aload_n d_M_pass_123 rfl ?_
            refine mr_arr (a := 15) (K := 216) hS d_M_pass_124 sf_M_pass_124 rfl (by decide) rfl ?_
            refine yr_iload_n d_M_pass_127 rfl ?_
            refine yr_iload d_M_pass_128 rfl ?_
            rw [show nI o * 6 = nI (o * 6) by simp only [nI6, nI_mulN]]
            refine mr_call (yrunV (X := yNX) (k := 200) (As := [yr 217, yi (nI (o * 6)), yr 216, yi (nI o), yi (nI u)]) (rest := []) d_M_pass_130 (c_M_remove_row (i := q) (n := (zrw σ 0 o).length - 1) hS ho (by omega) (by omega) (by rw [mGrant_keep (by unfold mGf; decide), hsz]; congr 1; omega) (by rw [mGrant_keep (by unfold mGf; decide)]; exact hLq) (fun j hj => by rw [mGrant_keep (by unfold mGf; decide), hL j (by omega)]; exact fun z => hne j hj (by omega) z)) hS.1 rfl (show yck (yMm m_M_pass) m_M_remove 5 = true by decide +kernel) cw_M_remove (by decide +kernel) (by decide +kernel) (by decide +kernel) (by decide +kernel) (Nat.le_of_ble_eq_true rfl) (ycat_of rfl) (by decide) (by decide)) (fun r M9 hp => ?_)
            obtain ⟨rfl, rfl⟩ := hp
            refine yr_aload_n d_M_pass_133 rfl ?_
            refine yr_aload_n d_M_pass_134 rfl ?_
            refine yr_iload d_M_pass_135 rfl ?_
            refine yr_aload_n d_M_pass_137 rfl ?_
            refine mr_arr (a := 10) (K := 211) hS d_M_pass_138 sf_M_pass_138 rfl (by decide) rfl ?_
            refine yr_iload d_M_pass_141 rfl ?_
            refine mr_ldz (a := 10) (K := 211) (n := 6) (j := u) hS d_M_pass_143 (by decide) rfl rfl rfl (by simp only [nI0, nI1, nI2, nI3, nI4, nI6, nI_mulN, nI_add]) (by omega) ?_
            rw [k211]
            refine yr_if_eq (tgt := 157) d_M_pass_144 (by decide) (fun c144 => ?_) (fun c144 => ?_)
            · skip
              refine yr_iconst (v := 0) d_M_pass_157 (by decide) ?_
              first
              | rw [show M 209 u = nI h by rw [← hthen, if_neg c144]]
              | rw [show (0 : Int32) = nI h by rw [← hthen, if_pos c144]]
              refine mr_call (yrunV (X := yNX) (k := 200) (As := [yi (nI u), yi (nI h)]) (rest := [yr 200]) d_M_pass_158 (c_M_end (h := h) hS hu6 hh5) hS.1 rfl (show yck (yMm m_M_pass) m_M_end 2 = true by decide +kernel) cw_M_end (by decide +kernel) (by decide +kernel) (by decide +kernel) (by decide +kernel) (Nat.le_of_ble_eq_true rfl) (ycat_of rfl) (by decide) (by decide)) (fun r M9 hp => ?_)
              obtain ⟨rfl, rfl⟩ := hp
              refine mr_puti (f := 25) hS d_M_pass_161 sf_M_pass_161 rfl rfl ⟨rfl, rfl⟩ ?_
              refine yr_iinc (v := nI q + -1) d_M_pass_164 rfl rfl (by decide) rfl ?_
              refine yr_iconst (v := 1) d_M_pass_167 (by decide) ?_
              refine yr_istore_n d_M_pass_168 (by decide) rfl ?_
              refine yr_goto (tgt := 185) d_M_pass_169 (by decide) ?_
              refine yr_iinc (v := nI q) d_M_pass_185 rfl (nI_back q) (by decide) rfl ?_
              refine yr_goto (tgt := 16) d_M_pass_188 (by decide) ?_
              refine ih q false true true x (zgr σ o u) _ _ _ _ hstep hlen2 (by rw [zgr_n.2]; exact hfl) (fun σ' M' b P' O' q' y6 y7 y8 a1 a2 a3 a4 => hk σ' M' b P' O' q' y6 y7 y8 a1 (by rw [zgo_grant hu hand hc]; exact a2) ?_ (by rw [zgo_grant hu hand hc]; exact a4))
              rw [a3, zgo_grant hu hand hc, Bool.true_or, decide_eq_true (Nat.lt_of_le_of_lt (zgo_le m x q _) (by omega)), Bool.or_true]
            · skip
              refine yr_aload_n d_M_pass_147 rfl ?_
              refine mr_arr (a := 8) (K := 209) hS d_M_pass_148 sf_M_pass_148 rfl (by decide) rfl ?_
              refine yr_iload d_M_pass_151 rfl ?_
              refine mr_ld (a := 8) (K := 209) (n := 6) (j := u) hS d_M_pass_153 (by decide) rfl rfl rfl (by simp only [nI0, nI1, nI2, nI3, nI4, nI6, nI_mulN, nI_add]) (by omega) ?_
              rw [k209]
              refine yr_goto (tgt := 158) d_M_pass_154 (by decide) ?_
              first
              | rw [show M 209 u = nI h by rw [← hthen, if_neg c144]]
              | rw [show (0 : Int32) = nI h by rw [← hthen, if_pos c144]]
              refine mr_call (yrunV (X := yNX) (k := 200) (As := [yi (nI u), yi (nI h)]) (rest := [yr 200]) d_M_pass_158 (c_M_end (h := h) hS hu6 hh5) hS.1 rfl (show yck (yMm m_M_pass) m_M_end 2 = true by decide +kernel) cw_M_end (by decide +kernel) (by decide +kernel) (by decide +kernel) (by decide +kernel) (Nat.le_of_ble_eq_true rfl) (ycat_of rfl) (by decide) (by decide)) (fun r M9 hp => ?_)
              obtain ⟨rfl, rfl⟩ := hp
              refine mr_puti (f := 25) hS d_M_pass_161 sf_M_pass_161 rfl rfl ⟨rfl, rfl⟩ ?_
              refine yr_iinc (v := nI q + -1) d_M_pass_164 rfl rfl (by decide) rfl ?_
              refine yr_iconst (v := 1) d_M_pass_167 (by decide) ?_
              refine yr_istore_n d_M_pass_168 (by decide) rfl ?_
              refine yr_goto (tgt := 185) d_M_pass_169 (by decide) ?_
              refine yr_iinc (v := nI q) d_M_pass_185 rfl (nI_back q) (by decide) rfl ?_
              refine yr_goto (tgt := 16) d_M_pass_188 (by decide) ?_
              refine ih q false true true x (zgr σ o u) _ _ _ _ hstep hlen2 (by rw [zgr_n.2]; exact hfl) (fun σ' M' b P' O' q' y6 y7 y8 a1 a2 a3 a4 => hk σ' M' b P' O' q' y6 y7 y8 a1 (by rw [zgo_grant hu hand hc]; exact a2) ?_ (by rw [zgo_grant hu hand hc]; exact a4))
              rw [a3, zgo_grant hu hand hc, Bool.true_or, decide_eq_true (Nat.lt_of_le_of_lt (zgo_le m x q _) (by omega)), Bool.or_true]
    | true =>
      by_cases hput : M 206 u = 15
      · cases hc : zcan σ o u with
        | false =>
          cases O with
          | false =>
            have hb1 : zbit σ o u = 1 := by rw [hbit, if_neg (fun z => z.2 hput)]
            have hf2 : mFl 5 x true false := by have := hfl; rw [hp5 hput] at this; exact this
            have hfn := mFl_put hf2
            have hnot : ¬ ((x &&& zbit σ o u) = 0 ∧ zcan σ o u = true) := fun z => by rw [hc] at z; cases z.2
            refine yr_iload d_M_pass_16 rfl ?_
            refine yr_aload_n d_M_pass_18 rfl ?_
            refine mr_arr (a := 15) (K := 216) hS d_M_pass_19 sf_M_pass_19 rfl (by decide) rfl ?_
            refine yr_iload_n d_M_pass_22 rfl ?_
            refine mr_ld (a := 15) (K := 216) (n := 6) (j := o) hS d_M_pass_23 (by decide) rfl rfl rfl (by simp only [nI0, nI1, nI2, nI3, nI4, nI6, nI_mulN, nI_add]) (by omega) ?_
            rw [hsz]
            refine yr_icmp_ge (tgt := 191) d_M_pass_24 (by decide) (fun c24 => absurd c24 (nI_ge (by omega) (by omega))) (fun c24 => ?_)
            refine yr_iload_n d_M_pass_27 rfl ?_
            refine yr_if_ne (tgt := 36) d_M_pass_28 (by decide) (fun c28 => ?_) (fun c28 => absurd c28 (by decide))
            refine yr_aload_n d_M_pass_36 rfl ?_
            refine mr_arr (a := 16) (K := 217) hS d_M_pass_37 sf_M_pass_37 rfl (by decide) rfl ?_
            refine yr_iload_n d_M_pass_40 rfl ?_
            refine yr_bipush (v := 6) d_M_pass_41 (by decide) ?_
            refine yr_imul d_M_pass_43 ?_
            refine yr_iload d_M_pass_44 rfl ?_
            refine yr_iadd d_M_pass_46 ?_
            refine mr_ld (a := 16) (K := 217) (n := 36) (j := ((o * 6) + q)) hS d_M_pass_47 (by decide) rfl rfl rfl (by simp only [nI0, nI1, nI2, nI3, nI4, nI6, nI_mulN, nI_add]) (by omega) ?_
            rw [hLq]
            refine yr_istore d_M_pass_48 (by decide) rfl ?_
            refine yr_aload_n d_M_pass_50 rfl ?_
            refine mr_arr (a := 5) (K := 206) hS d_M_pass_51 sf_M_pass_51 rfl (by decide) rfl ?_
            refine yr_iload d_M_pass_54 rfl ?_
            refine mr_ld (a := 5) (K := 206) (n := 6) (j := u) hS d_M_pass_56 (by decide) rfl rfl rfl (by simp only [nI0, nI1, nI2, nI3, nI4, nI6, nI_mulN, nI_add]) (by omega) ?_
            refine yr_istore d_M_pass_57 (by decide) rfl ?_
            refine yr_iload d_M_pass_59 rfl ?_
            refine yr_bipush (v := 15) d_M_pass_61 (by decide) ?_
            refine yr_icmp_ne (tgt := 70) d_M_pass_63 (by decide) (fun c63 => absurd hput c63) (fun c63 => ?_)
            refine yr_iconst (v := 1) d_M_pass_66 (by decide) ?_
            refine yr_goto (tgt := 71) d_M_pass_67 (by decide) ?_
            refine yr_istore d_M_pass_71 (by decide) rfl ?_
            refine yr_iload d_M_pass_73 rfl ?_
            refine yr_if_eq (tgt := 85) d_M_pass_75 (by decide) (fun c75 => absurd c75 (by decide)) (fun c75 => ?_)
            refine yr_iload_n d_M_pass_78 rfl ?_
            refine yr_if_ne (tgt := 93) d_M_pass_79 (by decide) (fun c79 => ?_) (fun c79 => absurd c79 (by decide))
            refine yr_aload_n d_M_pass_93 rfl ?_
            refine yr_iload d_M_pass_94 rfl ?_
            refine yr_iload_n d_M_pass_96 rfl ?_
            refine yr_iload d_M_pass_97 rfl ?_
            refine mr_call (yrunV (X := yNX) (k := 200) (As := [yi (nI u), yi (nI o), yi (M 206 u)]) (rest := []) d_M_pass_99 (c_M_can hS hu6 ho) hS.1 rfl (show yck (yMm m_M_pass) m_M_can 3 = true by decide +kernel) cw_M_can (by decide +kernel) (by decide +kernel) (by decide +kernel) (by decide +kernel) (Nat.le_of_ble_eq_true rfl) (ycat_of rfl) (by decide) (by decide)) (fun r M9 hp => ?_)
            obtain ⟨rfl, hM9⟩ := hp
            rw [hM9]
            refine yr_if_eq (tgt := 172) d_M_pass_102 (by decide) (fun c102 => ?_) (fun c102 => absurd (by rw [hcan, hc]; rfl) c102)
            refine yr_iload d_M_pass_172 rfl ?_
            refine yr_if_eq (tgt := 182) d_M_pass_174 (by decide) (fun c174 => absurd c174 (by decide)) (fun c174 => ?_)
            refine yr_iconst (v := 0) d_M_pass_177 (by decide) ?_
            refine yr_istore_n d_M_pass_178 (by decide) rfl ?_
            refine yr_goto (tgt := 185) d_M_pass_179 (by decide) ?_
            refine yr_iinc (v := nI (q + 1)) d_M_pass_185 rfl (nI_1 (q)) (by decide) rfl ?_
            refine yr_goto (tgt := 16) d_M_pass_188 (by decide) ?_
            refine ih (q + 1) false false gr (x ||| zbit σ o u) σ M _ _ _ hRM (by omega) (by rw [hb1, hp5 hput]; exact hfn.2) (fun σ' M' b P' O' q' y6 y7 y8 a1 a2 a3 a4 => hk σ' M' b P' O' q' y6 y7 y8 a1 (by rw [zgo_ref hu hnot]; exact a2) (by rw [zgo_ref hu hnot, show q + (m + 1) = q + 1 + m by omega]; exact a3) (by rw [zgo_ref hu hnot]; exact a4))
          | true =>
            have hb1 : zbit σ o u = 1 := by rw [hbit, if_neg (fun z => z.2 hput)]
            have hf2 : mFl 5 x true true := by have := hfl; rw [hp5 hput] at this; exact this
            have hfn := mFl_put hf2
            have hnot : ¬ ((x &&& zbit σ o u) = 0 ∧ zcan σ o u = true) := fun z => by rw [hc] at z; cases z.2
            refine yr_iload d_M_pass_16 rfl ?_
            refine yr_aload_n d_M_pass_18 rfl ?_
            refine mr_arr (a := 15) (K := 216) hS d_M_pass_19 sf_M_pass_19 rfl (by decide) rfl ?_
            refine yr_iload_n d_M_pass_22 rfl ?_
            refine mr_ld (a := 15) (K := 216) (n := 6) (j := o) hS d_M_pass_23 (by decide) rfl rfl rfl (by simp only [nI0, nI1, nI2, nI3, nI4, nI6, nI_mulN, nI_add]) (by omega) ?_
            rw [hsz]
            refine yr_icmp_ge (tgt := 191) d_M_pass_24 (by decide) (fun c24 => absurd c24 (nI_ge (by omega) (by omega))) (fun c24 => ?_)
            refine yr_iload_n d_M_pass_27 rfl ?_
            refine yr_if_ne (tgt := 36) d_M_pass_28 (by decide) (fun c28 => ?_) (fun c28 => absurd c28 (by decide))
            refine yr_aload_n d_M_pass_36 rfl ?_
            refine mr_arr (a := 16) (K := 217) hS d_M_pass_37 sf_M_pass_37 rfl (by decide) rfl ?_
            refine yr_iload_n d_M_pass_40 rfl ?_
            refine yr_bipush (v := 6) d_M_pass_41 (by decide) ?_
            refine yr_imul d_M_pass_43 ?_
            refine yr_iload d_M_pass_44 rfl ?_
            refine yr_iadd d_M_pass_46 ?_
            refine mr_ld (a := 16) (K := 217) (n := 36) (j := ((o * 6) + q)) hS d_M_pass_47 (by decide) rfl rfl rfl (by simp only [nI0, nI1, nI2, nI3, nI4, nI6, nI_mulN, nI_add]) (by omega) ?_
            rw [hLq]
            refine yr_istore d_M_pass_48 (by decide) rfl ?_
            refine yr_aload_n d_M_pass_50 rfl ?_
            refine mr_arr (a := 5) (K := 206) hS d_M_pass_51 sf_M_pass_51 rfl (by decide) rfl ?_
            refine yr_iload d_M_pass_54 rfl ?_
            refine mr_ld (a := 5) (K := 206) (n := 6) (j := u) hS d_M_pass_56 (by decide) rfl rfl rfl (by simp only [nI0, nI1, nI2, nI3, nI4, nI6, nI_mulN, nI_add]) (by omega) ?_
            refine yr_istore d_M_pass_57 (by decide) rfl ?_
            refine yr_iload d_M_pass_59 rfl ?_
            refine yr_bipush (v := 15) d_M_pass_61 (by decide) ?_
            refine yr_icmp_ne (tgt := 70) d_M_pass_63 (by decide) (fun c63 => absurd hput c63) (fun c63 => ?_)
            refine yr_iconst (v := 1) d_M_pass_66 (by decide) ?_
            refine yr_goto (tgt := 71) d_M_pass_67 (by decide) ?_
            refine yr_istore d_M_pass_71 (by decide) rfl ?_
            refine yr_iload d_M_pass_73 rfl ?_
            refine yr_if_eq (tgt := 85) d_M_pass_75 (by decide) (fun c75 => absurd c75 (by decide)) (fun c75 => ?_)
            refine yr_iload_n d_M_pass_78 rfl ?_
            refine yr_if_ne (tgt := 93) d_M_pass_79 (by decide) (fun c79 => ?_) (fun c79 => absurd c79 (by decide))
            refine yr_aload_n d_M_pass_93 rfl ?_
            refine yr_iload d_M_pass_94 rfl ?_
            refine yr_iload_n d_M_pass_96 rfl ?_
            refine yr_iload d_M_pass_97 rfl ?_
            refine mr_call (yrunV (X := yNX) (k := 200) (As := [yi (nI u), yi (nI o), yi (M 206 u)]) (rest := []) d_M_pass_99 (c_M_can hS hu6 ho) hS.1 rfl (show yck (yMm m_M_pass) m_M_can 3 = true by decide +kernel) cw_M_can (by decide +kernel) (by decide +kernel) (by decide +kernel) (by decide +kernel) (Nat.le_of_ble_eq_true rfl) (ycat_of rfl) (by decide) (by decide)) (fun r M9 hp => ?_)
            obtain ⟨rfl, hM9⟩ := hp
            rw [hM9]
            refine yr_if_eq (tgt := 172) d_M_pass_102 (by decide) (fun c102 => ?_) (fun c102 => absurd (by rw [hcan, hc]; rfl) c102)
            refine yr_iload d_M_pass_172 rfl ?_
            refine yr_if_eq (tgt := 182) d_M_pass_174 (by decide) (fun c174 => absurd c174 (by decide)) (fun c174 => ?_)
            refine yr_iconst (v := 0) d_M_pass_177 (by decide) ?_
            refine yr_istore_n d_M_pass_178 (by decide) rfl ?_
            refine yr_goto (tgt := 185) d_M_pass_179 (by decide) ?_
            refine yr_iinc (v := nI (q + 1)) d_M_pass_185 rfl (nI_1 (q)) (by decide) rfl ?_
            refine yr_goto (tgt := 16) d_M_pass_188 (by decide) ?_
            refine ih (q + 1) false true gr (x ||| zbit σ o u) σ M _ _ _ hRM (by omega) (by rw [hb1, hp5 hput]; exact hfn.2) (fun σ' M' b P' O' q' y6 y7 y8 a1 a2 a3 a4 => hk σ' M' b P' O' q' y6 y7 y8 a1 (by rw [zgo_ref hu hnot]; exact a2) (by rw [zgo_ref hu hnot, show q + (m + 1) = q + 1 + m by omega]; exact a3) (by rw [zgo_ref hu hnot]; exact a4))
        | true =>
          cases O with
          | false =>
            have hb1 : zbit σ o u = 1 := by rw [hbit, if_neg (fun z => z.2 hput)]
            have hf2 : mFl 5 x true false := by have := hfl; rw [hp5 hput] at this; exact this
            have hfn := mFl_put hf2
            have hand : (x &&& zbit σ o u) = 0 := by rw [hb1]; exact hfn.1.mpr rfl
            obtain ⟨n, h, hgok, hh5, hthen, hstep⟩ := hgr hc
            have hstep := hstep q hu
            have hne : ∀ j, j < q → (hj : j < (zrw σ 0 o).length) → ¬ nI (zrw σ 0 o)[j] = nI u := by
              intro j hjq hj z
              have h9 : (zrw σ 0 o)[j] < 6 := hall _ (List.getElem_mem hj)
              rw [nI_eq (by omega) (by omega), ← huq] at z
              exact absurd ((List.getElem_inj hnd).mp z) (by omega)
            have k211 : (mRem (mGrant M u o (M 206 u) n) 217 (o * 6) 216 o q ((zrw σ 0 o).length - 1)) 211 u = M 211 u := (mRem_keep (by decide) (by decide)).trans (mGrant_keep (by unfold mGf; decide))
            have k209 : (mRem (mGrant M u o (M 206 u) n) 217 (o * 6) 216 o q ((zrw σ 0 o).length - 1)) 209 u = M 209 u := (mRem_keep (by decide) (by decide)).trans (mGrant_keep (by unfold mGf; decide))
            have hlen2 : (zrw (zgr σ o u) 0 o).length = q + m := by
              have h8 := hR _ _ hstep
              have h9 := h8.2.2.2.1
              unfold mStep at h9
              rw [mEndL_keep mFree216, mRem_sz (by decide), nI_eq (by omega) (by have := h8.1; omega)] at h9
              omega
            refine yr_iload d_M_pass_16 rfl ?_
            refine yr_aload_n d_M_pass_18 rfl ?_
            refine mr_arr (a := 15) (K := 216) hS d_M_pass_19 sf_M_pass_19 rfl (by decide) rfl ?_
            refine yr_iload_n d_M_pass_22 rfl ?_
            refine mr_ld (a := 15) (K := 216) (n := 6) (j := o) hS d_M_pass_23 (by decide) rfl rfl rfl (by simp only [nI0, nI1, nI2, nI3, nI4, nI6, nI_mulN, nI_add]) (by omega) ?_
            rw [hsz]
            refine yr_icmp_ge (tgt := 191) d_M_pass_24 (by decide) (fun c24 => absurd c24 (nI_ge (by omega) (by omega))) (fun c24 => ?_)
            refine yr_iload_n d_M_pass_27 rfl ?_
            refine yr_if_ne (tgt := 36) d_M_pass_28 (by decide) (fun c28 => ?_) (fun c28 => absurd c28 (by decide))
            refine yr_aload_n d_M_pass_36 rfl ?_
            refine mr_arr (a := 16) (K := 217) hS d_M_pass_37 sf_M_pass_37 rfl (by decide) rfl ?_
            refine yr_iload_n d_M_pass_40 rfl ?_
            refine yr_bipush (v := 6) d_M_pass_41 (by decide) ?_
            refine yr_imul d_M_pass_43 ?_
            refine yr_iload d_M_pass_44 rfl ?_
            refine yr_iadd d_M_pass_46 ?_
            refine mr_ld (a := 16) (K := 217) (n := 36) (j := ((o * 6) + q)) hS d_M_pass_47 (by decide) rfl rfl rfl (by simp only [nI0, nI1, nI2, nI3, nI4, nI6, nI_mulN, nI_add]) (by omega) ?_
            rw [hLq]
            refine yr_istore d_M_pass_48 (by decide) rfl ?_
            refine yr_aload_n d_M_pass_50 rfl ?_
            refine mr_arr (a := 5) (K := 206) hS d_M_pass_51 sf_M_pass_51 rfl (by decide) rfl ?_
            refine yr_iload d_M_pass_54 rfl ?_
            refine mr_ld (a := 5) (K := 206) (n := 6) (j := u) hS d_M_pass_56 (by decide) rfl rfl rfl (by simp only [nI0, nI1, nI2, nI3, nI4, nI6, nI_mulN, nI_add]) (by omega) ?_
            refine yr_istore d_M_pass_57 (by decide) rfl ?_
            refine yr_iload d_M_pass_59 rfl ?_
            refine yr_bipush (v := 15) d_M_pass_61 (by decide) ?_
            refine yr_icmp_ne (tgt := 70) d_M_pass_63 (by decide) (fun c63 => absurd hput c63) (fun c63 => ?_)
            refine yr_iconst (v := 1) d_M_pass_66 (by decide) ?_
            refine yr_goto (tgt := 71) d_M_pass_67 (by decide) ?_
            refine yr_istore d_M_pass_71 (by decide) rfl ?_
            refine yr_iload d_M_pass_73 rfl ?_
            refine yr_if_eq (tgt := 85) d_M_pass_75 (by decide) (fun c75 => absurd c75 (by decide)) (fun c75 => ?_)
            refine yr_iload_n d_M_pass_78 rfl ?_
            refine yr_if_ne (tgt := 93) d_M_pass_79 (by decide) (fun c79 => ?_) (fun c79 => absurd c79 (by decide))
            refine yr_aload_n d_M_pass_93 rfl ?_
            refine yr_iload d_M_pass_94 rfl ?_
            refine yr_iload_n d_M_pass_96 rfl ?_
            refine yr_iload d_M_pass_97 rfl ?_
            refine mr_call (yrunV (X := yNX) (k := 200) (As := [yi (nI u), yi (nI o), yi (M 206 u)]) (rest := []) d_M_pass_99 (c_M_can hS hu6 ho) hS.1 rfl (show yck (yMm m_M_pass) m_M_can 3 = true by decide +kernel) cw_M_can (by decide +kernel) (by decide +kernel) (by decide +kernel) (by decide +kernel) (Nat.le_of_ble_eq_true rfl) (ycat_of rfl) (by decide) (by decide)) (fun r M9 hp => ?_)
            obtain ⟨rfl, hM9⟩ := hp
            rw [hM9]
            refine yr_if_eq (tgt := 172) d_M_pass_102 (by decide) (fun c102 => absurd c102 (by rw [hcan, hc]; decide)) (fun c102 => ?_)
            refine yr_aload_n d_M_pass_105 rfl ?_
            refine yr_iload d_M_pass_106 rfl ?_
            refine yr_iload_n d_M_pass_108 rfl ?_
            refine yr_iload d_M_pass_109 rfl ?_
            refine mr_call (yrunV (X := yNX) (k := 200) (As := [yi (nI u), yi (nI o), yi (M 206 u)]) (rest := []) d_M_pass_111 (c_M_grant hS hu6 ho hgok) hS.1 rfl (show yck (yMm m_M_pass) m_M_grant 3 = true by decide +kernel) cw_M_grant (by decide +kernel) (by decide +kernel) (by decide +kernel) (by decide +kernel) (Nat.le_of_ble_eq_true rfl) (ycat_of rfl) (by decide) (by decide)) (fun r M9 hp => ?_)
            obtain ⟨rfl, rfl⟩ := hp
            refine yr_aload_n d_M_pass_114 rfl ?_
            refine yr_aload_n d_M_pass_115 rfl ?_
            refine mr_arr (a := 16) (K := 217) hS d_M_pass_116 sf_M_pass_116 rfl (by decide) rfl ?_
            refine yr_iload_n d_M_pass_119 rfl ?_
            refine yr_bipush (v := 6) d_M_pass_120 (by decide) ?_
            refine yr_imul d_M_pass_122 ?_
            refine yr_aload_n d_M_pass_123 rfl ?_
            refine mr_arr (a := 15) (K := 216) hS d_M_pass_124 sf_M_pass_124 rfl (by decide) rfl ?_
            refine yr_iload_n d_M_pass_127 rfl ?_
            refine yr_iload d_M_pass_128 rfl ?_
            rw [show nI o * 6 = nI (o * 6) by simp only [nI6, nI_mulN]]
            refine mr_call (yrunV (X := yNX) (k := 200) (As := [yr 217, yi (nI (o * 6)), yr 216, yi (nI o), yi (nI u)]) (rest := []) d_M_pass_130 (c_M_remove_row (i := q) (n := (zrw σ 0 o).length - 1) hS ho (by omega) (by omega) (by rw [mGrant_keep (by unfold mGf; decide), hsz]; congr 1; omega) (by rw [mGrant_keep (by unfold mGf; decide)]; exact hLq) (fun j hj => by rw [mGrant_keep (by unfold mGf; decide), hL j (by omega)]; exact fun z => hne j hj (by omega) z)) hS.1 rfl (show yck (yMm m_M_pass) m_M_remove 5 = true by decide +kernel) cw_M_remove (by decide +kernel) (by decide +kernel) (by decide +kernel) (by decide +kernel) (Nat.le_of_ble_eq_true rfl) (ycat_of rfl) (by decide) (by decide)) (fun r M9 hp => ?_)
            obtain ⟨rfl, rfl⟩ := hp
            refine yr_aload_n d_M_pass_133 rfl ?_
            refine yr_aload_n d_M_pass_134 rfl ?_
            refine yr_iload d_M_pass_135 rfl ?_
            refine yr_aload_n d_M_pass_137 rfl ?_
            refine mr_arr (a := 10) (K := 211) hS d_M_pass_138 sf_M_pass_138 rfl (by decide) rfl ?_
            refine yr_iload d_M_pass_141 rfl ?_
            refine mr_ldz (a := 10) (K := 211) (n := 6) (j := u) hS d_M_pass_143 (by decide) rfl rfl rfl (by simp only [nI0, nI1, nI2, nI3, nI4, nI6, nI_mulN, nI_add]) (by omega) ?_
            rw [k211]
            refine yr_if_eq (tgt := 157) d_M_pass_144 (by decide) (fun c144 => ?_) (fun c144 => ?_)
            · skip
              refine yr_iconst (v := 0) d_M_pass_157 (by decide) ?_
              first
              | rw [show M 209 u = nI h by rw [← hthen, if_neg c144]]
              | rw [show (0 : Int32) = nI h by rw [← hthen, if_pos c144]]
              refine mr_call (yrunV (X := yNX) (k := 200) (As := [yi (nI u), yi (nI h)]) (rest := [yr 200]) d_M_pass_158 (c_M_end (h := h) hS hu6 hh5) hS.1 rfl (show yck (yMm m_M_pass) m_M_end 2 = true by decide +kernel) cw_M_end (by decide +kernel) (by decide +kernel) (by decide +kernel) (by decide +kernel) (Nat.le_of_ble_eq_true rfl) (ycat_of rfl) (by decide) (by decide)) (fun r M9 hp => ?_)
              obtain ⟨rfl, rfl⟩ := hp
              refine mr_puti (f := 25) hS d_M_pass_161 sf_M_pass_161 rfl rfl ⟨rfl, rfl⟩ ?_
              refine yr_iinc (v := nI q + -1) d_M_pass_164 rfl rfl (by decide) rfl ?_
              refine yr_iconst (v := 1) d_M_pass_167 (by decide) ?_
              refine yr_istore_n d_M_pass_168 (by decide) rfl ?_
              refine yr_goto (tgt := 185) d_M_pass_169 (by decide) ?_
              refine yr_iinc (v := nI q) d_M_pass_185 rfl (nI_back q) (by decide) rfl ?_
              refine yr_goto (tgt := 16) d_M_pass_188 (by decide) ?_
              refine ih q true false true x (zgr σ o u) _ _ _ _ hstep hlen2 (by rw [zgr_n.2]; exact hfl) (fun σ' M' b P' O' q' y6 y7 y8 a1 a2 a3 a4 => hk σ' M' b P' O' q' y6 y7 y8 a1 (by rw [zgo_grant hu hand hc]; exact a2) ?_ (by rw [zgo_grant hu hand hc]; exact a4))
              rw [a3, zgo_grant hu hand hc, Bool.true_or, decide_eq_true (Nat.lt_of_le_of_lt (zgo_le m x q _) (by omega)), Bool.or_true]
            · skip
              refine yr_aload_n d_M_pass_147 rfl ?_
              refine mr_arr (a := 8) (K := 209) hS d_M_pass_148 sf_M_pass_148 rfl (by decide) rfl ?_
              refine yr_iload d_M_pass_151 rfl ?_
              refine mr_ld (a := 8) (K := 209) (n := 6) (j := u) hS d_M_pass_153 (by decide) rfl rfl rfl (by simp only [nI0, nI1, nI2, nI3, nI4, nI6, nI_mulN, nI_add]) (by omega) ?_
              rw [k209]
              refine yr_goto (tgt := 158) d_M_pass_154 (by decide) ?_
              first
              | rw [show M 209 u = nI h by rw [← hthen, if_neg c144]]
              | rw [show (0 : Int32) = nI h by rw [← hthen, if_pos c144]]
              refine mr_call (yrunV (X := yNX) (k := 200) (As := [yi (nI u), yi (nI h)]) (rest := [yr 200]) d_M_pass_158 (c_M_end (h := h) hS hu6 hh5) hS.1 rfl (show yck (yMm m_M_pass) m_M_end 2 = true by decide +kernel) cw_M_end (by decide +kernel) (by decide +kernel) (by decide +kernel) (by decide +kernel) (Nat.le_of_ble_eq_true rfl) (ycat_of rfl) (by decide) (by decide)) (fun r M9 hp => ?_)
              obtain ⟨rfl, rfl⟩ := hp
              refine mr_puti (f := 25) hS d_M_pass_161 sf_M_pass_161 rfl rfl ⟨rfl, rfl⟩ ?_
              refine yr_iinc (v := nI q + -1) d_M_pass_164 rfl rfl (by decide) rfl ?_
              refine yr_iconst (v := 1) d_M_pass_167 (by decide) ?_
              refine yr_istore_n d_M_pass_168 (by decide) rfl ?_
              refine yr_goto (tgt := 185) d_M_pass_169 (by decide) ?_
              refine yr_iinc (v := nI q) d_M_pass_185 rfl (nI_back q) (by decide) rfl ?_
              refine yr_goto (tgt := 16) d_M_pass_188 (by decide) ?_
              refine ih q true false true x (zgr σ o u) _ _ _ _ hstep hlen2 (by rw [zgr_n.2]; exact hfl) (fun σ' M' b P' O' q' y6 y7 y8 a1 a2 a3 a4 => hk σ' M' b P' O' q' y6 y7 y8 a1 (by rw [zgo_grant hu hand hc]; exact a2) ?_ (by rw [zgo_grant hu hand hc]; exact a4))
              rw [a3, zgo_grant hu hand hc, Bool.true_or, decide_eq_true (Nat.lt_of_le_of_lt (zgo_le m x q _) (by omega)), Bool.or_true]
          | true =>
            have hb1 : zbit σ o u = 1 := by rw [hbit, if_neg (fun z => z.2 hput)]
            have hf2 : mFl 5 x true true := by have := hfl; rw [hp5 hput] at this; exact this
            have hfn := mFl_put hf2
            have hand : (x &&& zbit σ o u) = 0 := by rw [hb1]; exact hfn.1.mpr rfl
            obtain ⟨n, h, hgok, hh5, hthen, hstep⟩ := hgr hc
            have hstep := hstep q hu
            have hne : ∀ j, j < q → (hj : j < (zrw σ 0 o).length) → ¬ nI (zrw σ 0 o)[j] = nI u := by
              intro j hjq hj z
              have h9 : (zrw σ 0 o)[j] < 6 := hall _ (List.getElem_mem hj)
              rw [nI_eq (by omega) (by omega), ← huq] at z
              exact absurd ((List.getElem_inj hnd).mp z) (by omega)
            have k211 : (mRem (mGrant M u o (M 206 u) n) 217 (o * 6) 216 o q ((zrw σ 0 o).length - 1)) 211 u = M 211 u := (mRem_keep (by decide) (by decide)).trans (mGrant_keep (by unfold mGf; decide))
            have k209 : (mRem (mGrant M u o (M 206 u) n) 217 (o * 6) 216 o q ((zrw σ 0 o).length - 1)) 209 u = M 209 u := (mRem_keep (by decide) (by decide)).trans (mGrant_keep (by unfold mGf; decide))
            have hlen2 : (zrw (zgr σ o u) 0 o).length = q + m := by
              have h8 := hR _ _ hstep
              have h9 := h8.2.2.2.1
              unfold mStep at h9
              rw [mEndL_keep mFree216, mRem_sz (by decide), nI_eq (by omega) (by have := h8.1; omega)] at h9
              omega
            refine yr_iload d_M_pass_16 rfl ?_
            refine yr_aload_n d_M_pass_18 rfl ?_
            refine mr_arr (a := 15) (K := 216) hS d_M_pass_19 sf_M_pass_19 rfl (by decide) rfl ?_
            refine yr_iload_n d_M_pass_22 rfl ?_
            refine mr_ld (a := 15) (K := 216) (n := 6) (j := o) hS d_M_pass_23 (by decide) rfl rfl rfl (by simp only [nI0, nI1, nI2, nI3, nI4, nI6, nI_mulN, nI_add]) (by omega) ?_
            rw [hsz]
            refine yr_icmp_ge (tgt := 191) d_M_pass_24 (by decide) (fun c24 => absurd c24 (nI_ge (by omega) (by omega))) (fun c24 => ?_)
            refine yr_iload_n d_M_pass_27 rfl ?_
            refine yr_if_ne (tgt := 36) d_M_pass_28 (by decide) (fun c28 => ?_) (fun c28 => absurd c28 (by decide))
            refine yr_aload_n d_M_pass_36 rfl ?_
            refine mr_arr (a := 16) (K := 217) hS d_M_pass_37 sf_M_pass_37 rfl (by decide) rfl ?_
            refine yr_iload_n d_M_pass_40 rfl ?_
            refine yr_bipush (v := 6) d_M_pass_41 (by decide) ?_
            refine yr_imul d_M_pass_43 ?_
            refine yr_iload d_M_pass_44 rfl ?_
            refine yr_iadd d_M_pass_46 ?_
            refine mr_ld (a := 16) (K := 217) (n := 36) (j := ((o * 6) + q)) hS d_M_pass_47 (by decide) rfl rfl rfl (by simp only [nI0, nI1, nI2, nI3, nI4, nI6, nI_mulN, nI_add]) (by omega) ?_
            rw [hLq]
            refine yr_istore d_M_pass_48 (by decide) rfl ?_
            refine yr_aload_n d_M_pass_50 rfl ?_
            refine mr_arr (a := 5) (K := 206) hS d_M_pass_51 sf_M_pass_51 rfl (by decide) rfl ?_
            refine yr_iload d_M_pass_54 rfl ?_
            refine mr_ld (a := 5) (K := 206) (n := 6) (j := u) hS d_M_pass_56 (by decide) rfl rfl rfl (by simp only [nI0, nI1, nI2, nI3, nI4, nI6, nI_mulN, nI_add]) (by omega) ?_
            refine yr_istore d_M_pass_57 (by decide) rfl ?_
            refine yr_iload d_M_pass_59 rfl ?_
            refine yr_bipush (v := 15) d_M_pass_61 (by decide) ?_
            refine yr_icmp_ne (tgt := 70) d_M_pass_63 (by decide) (fun c63 => absurd hput c63) (fun c63 => ?_)
            refine yr_iconst (v := 1) d_M_pass_66 (by decide) ?_
            refine yr_goto (tgt := 71) d_M_pass_67 (by decide) ?_
            refine yr_istore d_M_pass_71 (by decide) rfl ?_
            refine yr_iload d_M_pass_73 rfl ?_
            refine yr_if_eq (tgt := 85) d_M_pass_75 (by decide) (fun c75 => absurd c75 (by decide)) (fun c75 => ?_)
            refine yr_iload_n d_M_pass_78 rfl ?_
            refine yr_if_ne (tgt := 93) d_M_pass_79 (by decide) (fun c79 => ?_) (fun c79 => absurd c79 (by decide))
            refine yr_aload_n d_M_pass_93 rfl ?_
            refine yr_iload d_M_pass_94 rfl ?_
            refine yr_iload_n d_M_pass_96 rfl ?_
            refine yr_iload d_M_pass_97 rfl ?_
            refine mr_call (yrunV (X := yNX) (k := 200) (As := [yi (nI u), yi (nI o), yi (M 206 u)]) (rest := []) d_M_pass_99 (c_M_can hS hu6 ho) hS.1 rfl (show yck (yMm m_M_pass) m_M_can 3 = true by decide +kernel) cw_M_can (by decide +kernel) (by decide +kernel) (by decide +kernel) (by decide +kernel) (Nat.le_of_ble_eq_true rfl) (ycat_of rfl) (by decide) (by decide)) (fun r M9 hp => ?_)
            obtain ⟨rfl, hM9⟩ := hp
            rw [hM9]
            refine yr_if_eq (tgt := 172) d_M_pass_102 (by decide) (fun c102 => absurd c102 (by rw [hcan, hc]; decide)) (fun c102 => ?_)
            refine yr_aload_n d_M_pass_105 rfl ?_
            refine yr_iload d_M_pass_106 rfl ?_
            refine yr_iload_n d_M_pass_108 rfl ?_
            refine yr_iload d_M_pass_109 rfl ?_
            refine mr_call (yrunV (X := yNX) (k := 200) (As := [yi (nI u), yi (nI o), yi (M 206 u)]) (rest := []) d_M_pass_111 (c_M_grant hS hu6 ho hgok) hS.1 rfl (show yck (yMm m_M_pass) m_M_grant 3 = true by decide +kernel) cw_M_grant (by decide +kernel) (by decide +kernel) (by decide +kernel) (by decide +kernel) (Nat.le_of_ble_eq_true rfl) (ycat_of rfl) (by decide) (by decide)) (fun r M9 hp => ?_)
            obtain ⟨rfl, rfl⟩ := hp
            refine yr_aload_n d_M_pass_114 rfl ?_
            refine yr_aload_n d_M_pass_115 rfl ?_
            refine mr_arr (a := 16) (K := 217) hS d_M_pass_116 sf_M_pass_116 rfl (by decide) rfl ?_
            refine yr_iload_n d_M_pass_119 rfl ?_
            refine yr_bipush (v := 6) d_M_pass_120 (by decide) ?_
            refine yr_imul d_M_pass_122 ?_
            refine yr_aload_n d_M_pass_123 rfl ?_
            refine mr_arr (a := 15) (K := 216) hS d_M_pass_124 sf_M_pass_124 rfl (by decide) rfl ?_
            refine yr_iload_n d_M_pass_127 rfl ?_
            refine yr_iload d_M_pass_128 rfl ?_
            rw [show nI o * 6 = nI (o * 6) by simp only [nI6, nI_mulN]]
            refine mr_call (yrunV (X := yNX) (k := 200) (As := [yr 217, yi (nI (o * 6)), yr 216, yi (nI o), yi (nI u)]) (rest := []) d_M_pass_130 (c_M_remove_row (i := q) (n := (zrw σ 0 o).length - 1) hS ho (by omega) (by omega) (by rw [mGrant_keep (by unfold mGf; decide), hsz]; congr 1; omega) (by rw [mGrant_keep (by unfold mGf; decide)]; exact hLq) (fun j hj => by rw [mGrant_keep (by unfold mGf; decide), hL j (by omega)]; exact fun z => hne j hj (by omega) z)) hS.1 rfl (show yck (yMm m_M_pass) m_M_remove 5 = true by decide +kernel) cw_M_remove (by decide +kernel) (by decide +kernel) (by decide +kernel) (by decide +kernel) (Nat.le_of_ble_eq_true rfl) (ycat_of rfl) (by decide) (by decide)) (fun r M9 hp => ?_)
            obtain ⟨rfl, rfl⟩ := hp
            refine yr_aload_n d_M_pass_133 rfl ?_
            refine yr_aload_n d_M_pass_134 rfl ?_
            refine yr_iload d_M_pass_135 rfl ?_
            refine yr_aload_n d_M_pass_137 rfl ?_
            refine mr_arr (a := 10) (K := 211) hS d_M_pass_138 sf_M_pass_138 rfl (by decide) rfl ?_
            refine yr_iload d_M_pass_141 rfl ?_
            refine mr_ldz (a := 10) (K := 211) (n := 6) (j := u) hS d_M_pass_143 (by decide) rfl rfl rfl (by simp only [nI0, nI1, nI2, nI3, nI4, nI6, nI_mulN, nI_add]) (by omega) ?_
            rw [k211]
            refine yr_if_eq (tgt := 157) d_M_pass_144 (by decide) (fun c144 => ?_) (fun c144 => ?_)
            · skip
              refine yr_iconst (v := 0) d_M_pass_157 (by decide) ?_
              first
              | rw [show M 209 u = nI h by rw [← hthen, if_neg c144]]
              | rw [show (0 : Int32) = nI h by rw [← hthen, if_pos c144]]
              refine mr_call (yrunV (X := yNX) (k := 200) (As := [yi (nI u), yi (nI h)]) (rest := [yr 200]) d_M_pass_158 (c_M_end (h := h) hS hu6 hh5) hS.1 rfl (show yck (yMm m_M_pass) m_M_end 2 = true by decide +kernel) cw_M_end (by decide +kernel) (by decide +kernel) (by decide +kernel) (by decide +kernel) (Nat.le_of_ble_eq_true rfl) (ycat_of rfl) (by decide) (by decide)) (fun r M9 hp => ?_)
              obtain ⟨rfl, rfl⟩ := hp
              refine mr_puti (f := 25) hS d_M_pass_161 sf_M_pass_161 rfl rfl ⟨rfl, rfl⟩ ?_
              refine yr_iinc (v := nI q + -1) d_M_pass_164 rfl rfl (by decide) rfl ?_
              refine yr_iconst (v := 1) d_M_pass_167 (by decide) ?_
              refine yr_istore_n d_M_pass_168 (by decide) rfl ?_
              refine yr_goto (tgt := 185) d_M_pass_169 (by decide) ?_
              refine yr_iinc (v := nI q) d_M_pass_185 rfl (nI_back q) (by decide) rfl ?_
              refine yr_goto (tgt := 16) d_M_pass_188 (by decide) ?_
              refine ih q true true true x (zgr σ o u) _ _ _ _ hstep hlen2 (by rw [zgr_n.2]; exact hfl) (fun σ' M' b P' O' q' y6 y7 y8 a1 a2 a3 a4 => hk σ' M' b P' O' q' y6 y7 y8 a1 (by rw [zgo_grant hu hand hc]; exact a2) ?_ (by rw [zgo_grant hu hand hc]; exact a4))
              rw [a3, zgo_grant hu hand hc, Bool.true_or, decide_eq_true (Nat.lt_of_le_of_lt (zgo_le m x q _) (by omega)), Bool.or_true]
            · skip
              refine yr_aload_n d_M_pass_147 rfl ?_
              refine mr_arr (a := 8) (K := 209) hS d_M_pass_148 sf_M_pass_148 rfl (by decide) rfl ?_
              refine yr_iload d_M_pass_151 rfl ?_
              refine mr_ld (a := 8) (K := 209) (n := 6) (j := u) hS d_M_pass_153 (by decide) rfl rfl rfl (by simp only [nI0, nI1, nI2, nI3, nI4, nI6, nI_mulN, nI_add]) (by omega) ?_
              rw [k209]
              refine yr_goto (tgt := 158) d_M_pass_154 (by decide) ?_
              first
              | rw [show M 209 u = nI h by rw [← hthen, if_neg c144]]
              | rw [show (0 : Int32) = nI h by rw [← hthen, if_pos c144]]
              refine mr_call (yrunV (X := yNX) (k := 200) (As := [yi (nI u), yi (nI h)]) (rest := [yr 200]) d_M_pass_158 (c_M_end (h := h) hS hu6 hh5) hS.1 rfl (show yck (yMm m_M_pass) m_M_end 2 = true by decide +kernel) cw_M_end (by decide +kernel) (by decide +kernel) (by decide +kernel) (by decide +kernel) (Nat.le_of_ble_eq_true rfl) (ycat_of rfl) (by decide) (by decide)) (fun r M9 hp => ?_)
              obtain ⟨rfl, rfl⟩ := hp
              refine mr_puti (f := 25) hS d_M_pass_161 sf_M_pass_161 rfl rfl ⟨rfl, rfl⟩ ?_
              refine yr_iinc (v := nI q + -1) d_M_pass_164 rfl rfl (by decide) rfl ?_
              refine yr_iconst (v := 1) d_M_pass_167 (by decide) ?_
              refine yr_istore_n d_M_pass_168 (by decide) rfl ?_
              refine yr_goto (tgt := 185) d_M_pass_169 (by decide) ?_
              refine yr_iinc (v := nI q) d_M_pass_185 rfl (nI_back q) (by decide) rfl ?_
              refine yr_goto (tgt := 16) d_M_pass_188 (by decide) ?_
              refine ih q true true true x (zgr σ o u) _ _ _ _ hstep hlen2 (by rw [zgr_n.2]; exact hfl) (fun σ' M' b P' O' q' y6 y7 y8 a1 a2 a3 a4 => hk σ' M' b P' O' q' y6 y7 y8 a1 (by rw [zgo_grant hu hand hc]; exact a2) ?_ (by rw [zgo_grant hu hand hc]; exact a4))
              rw [a3, zgo_grant hu hand hc, Bool.true_or, decide_eq_true (Nat.lt_of_le_of_lt (zgo_le m x q _) (by omega)), Bool.or_true]
      · cases O with
        | false =>
          have hb1 : zbit σ o u = (if zkd σ o = 5 then 2 else 1) := by
            rw [hbit]
            by_cases e : zkd σ o = 5
            · rw [if_pos ⟨e, hput⟩, if_pos e]
            · rw [if_neg (fun z => e z.1), if_neg e]
          have hfn := mFl_other hfl
          have hnot : ¬ ((x &&& zbit σ o u) = 0 ∧ zcan σ o u = true) := fun z => by
            have := hfn.1.mp (by rw [← hb1]; exact z.1)
            cases this
          refine yr_iload d_M_pass_16 rfl ?_
          refine yr_aload_n d_M_pass_18 rfl ?_
          refine mr_arr (a := 15) (K := 216) hS d_M_pass_19 sf_M_pass_19 rfl (by decide) rfl ?_
          refine yr_iload_n d_M_pass_22 rfl ?_
          refine mr_ld (a := 15) (K := 216) (n := 6) (j := o) hS d_M_pass_23 (by decide) rfl rfl rfl (by simp only [nI0, nI1, nI2, nI3, nI4, nI6, nI_mulN, nI_add]) (by omega) ?_
          rw [hsz]
          refine yr_icmp_ge (tgt := 191) d_M_pass_24 (by decide) (fun c24 => absurd c24 (nI_ge (by omega) (by omega))) (fun c24 => ?_)
          refine yr_iload_n d_M_pass_27 rfl ?_
          refine yr_if_ne (tgt := 36) d_M_pass_28 (by decide) (fun c28 => ?_) (fun c28 => absurd c28 (by decide))
          refine yr_aload_n d_M_pass_36 rfl ?_
          refine mr_arr (a := 16) (K := 217) hS d_M_pass_37 sf_M_pass_37 rfl (by decide) rfl ?_
          refine yr_iload_n d_M_pass_40 rfl ?_
          refine yr_bipush (v := 6) d_M_pass_41 (by decide) ?_
          refine yr_imul d_M_pass_43 ?_
          refine yr_iload d_M_pass_44 rfl ?_
          refine yr_iadd d_M_pass_46 ?_
          refine mr_ld (a := 16) (K := 217) (n := 36) (j := ((o * 6) + q)) hS d_M_pass_47 (by decide) rfl rfl rfl (by simp only [nI0, nI1, nI2, nI3, nI4, nI6, nI_mulN, nI_add]) (by omega) ?_
          rw [hLq]
          refine yr_istore d_M_pass_48 (by decide) rfl ?_
          refine yr_aload_n d_M_pass_50 rfl ?_
          refine mr_arr (a := 5) (K := 206) hS d_M_pass_51 sf_M_pass_51 rfl (by decide) rfl ?_
          refine yr_iload d_M_pass_54 rfl ?_
          refine mr_ld (a := 5) (K := 206) (n := 6) (j := u) hS d_M_pass_56 (by decide) rfl rfl rfl (by simp only [nI0, nI1, nI2, nI3, nI4, nI6, nI_mulN, nI_add]) (by omega) ?_
          refine yr_istore d_M_pass_57 (by decide) rfl ?_
          refine yr_iload d_M_pass_59 rfl ?_
          refine yr_bipush (v := 15) d_M_pass_61 (by decide) ?_
          refine yr_icmp_ne (tgt := 70) d_M_pass_63 (by decide) (fun c63 => ?_) (fun c63 => absurd c63 hput)
          refine yr_iconst (v := 0) d_M_pass_70 (by decide) ?_
          refine yr_istore d_M_pass_71 (by decide) rfl ?_
          refine yr_iload d_M_pass_73 rfl ?_
          refine yr_if_eq (tgt := 85) d_M_pass_75 (by decide) (fun c75 => ?_) (fun c75 => absurd rfl c75)
          refine yr_iload d_M_pass_85 rfl ?_
          refine yr_if_ne (tgt := 93) d_M_pass_87 (by decide) (fun c87 => absurd (show zb false = 0 from rfl) c87) (fun c87 => ?_)
          refine yr_goto (tgt := 185) d_M_pass_90 (by decide) ?_
          refine yr_iinc (v := nI (q + 1)) d_M_pass_185 rfl (nI_1 (q)) (by decide) rfl ?_
          refine yr_goto (tgt := 16) d_M_pass_188 (by decide) ?_
          refine ih (q + 1) true false gr (x ||| zbit σ o u) σ M _ _ _ hRM (by omega) (by rw [hb1]; exact hfn.2) (fun σ' M' b P' O' q' y6 y7 y8 a1 a2 a3 a4 => hk σ' M' b P' O' q' y6 y7 y8 a1 (by rw [zgo_ref hu hnot]; exact a2) (by rw [zgo_ref hu hnot, show q + (m + 1) = q + 1 + m by omega]; exact a3) (by rw [zgo_ref hu hnot]; exact a4))
        | true =>
          cases hc : zcan σ o u with
          | false =>
            have hb1 : zbit σ o u = (if zkd σ o = 5 then 2 else 1) := by
              rw [hbit]
              by_cases e : zkd σ o = 5
              · rw [if_pos ⟨e, hput⟩, if_pos e]
              · rw [if_neg (fun z => e z.1), if_neg e]
            have hfn := mFl_other hfl
            have hnot : ¬ ((x &&& zbit σ o u) = 0 ∧ zcan σ o u = true) := fun z => by rw [hc] at z; cases z.2
            refine yr_iload d_M_pass_16 rfl ?_
            refine yr_aload_n d_M_pass_18 rfl ?_
            refine mr_arr (a := 15) (K := 216) hS d_M_pass_19 sf_M_pass_19 rfl (by decide) rfl ?_
            refine yr_iload_n d_M_pass_22 rfl ?_
            refine mr_ld (a := 15) (K := 216) (n := 6) (j := o) hS d_M_pass_23 (by decide) rfl rfl rfl (by simp only [nI0, nI1, nI2, nI3, nI4, nI6, nI_mulN, nI_add]) (by omega) ?_
            rw [hsz]
            refine yr_icmp_ge (tgt := 191) d_M_pass_24 (by decide) (fun c24 => absurd c24 (nI_ge (by omega) (by omega))) (fun c24 => ?_)
            refine yr_iload_n d_M_pass_27 rfl ?_
            refine yr_if_ne (tgt := 36) d_M_pass_28 (by decide) (fun c28 => ?_) (fun c28 => absurd c28 (by decide))
            refine yr_aload_n d_M_pass_36 rfl ?_
            refine mr_arr (a := 16) (K := 217) hS d_M_pass_37 sf_M_pass_37 rfl (by decide) rfl ?_
            refine yr_iload_n d_M_pass_40 rfl ?_
            refine yr_bipush (v := 6) d_M_pass_41 (by decide) ?_
            refine yr_imul d_M_pass_43 ?_
            refine yr_iload d_M_pass_44 rfl ?_
            refine yr_iadd d_M_pass_46 ?_
            refine mr_ld (a := 16) (K := 217) (n := 36) (j := ((o * 6) + q)) hS d_M_pass_47 (by decide) rfl rfl rfl (by simp only [nI0, nI1, nI2, nI3, nI4, nI6, nI_mulN, nI_add]) (by omega) ?_
            rw [hLq]
            refine yr_istore d_M_pass_48 (by decide) rfl ?_
            refine yr_aload_n d_M_pass_50 rfl ?_
            refine mr_arr (a := 5) (K := 206) hS d_M_pass_51 sf_M_pass_51 rfl (by decide) rfl ?_
            refine yr_iload d_M_pass_54 rfl ?_
            refine mr_ld (a := 5) (K := 206) (n := 6) (j := u) hS d_M_pass_56 (by decide) rfl rfl rfl (by simp only [nI0, nI1, nI2, nI3, nI4, nI6, nI_mulN, nI_add]) (by omega) ?_
            refine yr_istore d_M_pass_57 (by decide) rfl ?_
            refine yr_iload d_M_pass_59 rfl ?_
            refine yr_bipush (v := 15) d_M_pass_61 (by decide) ?_
            refine yr_icmp_ne (tgt := 70) d_M_pass_63 (by decide) (fun c63 => ?_) (fun c63 => absurd c63 hput)
            refine yr_iconst (v := 0) d_M_pass_70 (by decide) ?_
            refine yr_istore d_M_pass_71 (by decide) rfl ?_
            refine yr_iload d_M_pass_73 rfl ?_
            refine yr_if_eq (tgt := 85) d_M_pass_75 (by decide) (fun c75 => ?_) (fun c75 => absurd rfl c75)
            refine yr_iload d_M_pass_85 rfl ?_
            refine yr_if_ne (tgt := 93) d_M_pass_87 (by decide) (fun c87 => ?_) (fun c87 => absurd c87 (by decide))
            refine yr_aload_n d_M_pass_93 rfl ?_
            refine yr_iload d_M_pass_94 rfl ?_
            refine yr_iload_n d_M_pass_96 rfl ?_
            refine yr_iload d_M_pass_97 rfl ?_
            refine mr_call (yrunV (X := yNX) (k := 200) (As := [yi (nI u), yi (nI o), yi (M 206 u)]) (rest := []) d_M_pass_99 (c_M_can hS hu6 ho) hS.1 rfl (show yck (yMm m_M_pass) m_M_can 3 = true by decide +kernel) cw_M_can (by decide +kernel) (by decide +kernel) (by decide +kernel) (by decide +kernel) (Nat.le_of_ble_eq_true rfl) (ycat_of rfl) (by decide) (by decide)) (fun r M9 hp => ?_)
            obtain ⟨rfl, hM9⟩ := hp
            rw [hM9]
            refine yr_if_eq (tgt := 172) d_M_pass_102 (by decide) (fun c102 => ?_) (fun c102 => absurd (by rw [hcan, hc]; rfl) c102)
            refine yr_iload d_M_pass_172 rfl ?_
            refine yr_if_eq (tgt := 182) d_M_pass_174 (by decide) (fun c174 => ?_) (fun c174 => absurd rfl c174)
            refine yr_iconst (v := 0) d_M_pass_182 (by decide) ?_
            refine yr_istore d_M_pass_183 (by decide) rfl ?_
            refine yr_iinc (v := nI (q + 1)) d_M_pass_185 rfl (nI_1 (q)) (by decide) rfl ?_
            refine yr_goto (tgt := 16) d_M_pass_188 (by decide) ?_
            refine ih (q + 1) true false gr (x ||| zbit σ o u) σ M _ _ _ hRM (by omega) (by rw [hb1]; exact hfn.2) (fun σ' M' b P' O' q' y6 y7 y8 a1 a2 a3 a4 => hk σ' M' b P' O' q' y6 y7 y8 a1 (by rw [zgo_ref hu hnot]; exact a2) (by rw [zgo_ref hu hnot, show q + (m + 1) = q + 1 + m by omega]; exact a3) (by rw [zgo_ref hu hnot]; exact a4))
          | true =>
            have hb1 : zbit σ o u = (if zkd σ o = 5 then 2 else 1) := by
              rw [hbit]
              by_cases e : zkd σ o = 5
              · rw [if_pos ⟨e, hput⟩, if_pos e]
              · rw [if_neg (fun z => e z.1), if_neg e]
            have hfn := mFl_other hfl
            have hand : (x &&& zbit σ o u) = 0 := by rw [hb1]; exact hfn.1.mpr rfl
            obtain ⟨n, h, hgok, hh5, hthen, hstep⟩ := hgr hc
            have hstep := hstep q hu
            have hne : ∀ j, j < q → (hj : j < (zrw σ 0 o).length) → ¬ nI (zrw σ 0 o)[j] = nI u := by
              intro j hjq hj z
              have h9 : (zrw σ 0 o)[j] < 6 := hall _ (List.getElem_mem hj)
              rw [nI_eq (by omega) (by omega), ← huq] at z
              exact absurd ((List.getElem_inj hnd).mp z) (by omega)
            have k211 : (mRem (mGrant M u o (M 206 u) n) 217 (o * 6) 216 o q ((zrw σ 0 o).length - 1)) 211 u = M 211 u := (mRem_keep (by decide) (by decide)).trans (mGrant_keep (by unfold mGf; decide))
            have k209 : (mRem (mGrant M u o (M 206 u) n) 217 (o * 6) 216 o q ((zrw σ 0 o).length - 1)) 209 u = M 209 u := (mRem_keep (by decide) (by decide)).trans (mGrant_keep (by unfold mGf; decide))
            have hlen2 : (zrw (zgr σ o u) 0 o).length = q + m := by
              have h8 := hR _ _ hstep
              have h9 := h8.2.2.2.1
              unfold mStep at h9
              rw [mEndL_keep mFree216, mRem_sz (by decide), nI_eq (by omega) (by have := h8.1; omega)] at h9
              omega
            refine yr_iload d_M_pass_16 rfl ?_
            refine yr_aload_n d_M_pass_18 rfl ?_
            refine mr_arr (a := 15) (K := 216) hS d_M_pass_19 sf_M_pass_19 rfl (by decide) rfl ?_
            refine yr_iload_n d_M_pass_22 rfl ?_
            refine mr_ld (a := 15) (K := 216) (n := 6) (j := o) hS d_M_pass_23 (by decide) rfl rfl rfl (by simp only [nI0, nI1, nI2, nI3, nI4, nI6, nI_mulN, nI_add]) (by omega) ?_
            rw [hsz]
            refine yr_icmp_ge (tgt := 191) d_M_pass_24 (by decide) (fun c24 => absurd c24 (nI_ge (by omega) (by omega))) (fun c24 => ?_)
            refine yr_iload_n d_M_pass_27 rfl ?_
            refine yr_if_ne (tgt := 36) d_M_pass_28 (by decide) (fun c28 => ?_) (fun c28 => absurd c28 (by decide))
            refine yr_aload_n d_M_pass_36 rfl ?_
            refine mr_arr (a := 16) (K := 217) hS d_M_pass_37 sf_M_pass_37 rfl (by decide) rfl ?_
            refine yr_iload_n d_M_pass_40 rfl ?_
            refine yr_bipush (v := 6) d_M_pass_41 (by decide) ?_
            refine yr_imul d_M_pass_43 ?_
            refine yr_iload d_M_pass_44 rfl ?_
            refine yr_iadd d_M_pass_46 ?_
            refine mr_ld (a := 16) (K := 217) (n := 36) (j := ((o * 6) + q)) hS d_M_pass_47 (by decide) rfl rfl rfl (by simp only [nI0, nI1, nI2, nI3, nI4, nI6, nI_mulN, nI_add]) (by omega) ?_
            rw [hLq]
            refine yr_istore d_M_pass_48 (by decide) rfl ?_
            refine yr_aload_n d_M_pass_50 rfl ?_
            refine mr_arr (a := 5) (K := 206) hS d_M_pass_51 sf_M_pass_51 rfl (by decide) rfl ?_
            refine yr_iload d_M_pass_54 rfl ?_
            refine mr_ld (a := 5) (K := 206) (n := 6) (j := u) hS d_M_pass_56 (by decide) rfl rfl rfl (by simp only [nI0, nI1, nI2, nI3, nI4, nI6, nI_mulN, nI_add]) (by omega) ?_
            refine yr_istore d_M_pass_57 (by decide) rfl ?_
            refine yr_iload d_M_pass_59 rfl ?_
            refine yr_bipush (v := 15) d_M_pass_61 (by decide) ?_
            refine yr_icmp_ne (tgt := 70) d_M_pass_63 (by decide) (fun c63 => ?_) (fun c63 => absurd c63 hput)
            refine yr_iconst (v := 0) d_M_pass_70 (by decide) ?_
            refine yr_istore d_M_pass_71 (by decide) rfl ?_
            refine yr_iload d_M_pass_73 rfl ?_
            refine yr_if_eq (tgt := 85) d_M_pass_75 (by decide) (fun c75 => ?_) (fun c75 => absurd rfl c75)
            refine yr_iload d_M_pass_85 rfl ?_
            refine yr_if_ne (tgt := 93) d_M_pass_87 (by decide) (fun c87 => ?_) (fun c87 => absurd c87 (by decide))
            refine yr_aload_n d_M_pass_93 rfl ?_
            refine yr_iload d_M_pass_94 rfl ?_
            refine yr_iload_n d_M_pass_96 rfl ?_
            refine yr_iload d_M_pass_97 rfl ?_
            refine mr_call (yrunV (X := yNX) (k := 200) (As := [yi (nI u), yi (nI o), yi (M 206 u)]) (rest := []) d_M_pass_99 (c_M_can hS hu6 ho) hS.1 rfl (show yck (yMm m_M_pass) m_M_can 3 = true by decide +kernel) cw_M_can (by decide +kernel) (by decide +kernel) (by decide +kernel) (by decide +kernel) (Nat.le_of_ble_eq_true rfl) (ycat_of rfl) (by decide) (by decide)) (fun r M9 hp => ?_)
            obtain ⟨rfl, hM9⟩ := hp
            rw [hM9]
            refine yr_if_eq (tgt := 172) d_M_pass_102 (by decide) (fun c102 => absurd c102 (by rw [hcan, hc]; decide)) (fun c102 => ?_)
            refine yr_aload_n d_M_pass_105 rfl ?_
            refine yr_iload d_M_pass_106 rfl ?_
            refine yr_iload_n d_M_pass_108 rfl ?_
            refine yr_iload d_M_pass_109 rfl ?_
            refine mr_call (yrunV (X := yNX) (k := 200) (As := [yi (nI u), yi (nI o), yi (M 206 u)]) (rest := []) d_M_pass_111 (c_M_grant hS hu6 ho hgok) hS.1 rfl (show yck (yMm m_M_pass) m_M_grant 3 = true by decide +kernel) cw_M_grant (by decide +kernel) (by decide +kernel) (by decide +kernel) (by decide +kernel) (Nat.le_of_ble_eq_true rfl) (ycat_of rfl) (by decide) (by decide)) (fun r M9 hp => ?_)
            obtain ⟨rfl, rfl⟩ := hp
            refine yr_aload_n d_M_pass_114 rfl ?_
            refine yr_aload_n d_M_pass_115 rfl ?_
            refine mr_arr (a := 16) (K := 217) hS d_M_pass_116 sf_M_pass_116 rfl (by decide) rfl ?_
            refine yr_iload_n d_M_pass_119 rfl ?_
            refine yr_bipush (v := 6) d_M_pass_120 (by decide) ?_
            refine yr_imul d_M_pass_122 ?_
            refine yr_aload_n d_M_pass_123 rfl ?_
            refine mr_arr (a := 15) (K := 216) hS d_M_pass_124 sf_M_pass_124 rfl (by decide) rfl ?_
            refine yr_iload_n d_M_pass_127 rfl ?_
            refine yr_iload d_M_pass_128 rfl ?_
            rw [show nI o * 6 = nI (o * 6) by simp only [nI6, nI_mulN]]
            refine mr_call (yrunV (X := yNX) (k := 200) (As := [yr 217, yi (nI (o * 6)), yr 216, yi (nI o), yi (nI u)]) (rest := []) d_M_pass_130 (c_M_remove_row (i := q) (n := (zrw σ 0 o).length - 1) hS ho (by omega) (by omega) (by rw [mGrant_keep (by unfold mGf; decide), hsz]; congr 1; omega) (by rw [mGrant_keep (by unfold mGf; decide)]; exact hLq) (fun j hj => by rw [mGrant_keep (by unfold mGf; decide), hL j (by omega)]; exact fun z => hne j hj (by omega) z)) hS.1 rfl (show yck (yMm m_M_pass) m_M_remove 5 = true by decide +kernel) cw_M_remove (by decide +kernel) (by decide +kernel) (by decide +kernel) (by decide +kernel) (Nat.le_of_ble_eq_true rfl) (ycat_of rfl) (by decide) (by decide)) (fun r M9 hp => ?_)
            obtain ⟨rfl, rfl⟩ := hp
            refine yr_aload_n d_M_pass_133 rfl ?_
            refine yr_aload_n d_M_pass_134 rfl ?_
            refine yr_iload d_M_pass_135 rfl ?_
            refine yr_aload_n d_M_pass_137 rfl ?_
            refine mr_arr (a := 10) (K := 211) hS d_M_pass_138 sf_M_pass_138 rfl (by decide) rfl ?_
            refine yr_iload d_M_pass_141 rfl ?_
            refine mr_ldz (a := 10) (K := 211) (n := 6) (j := u) hS d_M_pass_143 (by decide) rfl rfl rfl (by simp only [nI0, nI1, nI2, nI3, nI4, nI6, nI_mulN, nI_add]) (by omega) ?_
            rw [k211]
            refine yr_if_eq (tgt := 157) d_M_pass_144 (by decide) (fun c144 => ?_) (fun c144 => ?_)
            · skip
              refine yr_iconst (v := 0) d_M_pass_157 (by decide) ?_
              first
              | rw [show M 209 u = nI h by rw [← hthen, if_neg c144]]
              | rw [show (0 : Int32) = nI h by rw [← hthen, if_pos c144]]
              refine mr_call (yrunV (X := yNX) (k := 200) (As := [yi (nI u), yi (nI h)]) (rest := [yr 200]) d_M_pass_158 (c_M_end (h := h) hS hu6 hh5) hS.1 rfl (show yck (yMm m_M_pass) m_M_end 2 = true by decide +kernel) cw_M_end (by decide +kernel) (by decide +kernel) (by decide +kernel) (by decide +kernel) (Nat.le_of_ble_eq_true rfl) (ycat_of rfl) (by decide) (by decide)) (fun r M9 hp => ?_)
              obtain ⟨rfl, rfl⟩ := hp
              refine mr_puti (f := 25) hS d_M_pass_161 sf_M_pass_161 rfl rfl ⟨rfl, rfl⟩ ?_
              refine yr_iinc (v := nI q + -1) d_M_pass_164 rfl rfl (by decide) rfl ?_
              refine yr_iconst (v := 1) d_M_pass_167 (by decide) ?_
              refine yr_istore_n d_M_pass_168 (by decide) rfl ?_
              refine yr_goto (tgt := 185) d_M_pass_169 (by decide) ?_
              refine yr_iinc (v := nI q) d_M_pass_185 rfl (nI_back q) (by decide) rfl ?_
              refine yr_goto (tgt := 16) d_M_pass_188 (by decide) ?_
              refine ih q true true true x (zgr σ o u) _ _ _ _ hstep hlen2 (by rw [zgr_n.2]; exact hfl) (fun σ' M' b P' O' q' y6 y7 y8 a1 a2 a3 a4 => hk σ' M' b P' O' q' y6 y7 y8 a1 (by rw [zgo_grant hu hand hc]; exact a2) ?_ (by rw [zgo_grant hu hand hc]; exact a4))
              rw [a3, zgo_grant hu hand hc, Bool.true_or, decide_eq_true (Nat.lt_of_le_of_lt (zgo_le m x q _) (by omega)), Bool.or_true]
            · skip
              refine yr_aload_n d_M_pass_147 rfl ?_
              refine mr_arr (a := 8) (K := 209) hS d_M_pass_148 sf_M_pass_148 rfl (by decide) rfl ?_
              refine yr_iload d_M_pass_151 rfl ?_
              refine mr_ld (a := 8) (K := 209) (n := 6) (j := u) hS d_M_pass_153 (by decide) rfl rfl rfl (by simp only [nI0, nI1, nI2, nI3, nI4, nI6, nI_mulN, nI_add]) (by omega) ?_
              rw [k209]
              refine yr_goto (tgt := 158) d_M_pass_154 (by decide) ?_
              first
              | rw [show M 209 u = nI h by rw [← hthen, if_neg c144]]
              | rw [show (0 : Int32) = nI h by rw [← hthen, if_pos c144]]
              refine mr_call (yrunV (X := yNX) (k := 200) (As := [yi (nI u), yi (nI h)]) (rest := [yr 200]) d_M_pass_158 (c_M_end (h := h) hS hu6 hh5) hS.1 rfl (show yck (yMm m_M_pass) m_M_end 2 = true by decide +kernel) cw_M_end (by decide +kernel) (by decide +kernel) (by decide +kernel) (by decide +kernel) (Nat.le_of_ble_eq_true rfl) (ycat_of rfl) (by decide) (by decide)) (fun r M9 hp => ?_)
              obtain ⟨rfl, rfl⟩ := hp
              refine mr_puti (f := 25) hS d_M_pass_161 sf_M_pass_161 rfl rfl ⟨rfl, rfl⟩ ?_
              refine yr_iinc (v := nI q + -1) d_M_pass_164 rfl rfl (by decide) rfl ?_
              refine yr_iconst (v := 1) d_M_pass_167 (by decide) ?_
              refine yr_istore_n d_M_pass_168 (by decide) rfl ?_
              refine yr_goto (tgt := 185) d_M_pass_169 (by decide) ?_
              refine yr_iinc (v := nI q) d_M_pass_185 rfl (nI_back q) (by decide) rfl ?_
              refine yr_goto (tgt := 16) d_M_pass_188 (by decide) ?_
              refine ih q true true true x (zgr σ o u) _ _ _ _ hstep hlen2 (by rw [zgr_n.2]; exact hfl) (fun σ' M' b P' O' q' y6 y7 y8 a1 a2 a3 a4 => hk σ' M' b P' O' q' y6 y7 y8 a1 (by rw [zgo_grant hu hand hc]; exact a2) ?_ (by rw [zgo_grant hu hand hc]; exact a4))
              rw [a3, zgo_grant hu hand hc, Bool.true_or, decide_eq_true (Nat.lt_of_le_of_lt (zgo_le m x q _) (by omega)), Bool.or_true]

set_option maxHeartbeats 4000000 in
set_option maxRecDepth 20000 in
theorem c_M_pass_out {G : yG} {s : Nat → Option ySh} {F : Nat → Nat → Option Nat} (hS : mSh s F) {o : Nat} (ho : o < 6) {R : zS → mM → Prop} (hR : mPass o R) : ∀ (k : Nat) (b : Bool) (σ : zS) (M : mM) (x3 x4 x5 x6 x7 x8 : Option yV), R σ M → (b = true → (zrw σ 0 o).length < k) → yWW G m_M_pass (mQ G m_M_pass s F (fun r M' => r = none ∧ R (if b = true then zset o k σ else σ) M')) s 2 [some (yr 200), some (yi (nI o)), some (yi (zb b)), x3, x4, x5, x6, x7, x8] [] (mw s F M) 0 0 := by
  have hex : ∀ (k : Nat) (σ : zS) (M : mM) (x3 x4 x5 x6 x7 x8 : Option yV), R σ M → yWW G m_M_pass (mQ G m_M_pass s F (fun r M' => r = none ∧ R (if false = true then zset o k σ else σ) M')) s 2 [some (yr 200), some (yi (nI o)), some (yi (zb false)), x3, x4, x5, x6, x7, x8] [] (mw s F M) 0 0 := by
    intro k σ M x3 x4 x5 x6 x7 x8 hRM
    refine yr_iload_n d_M_pass_2 rfl ?_
    refine yr_if_eq (tgt := 194) d_M_pass_3 (by decide) (fun c3 => ?_) (fun c3 => absurd rfl c3)
    exact yr_retv d_M_pass_194 rfl (by decide) (by decide) ⟨_, rfl, rfl, hRM⟩
  intro k
  induction k with
  | zero =>
    intro b σ M x3 x4 x5 x6 x7 x8 hRM hb
    cases b with
    | false => exact hex 0 σ M x3 x4 x5 x6 x7 x8 hRM
    | true => exact absurd (hb rfl) (Nat.not_lt_zero _)
  | succ k ih =>
    intro b σ M x3 x4 x5 x6 x7 x8 hRM hb
    cases b with
    | false => exact hex (k + 1) σ M x3 x4 x5 x6 x7 x8 hRM
    | true =>
      refine yr_iload_n d_M_pass_2 rfl ?_
      refine yr_if_eq (tgt := 194) d_M_pass_3 (by decide) (fun c3 => absurd c3 (by decide)) (fun c3 => ?_)
      refine yr_iconst (v := 0) d_M_pass_6 (by decide) ?_
      refine yr_istore_n d_M_pass_7 (by decide) rfl ?_
      refine yr_iconst (v := 1) d_M_pass_8 (by decide) ?_
      refine yr_istore_n d_M_pass_9 (by decide) rfl ?_
      refine yr_iconst (v := 1) d_M_pass_10 (by decide) ?_
      refine yr_istore d_M_pass_11 (by decide) rfl ?_
      refine yr_iconst (v := 0) d_M_pass_13 (by decide) ?_
      refine yr_istore d_M_pass_14 (by decide) rfl ?_
      refine c_M_pass_in hS ho hR (zrw σ 0 o).length 0 true true false 0 σ M _ _ _ hRM (by omega) ⟨fun _ => Or.inl ⟨rfl, rfl, rfl⟩, fun _ => ⟨rfl, Or.inl ⟨rfl, rfl⟩⟩⟩ (fun σ' M' b P' O' q' y6 y7 y8 a1 a2 a3 a4 => ?_)
      refine yr_goto (tgt := 2) d_M_pass_191 (by decide) ?_
      rw [Bool.false_or, Nat.zero_add] at a3
      have hz : (if b = true then zset o k σ' else σ') = (if true = true then zset o (k + 1) σ else σ) := by
        rw [if_pos rfl, a2, a3]
        show _ = (if (zgo o (zrw σ 0 o).length 0 0 σ).2 < (zrw σ 0 o).length then _ else _)
        by_cases h9 : (zgo o (zrw σ 0 o).length 0 0 σ).2 < (zrw σ 0 o).length
        · rw [if_pos h9, if_pos (decide_eq_true h9)]
        · rw [if_neg h9, if_neg (by rw [decide_eq_false h9]; decide)]
      rw [← hz]
      exact ih b σ' M' _ _ _ _ _ _ a1 (fun hb2 => by
        rw [hb2] at a3
        have h9 := of_decide_eq_true a3.symm
        have := hb rfl
        omega)

set_option maxHeartbeats 4000000 in
set_option maxRecDepth 20000 in
theorem c_M_pass {G : yG} {s : Nat → Option ySh} {F : Nat → Nat → Option Nat} {M : mM} (hS : mSh s F) {o : Nat} (ho : o < 6) {R : zS → mM → Prop} (hR : mPass o R) {σ : zS} (hRM : R σ M) : mCT G m_M_pass [yr 200, yi (nI o)] s F M (fun r M' => r = none ∧ R (zset o 7 σ) M') := by
  refine yCT_of (by decide) rfl (ycat_of rfl) (Nat.le_of_ble_eq_true rfl) ?_
  refine yr_iconst (v := 1) d_M_pass_0 (by decide) ?_
  refine yr_istore_n d_M_pass_1 (by decide) rfl ?_
  exact c_M_pass_out hS ho hR 7 true σ M _ _ _ _ _ _ hRM (fun _ => Nat.lt_succ_of_le (hR σ M hRM).1)
