/-! what can be, the model's and the state's; the pass -/
theorem znum_neg {x : Option Nat} (hx : ∀ u, x = some u → u < 6) : znum x < 0 ↔ x = none := by
  cases x with
  | none => exact ⟨fun _ => rfl, fun _ => by decide⟩
  | some u =>
    have hu := hx u rfl
    exact ⟨fun z => absurd z (nI_pos (by omega)), fun z => nomatch z⟩
theorem nI_eq0 {x : Nat} (h : x < 2 ^ 31) : nI x = 0 ↔ x = 0 := by
  rw [show (0 : Int32) = nI 0 from rfl, nI_eq h (by decide)]
theorem mrd_oth {n : Nat} {X : Nat → Bool} {σ : zS} {M : mM} {o t : Nat} (hb : zB n X σ) (hk : zBk σ o) (ho : o < zn σ) (h1 : zkd σ o = 1) (ht : t < 6) (hm : ∀ u, u < 6 → M 220 (o * 6 + u) = zrd σ o u) : mrd M o (nI t) = 0 ↔ ∀ u, u < 6 → ¬ u = t → zrd σ o u = 0 := by
  obtain ⟨hn, hb⟩ := hb
  have hb := hb o ho h1
  obtain ⟨k1, k2, k3⟩ := hk
  have e1 : mrd M o (nI t) = zsum (fun u => if u = t then 0 else zrd σ o u) 6 := by
    unfold mrd
    refine zsum_ext 6 (fun u hu => ?_)
    by_cases e : u = t
    · subst e; rw [if_pos rfl, if_pos rfl]
    · rw [if_neg e, if_neg (fun z => e ((nI_eq (by omega) (by omega)).mp z)), hm u hu]
  rw [e1, zsum_nI 6 (fun u hu => by
    by_cases e : u = t
    · rw [if_pos e]; decide
    · rw [if_neg e]; exact k1 u hu)]
  have hu := zsN_upd (f := fun u => (zrd σ o u).toNatClampNeg) (g := fun u => (if u = t then (0 : Int32) else zrd σ o u).toNatClampNeg) 6 ht (fun u _ hne => by show (if u = t then (0 : Int32) else zrd σ o u).toNatClampNeg = _; rw [if_neg hne])
  have hu : zsN (fun u => (if u = t then (0 : Int32) else zrd σ o u).toNatClampNeg) 6 + (zrd σ o t).toNatClampNeg = zsN (fun u => (zrd σ o u).toNatClampNeg) 6 + (if t = t then (0 : Int32) else zrd σ o t).toNatClampNeg := hu
  rw [if_pos rfl] at hu
  have hu : zsN (fun u => (if u = t then (0 : Int32) else zrd σ o u).toNatClampNeg) 6 + (zrd σ o t).toNatClampNeg = zsN (fun u => (zrd σ o u).toNatClampNeg) 6 := hu
  rw [nI_eq0 (by omega)]
  constructor
  · intro h u hu6 hne
    have hz := zsN_zero 6 h u hu6
    have hz : (if u = t then (0 : Int32) else zrd σ o u).toNatClampNeg = 0 := hz
    rw [if_neg hne] at hz
    rw [clN (k1 u hu6), hz]; rfl
  · intro h
    refine zsN_z 6 (fun u hu6 => ?_)
    show (if u = t then (0 : Int32) else zrd σ o u).toNatClampNeg = 0
    by_cases e : u = t
    · rw [if_pos e]; rfl
    · rw [if_neg e, h u hu6 e]; rfl
/-- the act as the model holds it -/
abbrev mac (a : Int32) : Int32 := if a = 2 then 0 else a
theorem mcan_eq {n : Nat} {X : Nat → Bool} {σ : zS} {M : mM} {o t : Nat} {w : Int32} (hr : mR X σ M) (hv : zNv X σ) (hb : zB n X σ) (ho : o < zn σ) (ht : t < 6) (hra : zRA (zkd σ o) (zth σ 8 t) w) (h9 : ¬ zth σ 8 t = 2 → M 207 t = zth σ 9 t) : mcan M t o (mac (zth σ 8 t)) = (zcan σ o t || (decide (zkd σ o = 0) && decide (zho σ o = some t))) := by
  have hp := hv.2.2.2.2.2 o ho
  have hh := hp.2.2.2.1
  obtain ⟨g1, g2, g3, g4, g5, g6, g7, g8, gg9, g10, g11⟩ := hr.2.1.1 o ho
  have hcan : zcan σ o t = zcanC (zkd σ o) σ o t := rfl
  rw [hcan]
  have hfo : decide (M 215 o < 0 ∨ M 215 o = nI t) = decide (zho σ o = none ∨ zho σ o = some t) := by
    rw [g4]
    exact decide_eq_decide.mpr ⟨fun z => z.imp (znum_neg hh).mp (znum_eq hh ht).mp, fun z => z.imp (znum_neg hh).mpr (znum_eq hh ht).mpr⟩
  rcases hra.1 with ⟨hk, ha⟩ | ⟨hk, ha⟩ | ⟨hk, ha⟩ | ⟨hk, ha⟩ | ⟨hk, ha⟩ | ⟨hk, ha⟩
  · have e : mac (zth σ 8 t) = 0 := by
      rcases ha with ha | ha <;> rw [ha] <;> rfl
    rw [e, hk]
    show decide (M 215 o < 0 ∨ M 215 o = nI t) = (decide (zho σ o = none) || (true && decide (zho σ o = some t)))
    rw [hfo, Bool.true_and]
    exact Bool.decide_or _ _
  · rw [hk]
    have hx : (decide (1 = 0) && decide (zho σ o = some t)) = false := rfl
    rw [hx, Bool.or_false]
    have hbk := hp.2.2.2.2.2.2.1 hk
    show _ = decide (¬ (¬ zho σ o = none ∧ ¬ zho σ o = some t) ∧ (zth σ 8 t = 5 ∨ zpl σ 4 o ≤ zrd σ o t))
    have hor : ¬ (¬ zho σ o = none ∧ ¬ zho σ o = some t) ↔ (zho σ o = none ∨ zho σ o = some t) := by
      constructor
      · intro z
        by_cases e : zho σ o = none
        · exact Or.inl e
        · exact Or.inr (Decidable.byContradiction (fun e2 => z ⟨e, e2⟩))
      · rintro (z | z) ⟨z1, z2⟩
        · exact z1 z
        · exact z2 z
    rcases ha with ha | ha
    · rw [ha]
      show decide (M 215 o < 0 ∨ M 215 o = nI t) = _
      rw [hfo]
      exact decide_eq_decide.mpr ⟨fun z => ⟨hor.mpr z, Or.inl rfl⟩, fun z => hor.mp z.1⟩
    · rw [ha]
      show decide ((M 215 o < 0 ∨ M 215 o = nI t) ∧ mrd M o (nI t) = 0) = _
      have hfo2 : (M 215 o < 0 ∨ M 215 o = nI t) ↔ (zho σ o = none ∨ zho σ o = some t) := by
        rw [g4]
        exact ⟨fun z => z.imp (znum_neg hh).mp (znum_eq hh ht).mp, fun z => z.imp (znum_neg hh).mpr (znum_eq hh ht).mpr⟩
      have hm : ∀ u, u < 6 → M 220 (o * 6 + u) = zrd σ o u := fun u hu => by rw [g10 u hu, if_pos hk]
      have h75 : (7 : Int32) = 5 ↔ False := by decide
      refine decide_eq_decide.mpr ?_
      rw [hfo2, hor, mrd_oth hb hbk ho hk ht hm, zBk_oth hb hbk ho hk ht, h75, false_or]
  · rw [hk, ha]
    show decide (¬ M 214 o < M 207 t) = (!decide (zpl σ 3 o < zth σ 9 t) || _)
    have hx : (decide (2 = 0) && decide (zho σ o = some t)) = false := rfl
    rw [hx, Bool.or_false, h9 (by rw [ha]; decide), g3]
    unfold zamt
    rw [hk]
    show decide (¬ zpl σ 3 o < zth σ 9 t) = _
    exact decide_not
  · rw [hk, ha]
    show decide (M 214 o = 0) = (decide (zpl σ 3 o = 0) || _)
    have hx : (decide (3 = 0) && decide (zho σ o = some t)) = false := rfl
    rw [hx, Bool.or_false, g3]
    unfold zamt
    rw [hk]
    rfl
  · rw [hk, ha]
    rfl
  · rw [hk]
    have hx : (decide (5 = 0) && decide (zho σ o = some t)) = false := rfl
    rw [hx, Bool.or_false]
    have hl := hp.2.2.2.2.2.2.2.2 hk
    have hc3 := hp.2.2.1
    have e214 : M 214 o = nI (zqu σ o).length := by
      rw [g3]
      unfold zamt
      rw [hk]
      rfl
    rcases ha with ha | ha
    · show _ = (if zth σ 8 t = 15 then decide ((zqu σ o).length < zcp σ o) else decide (0 < (zqu σ o).length))
      rw [if_pos ha, ha]
      show decide (¬ M 213 o ≤ M 214 o) = _
      rw [g2, e214]
      refine decide_eq_decide.mpr ?_
      rw [nI_leI (by omega) (by omega)]
      omega
    · show _ = (if zth σ 8 t = 15 then decide ((zqu σ o).length < zcp σ o) else decide (0 < (zqu σ o).length))
      rw [if_neg (by rw [ha]; decide), ha]
      show decide (¬ M 214 o ≤ 0) = _
      rw [e214]
      refine decide_eq_decide.mpr ?_
      rw [show (0 : Int32) = nI 0 from rfl, nI_leI (by omega) (by omega)]
      omega
theorem zRA.n15 {kd : Nat} {a w : Int32} (h : zRA kd a w) : (mac a = 15 → kd = 5) ∧ (mac a = 15 ↔ a = 15) := by
  rcases h.1 with ⟨hk, ha | ha⟩ | ⟨hk, ha | ha⟩ | ⟨hk, ha⟩ | ⟨hk, ha⟩ | ⟨hk, ha⟩ | ⟨hk, ha | ha⟩ <;> subst ha <;> subst hk <;> decide
theorem zRA.bit {kd : Nat} {a w : Int32} (h : zRA kd a w) : zsort kd a = if kd = 5 ∧ ¬ mac a = 15 then 1 else 0 := by
  rcases h.1 with ⟨hk, ha | ha⟩ | ⟨hk, ha | ha⟩ | ⟨hk, ha⟩ | ⟨hk, ha⟩ | ⟨hk, ha⟩ | ⟨hk, ha | ha⟩ <;> subst ha <;> subst hk <;> decide
/-- the state and the model's cells, while one place is at work -/
def mOut (K j : Nat) : Prop := K < 200 ∨ 224 ≤ K ∨ (K = 200 ∧ j = 26)
def mFx (M0 M : mM) : Prop := ∀ K j, mOut K j → M K j = M0 K j
def mRR (n o : Nat) (M0 : mM) (σ : zS) (M : mM) : Prop := zJn n σ ∧ mR x0 σ M ∧ zAS o σ ∧ o < zn σ ∧ mFx M0 M
theorem mRu_of {X : Nat → Bool} {σ : zS} {M : mM} {t : Nat} (hr : mR X σ M) (ht : t < 6) (hX : X t = false) : mRu σ M t := (hr.1 t ht).2.2 hX
theorem mPass_J (n o : Nat) (M0 : mM) : mPass o (mRR n o M0) := by
  intro σ M ⟨hJ, hr, has, ho, h26⟩
  obtain ⟨hv, hb, hn⟩ := hJ
  obtain ⟨g1, g2, g3, g4, g5, g6, g7, g8, gg9, g10, g11⟩ := hr.2.1.1 o ho
  have hrow := hv.2.1 o 0 ho (Or.inl rfl)
  refine ⟨g7, fun u hu => (hrow.2 u hu).1, hrow.1, g5, g8, fun u hu => ?_⟩
  obtain ⟨ht, hx, hw, hs, hra⟩ := hv.blk ho hu
  obtain ⟨u1, u2, u3, u4, u5, u6, u7, u8, u9⟩ := mRu_of hr ht hx
  have h206 : M 206 u = mac (zth σ 8 u) := u6 hs
  have hnh : ¬ zho σ o = some u := hv.2.2.1 o 0 u ho (Or.inl rfl) hu
  have hcn := mcan_eq hr hv hb ho ht hra (u7 hs)
  rw [show (decide (zho σ o = some u)) = false from decide_eq_false hnh, Bool.and_false, Bool.or_false] at hcn
  refine ⟨by rw [h206]; exact hcn, ?_, fun z => hra.n15.1 (by rw [← h206]; exact z), fun hc => ?_⟩
  · rw [h206]
    unfold zbit
    rw [hra.bit]
    split <;> decide
  · have h4 : ¬ zkd σ o = 4 := fun e => by unfold zcan at hc; rw [e] at hc; cases hc
    have hga : mGA σ M o u (M 206 u) := by
      by_cases e : zth σ 8 u = 2
      · refine Or.inl ⟨e, by rw [h206]; exact if_pos e, ?_, u8 (by rw [hs]; decide) e, ?_, ?_⟩
        · rw [u5, if_pos ⟨hs, e⟩]; decide
        · rcases hra.1 with z | z | z | z | z | z
          · exact z.1
          · rcases z.2 with z | z <;> exact absurd (z.symm.trans e) (by decide)
          · exact absurd (z.2.symm.trans e) (by decide)
          · exact absurd (z.2.symm.trans e) (by decide)
          · exact absurd (z.2.symm.trans e) (by decide)
          · rcases z.2 with z | z <;> exact absurd (z.symm.trans e) (by decide)
        · have hk : zkd σ o = 0 := by
            rcases hra.1 with z | z | z | z | z | z
            · exact z.1
            · rcases z.2 with z | z <;> exact absurd (z.symm.trans e) (by decide)
            · exact absurd (z.2.symm.trans e) (by decide)
            · exact absurd (z.2.symm.trans e) (by decide)
            · exact absurd (z.2.symm.trans e) (by decide)
            · rcases z.2 with z | z <;> exact absurd (z.symm.trans e) (by decide)
          have hc1 : zcanC (zkd σ o) σ o u = true := hc
          rw [hk] at hc1
          exact of_decide_eq_true hc1
      · exact Or.inr ⟨e, by rw [h206]; exact if_neg e, by rw [u5, if_neg (fun z => e z.2)], u7 hs e⟩
    obtain ⟨k, hgok, hmr⟩ := mR_grant hr ho ht hra h4 (hv.2.2.2.2.2 o ho) hga (fun _ => hc)
    have hgr := zIA_J n σ o u ⟨hv, hb, hn⟩ ho hu hc
    have hth : zth (zgrant (zrm σ o u) o u) 11 u = zth σ 11 u := zgrant_th (σ := zrm σ o u) (w := zth σ 11 u) (by decide) hra h4
    have hzh : zhN (zgrant (zrm σ o u) o u) u = (zth σ 11 u).toNatClampNeg := by unfold zhN; rw [hth]
    have hok := zhN_ok hra.w
    refine ⟨k, (zth σ 11 u).toNatClampNeg, hgok, hok.2, ?_, fun i hi => ⟨hgr.2.2.2, ?_, zFr_gr.as has, by rw [zgr_n.1]; exact ho, fun K j hK => by
      have hK9 := hK
      unfold mOut at hK9
      unfold mStep mEndL mEnd mRem
      (repeat first | rw [yu_ne _ _ (by omega)] | rw [mSft_at (by omega)])
      rw [mGrant_keep (by unfold mGf; omega)]
      exact h26 K j hK⟩⟩
    · by_cases e : zth σ 8 u = 2
      · have h211 : M 211 u = 1 := by rw [u5]; exact if_pos ⟨hs, e⟩
        rw [h211, if_neg (by decide), u9 hs e]
        exact hok.1
      · have h211 : M 211 u = 0 := by rw [u5]; exact if_neg (fun z => e z.2)
        rw [h211, if_pos rfl, hra.2.2 e]
        rfl
    · have hrw : zrw (zgrant σ o u) = zrw σ := zgrant_row hra h4
      have hnn : zn (zgrant σ o u) = zn σ := zgrant_n.1
      have h1 := mR_rm (o := o) (t := u) (i := i) hmr (by rw [hnn]; exact ho) (by rw [hrw]; exact hrow.1) (by rw [hrw]; exact hi)
      rw [hrw, ← zgrant_rm hra h4] at h1
      have h2 := mR_200 (f := 25) (x := nI (zth σ 11 u).toNatClampNeg) (mR_end (h := (zth σ 11 u).toNatClampNeg) h1 ht) (by decide)
      rw [xar x0 rfl] at h2
      unfold zgr mStep mEndL
      rw [hzh]
      exact h2
