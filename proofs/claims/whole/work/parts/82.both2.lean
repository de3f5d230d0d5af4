/-! act and the readers: both sides -/
theorem c_M_actJ {G : yG} {s : Nat → Option ySh} {F : Nat → Nat → Option Nat} (hS : mSh s F) {n : Nat} {σ : zS} {M : mM} {x y a g p : Int32} (hR : mRS n σ M) (hn : n + 3 < 1000000) : mCT G m_M_act [yr 200, yi x, yi y, yi a, yi g, yi p] s F M (mAQ n σ M x y a g p) := by
  have hob : M 200 23 = nI (zn σ) := hR.2.1.2.2.2.1
  have hn6 : zn σ ≤ 6 := hR.1.1.2.2.2.1
  have hR0 : mR0 n (yu M 200 26 0) σ (yu M 200 26 0) := ⟨mRS_200 hR (by decide), fun _ _ _ => rfl⟩
  have open_ : ∀ POST : Option yV → mM → Prop, ((mFin (zn σ) x y a p && mArg a g) = false → POST (some (yi 0)) (yu M 200 26 1)) → ((mFin (zn σ) x y a p && mArg a g) = true → yWW G m_M_act (mQ G m_M_act s F POST) s 106 [some (yr 200), some (yi x), some (yi y), some (yi a), some (yi g), some (yi p), some (yi (zb true)), none, none] [] (mw s F (yu M 200 26 0)) 0 0) → mCT G m_M_act [yr 200, yi x, yi y, yi a, yi g, yi p] s F M POST := fun POST h1 h2 => by
    refine yCT_of (by decide) rfl (ycat_of rfl) (Nat.le_of_ble_eq_true rfl) ?_
    exact c_M_actA hS hob (c_M_actB hS (c_M_actC hS h1 h2))
  cases hf : (mFin (zn σ) x y a p && mArg a g) with
  | false =>
    refine open_ _ (fun _ => Or.inl ⟨?_, rfl, _, rfl⟩) (fun z => by rw [hf] at z; cases z)
    unfold mFin at hf
    cases e1 : mIn x 0 5 with
    | false => exact Or.inl (mIn_f (n := 6) (by decide) e1)
    | true =>
      cases e2 : mIn y 0 (nI (zn σ) - 1) with
      | false => exact Or.inr (Or.inl (mIn_f (by omega) e2))
      | true =>
        cases e3 : mIn p (-1) 100 with
        | false => exact Or.inr (Or.inr (Or.inr (by rw [zisPat_eq]; exact e3)))
        | true =>
          rw [e1, e2, e3] at hf
          refine Or.inr (Or.inr (Or.inl ?_))
          rw [zisAct_eq]
          simpa using hf
  | true =>
    have hf2 := hf
    unfold mFin at hf2
    simp only [Bool.and_eq_true] at hf2
    obtain ⟨⟨e1, e2, e3, e4⟩, e5⟩ := hf2
    obtain ⟨t, htt, ht, rfl⟩ := mIn_t (n := 6) (by decide) e1
    obtain ⟨o, hoo, ho, rfl⟩ := mIn_t (n := zn σ) (by omega) e2
    have hia : zisAct a g = true := by rw [zisAct_eq, e3, e5]; rfl
    have hip : zisPat p = true := by rw [zisPat_eq]; exact e4
    have htt : ztat (nI t) = some t := htt
    have ho6 : o < 6 := by omega
    have hp1 := hR.1.1.2.2.2.2.2 o ho
    have h212 : (yu M 200 26 0) 212 o = nI (zkd σ o) := (hR0.1.2.1.2.1.1 o ho).1
    have hmk : mofk ((yu M 200 26 0) 212 o) a = decide (yst a.toNatClampNeg = nI (zkd σ o)) := by
      rw [h212]
      exact mofk_eq (zisAct_in hia).1 (zisAct_in hia).2 hp1.1
    by_cases hyk : yst a.toNatClampNeg = nI (zkd σ o)
    · have hmk1 : mofk ((yu M 200 26 0) 212 o) a = true := by rw [hmk]; exact decide_eq_true hyk
      have hnn := mnn_eq (g := g) hR0.1.2.1 hR0.1.1.1 ho ht (zAK_of hia hyk hp1.1)
      by_cases hok : zth σ 2 t = 0 ∧ zallows σ o t a g = true
      · have hnn1 : mnn (yu M 200 26 0) t o a g = false := by
          rw [hnn, decide_eq_true hok.1, hok.2]
          rfl
        refine mCT_mono (P := mAP n (yu M 200 26 0) σ o t a g p) (open_ _ (fun z => by rw [hf] at z; cases z) (fun _ => ?_)) (fun r M' z => Or.inr ⟨t, o, htt, hoo, hia, hip, Or.inr (Or.inr ⟨hyk, hok.1, hok.2, z⟩)⟩)
        exact c_M_actD hS ht ho6 (yu_same _ _ _ _) (fun z => by rw [hmk1] at z; cases z) (fun _ z => by rw [hnn1] at z; cases z) (fun _ _ => c_act_body hS hR0 hn ht ho hia hip hyk hok.1 hok.2)
      · have hnn1 : mnn (yu M 200 26 0) t o a g = true := by
          rw [hnn]
          cases h3 : zallows σ o t a g with
          | false => rw [Bool.and_false]; rfl
          | true => rw [decide_eq_false (fun z => hok ⟨z, h3⟩)]; rfl
        have hor : ¬ zth σ 2 t = 0 ∨ zallows σ o t a g = false := by
          by_cases z : zth σ 2 t = 0
          · refine Or.inr ?_
            cases h3 : zallows σ o t a g with
            | false => rfl
            | true => exact absurd ⟨z, h3⟩ hok
          · exact Or.inl z
        refine open_ _ (fun z => by rw [hf] at z; cases z) (fun _ => ?_)
        exact c_M_actD hS ht ho6 (yu_same _ _ _ _) (fun z => by rw [hmk1] at z; cases z) (fun _ _ => Or.inr ⟨t, o, htt, hoo, hia, hip, Or.inr (Or.inl ⟨hyk, hor, rfl, _, rfl⟩)⟩) (fun _ z => by rw [hnn1] at z; cases z)
    · have hmk1 : mofk ((yu M 200 26 0) 212 o) a = false := by rw [hmk]; exact decide_eq_false hyk
      refine open_ _ (fun z => by rw [hf] at z; cases z) (fun _ => ?_)
      exact c_M_actD hS ht ho6 (yu_same _ _ _ _) (fun _ => Or.inr ⟨t, o, htt, hoo, hia, hip, Or.inl ⟨hyk, rfl, _, rfl⟩⟩) (fun z => by rw [hmk1] at z; cases z) (fun z => by rw [hmk1] at z; cases z)
theorem told_eq {σ : zS} {M : mM} {t : Nat} {y : Int32} (hr : mR x0 σ M) (ht : t < 6) : mtold M t y = ztold σ t y := by
  obtain ⟨u1, u2, u3, u4, -⟩ := mRu_of hr ht rfl
  obtain ⟨b1, b2, -⟩ := hr.1 t ht
  unfold mtold ztold
  rw [u1, u2, u3, u4, b1, b2]
  rfl
theorem obj_eq {σ : zS} {M : mM} {o : Nat} {y : Int32} (hr : mR x0 σ M) (hv : zNv x0 σ) (ho : o < zn σ) : mobj M o y = zobj σ o y := by
  obtain ⟨g1, g2, g3, g4, g5, g6, g7, g8, gg9, g10, g11⟩ := hr.2.1.1 o ho
  have hp := hv.2.2.2.2.2 o ho
  have hk6 := hp.1
  have hrd : mrd M o (-1) = zsum (fun u => if zkd σ o = 1 then zrd σ o u else 0) 6 := by
    unfold mrd
    refine zsum_ext 6 (fun u hu => ?_)
    rw [if_neg (fun z => absurd (by rw [z]; decide : nI u < 0) (nI_pos (by omega))), g10 u hu]
  unfold mobj zobj
  rw [g1, g3, g4, g5, g6, hrd, show o * 2 = o * 2 + 0 from rfl, (gg9 0 (by decide)).1, (gg9 1 (by decide)).1]
  have h40 : zsum (fun _ => (0 : Int32)) 6 = 0 := by decide
  unfold zcr zamt zamtC zlevel zlevelC zowner zownerC zwaiters zwaitersC ztimes ztimesC zbroken zbrokenC
  rcases (show zkd σ o = 0 ∨ zkd σ o = 1 ∨ zkd σ o = 2 ∨ zkd σ o = 3 ∨ zkd σ o = 4 ∨ zkd σ o = 5 by omega) with hk | hk | hk | hk | hk | hk <;> rw [hk]
  · simp [h40, nI, zcj]
  · have hb := (hp.2.2.2.2.2.2.1 hk).2.1
    simp [nI, zcj]
    rw [hb]
  all_goals simp [h40, nI, zcj]
theorem count_eq {σ : zS} {M : mM} {x : Int32} (hr : mR x0 σ M) : mcount M x = zcount σ x := by
  unfold mcount zcount
  obtain ⟨c1, c2, c3⟩ := hr.2.2
  have hc : zcnt (fun t => decide (M 201 t = 0)) 6 = zcnt (fun t => decide (zth σ 2 t = 0)) 6 := by
    have h9 : ∀ n, n ≤ 6 → zcnt (fun t => decide (M 201 t = 0)) n = zcnt (fun t => decide (zth σ 2 t = 0)) n := by
      intro n
      induction n with
      | zero => intro _; rfl
      | succ n ih =>
        intro hn
        show (if decide (M 201 n = 0) = true then _ else _) = (if decide (zth σ 2 n = 0) = true then _ else _)
        rw [ih (by omega), (mRu_of hr (by omega : n < 6) rfl).1]
    exact h9 6 (Nat.le_refl _)
  rw [c1 0 (by decide), c1 2 (by decide), c1 3 (by decide), c1 4 (by decide), c2, c3, hc]
theorem zat_eq {l : List Nat} {y : Int32} (hl : l.length ≤ 6) : (zat l y = none ↔ zpat l.length y = none) ∧ ∀ j (hj : j < l.length), zpat l.length y = some j → zat l y = some l[j] := by
  unfold zat zpat
  by_cases h0 : y < 0
  · rw [if_pos h0, if_neg (fun z => z.1 h0)]
    exact ⟨⟨fun _ => rfl, fun _ => rfl⟩, fun j hj z => nomatch z⟩
  · rw [if_neg h0]
    obtain ⟨k, hk, rfl⟩ := nI_of h0
    rw [nI_clamp hk]
    have hli : nI k < nI l.length ↔ k < l.length := nI_ltI hk (by omega)
    by_cases hlt : k < l.length
    · rw [if_pos ⟨h0, hli.mpr hlt⟩, List.getElem?_eq_getElem hlt]
      refine ⟨⟨fun z => (nomatch z), fun z => (nomatch z)⟩, fun j hj z => ?_⟩
      cases Option.some.inj z
      rfl
    · rw [if_neg (fun z => hlt (hli.mp z.2)), List.getElem?_eq_none (by omega)]
      exact ⟨⟨fun _ => rfl, fun _ => rfl⟩, fun j hj z => nomatch z⟩
theorem lean_eq {σ : zS} {M : mM} (hr : mR x0 σ M) (hv : zNv x0 σ) : mLean M (zlean σ) := by
  intro t ht
  obtain ⟨u1, u2, u3, -⟩ := mRu_of hr ht rfl
  have hn6 := hv.2.2.2.1
  rw [u1, u3]
  refine ⟨fun h1 => ?_, fun h1 => by unfold zlean; rw [if_neg h1], fun u hu => ?_⟩
  · rcases hv.1 t ht rfl with z | ⟨-, o, h2, h3, -⟩ | z
    · exact absurd (z.1.symm.trans h1) (by decide)
    · have e : zlean σ t = zleaned σ o := by
        unfold zlean
        rw [if_pos h1, h2]
      obtain ⟨g1, g2, g3, g4, -⟩ := hr.2.1.1 o h3
      have hk6 := (hv.2.2.2.2.2 o h3).1
      refine ⟨o, by omega, by rw [h2]; rfl, fun z => ?_, fun z => ?_⟩
      · rw [g1, nI_eq0 (by omega)] at z
        rw [g4, e]
        show _ = znum (zleanedC (zkd σ o) σ o)
        rw [z]
        rfl
      · rw [g1, nI_eq0 (by omega)] at z
        rw [e]
        show zleanedC (zkd σ o) σ o = none
        unfold zleanedC
        split
        · rename_i h; exact absurd h z
        · rfl
    · exact absurd (z.1.symm.trans h1) (by decide)
  · unfold zlean at hu
    split at hu
    · rename_i h1
      rcases hv.1 t ht rfl with z | ⟨-, o, h2, h3, -⟩ | z
      · exact absurd (z.1.symm.trans h1) (by decide)
      · rw [h2] at hu
        have hu : zleanedC (zkd σ o) σ o = some u := hu
        unfold zleanedC at hu
        split at hu
        · exact (hv.2.2.2.2.2 o h3).2.2.2.1 u hu
        · cases hu
      · exact absurd (z.1.symm.trans h1) (by decide)
    · cases hu
/-- the road from a thread along what it leans on -/
def gp (L : Nat → Option Nat) (t : Nat) : Nat → Option Nat
  | 0 => some t
  | k + 1 => match gp L t k with
    | none => none
    | some u => L u
theorem gp_none {L : Nat → Option Nat} {t j : Nat} (h : gp L t j = none) : ∀ m, gp L t (j + m) = none
  | 0 => h
  | m + 1 => by
    show (match gp L t (j + m) with | none => none | some u => L u) = none
    rw [gp_none h m]
theorem gp_shift {L : Nat → Option Nat} {t i j : Nat} (h : gp L t i = gp L t j) : ∀ m, gp L t (i + m) = gp L t (j + m)
  | 0 => h
  | m + 1 => by
    show (match gp L t (i + m) with | none => none | some u => L u) = (match gp L t (j + m) with | none => none | some u => L u)
    rw [gp_shift h m]
theorem gch_gp {L : Nat → Option Nat} {t : Nat} : ∀ (n j : Nat), gch L t n (gp L t j) = some t ↔ ∃ k, j ≤ k ∧ k ≤ j + n ∧ gp L t k = some t
  | 0, j => ⟨fun h => ⟨j, Nat.le_refl _, Nat.le_refl _, h⟩, fun ⟨k, h1, h2, h3⟩ => by
      cases (show k = j by omega)
      exact h3⟩
  | n + 1, j => by
    cases hj : gp L t j with
    | none =>
      constructor
      · intro h; cases h
      · rintro ⟨k, h1, h2, h3⟩
        have := gp_none hj (k - j)
        rw [show j + (k - j) = k by omega, h3] at this
        cases this
    | some u =>
      show (if u = t then some t else gch L t n (L u)) = some t ↔ _
      by_cases e : u = t
      · rw [if_pos e]
        exact ⟨fun _ => ⟨j, Nat.le_refl _, by omega, by rw [hj, e]⟩, fun _ => rfl⟩
      · rw [if_neg e]
        have h1 : gp L t (j + 1) = L u := by
          show (match gp L t j with | none => none | some u => L u) = L u
          rw [hj]
        rw [← h1, gch_gp n (j + 1)]
        constructor
        · rintro ⟨k, a1, a2, a3⟩
          exact ⟨k, by omega, by omega, a3⟩
        · rintro ⟨k, a1, a2, a3⟩
          refine ⟨k, ?_, by omega, a3⟩
          by_cases e2 : k = j
          · rw [e2, hj] at a3
            exact absurd (Option.some.inj a3) e
          · omega
theorem nod_of_inj {f : Nat → Nat} : ∀ n, (∀ i j, i < j → j < n → ¬ f i = f j) → ((List.range n).map f).Nodup
  | 0, _ => List.nodup_nil
  | n + 1, h => by
    rw [List.range_succ, List.map_append]
    refine List.nodup_append.mpr ⟨nod_of_inj n (fun i j a b => h i j a (by omega)), by simp, fun a ha b hb e => ?_⟩
    obtain ⟨i, hi, rfl⟩ := List.mem_map.mp ha
    have hb : b = f n := by simpa using hb
    rw [hb] at e
    exact h i n (List.mem_range.mp hi) (by omega) e
theorem gch_65 {L : Nat → Option Nat} {t : Nat} (ht : t < 6) (hL : ∀ v, v < 6 → ∀ u, L v = some u → u < 6) : gch L t 6 (L t) = some t ↔ gch L t 5 (L t) = some t := by
  have h1 : gp L t 1 = L t := rfl
  rw [← h1, gch_gp 6 1, gch_gp 5 1]
  constructor
  · rintro ⟨k, a1, a2, a3⟩
    by_cases e : k = 7
    · subst e
      refine Classical.byContradiction (fun hno => ?_)
      have hno : ∀ q, 1 ≤ q → q ≤ 6 → ¬ gp L t q = some t := fun q b1 b2 b3 => hno ⟨q, b1, by omega, b3⟩
      have hsome : ∀ q, q ≤ 7 → ∃ u, gp L t q = some u := fun q hq => by
        cases h : gp L t q with
        | none =>
          have := gp_none h (7 - q)
          rw [show q + (7 - q) = 7 by omega, a3] at this
          cases this
        | some u => exact ⟨u, rfl⟩
      have hlt : ∀ q u, gp L t q = some u → u < 6 := by
        intro q
        induction q with
        | zero => intro u h; cases h; exact ht
        | succ q ih =>
          intro u h
          have h : (match gp L t q with | none => none | some u => L u) = some u := h
          cases h9 : gp L t q with
          | none => rw [h9] at h; cases h
          | some v =>
            rw [h9] at h
            exact hL v (ih v h9) u h
      have hnd := nod_of_inj (f := fun q => (gp L t q).getD 0) 7 (fun i j hi hj he => by
        obtain ⟨u, hu⟩ := hsome i (by omega)
        obtain ⟨v, hv⟩ := hsome j (by omega)
        have he : (gp L t i).getD 0 = (gp L t j).getD 0 := he
        have e2 : gp L t i = gp L t j := by
          rw [hu, hv] at he ⊢
          have he : u = v := he
          rw [he]
        have h9 := gp_shift e2 (7 - j)
        rw [show j + (7 - j) = 7 by omega, a3] at h9
        exact hno _ (by omega) (by omega) h9)
      have hle := nod_len 6 _ hnd (fun x hx => by
        obtain ⟨q, hq, rfl⟩ := List.mem_map.mp hx
        obtain ⟨u, hu⟩ := hsome q (by have := List.mem_range.mp hq; omega)
        have h9 := hlt q u hu
        show (gp L t q).getD 0 < 6
        rw [hu]
        exact h9)
      simp at hle
    · exact ⟨k, a1, by omega, a3⟩
  · rintro ⟨k, a1, a2, a3⟩
    exact ⟨k, a1, by omega, a3⟩
theorem zchase_gch {σ : zS} {t : Nat} : ∀ (n : Nat) (x : Option Nat), zchase σ t n x = gch (zlean σ) t n x
  | 0, _ => rfl
  | n + 1, none => rfl
  | n + 1, some u => by
    show (if u = t then some t else zchase σ t n (zlean σ u)) = (if u = t then some t else gch (zlean σ) t n (zlean σ u))
    rw [zchase_gch n]
theorem stuck_eq {σ : zS} {M : mM} (hr : mR x0 σ M) (hv : zNv x0 σ) : zcnt (fun t => decide (gch (zlean σ) t 6 (zlean σ t) = some t)) 6 = zcnt (fun t => zcomes σ t) 6 := by
  have hL := lean_eq hr hv
  have h9 : ∀ n, n ≤ 6 → zcnt (fun t => decide (gch (zlean σ) t 6 (zlean σ t) = some t)) n = zcnt (fun t => zcomes σ t) n := by
    intro n
    induction n with
    | zero => intro _; rfl
    | succ n ih =>
      intro hn
      show (if decide (gch (zlean σ) n 6 (zlean σ n) = some n) = true then _ else _) = (if zcomes σ n = true then _ else _)
      have e : decide (gch (zlean σ) n 6 (zlean σ n) = some n) = zcomes σ n := by
        unfold zcomes
        rw [zchase_gch]
        exact decide_eq_decide.mpr (gch_65 (by omega) (fun v hv9 => (hL v hv9).2.2))
      rw [ih (by omega), e]
  exact h9 6 (Nat.le_refl _)
