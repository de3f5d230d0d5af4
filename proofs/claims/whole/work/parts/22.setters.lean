/-! what a change of one thread's, or one place's, cells leaves -/
def zAg (ω ω' : yW) (k : Nat) : Prop := ω'.2.1 k = ω.2.1 k ∧ ω'.2.2 k = ω.2.2 k
theorem zR.kept {l : List Nat} {ω ω' : yW} {k : Nat} (h : zR l ω k) (h1 : zAg ω ω' k) (h2 : zAg ω ω' (k + 1)) : zR l ω' k := by
  obtain ⟨a1, a2, a3, a4, a5⟩ := h
  exact ⟨a1, a2, by rw [h1.1]; exact a3, by rw [h1.2]; exact a4, fun j hj => by rw [h2.2]; exact a5 j hj⟩
/-- the two states have the same of thread t -/
def zSt (σ σ' : zS) (t : Nat) : Prop := zwh σ' t = zwh σ t ∧ (∀ f, zth σ' f t = zth σ f t) ∧ (∀ h, zen σ' t h = zen σ t h)
/-- .. of place o -/
def zSp (σ σ' : zS) (o : Nat) : Prop := zkd σ' o = zkd σ o ∧ zcp σ' o = zcp σ o ∧ (∀ j, zrw σ' j o = zrw σ j o) ∧ zho σ' o = zho σ o ∧ (∀ f, zpl σ' f o = zpl σ f o) ∧ (∀ t, zrd σ' o t = zrd σ o t) ∧ zqu σ' o = zqu σ o
theorem zT.kept {σ σ' : zS} {ω ω' : yW} {t : Nat} (h : zT σ ω t) (hs : zSt σ σ' t) (hn : zn σ' = zn σ) (h1 : zAg ω ω' (10 + t)) (h2 : zAg ω ω' (20 + t)) : zT σ' ω' t := by
  obtain ⟨a1, a2, a3, a4, a5, a6⟩ := h
  obtain ⟨s1, s2, s3⟩ := hs
  exact ⟨by rw [h1.1]; exact a1, by rw [h1.2]; exact a2, by rw [h1.2, s1]; exact a3, fun f b1 b2 b3 => by rw [h1.1, s2]; exact a4 f b1 b2 b3, fun q hq => by rw [h2.1, s3]; exact a5 q hq, fun o ho => by rw [hn]; rw [s1] at ho; exact a6 o ho⟩
theorem zPl.kept {σ σ' : zS} {ω ω' : yW} {o : Nat} (h : zPl σ ω o) (hs : zSp σ σ' o) (ha : ∀ d, d < 8 → zAg ω ω' (kP o + d)) : zPl σ' ω' o := by
  obtain ⟨a1, a2, a3, a4, a5, a6, a7, a8, a9, a10, a11⟩ := h
  obtain ⟨s1, s2, s3, s4, s5, s6, s7⟩ := hs
  have h0 := ha 0 (by omega)
  rw [Nat.add_zero] at h0
  refine ⟨by rw [h0.1, s1]; exact a1, by rw [h0.1]; exact a2, by rw [h0.2]; exact a3, by rw [s3]; exact a4.kept (ha 1 (by omega)) (ha 2 (by omega)), ?_, ?_, ?_, ?_, ?_, ?_, fun t ht => a11 t (by rw [s4] at ht; exact ht)⟩
  · intro hk
    rw [s1] at hk
    obtain ⟨b1, b2, b3, b4, b5, b6⟩ := a5 hk
    rw [h0.1, h0.2, s3, s3, s4, s5]
    exact ⟨b1, b2, b3, b4, b5.kept (ha 3 (by omega)) (ha 4 (by omega)), b6.kept (ha 5 (by omega)) (ha 6 (by omega))⟩
  · intro hk
    rw [s1] at hk
    obtain ⟨b1, b2, b3, b4, b5⟩ := a6 hk
    rw [h0.1, h0.2, s4, s5, s5]
    exact ⟨b1, b2, b3, b4, fun t ht => by rw [(ha 7 (by omega)).1, s6]; exact b5 t ht⟩
  · intro hk
    rw [s1] at hk
    rw [h0.1, s5]; exact a7 hk
  · intro hk
    rw [s1] at hk
    rw [h0.1, s5]; exact a8 hk
  · intro hk
    rw [s1] at hk
    rw [h0.1, s5, s2]; exact a9 hk
  · intro hk
    rw [s1] at hk
    obtain ⟨b1, b2, b3, b4⟩ := a10 hk
    rw [h0.1, h0.2, s2]
    refine ⟨b1, by rw [s7]; exact b2, by rw [s7]; exact b3, fun j hj => ?_⟩
    rw [(ha 7 (by omega)).1]
    have hj' : j < (zqu σ o).length := by rw [s7] at hj; exact hj
    rw [b4 j hj']
    congr 1
    rw [s7]
theorem zShp.kept {σ σ' : zS} {sh : Nat → Option ySh} (h : zShp σ sh) (hn : zn σ' = zn σ) (hk : ∀ o, zkd σ' o = zkd σ o) (hc : ∀ o, zcp σ' o = zcp σ o) : zShp σ' sh := by
  obtain ⟨a1, a2, a3, a4, a5, a6⟩ := h
  exact ⟨a1, a2, a3, a4, by rw [hn]; exact a5, fun o ho => by rw [hk, hc]; rw [hn] at ho; exact a6 o ho⟩
/-- only thread t's cells change -/
theorem zC_thread {σ σ' : zS} {μ ω ω' : yW} {t : Nat} (h : zC σ μ ω) (ht : t < 6) (hsh : ω'.1 = ω.1) (ha : ∀ k, k ≠ 10 + t → k ≠ 20 + t → zAg ω ω' k) (hn : zn σ' = zn σ) (htk : ztk σ' = ztk σ) (hp : ∀ o, zSp σ σ' o) (hs : ∀ u, u ≠ t → zSt σ σ' u) (hcl : yCl ω') (hT : zT σ' ω' t) : zC σ' μ ω' := by
  obtain ⟨a1, a2, a3, a4, a5, a6, a7, a8, a9, a10, a11, -⟩ := h
  have g0 := ha 0 (by omega) (by omega)
  have g1 := ha 1 (by omega) (by omega)
  have g2 := ha 2 (by omega) (by omega)
  refine ⟨by rw [hsh]; exact a1.kept hn (fun o => (hp o).1) (fun o => (hp o).2.1), hsh.trans a2, fun k hk => ?_, by rw [g0.2]; exact a4, by rw [g0.2]; exact a5, by rw [g0.1, hn]; exact a6, by rw [g0.1, htk]; exact a7, fun u hu => by rw [g1.2]; exact a8 u hu, fun o ho => by rw [g2.2, hn]; exact a9 o ho, fun u hu => ?_, fun o ho => ?_, hcl⟩
  · have g := ha k (by omega) (by omega)
    rw [g.1, g.2]; exact a3 k hk
  · by_cases e : u = t
    · rw [e]; exact hT
    · exact (a10 u hu).kept (hs u e) hn (ha _ (by omega) (by omega)) (ha _ (by omega) (by omega))
  · rw [hn] at ho
    exact (a11 o ho).kept (hp o) (fun d hd => ha _ (by unfold kP; omega) (by unfold kP; omega))
/-- only place o's cells change -/
theorem zC_place {σ σ' : zS} {μ ω ω' : yW} {o : Nat} (h : zC σ μ ω) (ho : o < zn σ) (hsh : ω'.1 = ω.1) (ha : ∀ k, (k < kP o ∨ kP o + 8 ≤ k) → zAg ω ω' k) (hn : zn σ' = zn σ) (htk : ztk σ' = ztk σ) (hkd : zkd σ' o = zkd σ o) (hcp : zcp σ' o = zcp σ o) (hp : ∀ u, u ≠ o → zSp σ σ' u) (hs : ∀ u, zSt σ σ' u) (hcl : yCl ω') (hP : zPl σ' ω' o) : zC σ' μ ω' := by
  obtain ⟨a1, a2, a3, a4, a5, a6, a7, a8, a9, a10, a11, -⟩ := h
  have h6 := a1.2.2.2.2.1
  have g0 := ha 0 (Or.inl (by unfold kP; omega))
  have g1 := ha 1 (Or.inl (by unfold kP; omega))
  have g2 := ha 2 (Or.inl (by unfold kP; omega))
  refine ⟨by
      rw [hsh]
      refine a1.kept hn (fun u => ?_) (fun u => ?_)
      · by_cases e : u = o
        · rw [e]; exact hkd
        · exact (hp u e).1
      · by_cases e : u = o
        · rw [e]; exact hcp
        · exact (hp u e).2.1, hsh.trans a2, fun k hk => ?_, by rw [g0.2]; exact a4, by rw [g0.2]; exact a5, by rw [g0.1, hn]; exact a6, by rw [g0.1, htk]; exact a7, fun u hu => by rw [g1.2]; exact a8 u hu, fun u hu => by rw [g2.2, hn]; exact a9 u hu, fun u hu => ?_, fun u hu => ?_, hcl⟩
  · have g := ha k (Or.inr (by unfold kP; omega))
    rw [g.1, g.2]; exact a3 k hk
  · exact (a10 u hu).kept (hs u) hn (ha _ (Or.inl (by unfold kP; omega))) (ha _ (Or.inl (by unfold kP; omega)))
  · rw [hn] at hu
    by_cases e : u = o
    · rw [e]; exact hP
    · exact (a11 u hu).kept (hp u e) (fun d hd => ha _ (by unfold kP; omega))
theorem zAg_si (ω : yW) (k i : Nat) (x : Int32) {j : Nat} (h : j ≠ k) : zAg ω (ysi ω k i x) j := ⟨funext fun _ => yu_ne _ _ (Or.inl h), rfl⟩
theorem zAg_sf (ω : yW) (k i : Nat) (x : Option Nat) {j : Nat} (h : j ≠ k) : zAg ω (ysf ω k i x) j := ⟨rfl, funext fun _ => yu_ne _ _ (Or.inl h)⟩
theorem zSp.rf (σ : zS) (o : Nat) : zSp σ σ o := ⟨rfl, rfl, fun _ => rfl, rfl, fun _ => rfl, fun _ => rfl, rfl⟩
theorem zSt.rf (σ : zS) (t : Nat) : zSt σ σ t := ⟨rfl, fun _ => rfl, fun _ => rfl⟩
/-- setters: a thread's int, its place, its ended acts -/
theorem zC_sth {σ : zS} {μ ω : yW} {t f : Nat} {x : Int32} (h : zC σ μ ω) (ht : t < 6) (h1 : 2 ≤ f) (h3 : f ≠ 4) : zC (zsth σ f t x) μ (ysi ω (10 + t) f x) := by
  refine zC_thread h ht rfl (fun k hk _ => zAg_si ω _ f x hk) rfl rfl (fun o => zSp.rf σ o) (fun u hu => ⟨rfl, fun g => yu_ne _ _ (Or.inr hu), fun _ => rfl⟩) h.2.2.2.2.2.2.2.2.2.2.2 ?_
  obtain ⟨a1, a2, a3, a4, a5, a6⟩ := h.2.2.2.2.2.2.2.2.2.1 t ht
  refine ⟨(yu_ne _ _ (Or.inr (by omega))).trans a1, a2, a3, fun g b1 b2 b3 => ?_, fun q hq => (yu_ne _ _ (Or.inl (by omega))).trans (a5 q hq), a6⟩
  show yu _ _ _ _ _ _ = yu _ _ _ _ _ _
  by_cases e : g = f
  · rw [e, yu_same, yu_same]
  · rw [yu_ne _ _ (Or.inr e), yu_ne _ _ (Or.inl e)]; exact a4 g b1 b2 b3
theorem zC_swh {σ : zS} {μ ω : yW} {t : Nat} {x : Option Nat} (h : zC σ μ ω) (ht : t < 6) (hx : ∀ o, x = some o → o < zn σ) : zC (zswh σ t x) μ (ysf ω (10 + t) 4 (x.map kP)) := by
  refine zC_thread h ht rfl (fun k hk _ => zAg_sf ω _ 4 _ hk) rfl rfl (fun o => zSp.rf σ o) (fun u hu => ⟨va_up_ne _ _ hu, fun g => rfl, fun _ => rfl⟩) (h.2.2.2.2.2.2.2.2.2.2.2.sfo fun j hj => by
    cases x with
    | none => cases hj
    | some o =>
      cases hj
      rw [(h.1.2.2.2.2.2 o (hx o rfl)).2.2.2.1]
      exact fun z => nomatch z) ?_
  obtain ⟨a1, a2, a3, a4, a5, a6⟩ := h.2.2.2.2.2.2.2.2.2.1 t ht
  refine ⟨a1, (yu_ne _ _ (Or.inr (by omega))).trans a2, ?_, a4, a5, fun o ho => hx o ?_⟩
  · show yu _ _ _ _ _ _ = _
    rw [yu_same]
    show _ = (va_up (zwh σ) t x t).map kP
    rw [va_up_self]
  · have : zwh (zswh σ t x) t = x := va_up_self _ _ _
    rw [this] at ho; exact ho
theorem zC_sen {σ : zS} {μ ω : yW} {t q : Nat} {x : Int32} (h : zC σ μ ω) (ht : t < 6) : zC (zsen σ t q x) μ (ysi ω (20 + t) q x) := by
  refine zC_thread h ht rfl (fun k _ hk => zAg_si ω _ q x hk) rfl rfl (fun o => zSp.rf σ o) (fun u hu => ⟨rfl, fun g => rfl, fun g => yu_ne _ _ (Or.inl hu)⟩) h.2.2.2.2.2.2.2.2.2.2.2 ?_
  obtain ⟨a1, a2, a3, a4, a5, a6⟩ := h.2.2.2.2.2.2.2.2.2.1 t ht
  refine ⟨(yu_ne _ _ (Or.inl (by omega))).trans a1, a2, a3, fun g b1 b2 b3 => (yu_ne _ _ (Or.inl (by omega))).trans (a4 g b1 b2 b3), fun g hg => ?_, a6⟩
  show yu _ _ _ _ _ _ = yu _ _ _ _ _ _
  by_cases e : g = q
  · rw [e, yu_same, yu_same]
  · rw [yu_ne _ _ (Or.inr e), yu_ne _ _ (Or.inr e)]; exact a5 g hg
