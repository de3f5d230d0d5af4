/-! rows of threads -/
abbrev kR (j o : Nat) : Nat := kP o + 1 + 2 * j
def zrv (σ : zS) (j o : Nat) : Prop := o < zn σ ∧ (j = 0 ∨ (zkd σ o = 0 ∧ j < 3))
theorem zC.row {σ : zS} {μ ω : yW} {j o : Nat} (h : zC σ μ ω) (hv : zrv σ j o) : zR (zrw σ j o) ω (kR j o) ∧ ω.1 (kR j o) = some (.inl 2) ∧ ω.1 (kR j o + 1) = some (.inr (3, 6)) := by
  obtain ⟨ho, hj⟩ := hv
  have hp := h.pl ho
  have hs := h.1.2.2.2.2.2 o ho
  rcases hj with rfl | ⟨hk, hj⟩
  · exact ⟨hp.2.2.2.1, hs.2.2.2.2.1, hs.2.2.2.2.2.1⟩
  · have h0 := hp.2.2.2.2.1 hk
    have h1 := hs.2.2.2.2.2.2.1 hk
    rcases (show j = 0 ∨ j = 1 ∨ j = 2 by omega) with rfl | rfl | rfl
    · exact ⟨hp.2.2.2.1, hs.2.2.2.2.1, hs.2.2.2.2.2.1⟩
    · exact ⟨h0.2.2.2.2.1, h1.1, h1.2.1⟩
    · exact ⟨h0.2.2.2.2.2, h1.2.2.1, h1.2.2.2⟩
theorem zC_srw {σ : zS} {μ ω ω' : yW} {j o : Nat} {l : List Nat} (h : zC σ μ ω) (hv : zrv σ j o) (hsh : ω'.1 = ω.1) (ha : ∀ k, k ≠ kR j o → k ≠ kR j o + 1 → zAg ω ω' k) (hcl : yCl ω') (hl : zR l ω' (kR j o)) : zC (zsrw σ j o l) μ ω' := by
  obtain ⟨ho, hj⟩ := hv
  have hj3 : j < 3 := by omega
  refine zC_place h ho hsh (fun k hk => ha k (by unfold kR kP at *; omega) (by unfold kR kP at *; omega)) rfl rfl rfl rfl (fun u hu => ⟨rfl, rfl, fun q => yu_ne _ _ (Or.inr hu), rfl, fun _ => rfl, fun _ => rfl, rfl⟩) (fun u => zSt.rf σ u) hcl ?_
  obtain ⟨a1, a2, a3, a4, a5, a6, a7, a8, a9, a10, a11⟩ := h.pl ho
  have g0 := ha (kP o) (by unfold kR kP; omega) (by unfold kR kP; omega)
  have g7 := ha (kP o + 7) (by unfold kR kP; omega) (by unfold kR kP; omega)
  have hrw : ∀ q, q ≠ j → zrw (zsrw σ j o l) q o = zrw σ q o := fun q hq => yu_ne _ _ (Or.inl hq)
  have hrj : zrw (zsrw σ j o l) j o = l := yu_same _ _ _ _
  have hrow : ∀ q, q < 3 → zR (zrw σ q o) ω (kR q o) → zR (zrw (zsrw σ j o l) q o) ω' (kR q o) := by
    intro q hq hz
    by_cases e : q = j
    · rw [e, hrj]; exact hl
    · rw [hrw q e]
      exact hz.kept (ha _ (by unfold kR kP; omega) (by unfold kR kP; omega)) (ha _ (by unfold kR kP; omega) (by unfold kR kP; omega))
  refine ⟨by rw [g0.1]; exact a1, by rw [g0.1]; exact a2, by rw [g0.2]; exact a3, hrow 0 (by omega) a4, fun hk => ?_, fun hk => ?_, fun hk => by rw [g0.1]; exact a7 hk, fun hk => by rw [g0.1]; exact a8 hk, fun hk => by rw [g0.1]; exact a9 hk, fun hk => ?_, a11⟩
  · obtain ⟨b1, b2, b3, b4, b5, b6⟩ := a5 hk
    rw [g0.1, g0.2]
    exact ⟨b1, b2, b3, b4, hrow 1 (by omega) b5, hrow 2 (by omega) b6⟩
  · obtain ⟨b1, b2, b3, b4, b5⟩ := a6 hk
    rw [g0.1, g0.2, g7.1]
    exact ⟨b1, b2, b3, b4, b5⟩
  · obtain ⟨b1, b2, b3, b4⟩ := a10 hk
    rw [g0.1, g0.2, g7.1]
    exact ⟨b1, b2, b3, b4⟩
section ZRW
variable {G : yG} {i : yM} {Qf : yQT} {pc : Nat} {ls : List (Option yV)} {st : List yV} {σ : zS} {μ : yW} {cs sl : Nat} {sh0 : Nat → Option ySh} {j o : Nat}
theorem zr_rlen {ix : Nat} {ref host : String} (hd : decode (yMb i) pc = .ok (.getfield ix, 3)) (hv : zrv σ j o) (site : ySF (yMy i).cls ix ref host 2 1 = true) (k : yWP G i Qf sh0 (pc + 3) ls (yi (nI (zrw σ j o).length) :: st) (zC σ μ) cs sl) : yWP G i Qf sh0 pc ls (yr (kR j o) :: st) (zC σ μ) cs sl := by
  intro ω h
  refine yr_geti hd (h.row hv).2.1 site rfl ?_
  rw [(h.row hv).1.2.2.1]
  exact k ω h
theorem zr_rthr {ix : Nat} {ref host : String} (hd : decode (yMb i) pc = .ok (.getfield ix, 3)) (hv : zrv σ j o) (site : ySF (yMy i).cls ix ref host 2 0 = true) (k : yWP G i Qf sh0 (pc + 3) ls (yr (kR j o + 1) :: st) (zC σ μ) cs sl) : yWP G i Qf sh0 pc ls (yr (kR j o) :: st) (zC σ μ) cs sl := by
  intro ω h
  refine yr_getr hd (h.row hv).2.1 site rfl ?_
  rw [(h.row hv).1.2.2.2.1]
  exact k ω h
theorem zr_rld {q u : Nat} {x : Int32} (hd : decode (yMb i) pc = .ok (.aaload, 1)) (hv : zrv σ j o) (hx : x = nI q) (hu : (zrw σ j o)[q]? = some u) (k : yWP G i Qf sh0 (pc + 1) ls (yr (10 + u) :: st) (zC σ μ) cs sl) : yWP G i Qf sh0 pc ls (yi x :: yr (kR j o + 1) :: st) (zC σ μ) cs sl := by
  intro ω h
  have hr := (h.row hv).1
  obtain ⟨hq, hu⟩ := List.getElem?_eq_some_iff.mp hu
  refine yr_aald3 (n := 6) (j := q) hd (h.row hv).2.2 (by rw [hx]; exact nI_pos (by have := hr.1; omega)) (by rw [hx]; exact nI_clamp (by have := hr.1; omega)) (by have := hr.1; omega) ?_
  rw [hr.2.2.2.2 q hq, hu]
  exact k ω h
theorem zr_rst {q t : Nat} {x : Int32} (hd : decode (yMb i) pc = .ok (.aastore, 1)) (hv : zrv σ j o) (ht : t < 6) (hx : x = nI q) (hq : q < (zrw σ j o).length) (k : yWP G i Qf sh0 (pc + 1) ls st (zC (zsrw σ j o ((zrw σ j o).set q t)) μ) cs sl) : yWP G i Qf sh0 pc ls (yr (10 + t) :: yi x :: yr (kR j o + 1) :: st) (zC σ μ) cs sl := by
  intro ω h
  have hr := (h.row hv).1
  refine yr_aast (n := 6) (j := q) (tc := 3) hd (Or.inl rfl) rfl (h.row hv).2.2 (h.sT ht) rfl (Or.inl rfl) (by rw [hx]; exact nI_pos (by have := hr.1; omega)) (by rw [hx]; exact nI_clamp (by have := hr.1; omega)) (by have := hr.1; omega) (k _ ?_)
  refine zC_srw h hv rfl (fun k' _ h2 => zAg_sf ω _ _ _ h2) (h.cl.sfo fun j9 hj9 => by cases hj9; rw [h.sT ht]; exact fun z => nomatch z) ⟨by rw [List.length_set]; exact hr.1, fun u hu => ?_, by rw [List.length_set]; exact hr.2.2.1, ?_, fun a ha => ?_⟩
  · rcases List.mem_or_eq_of_mem_set hu with h1 | h1
    · exact hr.2.1 u h1
    · rw [h1]; exact ht
  · exact (yu_ne _ _ (Or.inl (by omega))).trans hr.2.2.2.1
  · show yu _ _ _ _ _ _ = _
    rw [List.length_set] at ha
    by_cases e : a = q
    · subst e
      rw [yu_same, List.getElem_set_self]
    · rw [yu_ne _ _ (Or.inr e), List.getElem_set_ne (Ne.symm e)]
      exact hr.2.2.2.2 a ha
theorem zr_rcut {q ix : Nat} {x : Int32} {ref host : String} (hd : decode (yMb i) pc = .ok (.putfield ix, 3)) (hv : zrv σ j o) (site : ySF (yMy i).cls ix ref host 2 1 = true) (hx : x = nI q) (hq : q ≤ (zrw σ j o).length) (k : yWP G i Qf sh0 (pc + 3) ls st (zC (zsrw σ j o ((zrw σ j o).take q)) μ) cs sl) : yWP G i Qf sh0 pc ls (yi x :: yr (kR j o) :: st) (zC σ μ) cs sl := by
  intro ω h
  have hr := (h.row hv).1
  refine yr_puti hd (h.row hv).2.1 site rfl rfl rfl ⟨rfl, rfl⟩ (k _ ?_)
  refine zC_srw h hv rfl (fun k' h1 _ => zAg_si ω _ _ _ h1) h.cl ⟨by rw [List.length_take]; have := hr.1; omega, fun u hu => hr.2.1 u (List.mem_of_mem_take hu), ?_, hr.2.2.2.1, fun a ha => ?_⟩
  · show yu _ _ _ _ _ _ = _
    rw [yu_same, hx, List.length_take, Nat.min_eq_left hq]
  · rw [List.getElem_take]
    rw [List.length_take] at ha
    exact hr.2.2.2.2 a (by omega)
end ZRW
def zat (l : List Nat) (x : Int32) : Option Nat := if x < 0 then none else l[x.toNatClampNeg]?

set_option maxHeartbeats 4000000 in
set_option maxRecDepth 20000 in
theorem c_R_at {G : yG} {μ : yW} {σ : zS} {j o : Nat} {x : Int32} (hv : zrv σ j o) (h6 : (zrw σ j o).length ≤ 6) : zCT G m_R_at [yr (kR j o), yi x] σ μ (fun r σ' => r = some (yo ((zat (zrw σ j o) x).map (10 + ·))) ∧ σ' = σ) := by
  refine zCT_of (by decide) rfl (ycat_of rfl) (Nat.le_of_ble_eq_true rfl) ?_
  refine zr_iload_n d_R_at_0 rfl ?_
  refine zr_if_lt (tgt := 12) d_R_at_1 (by decide) (fun c1 => ?_) (fun c1 => ?_)
  · skip
    refine zr_null d_R_at_12 ?_
    refine zr_goto (tgt := 22) d_R_at_13 (by decide) ?_
    refine zr_reta d_R_at_22 rfl (Or.inl ⟨_, rfl⟩) (by decide) (by decide) ?_
    first
      | (refine ⟨?_, rfl⟩; simp [zat, c1]; done)
      | (refine ⟨?_, rfl⟩
         have hxc : x.toNatClampNeg = q := by rw [hx]; exact nI_clamp (by omega)
         simp [zat, c1, hxc, List.getElem?_eq_getElem hq]; done)
      | (refine ⟨?_, rfl⟩
         obtain ⟨q, hq, hx⟩ := nI_of c1
         rw [hx, nI_ltI hq (by omega)] at c9
         have hxc : x.toNatClampNeg = q := by rw [hx]; exact nI_clamp hq
         simp [zat, c1, hxc, List.getElem?_eq_none (Nat.not_lt.mp c9)]; done)
  · skip
    refine zr_iload_n d_R_at_4 rfl ?_
    refine zr_aload_n d_R_at_5 rfl ?_
    refine zr_rlen d_R_at_6 (by assumption) sf_R_at_6 ?_
    refine zr_icmp_lt (tgt := 16) d_R_at_9 (by decide) (fun c9 => ?_) (fun c9 => ?_)
    · skip
      refine zr_aload_n d_R_at_16 rfl ?_
      refine zr_rthr d_R_at_17 (by assumption) sf_R_at_17 ?_
      refine zr_iload_n d_R_at_20 rfl ?_
      obtain ⟨q, hq, hx⟩ : ∃ q, q < (zrw σ j o).length ∧ x = nI q := by
        obtain ⟨q, hq, hx⟩ := nI_of c1
        refine ⟨q, ?_, hx⟩
        rw [hx, nI_ltI hq (by omega)] at c9
        exact c9
      refine zr_rld d_R_at_21 hv hx (List.getElem?_eq_getElem hq) ?_
      refine zr_reta d_R_at_22 rfl (Or.inl ⟨_, rfl⟩) (by decide) (by decide) ?_
      first
        | (refine ⟨?_, rfl⟩; simp [zat, c1]; done)
        | (refine ⟨?_, rfl⟩
           have hxc : x.toNatClampNeg = q := by rw [hx]; exact nI_clamp (by omega)
           simp [zat, c1, hxc, List.getElem?_eq_getElem hq]; done)
        | (refine ⟨?_, rfl⟩
           obtain ⟨q, hq, hx⟩ := nI_of c1
           rw [hx, nI_ltI hq (by omega)] at c9
           have hxc : x.toNatClampNeg = q := by rw [hx]; exact nI_clamp hq
           simp [zat, c1, hxc, List.getElem?_eq_none (Nat.not_lt.mp c9)]; done)
    · skip
      refine zr_null d_R_at_12 ?_
      refine zr_goto (tgt := 22) d_R_at_13 (by decide) ?_
      refine zr_reta d_R_at_22 rfl (Or.inl ⟨_, rfl⟩) (by decide) (by decide) ?_
      first
        | (refine ⟨?_, rfl⟩; simp [zat, c1]; done)
        | (refine ⟨?_, rfl⟩
           have hxc : x.toNatClampNeg = q := by rw [hx]; exact nI_clamp (by omega)
           simp [zat, c1, hxc, List.getElem?_eq_getElem hq]; done)
        | (refine ⟨?_, rfl⟩
           obtain ⟨q, hq, hx⟩ := nI_of c1
           rw [hx, nI_ltI hq (by omega)] at c9
           have hxc : x.toNatClampNeg = q := by rw [hx]; exact nI_clamp hq
           simp [zat, c1, hxc, List.getElem?_eq_none (Nat.not_lt.mp c9)]; done)

set_option maxHeartbeats 4000000 in
set_option maxRecDepth 20000 in
theorem c_R_add {G : yG} {μ : yW} {σ : zS} {j o t : Nat} (hv : zrv σ j o) (ht : t < 6) (h5 : (zrw σ j o).length < 6) : zCT G m_R_add [yr (kR j o), yr (10 + t)] σ μ (fun r σ' => r = none ∧ σ' = zsrw σ j o (zrw σ j o ++ [t])) := by
  refine zCT_of (by decide) rfl (ycat_of rfl) (Nat.le_of_ble_eq_true rfl) ?_
  refine zr_aload_n d_R_add_0 rfl ?_
  refine zr_rlen d_R_add_1 (by assumption) sf_R_add_1 ?_
  refine zr_bipush (v := 6) d_R_add_4 (by decide) ?_
  refine zr_icmp_ge (tgt := 29) d_R_add_6 (by decide) (fun c6 => ?_) (fun c6 => ?_)
  · skip
    exact absurd c6 (by rw [show (6 : Int32) = nI 6 from rfl, nI_leI (by omega) (by omega)]; omega)
  · skip
    refine zr_aload_n d_R_add_9 rfl ?_
    refine zr_rthr d_R_add_10 (by assumption) sf_R_add_10 ?_
    refine zr_aload_n d_R_add_13 rfl ?_
    refine zr_rlen d_R_add_14 (by assumption) sf_R_add_14 ?_
    refine zr_aload_n d_R_add_17 rfl ?_
    intro ω h
    have hr := (h.row hv).1
    have hsh := (h.row hv).2.1
    refine yr_aast (n := 6) (j := (zrw σ j o).length) (tc := 3) d_R_add_18 (Or.inl rfl) rfl (h.row hv).2.2 (h.sT ht) rfl (Or.inl rfl) (nI_pos (by omega)) (nI_clamp (by omega)) h5 ?_
    refine yr_aload_n d_R_add_19 rfl ?_
    refine yr_dup d_R_add_20 (fun _ => rfl) ?_
    refine yr_geti d_R_add_21 hsh sf_R_add_21 rfl ?_
    refine yr_iconst (v := 1) d_R_add_24 (by decide) ?_
    refine yr_iadd d_R_add_25 ?_
    refine yr_puti d_R_add_26 hsh sf_R_add_26 rfl rfl rfl ⟨rfl, rfl⟩ ?_
    refine yr_retv d_R_add_29 rfl (by decide) (by decide) ⟨_, zC_srw h hv rfl (fun k' h1 h2 => ⟨(zAg_si _ _ _ _ h1).1, (zAg_sf ω _ _ _ h2).2⟩) (h.cl.sfo fun j9 hj9 => by cases hj9; rw [h.sT ht]; exact fun z => nomatch z) ⟨by rw [List.length_append]; simp; omega, fun u hu => ?_, ?_, ?_, fun a ha => ?_⟩, rfl, rfl⟩
    · rcases List.mem_append.mp hu with h1 | h1
      · exact hr.2.1 u h1
      · rw [List.mem_singleton.mp h1]; exact ht
    · show yu _ _ _ _ _ _ = _
      rw [yu_same, List.length_append]
      show ω.2.1 (kR j o) 1 + 1 = _
      rw [hr.2.2.1, nI_1]; rfl
    · exact (yu_ne _ _ (Or.inl (by omega))).trans hr.2.2.2.1
    · show yu _ _ _ _ _ _ = _
      rw [List.length_append] at ha
      have ha' : a < (zrw σ j o).length + 1 := ha
      by_cases e : a = (zrw σ j o).length
      · subst e
        rw [yu_same, List.getElem_append_right (Nat.le_refl _)]
        simp
      · rw [yu_ne _ _ (Or.inr e), List.getElem_append_left (by omega)]
        exact hr.2.2.2.2 a (by omega)

theorem zrw_same {σ : zS} {j o : Nat} {l : List Nat} : zrw (zsrw σ j o l) j o = l := yu_same _ _ _ _
theorem yu_yu {α : Type} (S : Nat → Nat → α) (k i : Nat) (v w : α) : yu (yu S k i v) k i w = yu S k i w := by
  funext a b
  unfold yu
  split <;> rfl
theorem yu_self {α : Type} (S : Nat → Nat → α) (k i : Nat) : yu S k i (S k i) = S := by
  funext a b
  unfold yu
  split
  · rename_i h; rw [h.1, h.2]
  · rfl
theorem zsrw_twice {σ : zS} {j o : Nat} {l l' : List Nat} : zsrw (zsrw σ j o l) j o l' = zsrw σ j o l' := by
  show ((zth σ, zpl σ, zwh σ, zho σ, yu (yu (zrw σ) j o l) j o l', σ.2.2.2.2.2) : zS) = (zth σ, zpl σ, zwh σ, zho σ, yu (zrw σ) j o l', σ.2.2.2.2.2)
  rw [yu_yu]
theorem zsrw_self {σ : zS} {j o : Nat} : zsrw σ j o (zrw σ j o) = σ := by
  show ((zth σ, zpl σ, zwh σ, zho σ, yu (zrw σ) j o (zrw σ j o), σ.2.2.2.2.2) : zS) = σ
  rw [yu_self]
  rfl
set_option maxHeartbeats 4000000 in
set_option maxRecDepth 20000 in
theorem c_R_remove_loop {G : yG} {μ : yW} {σ : zS} {j o t : Nat} (hv : zrv σ j o) (ht : t < 6) (h6 : (zrw σ j o).length ≤ 6) (hall : ∀ u ∈ zrw σ j o, u < 6) : ∀ (m q kept : Nat) (cur : List Nat), m + q = (zrw σ j o).length → kept ≤ q → cur.length = (zrw σ j o).length → cur.take kept = ((zrw σ j o).take q).filter (fun u => u ≠ t) → cur.drop q = (zrw σ j o).drop q → (∀ u ∈ cur, u < 6) →
    yWP G m_R_remove (zQ G m_R_remove μ (fun r σ' => r = none ∧ σ' = zsrw σ j o ((zrw σ j o).filter (fun u => u ≠ t)))) μ.1 4 [some (yr (kR j o)), some (yr (10 + t)), some (yi (nI kept)), some (yi (nI q))] [] (zC (zsrw σ j o cur) μ) 0 0 := by
  intro m
  induction m with
  | zero =>
    intro q kept cur hm hkq hcl htk hdr hall2
    have hv2 : zrv (zsrw σ j o cur) j o := hv
    have hq : q = (zrw σ j o).length := by omega
    refine zr_iload_n d_R_remove_4 rfl ?_
    refine zr_aload_n d_R_remove_5 rfl ?_
    refine zr_rlen d_R_remove_6 (by assumption) sf_R_remove_6 ?_
    refine zr_icmp_ge (tgt := 43) d_R_remove_9 (by decide) (fun c9 => ?_) (fun c9 => ?_)
    · skip
      refine zr_aload_n d_R_remove_43 rfl ?_
      refine zr_iload_n d_R_remove_44 rfl ?_
      refine zr_rcut (q := kept) d_R_remove_45 hv2 sf_R_remove_45 rfl (by rw [zrw_same]; omega) ?_
      exact zr_retv d_R_remove_48 rfl (by decide) (by decide) ⟨rfl, by rw [zrw_same, zsrw_twice, htk, hq, List.take_length]⟩
    · exact absurd c9 (by rw [zrw_same, hcl, ← hq]; exact fun z => z (nI_le (Nat.le_refl _) (by omega)))
  | succ m ih =>
    intro q kept cur hm hkq hcl htk hdr hall2
    have hv2 : zrv (zsrw σ j o cur) j o := hv
    have hq : q < (zrw σ j o).length := by omega
    have hqc : q < cur.length := by omega
    have hcq : cur[q] = (zrw σ j o)[q] := by
      have h1 : (cur.drop q)[0]? = ((zrw σ j o).drop q)[0]? := by rw [hdr]
      rw [List.getElem?_drop, List.getElem?_drop, Nat.add_zero, List.getElem?_eq_getElem hqc, List.getElem?_eq_getElem hq] at h1
      exact Option.some.inj h1
    have hdr2 : cur.drop (q + 1) = (zrw σ j o).drop (q + 1) := by
      rw [← List.drop_drop, ← List.drop_drop, hdr]
    have htq : (zrw σ j o).take (q + 1) = (zrw σ j o).take q ++ [(zrw σ j o)[q]] := by rw [List.take_add_one, List.getElem?_eq_getElem hq]; rfl
    obtain ⟨u, hcu⟩ : ∃ u, cur[q]? = some u := ⟨_, List.getElem?_eq_getElem hqc⟩
    have hcu2 : cur[q] = u := by rw [List.getElem?_eq_getElem hqc] at hcu; exact Option.some.inj hcu
    have hu6 : u < 6 := by rw [← hcu2]; exact hall2 _ (List.getElem_mem hqc)
    rw [hcu2] at hcq
    refine zr_iload_n d_R_remove_4 rfl ?_
    refine zr_aload_n d_R_remove_5 rfl ?_
    refine zr_rlen d_R_remove_6 (by assumption) sf_R_remove_6 ?_
    refine zr_icmp_ge (tgt := 43) d_R_remove_9 (by decide) (fun c9 => absurd c9 (by rw [zrw_same, hcl]; exact nI_ge hq (by omega))) (fun c9 => ?_)
    refine zr_aload_n d_R_remove_12 rfl ?_
    refine zr_rthr d_R_remove_13 (by assumption) sf_R_remove_13 ?_
    refine zr_iload_n d_R_remove_16 rfl ?_
    refine zr_rld (q := q) (u := u) d_R_remove_17 hv2 rfl (by rw [zrw_same]; exact hcu) ?_
    refine zr_aload_n d_R_remove_18 rfl ?_
    refine zr_acmp_eq (tgt := 37) d_R_remove_19 (by decide) (fun ω h a ha => by
      rcases ha with ha | ha
      · cases ha; rw [h.sT hu6]; exact fun z => nomatch z
      · cases ha; rw [h.sT ht]; exact fun z => nomatch z) (fun c19 => ?_) (fun c19 => ?_)
    · skip
      refine zr_iinc (v := nI (q + 1)) d_R_remove_37 rfl (nI_1 q) (by decide) rfl ?_
      refine zr_goto (tgt := 4) d_R_remove_40 (by decide) ?_
      first
        | (refine ih (q + 1) kept cur (by omega) (by omega) hcl ?_ hdr2 hall2
           rw [htq, List.filter_append, htk]
           have e9 : (zrw σ j o)[q] = t := by rw [← hcq]; have := Option.some.inj c19; omega
           simp [e9]; done)
        | (refine ih (q + 1) (kept + 1) (cur.set kept u) (by omega) (by omega) (by rw [List.length_set]; exact hcl) ?_ ?_ (fun w hw => ?_)
           · have e9 : ¬ u = t := fun z => c19 (by rw [z])
             rw [htq, List.filter_append, ← htk, List.take_add_one, List.getElem?_set_self (by omega), List.take_set_of_le (Nat.le_refl _), ← hcq]
             simp [e9]
           · rw [List.drop_set_of_lt (by omega)]; exact hdr2
           · rcases List.mem_or_eq_of_mem_set hw with h1 | h1
             · exact hall2 w h1
             · rw [h1]; exact hu6)
    · skip
      refine zr_aload_n d_R_remove_22 rfl ?_
      refine zr_rthr d_R_remove_23 (by assumption) sf_R_remove_23 ?_
      refine zr_iload_n d_R_remove_26 rfl ?_
      refine zr_aload_n d_R_remove_27 rfl ?_
      refine zr_rthr d_R_remove_28 (by assumption) sf_R_remove_28 ?_
      refine zr_iload_n d_R_remove_31 rfl ?_
      refine zr_rld (q := q) (u := u) d_R_remove_32 hv2 rfl (by rw [zrw_same]; exact hcu) ?_
      refine zr_rst (q := kept) d_R_remove_33 hv2 hu6 rfl (by rw [zrw_same]; omega) ?_
      rw [zrw_same, zsrw_twice]
      refine zr_iinc (v := nI (kept + 1)) d_R_remove_34 rfl (nI_1 kept) (by decide) rfl ?_
      refine zr_iinc (v := nI (q + 1)) d_R_remove_37 rfl (nI_1 q) (by decide) rfl ?_
      refine zr_goto (tgt := 4) d_R_remove_40 (by decide) ?_
      first
        | (refine ih (q + 1) kept cur (by omega) (by omega) hcl ?_ hdr2 hall2
           rw [htq, List.filter_append, htk]
           have e9 : (zrw σ j o)[q] = t := by rw [← hcq]; have := Option.some.inj c19; omega
           simp [e9]; done)
        | (refine ih (q + 1) (kept + 1) (cur.set kept u) (by omega) (by omega) (by rw [List.length_set]; exact hcl) ?_ ?_ (fun w hw => ?_)
           · have e9 : ¬ u = t := fun z => c19 (by rw [z])
             rw [htq, List.filter_append, ← htk, List.take_add_one, List.getElem?_set_self (by omega), List.take_set_of_le (Nat.le_refl _), ← hcq]
             simp [e9]
           · rw [List.drop_set_of_lt (by omega)]; exact hdr2
           · rcases List.mem_or_eq_of_mem_set hw with h1 | h1
             · exact hall2 w h1
             · rw [h1]; exact hu6)

theorem zlist {j o : Nat} {σ : zS} {μ ω : yW} (h : zC σ μ ω) (hv : zrv σ j o) : (zrw σ j o).length ≤ 6 ∧ ∀ u ∈ zrw σ j o, u < 6 := ⟨(h.row hv).1.1, (h.row hv).1.2.1⟩

set_option maxHeartbeats 4000000 in
set_option maxRecDepth 20000 in
theorem c_R_remove {G : yG} {μ : yW} {σ : zS} {j o t : Nat} (hv : zrv σ j o) (ht : t < 6) (h6 : (zrw σ j o).length ≤ 6) (hall : ∀ u ∈ zrw σ j o, u < 6) : zCT G m_R_remove [yr (kR j o), yr (10 + t)] σ μ (fun r σ' => r = none ∧ σ' = zsrw σ j o ((zrw σ j o).filter (fun u => u ≠ t))) := by
  refine zCT_of (by decide) rfl (ycat_of rfl) (Nat.le_of_ble_eq_true rfl) ?_
  refine zr_iconst (v := 0) d_R_remove_0 (by decide) ?_
  refine zr_istore_n d_R_remove_1 (by decide) rfl ?_
  refine zr_iconst (v := 0) d_R_remove_2 (by decide) ?_
  refine zr_istore_n d_R_remove_3 (by decide) rfl ?_
  have k := c_R_remove_loop (G := G) (μ := μ) hv ht h6 hall (zrw σ j o).length 0 0 (zrw σ j o) rfl (Nat.le_refl _) rfl rfl rfl hall
  rw [zsrw_self] at k
  exact k

set_option maxHeartbeats 4000000 in
set_option maxRecDepth 20000 in
theorem c_R_removeFirst {G : yG} {μ : yW} {σ : zS} {j o : Nat} (hv : zrv σ j o) (h6 : (zrw σ j o).length ≤ 6) (hall : ∀ u ∈ zrw σ j o, u < 6) : zCT G m_R_removeFirst [yr (kR j o)] σ μ (fun r σ' => r = some (yo (((zrw σ j o)[0]?).map (10 + ·))) ∧ σ' = (match zrw σ j o with | [] => σ | t :: _ => zsrw σ j o ((zrw σ j o).filter (fun u => u ≠ t)))) := by
  refine zCT_of (by decide) rfl (ycat_of rfl) (Nat.le_of_ble_eq_true rfl) ?_
  refine zr_aload_n d_R_removeFirst_0 rfl ?_
  refine zr_iconst (v := 0) d_R_removeFirst_1 (by decide) ?_
  refine zr_call (zrunV (As := [yi 0]) (rest := []) d_R_removeFirst_2 (fun ω h => (h.row hv).2.1) rfl (c_R_at hv h6) 1 rfl (by decide +kernel) cw_R_at (Nat.le_of_ble_eq_true rfl) (ycat_of rfl) (by decide) (by decide)) (fun r σ9 hp => ?_)
  obtain ⟨rfl, rfl⟩ := hp
  rw [show zat (zrw σ9 j o) 0 = (zrw σ9 j o)[0]? from rfl]
  obtain ⟨w, hw⟩ : ∃ w, w = (zrw σ9 j o)[0]? := ⟨_, rfl⟩
  rw [← hw]
  refine zr_astore_n d_R_removeFirst_5 (by decide) rfl ?_
  refine zr_aload_n d_R_removeFirst_6 rfl ?_
  refine zr_ifnull (tgt := 15) d_R_removeFirst_7 (by decide) (fun c7 => ?_) (fun a7 c7 => ?_)
  · cases w with
    | some t => cases c7
    | none =>
      have hn : zrw σ9 j o = [] := by
        cases hl : zrw σ9 j o with
        | nil => rfl
        | cons a b => rw [hl] at hw; cases hw
      rw [hn]
      refine zr_aload_n d_R_removeFirst_15 rfl ?_
      exact zr_reta d_R_removeFirst_16 rfl (Or.inl ⟨_, rfl⟩) (by decide) (by decide) ⟨rfl, rfl⟩
  · cases w with
    | none => cases c7
    | some t =>
      obtain ⟨b, hl⟩ : ∃ b, zrw σ9 j o = t :: b := by
        cases hl : zrw σ9 j o with
        | nil => rw [hl] at hw; cases hw
        | cons a b => rw [hl] at hw; cases hw; exact ⟨b, rfl⟩
      have ht : t < 6 := hall t (by rw [hl]; exact List.mem_cons_self)
      refine zr_aload_n d_R_removeFirst_10 rfl ?_
      refine zr_aload_n d_R_removeFirst_11 rfl ?_
      refine zr_call (zrunV (As := [yr (10 + t)]) (rest := []) d_R_removeFirst_12 (fun ω h => (h.row hv).2.1) rfl (c_R_remove hv ht h6 hall) 1 rfl (by decide +kernel) cw_R_remove (Nat.le_of_ble_eq_true rfl) (ycat_of rfl) (by decide) (by decide)) (fun r σ8 hp => ?_)
      obtain ⟨rfl, rfl⟩ := hp
      refine zr_aload_n d_R_removeFirst_15 rfl ?_
      refine zr_reta d_R_removeFirst_16 rfl (Or.inl ⟨_, rfl⟩) (by decide) (by decide) ⟨rfl, ?_⟩
      rw [hl]
