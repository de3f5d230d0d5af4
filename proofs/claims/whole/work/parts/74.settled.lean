/-! rows that are settled -/
def zSd (σ : zS) (o : Nat) : Prop := ∀ i u, (zrw σ 0 o)[i]? = some u → zcan σ o u = true → ∃ v, v ∈ (zrw σ 0 o).take i ∧ zsort (zkd σ o) (zth σ 8 v) = zsort (zkd σ o) (zth σ 8 u)
theorem zsort_01 (c : Nat) (a : Int32) : zsort c a = 0 ∨ zsort c a = 1 := by
  unfold zsort
  split
  · split
    · exact Or.inr rfl
    · exact Or.inl rfl
  · exact Or.inl rfl
theorem zbit_01 {σ : zS} {o t : Nat} : (zsort (zkd σ o) (zth σ 8 t) = 0 ∧ zbit σ o t = 1) ∨ (zsort (zkd σ o) (zth σ 8 t) = 1 ∧ zbit σ o t = 2) := by
  unfold zbit
  rcases zsort_01 (zkd σ o) (zth σ 8 t) with h | h
  · rw [h]; exact Or.inl ⟨rfl, by decide⟩
  · rw [h]; exact Or.inr ⟨rfl, by decide⟩
theorem zbit_eq {σ : zS} {o t u : Nat} (h : zsort (zkd σ o) (zth σ 8 t) = zsort (zkd σ o) (zth σ 8 u)) : zbit σ o t = zbit σ o u := by unfold zbit; rw [h]
theorem zbit_sort {σ : zS} {o t u : Nat} (h : zbit σ o t = zbit σ o u) : zsort (zkd σ o) (zth σ 8 t) = zsort (zkd σ o) (zth σ 8 u) := by
  rcases zbit_01 (σ := σ) (o := o) (t := t) with ⟨a1, a2⟩ | ⟨a1, a2⟩ <;> rcases zbit_01 (σ := σ) (o := o) (t := u) with ⟨b1, b2⟩ | ⟨b1, b2⟩
  · rw [a1, b1]
  · rw [a2, b2] at h; exact absurd h (by decide)
  · rw [a2, b2] at h; exact absurd h (by decide)
  · rw [a1, b1]
def x4 (x : Int32) : Prop := x = 0 ∨ x = 1 ∨ x = 2 ∨ x = 3
theorem x4_or {x b c : Int32} (h : x4 x) (hb : b = 1 ∨ b = 2) (hc : c = 1 ∨ c = 2) : x4 (x ||| b) ∧ (¬ (x &&& c) = 0 → ¬ ((x ||| b) &&& c) = 0) ∧ ¬ ((x ||| b) &&& b) = 0 ∧ (¬ ((x ||| b) &&& c) = 0 → ¬ (x &&& c) = 0 ∨ b = c) := by
  rcases h with rfl | rfl | rfl | rfl <;> rcases hb with rfl | rfl <;> rcases hc with rfl | rfl <;> (unfold x4; decide)
theorem zbit_12 {σ : zS} {o t : Nat} : zbit σ o t = 1 ∨ zbit σ o t = 2 := by
  rcases zbit_01 (σ := σ) (o := o) (t := t) with ⟨-, a2⟩ | ⟨-, a2⟩
  · exact Or.inl a2
  · exact Or.inr a2
theorem take_cases {l : List Nat} {p t v : Nat} (hp : l[p]? = some t) (hv : v ∈ l.take (p + 1)) : v ∈ l.take p ∨ v = t := by
  have hl := (List.getElem?_eq_some_iff.mp hp).1
  rw [List.take_succ_eq_append_getElem hl] at hv
  rcases List.mem_append.mp hv with h | h
  · exact Or.inl h
  · have h := List.mem_singleton.mp h
    rw [(List.getElem?_eq_some_iff.mp hp).2] at h
    exact Or.inr h
theorem take_grow {l : List Nat} {p t v : Nat} (hp : l[p]? = some t) (hv : v ∈ l.take p ∨ v = t) : v ∈ l.take (p + 1) := by
  have hl := (List.getElem?_eq_some_iff.mp hp).1
  rw [List.take_succ_eq_append_getElem hl]
  rcases hv with h | h
  · exact List.mem_append_left _ h
  · rw [(List.getElem?_eq_some_iff.mp hp).2, h]
    exact List.mem_append_right _ (List.mem_singleton.mpr rfl)
theorem zgo_sd {o : Nat} {σ : zS} (hs : zSd σ o) : ∀ (m p : Nat) (x : Int32), (zrw σ 0 o).length = p + m → x4 x → (∀ v, v ∈ (zrw σ 0 o).take p → ¬ (x &&& zbit σ o v) = 0) → zgo o m x p σ = (σ, p + m)
  | 0, p, x, _, _, _ => rfl
  | m + 1, p, x, hl, hx, hv => by
    have hp : p < (zrw σ 0 o).length := by omega
    obtain ⟨t, ht⟩ : ∃ t, (zrw σ 0 o)[p]? = some t := ⟨_, List.getElem?_eq_getElem hp⟩
    rw [zgo_ref ht (fun ⟨h1, h2⟩ => by
      obtain ⟨v, hv1, hv2⟩ := hs p t ht h2
      have := hv v hv1
      rw [zbit_eq hv2] at this
      exact this h1)]
    have h9 := zgo_sd hs m (p + 1) (x ||| zbit σ o t) (by omega) (x4_or hx zbit_12 (zbit_12 (σ := σ) (o := o) (t := t))).1 (fun v hv9 => by
      rcases take_cases ht hv9 with h | h
      · exact (x4_or hx zbit_12 (zbit_12 (t := v))).2.1 (hv v h)
      · rw [h]
        exact (x4_or hx (zbit_12 (t := t)) (zbit_12 (σ := σ) (o := o) (t := t))).2.2.1)
    rw [h9, Nat.add_assoc, Nat.add_comm 1 m]
theorem zset_sd {o m : Nat} {σ : zS} (hs : zSd σ o) : zset o (m + 1) σ = σ := by
  have h := zgo_sd hs (zrw σ 0 o).length 0 0 (by omega) (Or.inl rfl) (fun v hv => by simp at hv)
  unfold zset
  rw [h]
  simp
theorem zgo_no {o : Nat} {σ : zS} : ∀ (m p : Nat) (x : Int32), (zrw σ 0 o).length = p + m → x4 x → (∀ u, ¬ (x &&& zbit σ o u) = 0 → ∃ v, v ∈ (zrw σ 0 o).take p ∧ zbit σ o v = zbit σ o u) → (∀ i u, i < p → (zrw σ 0 o)[i]? = some u → zcan σ o u = true → ∃ v, v ∈ (zrw σ 0 o).take i ∧ zsort (zkd σ o) (zth σ 8 v) = zsort (zkd σ o) (zth σ 8 u)) → (zgo o m x p σ).2 = p + m → (zgo o m x p σ).1 = σ ∧ zSd σ o
  | 0, p, x, hl, hx, hv, hs, _ => ⟨rfl, fun i u hi hc => hs i u (by have := (List.getElem?_eq_some_iff.mp hi).1; omega) hi hc⟩
  | m + 1, p, x, hl, hx, hv, hs, he => by
    have hp : p < (zrw σ 0 o).length := by omega
    obtain ⟨t, ht⟩ : ∃ t, (zrw σ 0 o)[p]? = some t := ⟨_, List.getElem?_eq_getElem hp⟩
    by_cases hg : (x &&& zbit σ o t) = 0 ∧ zcan σ o t = true
    · rw [zgo_grant ht hg.1 hg.2] at he
      have := zgo_le (o := o) m x p (zgr σ o t)
      omega
    · rw [zgo_ref ht hg] at he ⊢
      refine zgo_no m (p + 1) _ (by omega) (x4_or hx zbit_12 (zbit_12 (σ := σ) (o := o) (t := t))).1 (fun u hu => ?_) (fun i u hi hiu hc => ?_) (by omega)
      · rcases (x4_or hx (zbit_12 (t := t)) (zbit_12 (t := u))).2.2.2 hu with h | h
        · obtain ⟨v, h1, h2⟩ := hv u h
          exact ⟨v, take_grow ht (Or.inl h1), h2⟩
        · exact ⟨t, take_grow ht (Or.inr rfl), h⟩
      · by_cases e : i = p
        · subst e
          cases Option.some.inj (ht.symm.trans hiu)
          obtain ⟨v, h1, h2⟩ := hv t (fun z => hg ⟨z, hc⟩)
          exact ⟨v, h1, zbit_sort h2⟩
        · exact hs i u (by omega) hiu hc
theorem zgrant_row {σ : zS} {o t : Nat} {w : Int32} (hra : zRA (zkd σ o) (zth σ 8 t) w) (h4 : ¬ zkd σ o = 4) : zrw (zgrant σ o t) = zrw σ := by
  show zrw (zgrantC (zkd σ o) σ o t) = _
  rcases hra.1 with ⟨hk, ha⟩ | ⟨hk, ha⟩ | ⟨hk, ha⟩ | ⟨hk, ha⟩ | ⟨hk, ha⟩ | ⟨hk, ha⟩
  · rw [hk]
    show zrw (zgrantK σ o t) = _
    unfold zgrantK
    rcases ha with ha | ha
    · rw [if_pos ha]; rfl
    · rw [if_neg (by rw [ha]; decide), if_neg (by rw [ha]; decide), if_pos ha]; rfl
  · rw [hk]
    show zrw (zgrantB σ o t) = _
    unfold zgrantB
    rcases ha with ha | ha
    · rw [if_pos ha]; rfl
    · rw [if_neg (by rw [ha]; decide), if_neg (by rw [ha]; decide), if_pos ha]; rfl
  · rw [hk]; rfl
  · rw [hk]
    show zrw (if zth σ 8 t = 12 ∧ ¬ zpl σ 3 o ≤ 0 then _ else _) = _
    split <;> rfl
  · exact absurd hk h4
  · rw [hk]
    show zrw (zgrantQ σ o t) = _
    unfold zgrantQ
    split
    · split <;> rfl
    · split <;> rfl
theorem zgr_row {n : Nat} {σ : zS} {o t : Nat} (hJ : zJn n σ) (ho : o < zn σ) (hm : t ∈ zrw σ 0 o) (hc : zcan σ o t = true) : zrw (zgr σ o t) 0 o = (zrw σ 0 o).filter (fun u => u ≠ t) := by
  obtain ⟨ht, hx, hw, hs, hra⟩ := hJ.1.blk ho hm
  have h4 : ¬ zkd σ o = 4 := fun e => by unfold zcan at hc; rw [e] at hc; cases hc
  show zrw (zgrant (zrm σ o t) o t) 0 o = _
  rw [zgrant_row (σ := zrm σ o t) hra h4]
  unfold zrm
  rw [gs_zrw_zsrw, if_pos ⟨rfl, rfl⟩]
theorem zgo_len {n o : Nat} : ∀ (m p : Nat) (x : Int32) (σ : zS), zJn n σ → o < zn σ → (zrw σ 0 o).length = p + m → (zrw (zgo o m x p σ).1 0 o).length = (zgo o m x p σ).2
  | 0, p, x, σ, _, _, hl => hl
  | m + 1, p, x, σ, hJ, ho, hl => by
    have hp : p < (zrw σ 0 o).length := by omega
    obtain ⟨t, ht⟩ : ∃ t, (zrw σ 0 o)[p]? = some t := ⟨_, List.getElem?_eq_getElem hp⟩
    by_cases hg : (x &&& zbit σ o t) = 0 ∧ zcan σ o t = true
    · rw [zgo_grant ht hg.1 hg.2]
      have hm := List.mem_of_getElem? ht
      refine zgo_len m p x _ (zIA_J n σ o t hJ ho hm hg.2).2.2.2 (by rw [zgr_n.1]; exact ho) ?_
      rw [zgr_row hJ ho hm hg.2]
      have := nod_filter (hJ.1.2.1 o 0 ho (Or.inl rfl)).1 hm
      omega
    · rw [zgo_ref ht hg]
      exact zgo_len m (p + 1) _ σ hJ ho (by omega)
/-- a row that is gone through is settled -/
theorem zset_does {n o : Nat} : ∀ (k : Nat) (σ : zS), zJn n σ → o < zn σ → (zrw σ 0 o).length < k → zSd (zset o k σ) o
  | 0, σ, _, _, h => absurd h (Nat.not_lt_zero _)
  | k + 1, σ, hJ, ho, hk => by
    unfold zset
    by_cases h : (zgo o (zrw σ 0 o).length 0 0 σ).2 < (zrw σ 0 o).length
    · rw [if_pos h]
      have hl := zgo_len (n := n) (zrw σ 0 o).length 0 0 σ hJ ho (by omega)
      refine zset_does k _ (zgo_J ((zIA_J n).J o) _ _ _ _ ⟨hJ, ho⟩).1 (by rw [(zgo_n _ _ _ _).1]; exact ho) (by omega)
    · rw [if_neg h]
      have h1 := zgo_le (o := o) (zrw σ 0 o).length 0 0 σ
      have h2 := zgo_no (o := o) (σ := σ) (zrw σ 0 o).length 0 0 (by omega) (Or.inl rfl) (fun u hu => absurd (Int32.zero_and) hu) (fun i u hi => absurd hi (Nat.not_lt_zero _)) (by omega)
      rw [h2.1]
      exact h2.2
theorem zSd_cg {σ σ' : zS} {o : Nat} (h : zSd σ o) (hs : zSp σ σ' o) (ht : ∀ u, u ∈ zrw σ 0 o → zth σ' 8 u = zth σ 8 u ∧ zth σ' 9 u = zth σ 9 u) : zSd σ' o := by
  obtain ⟨s1, s2, s3, s4, s5, s6, s7⟩ := hs
  intro i u hi hc
  rw [s3] at hi ⊢
  have hu := List.mem_of_getElem? hi
  have hcan : zcan σ' o u = zcan σ o u := by
    unfold zcan zcanC
    rw [s1]
    simp only [s2, s4, s5, s6, s7, (ht u hu).1, (ht u hu).2]
  rw [hcan] at hc
  obtain ⟨v, h1, h2⟩ := h i u hi hc
  refine ⟨v, h1, ?_⟩
  rw [s1, (ht u hu).1, (ht v (List.mem_of_mem_take h1)).1]
  exact h2
/-- all but one place stand -/
def zFr (o : Nat) (σ σ' : zS) : Prop := (∀ o', ¬ o' = o → zSp σ σ' o') ∧ (∀ u, zth σ' 8 u = zth σ 8 u ∧ zth σ' 9 u = zth σ 9 u) ∧ zn σ' = zn σ
theorem zSp.tr {σ σ1 σ' : zS} {o : Nat} (h : zSp σ σ1 o) (h' : zSp σ1 σ' o) : zSp σ σ' o := by
  obtain ⟨s1, s2, s3, s4, s5, s6, s7⟩ := h
  obtain ⟨t1, t2, t3, t4, t5, t6, t7⟩ := h'
  exact ⟨t1.trans s1, t2.trans s2, fun j => (t3 j).trans (s3 j), t4.trans s4, fun j => (t5 j).trans (s5 j), fun j => (t6 j).trans (s6 j), t7.trans s7⟩
theorem zFr.tr {o : Nat} {σ σ1 σ' : zS} (h : zFr o σ σ1) (h' : zFr o σ1 σ') : zFr o σ σ' := ⟨fun o' e => (h.1 o' e).tr (h'.1 o' e), fun u => ⟨(h'.2.1 u).1.trans (h.2.1 u).1, (h'.2.1 u).2.trans (h.2.1 u).2⟩, h'.2.2.trans h.2.2⟩
theorem zFr.rf (o : Nat) (σ : zS) : zFr o σ σ := ⟨fun _ _ => zSp.rf σ _, fun _ => ⟨rfl, rfl⟩, rfl⟩
/-- every place but one is settled -/
def zAS (o : Nat) (σ : zS) : Prop := ∀ o', o' < zn σ → ¬ o' = o → zSd σ o'
theorem zFr.as {o : Nat} {σ σ' : zS} (h : zFr o σ σ') (ha : zAS o σ) : zAS o σ' := fun o' ho' e => zSd_cg (ha o' (by rw [← h.2.2]; exact ho') e) (h.1 o' e) (fun u _ => h.2.1 u)
theorem zFr_end {o : Nat} {σ : zS} {t h : Nat} : zFr o σ (zend σ t h) := ⟨fun _ _ => ⟨rfl, rfl, fun _ => rfl, rfl, fun _ => rfl, fun _ => rfl, rfl⟩, fun u => by simp [zend, gs_zth_zsth, gs_zpl_zsth, gs_zwh_zsth, gs_zho_zsth, gs_zrw_zsth, gs_zen_zsth, gs_zrd_zsth, gs_zqu_zsth, gs_zn_zsth, gs_zkd_zsth, gs_zcp_zsth, gs_ztk_zsth, gs_zth_zspl, gs_zpl_zspl, gs_zwh_zspl, gs_zho_zspl, gs_zrw_zspl, gs_zen_zspl, gs_zrd_zspl, gs_zqu_zspl, gs_zn_zspl, gs_zkd_zspl, gs_zcp_zspl, gs_ztk_zspl, gs_zth_zswh, gs_zpl_zswh, gs_zwh_zswh, gs_zho_zswh, gs_zrw_zswh, gs_zen_zswh, gs_zrd_zswh, gs_zqu_zswh, gs_zn_zswh, gs_zkd_zswh, gs_zcp_zswh, gs_ztk_zswh, gs_zth_zsho, gs_zpl_zsho, gs_zwh_zsho, gs_zho_zsho, gs_zrw_zsho, gs_zen_zsho, gs_zrd_zsho, gs_zqu_zsho, gs_zn_zsho, gs_zkd_zsho, gs_zcp_zsho, gs_ztk_zsho, gs_zth_zsrw, gs_zpl_zsrw, gs_zwh_zsrw, gs_zho_zsrw, gs_zrw_zsrw, gs_zen_zsrw, gs_zrd_zsrw, gs_zqu_zsrw, gs_zn_zsrw, gs_zkd_zsrw, gs_zcp_zsrw, gs_ztk_zsrw, gs_zth_zsen, gs_zpl_zsen, gs_zwh_zsen, gs_zho_zsen, gs_zrw_zsen, gs_zen_zsen, gs_zrd_zsen, gs_zqu_zsen, gs_zn_zsen, gs_zkd_zsen, gs_zcp_zsen, gs_ztk_zsen, gs_zth_zsrd, gs_zpl_zsrd, gs_zwh_zsrd, gs_zho_zsrd, gs_zrw_zsrd, gs_zen_zsrd, gs_zrd_zsrd, gs_zqu_zsrd, gs_zn_zsrd, gs_zkd_zsrd, gs_zcp_zsrd, gs_ztk_zsrd, gs_zth_zsqu, gs_zpl_zsqu, gs_zwh_zsqu, gs_zho_zsqu, gs_zrw_zsqu, gs_zen_zsqu, gs_zrd_zsqu, gs_zqu_zsqu, gs_zn_zsqu, gs_zkd_zsqu, gs_zcp_zsqu, gs_ztk_zsqu, gs_zth_zstk, gs_zpl_zstk, gs_zwh_zstk, gs_zho_zstk, gs_zrw_zstk, gs_zen_zstk, gs_zrd_zstk, gs_zqu_zstk, gs_zn_zstk, gs_zkd_zstk, gs_zcp_zstk, gs_ztk_zstk], rfl⟩
theorem zFr_rw {o : Nat} {σ : zS} {j : Nat} {l : List Nat} : zFr o σ (zsrw σ j o l) := ⟨fun o' e => ⟨rfl, rfl, fun j' => by simp [e, gs_zth_zsth, gs_zpl_zsth, gs_zwh_zsth, gs_zho_zsth, gs_zrw_zsth, gs_zen_zsth, gs_zrd_zsth, gs_zqu_zsth, gs_zn_zsth, gs_zkd_zsth, gs_zcp_zsth, gs_ztk_zsth, gs_zth_zspl, gs_zpl_zspl, gs_zwh_zspl, gs_zho_zspl, gs_zrw_zspl, gs_zen_zspl, gs_zrd_zspl, gs_zqu_zspl, gs_zn_zspl, gs_zkd_zspl, gs_zcp_zspl, gs_ztk_zspl, gs_zth_zswh, gs_zpl_zswh, gs_zwh_zswh, gs_zho_zswh, gs_zrw_zswh, gs_zen_zswh, gs_zrd_zswh, gs_zqu_zswh, gs_zn_zswh, gs_zkd_zswh, gs_zcp_zswh, gs_ztk_zswh, gs_zth_zsho, gs_zpl_zsho, gs_zwh_zsho, gs_zho_zsho, gs_zrw_zsho, gs_zen_zsho, gs_zrd_zsho, gs_zqu_zsho, gs_zn_zsho, gs_zkd_zsho, gs_zcp_zsho, gs_ztk_zsho, gs_zth_zsrw, gs_zpl_zsrw, gs_zwh_zsrw, gs_zho_zsrw, gs_zrw_zsrw, gs_zen_zsrw, gs_zrd_zsrw, gs_zqu_zsrw, gs_zn_zsrw, gs_zkd_zsrw, gs_zcp_zsrw, gs_ztk_zsrw, gs_zth_zsen, gs_zpl_zsen, gs_zwh_zsen, gs_zho_zsen, gs_zrw_zsen, gs_zen_zsen, gs_zrd_zsen, gs_zqu_zsen, gs_zn_zsen, gs_zkd_zsen, gs_zcp_zsen, gs_ztk_zsen, gs_zth_zsrd, gs_zpl_zsrd, gs_zwh_zsrd, gs_zho_zsrd, gs_zrw_zsrd, gs_zen_zsrd, gs_zrd_zsrd, gs_zqu_zsrd, gs_zn_zsrd, gs_zkd_zsrd, gs_zcp_zsrd, gs_ztk_zsrd, gs_zth_zsqu, gs_zpl_zsqu, gs_zwh_zsqu, gs_zho_zsqu, gs_zrw_zsqu, gs_zen_zsqu, gs_zrd_zsqu, gs_zqu_zsqu, gs_zn_zsqu, gs_zkd_zsqu, gs_zcp_zsqu, gs_ztk_zsqu, gs_zth_zstk, gs_zpl_zstk, gs_zwh_zstk, gs_zho_zstk, gs_zrw_zstk, gs_zen_zstk, gs_zrd_zstk, gs_zqu_zstk, gs_zn_zstk, gs_zkd_zstk, gs_zcp_zstk, gs_ztk_zstk], rfl, fun _ => rfl, fun _ => rfl, rfl⟩, fun u => ⟨rfl, rfl⟩, rfl⟩
theorem zFr_stay {o : Nat} {σ : zS} {t : Nat} {x : Option Nat} {s p : Int32} : zFr o σ (zstay σ t x s p) := ⟨fun _ _ => ⟨rfl, rfl, fun _ => rfl, rfl, fun _ => rfl, fun _ => rfl, rfl⟩, fun u => by simp [zstay, gs_zth_zsth, gs_zpl_zsth, gs_zwh_zsth, gs_zho_zsth, gs_zrw_zsth, gs_zen_zsth, gs_zrd_zsth, gs_zqu_zsth, gs_zn_zsth, gs_zkd_zsth, gs_zcp_zsth, gs_ztk_zsth, gs_zth_zspl, gs_zpl_zspl, gs_zwh_zspl, gs_zho_zspl, gs_zrw_zspl, gs_zen_zspl, gs_zrd_zspl, gs_zqu_zspl, gs_zn_zspl, gs_zkd_zspl, gs_zcp_zspl, gs_ztk_zspl, gs_zth_zswh, gs_zpl_zswh, gs_zwh_zswh, gs_zho_zswh, gs_zrw_zswh, gs_zen_zswh, gs_zrd_zswh, gs_zqu_zswh, gs_zn_zswh, gs_zkd_zswh, gs_zcp_zswh, gs_ztk_zswh, gs_zth_zsho, gs_zpl_zsho, gs_zwh_zsho, gs_zho_zsho, gs_zrw_zsho, gs_zen_zsho, gs_zrd_zsho, gs_zqu_zsho, gs_zn_zsho, gs_zkd_zsho, gs_zcp_zsho, gs_ztk_zsho, gs_zth_zsrw, gs_zpl_zsrw, gs_zwh_zsrw, gs_zho_zsrw, gs_zrw_zsrw, gs_zen_zsrw, gs_zrd_zsrw, gs_zqu_zsrw, gs_zn_zsrw, gs_zkd_zsrw, gs_zcp_zsrw, gs_ztk_zsrw, gs_zth_zsen, gs_zpl_zsen, gs_zwh_zsen, gs_zho_zsen, gs_zrw_zsen, gs_zen_zsen, gs_zrd_zsen, gs_zqu_zsen, gs_zn_zsen, gs_zkd_zsen, gs_zcp_zsen, gs_ztk_zsen, gs_zth_zsrd, gs_zpl_zsrd, gs_zwh_zsrd, gs_zho_zsrd, gs_zrw_zsrd, gs_zen_zsrd, gs_zrd_zsrd, gs_zqu_zsrd, gs_zn_zsrd, gs_zkd_zsrd, gs_zcp_zsrd, gs_ztk_zsrd, gs_zth_zsqu, gs_zpl_zsqu, gs_zwh_zsqu, gs_zho_zsqu, gs_zrw_zsqu, gs_zen_zsqu, gs_zrd_zsqu, gs_zqu_zsqu, gs_zn_zsqu, gs_zkd_zsqu, gs_zcp_zsqu, gs_ztk_zsqu, gs_zth_zstk, gs_zpl_zstk, gs_zwh_zstk, gs_zho_zstk, gs_zrw_zstk, gs_zen_zstk, gs_zrd_zstk, gs_zqu_zstk, gs_zn_zstk, gs_zkd_zstk, gs_zcp_zstk, gs_ztk_zstk], rfl⟩
theorem zFr_th {o : Nat} {σ : zS} {f t : Nat} {x : Int32} (h8 : ¬ f = 8) (h9 : ¬ f = 9) : zFr o σ (zsth σ f t x) := ⟨fun _ _ => ⟨rfl, rfl, fun _ => rfl, rfl, fun _ => rfl, fun _ => rfl, rfl⟩, fun u => by
  rw [gs_zth_zsth, gs_zth_zsth, if_neg (fun z => h8 z.1.symm), if_neg (fun z => h9 z.1.symm)]
  exact ⟨rfl, rfl⟩, rfl⟩
theorem zFr_pl {o : Nat} {σ : zS} {f : Nat} {x : Int32} : zFr o σ (zspl σ f o x) := ⟨fun o' e => ⟨rfl, rfl, fun _ => rfl, rfl, fun _ => by simp [e, gs_zth_zsth, gs_zpl_zsth, gs_zwh_zsth, gs_zho_zsth, gs_zrw_zsth, gs_zen_zsth, gs_zrd_zsth, gs_zqu_zsth, gs_zn_zsth, gs_zkd_zsth, gs_zcp_zsth, gs_ztk_zsth, gs_zth_zspl, gs_zpl_zspl, gs_zwh_zspl, gs_zho_zspl, gs_zrw_zspl, gs_zen_zspl, gs_zrd_zspl, gs_zqu_zspl, gs_zn_zspl, gs_zkd_zspl, gs_zcp_zspl, gs_ztk_zspl, gs_zth_zswh, gs_zpl_zswh, gs_zwh_zswh, gs_zho_zswh, gs_zrw_zswh, gs_zen_zswh, gs_zrd_zswh, gs_zqu_zswh, gs_zn_zswh, gs_zkd_zswh, gs_zcp_zswh, gs_ztk_zswh, gs_zth_zsho, gs_zpl_zsho, gs_zwh_zsho, gs_zho_zsho, gs_zrw_zsho, gs_zen_zsho, gs_zrd_zsho, gs_zqu_zsho, gs_zn_zsho, gs_zkd_zsho, gs_zcp_zsho, gs_ztk_zsho, gs_zth_zsrw, gs_zpl_zsrw, gs_zwh_zsrw, gs_zho_zsrw, gs_zrw_zsrw, gs_zen_zsrw, gs_zrd_zsrw, gs_zqu_zsrw, gs_zn_zsrw, gs_zkd_zsrw, gs_zcp_zsrw, gs_ztk_zsrw, gs_zth_zsen, gs_zpl_zsen, gs_zwh_zsen, gs_zho_zsen, gs_zrw_zsen, gs_zen_zsen, gs_zrd_zsen, gs_zqu_zsen, gs_zn_zsen, gs_zkd_zsen, gs_zcp_zsen, gs_ztk_zsen, gs_zth_zsrd, gs_zpl_zsrd, gs_zwh_zsrd, gs_zho_zsrd, gs_zrw_zsrd, gs_zen_zsrd, gs_zrd_zsrd, gs_zqu_zsrd, gs_zn_zsrd, gs_zkd_zsrd, gs_zcp_zsrd, gs_ztk_zsrd, gs_zth_zsqu, gs_zpl_zsqu, gs_zwh_zsqu, gs_zho_zsqu, gs_zrw_zsqu, gs_zen_zsqu, gs_zrd_zsqu, gs_zqu_zsqu, gs_zn_zsqu, gs_zkd_zsqu, gs_zcp_zsqu, gs_ztk_zsqu, gs_zth_zstk, gs_zpl_zstk, gs_zwh_zstk, gs_zho_zstk, gs_zrw_zstk, gs_zen_zstk, gs_zrd_zstk, gs_zqu_zstk, gs_zn_zstk, gs_zkd_zstk, gs_zcp_zstk, gs_ztk_zstk], fun _ => rfl, rfl⟩, fun u => ⟨rfl, rfl⟩, rfl⟩
theorem zFr_ho {o : Nat} {σ : zS} {x : Option Nat} : zFr o σ (zsho σ o x) := ⟨fun o' e => ⟨rfl, rfl, fun _ => rfl, by simp [e, gs_zth_zsth, gs_zpl_zsth, gs_zwh_zsth, gs_zho_zsth, gs_zrw_zsth, gs_zen_zsth, gs_zrd_zsth, gs_zqu_zsth, gs_zn_zsth, gs_zkd_zsth, gs_zcp_zsth, gs_ztk_zsth, gs_zth_zspl, gs_zpl_zspl, gs_zwh_zspl, gs_zho_zspl, gs_zrw_zspl, gs_zen_zspl, gs_zrd_zspl, gs_zqu_zspl, gs_zn_zspl, gs_zkd_zspl, gs_zcp_zspl, gs_ztk_zspl, gs_zth_zswh, gs_zpl_zswh, gs_zwh_zswh, gs_zho_zswh, gs_zrw_zswh, gs_zen_zswh, gs_zrd_zswh, gs_zqu_zswh, gs_zn_zswh, gs_zkd_zswh, gs_zcp_zswh, gs_ztk_zswh, gs_zth_zsho, gs_zpl_zsho, gs_zwh_zsho, gs_zho_zsho, gs_zrw_zsho, gs_zen_zsho, gs_zrd_zsho, gs_zqu_zsho, gs_zn_zsho, gs_zkd_zsho, gs_zcp_zsho, gs_ztk_zsho, gs_zth_zsrw, gs_zpl_zsrw, gs_zwh_zsrw, gs_zho_zsrw, gs_zrw_zsrw, gs_zen_zsrw, gs_zrd_zsrw, gs_zqu_zsrw, gs_zn_zsrw, gs_zkd_zsrw, gs_zcp_zsrw, gs_ztk_zsrw, gs_zth_zsen, gs_zpl_zsen, gs_zwh_zsen, gs_zho_zsen, gs_zrw_zsen, gs_zen_zsen, gs_zrd_zsen, gs_zqu_zsen, gs_zn_zsen, gs_zkd_zsen, gs_zcp_zsen, gs_ztk_zsen, gs_zth_zsrd, gs_zpl_zsrd, gs_zwh_zsrd, gs_zho_zsrd, gs_zrw_zsrd, gs_zen_zsrd, gs_zrd_zsrd, gs_zqu_zsrd, gs_zn_zsrd, gs_zkd_zsrd, gs_zcp_zsrd, gs_ztk_zsrd, gs_zth_zsqu, gs_zpl_zsqu, gs_zwh_zsqu, gs_zho_zsqu, gs_zrw_zsqu, gs_zen_zsqu, gs_zrd_zsqu, gs_zqu_zsqu, gs_zn_zsqu, gs_zkd_zsqu, gs_zcp_zsqu, gs_ztk_zsqu, gs_zth_zstk, gs_zpl_zstk, gs_zwh_zstk, gs_zho_zstk, gs_zrw_zstk, gs_zen_zstk, gs_zrd_zstk, gs_zqu_zstk, gs_zn_zstk, gs_zkd_zstk, gs_zcp_zstk, gs_ztk_zstk], fun _ => rfl, fun _ => rfl, rfl⟩, fun u => ⟨rfl, rfl⟩, rfl⟩
theorem zFr_rd {o : Nat} {σ : zS} {t : Nat} {x : Int32} : zFr o σ (zsrd σ o t x) := ⟨fun o' e => ⟨rfl, rfl, fun _ => rfl, rfl, fun _ => rfl, fun _ => by simp [e, gs_zth_zsth, gs_zpl_zsth, gs_zwh_zsth, gs_zho_zsth, gs_zrw_zsth, gs_zen_zsth, gs_zrd_zsth, gs_zqu_zsth, gs_zn_zsth, gs_zkd_zsth, gs_zcp_zsth, gs_ztk_zsth, gs_zth_zspl, gs_zpl_zspl, gs_zwh_zspl, gs_zho_zspl, gs_zrw_zspl, gs_zen_zspl, gs_zrd_zspl, gs_zqu_zspl, gs_zn_zspl, gs_zkd_zspl, gs_zcp_zspl, gs_ztk_zspl, gs_zth_zswh, gs_zpl_zswh, gs_zwh_zswh, gs_zho_zswh, gs_zrw_zswh, gs_zen_zswh, gs_zrd_zswh, gs_zqu_zswh, gs_zn_zswh, gs_zkd_zswh, gs_zcp_zswh, gs_ztk_zswh, gs_zth_zsho, gs_zpl_zsho, gs_zwh_zsho, gs_zho_zsho, gs_zrw_zsho, gs_zen_zsho, gs_zrd_zsho, gs_zqu_zsho, gs_zn_zsho, gs_zkd_zsho, gs_zcp_zsho, gs_ztk_zsho, gs_zth_zsrw, gs_zpl_zsrw, gs_zwh_zsrw, gs_zho_zsrw, gs_zrw_zsrw, gs_zen_zsrw, gs_zrd_zsrw, gs_zqu_zsrw, gs_zn_zsrw, gs_zkd_zsrw, gs_zcp_zsrw, gs_ztk_zsrw, gs_zth_zsen, gs_zpl_zsen, gs_zwh_zsen, gs_zho_zsen, gs_zrw_zsen, gs_zen_zsen, gs_zrd_zsen, gs_zqu_zsen, gs_zn_zsen, gs_zkd_zsen, gs_zcp_zsen, gs_ztk_zsen, gs_zth_zsrd, gs_zpl_zsrd, gs_zwh_zsrd, gs_zho_zsrd, gs_zrw_zsrd, gs_zen_zsrd, gs_zrd_zsrd, gs_zqu_zsrd, gs_zn_zsrd, gs_zkd_zsrd, gs_zcp_zsrd, gs_ztk_zsrd, gs_zth_zsqu, gs_zpl_zsqu, gs_zwh_zsqu, gs_zho_zsqu, gs_zrw_zsqu, gs_zen_zsqu, gs_zrd_zsqu, gs_zqu_zsqu, gs_zn_zsqu, gs_zkd_zsqu, gs_zcp_zsqu, gs_ztk_zsqu, gs_zth_zstk, gs_zpl_zstk, gs_zwh_zstk, gs_zho_zstk, gs_zrw_zstk, gs_zen_zstk, gs_zrd_zstk, gs_zqu_zstk, gs_zn_zstk, gs_zkd_zstk, gs_zcp_zstk, gs_ztk_zstk], rfl⟩, fun u => ⟨rfl, rfl⟩, rfl⟩
theorem zFr_qu {o : Nat} {σ : zS} {l : List Int32} : zFr o σ (zsqu σ o l) := ⟨fun o' e => ⟨rfl, rfl, fun _ => rfl, rfl, fun _ => rfl, fun _ => rfl, by simp [e, gs_zth_zsth, gs_zpl_zsth, gs_zwh_zsth, gs_zho_zsth, gs_zrw_zsth, gs_zen_zsth, gs_zrd_zsth, gs_zqu_zsth, gs_zn_zsth, gs_zkd_zsth, gs_zcp_zsth, gs_ztk_zsth, gs_zth_zspl, gs_zpl_zspl, gs_zwh_zspl, gs_zho_zspl, gs_zrw_zspl, gs_zen_zspl, gs_zrd_zspl, gs_zqu_zspl, gs_zn_zspl, gs_zkd_zspl, gs_zcp_zspl, gs_ztk_zspl, gs_zth_zswh, gs_zpl_zswh, gs_zwh_zswh, gs_zho_zswh, gs_zrw_zswh, gs_zen_zswh, gs_zrd_zswh, gs_zqu_zswh, gs_zn_zswh, gs_zkd_zswh, gs_zcp_zswh, gs_ztk_zswh, gs_zth_zsho, gs_zpl_zsho, gs_zwh_zsho, gs_zho_zsho, gs_zrw_zsho, gs_zen_zsho, gs_zrd_zsho, gs_zqu_zsho, gs_zn_zsho, gs_zkd_zsho, gs_zcp_zsho, gs_ztk_zsho, gs_zth_zsrw, gs_zpl_zsrw, gs_zwh_zsrw, gs_zho_zsrw, gs_zrw_zsrw, gs_zen_zsrw, gs_zrd_zsrw, gs_zqu_zsrw, gs_zn_zsrw, gs_zkd_zsrw, gs_zcp_zsrw, gs_ztk_zsrw, gs_zth_zsen, gs_zpl_zsen, gs_zwh_zsen, gs_zho_zsen, gs_zrw_zsen, gs_zen_zsen, gs_zrd_zsen, gs_zqu_zsen, gs_zn_zsen, gs_zkd_zsen, gs_zcp_zsen, gs_ztk_zsen, gs_zth_zsrd, gs_zpl_zsrd, gs_zwh_zsrd, gs_zho_zsrd, gs_zrw_zsrd, gs_zen_zsrd, gs_zrd_zsrd, gs_zqu_zsrd, gs_zn_zsrd, gs_zkd_zsrd, gs_zcp_zsrd, gs_ztk_zsrd, gs_zth_zsqu, gs_zpl_zsqu, gs_zwh_zsqu, gs_zho_zsqu, gs_zrw_zsqu, gs_zen_zsqu, gs_zrd_zsqu, gs_zqu_zsqu, gs_zn_zsqu, gs_zkd_zsqu, gs_zcp_zsqu, gs_ztk_zsqu, gs_zth_zstk, gs_zpl_zstk, gs_zwh_zstk, gs_zho_zstk, gs_zrw_zstk, gs_zen_zstk, gs_zrd_zstk, gs_zqu_zstk, gs_zn_zstk, gs_zkd_zstk, gs_zcp_zstk, gs_ztk_zstk]⟩, fun u => ⟨rfl, rfl⟩, rfl⟩
theorem zFr_take {o : Nat} {σ : zS} {t : Nat} {h : Int32} : zFr o σ (ztake σ o t h) := (zFr_th (f := 11) (by decide) (by decide)).tr (zFr_rw.tr zFr_stay)
theorem zFr_join {o : Nat} {σ : zS} {t : Nat} {p : Int32} : zFr o σ (zjoin σ o t p) := zFr_rw.tr zFr_stay
theorem zFr_joinC {o : Nat} {σ : zS} {t : Nat} {p : Int32} : zFr o σ (zjoinC σ o t p) := (zFr_th (f := 10) (by decide) (by decide)).tr (zFr_pl.tr (zFr_ho.tr (zFr_rw.tr zFr_stay)))
theorem zFr_leave {o : Nat} {σ : zS} : zFr o σ (zleave σ o) := by
  unfold zleave
  split
  · exact zFr_pl.tr zFr_ho
  · exact zFr_pl
theorem zFr_endAll {o h : Nat} : ∀ (m : Nat) (σ : zS), zFr o σ (zendAll o h m σ)
  | 0, σ => zFr.rf o σ
  | m + 1, σ => by
    refine zFr.tr ?_ (zFr_endAll m (zend1 o h σ))
    unfold zend1
    split
    · exact zFr.rf o σ
    · exact zFr_rw.tr zFr_end
theorem zFr_call {o j : Nat} : ∀ (m : Nat) (σ : zS), zFr o σ (zcall o j m σ)
  | 0, σ => zFr.rf o σ
  | m + 1, σ => by
    refine zFr.tr ?_ (zFr_call m (zcall1 o j σ))
    unfold zcall1
    split
    · exact zFr.rf o σ
    · exact zFr_rw.tr zFr_take
theorem zFr_grant {o : Nat} {σ : zS} {t : Nat} : zFr o σ (zgrant σ o t) := by
  unfold zgrant zgrantC
  split
  · unfold zgrantK
    split
    · exact zFr_ho.tr zFr_pl
    · split
      · exact zFr_leave
      · split
        · exact zFr_ho.tr zFr_pl
        · split
          · exact zFr_call _ _
          · exact zFr_call _ _
  · unfold zgrantB
    split
    · exact zFr_rd.tr zFr_pl
    · split
      · exact zFr_rd.tr zFr_pl
      · split
        · exact zFr_ho.tr zFr_pl
        · exact zFr_leave
  · exact zFr_pl
  · split
    · exact zFr_pl
    · exact zFr.rf o σ
  · unfold zgrantA
    split
    · exact zFr_pl.tr (zFr_endAll _ _)
    · exact zFr_endAll _ _
  · unfold zgrantQ
    split
    · split
      · exact zFr_qu
      · exact zFr.rf o σ
    · split
      · exact zFr.rf o σ
      · exact zFr_qu.tr (zFr_th (by decide) (by decide))
theorem zFr_gave {o : Nat} {σ : zS} : zFr o σ (zgave σ o) := by
  unfold zgave
  split
  · exact zFr_pl.tr (zFr_endAll _ _)
  · exact zFr.rf o σ
theorem zFr_giveUp {o : Nat} {σ : zS} {t h : Nat} : zFr o σ (zgiveUp σ o t h) := by
  unfold zgiveUp
  split
  · exact zFr_rw.tr zFr_take
  · unfold zleaveRow
    exact (zFr_rw.tr zFr_end).tr zFr_gave
theorem zFr_gr {o : Nat} {σ : zS} {t : Nat} : zFr o σ (zgr σ o t) := by
  unfold zgr zrm
  exact (zFr_rw.tr zFr_grant).tr zFr_end
