/-! acts: the invariant -/
def zAK (kd : Nat) (a : Int32) : Prop := (kd = 0 ∧ (a = 0 ∨ a = 1 ∨ a = 2 ∨ a = 3 ∨ a = 4)) ∨ (kd = 1 ∧ (a = 5 ∨ a = 6 ∨ a = 7 ∨ a = 8)) ∨ (kd = 2 ∧ (a = 9 ∨ a = 10)) ∨ (kd = 3 ∧ (a = 11 ∨ a = 12)) ∨ (kd = 4 ∧ (a = 13 ∨ a = 14)) ∨ (kd = 5 ∧ (a = 15 ∨ a = 16))
theorem zAK_tab : ∀ k, k < 17 → ∀ kd, kd < 6 → (yst (nI k).toNatClampNeg = nI kd → kd = if k < 5 then 0 else if k < 9 then 1 else if k < 11 then 2 else if k < 13 then 3 else if k < 15 then 4 else 5) := by decide +kernel
theorem mofk_tab : ∀ k, k < 17 → ∀ kd, kd < 6 → mofk (nI kd) (nI k) = decide (yst (nI k).toNatClampNeg = nI kd) := by decide +kernel
theorem act_nI {a : Int32} (h0 : ¬ a < 0) (h17 : a < 17) : ∃ k, k < 17 ∧ a = nI k := by
  obtain ⟨k, hk, rfl⟩ := nI_of h0
  have h17 : nI k < nI 17 := h17
  rw [nI_ltI hk (by decide)] at h17
  exact ⟨k, h17, rfl⟩
theorem zAK_of {a g : Int32} {kd : Nat} (h : zisAct a g = true) (hk : yst a.toNatClampNeg = nI kd) (h6 : kd < 6) : zAK kd a := by
  obtain ⟨k, h1, rfl⟩ := act_nI (zisAct_in h).1 (zisAct_in h).2
  have h9 := zAK_tab k h1 kd h6 hk
  rcases (show k = 0 ∨ k = 1 ∨ k = 2 ∨ k = 3 ∨ k = 4 ∨ k = 5 ∨ k = 6 ∨ k = 7 ∨ k = 8 ∨ k = 9 ∨ k = 10 ∨ k = 11 ∨ k = 12 ∨ k = 13 ∨ k = 14 ∨ k = 15 ∨ k = 16 by omega) with rfl | rfl | rfl | rfl | rfl | rfl | rfl | rfl | rfl | rfl | rfl | rfl | rfl | rfl | rfl | rfl | rfl
  · exact Or.inl ⟨h9, Or.inl rfl⟩
  · exact Or.inl ⟨h9, Or.inr (Or.inl rfl)⟩
  · exact Or.inl ⟨h9, Or.inr (Or.inr (Or.inl rfl))⟩
  · exact Or.inl ⟨h9, Or.inr (Or.inr (Or.inr (Or.inl rfl)))⟩
  · exact Or.inl ⟨h9, Or.inr (Or.inr (Or.inr (Or.inr rfl)))⟩
  · exact Or.inr (Or.inl ⟨h9, Or.inl rfl⟩)
  · exact Or.inr (Or.inl ⟨h9, Or.inr (Or.inl rfl)⟩)
  · exact Or.inr (Or.inl ⟨h9, Or.inr (Or.inr (Or.inl rfl))⟩)
  · exact Or.inr (Or.inl ⟨h9, Or.inr (Or.inr (Or.inr rfl))⟩)
  · exact Or.inr (Or.inr (Or.inl ⟨h9, Or.inl rfl⟩))
  · exact Or.inr (Or.inr (Or.inl ⟨h9, Or.inr rfl⟩))
  · exact Or.inr (Or.inr (Or.inr (Or.inl ⟨h9, Or.inl rfl⟩)))
  · exact Or.inr (Or.inr (Or.inr (Or.inl ⟨h9, Or.inr rfl⟩)))
  · exact Or.inr (Or.inr (Or.inr (Or.inr (Or.inl ⟨h9, Or.inl rfl⟩))))
  · exact Or.inr (Or.inr (Or.inr (Or.inr (Or.inl ⟨h9, Or.inr rfl⟩))))
  · exact Or.inr (Or.inr (Or.inr (Or.inr (Or.inr ⟨h9, Or.inl rfl⟩))))
  · exact Or.inr (Or.inr (Or.inr (Or.inr (Or.inr ⟨h9, Or.inr rfl⟩))))
theorem mofk_eq {a : Int32} {kd : Nat} (h0 : ¬ a < 0) (h17 : a < 17) (h6 : kd < 6) : mofk (nI kd) a = decide (yst a.toNatClampNeg = nI kd) := by
  obtain ⟨k, h1, rfl⟩ := act_nI h0 h17
  exact mofk_tab k h1 kd h6
theorem zbeg_8 {σ : zS} {t : Nat} {a g : Int32} : zth (zbegin σ t a g) 8 t = a := by simp [zbegin, gs_zth_zsth, gs_zpl_zsth, gs_zwh_zsth, gs_zho_zsth, gs_zrw_zsth, gs_zen_zsth, gs_zrd_zsth, gs_zqu_zsth, gs_zn_zsth, gs_zkd_zsth, gs_zcp_zsth, gs_ztk_zsth, gs_zth_zspl, gs_zpl_zspl, gs_zwh_zspl, gs_zho_zspl, gs_zrw_zspl, gs_zen_zspl, gs_zrd_zspl, gs_zqu_zspl, gs_zn_zspl, gs_zkd_zspl, gs_zcp_zspl, gs_ztk_zspl, gs_zth_zswh, gs_zpl_zswh, gs_zwh_zswh, gs_zho_zswh, gs_zrw_zswh, gs_zen_zswh, gs_zrd_zswh, gs_zqu_zswh, gs_zn_zswh, gs_zkd_zswh, gs_zcp_zswh, gs_ztk_zswh, gs_zth_zsho, gs_zpl_zsho, gs_zwh_zsho, gs_zho_zsho, gs_zrw_zsho, gs_zen_zsho, gs_zrd_zsho, gs_zqu_zsho, gs_zn_zsho, gs_zkd_zsho, gs_zcp_zsho, gs_ztk_zsho, gs_zth_zsrw, gs_zpl_zsrw, gs_zwh_zsrw, gs_zho_zsrw, gs_zrw_zsrw, gs_zen_zsrw, gs_zrd_zsrw, gs_zqu_zsrw, gs_zn_zsrw, gs_zkd_zsrw, gs_zcp_zsrw, gs_ztk_zsrw, gs_zth_zsen, gs_zpl_zsen, gs_zwh_zsen, gs_zho_zsen, gs_zrw_zsen, gs_zen_zsen, gs_zrd_zsen, gs_zqu_zsen, gs_zn_zsen, gs_zkd_zsen, gs_zcp_zsen, gs_ztk_zsen, gs_zth_zsrd, gs_zpl_zsrd, gs_zwh_zsrd, gs_zho_zsrd, gs_zrw_zsrd, gs_zen_zsrd, gs_zrd_zsrd, gs_zqu_zsrd, gs_zn_zsrd, gs_zkd_zsrd, gs_zcp_zsrd, gs_ztk_zsrd, gs_zth_zsqu, gs_zpl_zsqu, gs_zwh_zsqu, gs_zho_zsqu, gs_zrw_zsqu, gs_zen_zsqu, gs_zrd_zsqu, gs_zqu_zsqu, gs_zn_zsqu, gs_zkd_zsqu, gs_zcp_zsqu, gs_ztk_zsqu, gs_zth_zstk, gs_zpl_zstk, gs_zwh_zstk, gs_zho_zstk, gs_zrw_zstk, gs_zen_zstk, gs_zrd_zstk, gs_zqu_zstk, gs_zn_zstk, gs_zkd_zstk, gs_zcp_zstk, gs_ztk_zstk]
theorem zbeg_9 {σ : zS} {t : Nat} {a g : Int32} : zth (zbegin σ t a g) 9 t = g := by simp [zbegin, gs_zth_zsth, gs_zpl_zsth, gs_zwh_zsth, gs_zho_zsth, gs_zrw_zsth, gs_zen_zsth, gs_zrd_zsth, gs_zqu_zsth, gs_zn_zsth, gs_zkd_zsth, gs_zcp_zsth, gs_ztk_zsth, gs_zth_zspl, gs_zpl_zspl, gs_zwh_zspl, gs_zho_zspl, gs_zrw_zspl, gs_zen_zspl, gs_zrd_zspl, gs_zqu_zspl, gs_zn_zspl, gs_zkd_zspl, gs_zcp_zspl, gs_ztk_zspl, gs_zth_zswh, gs_zpl_zswh, gs_zwh_zswh, gs_zho_zswh, gs_zrw_zswh, gs_zen_zswh, gs_zrd_zswh, gs_zqu_zswh, gs_zn_zswh, gs_zkd_zswh, gs_zcp_zswh, gs_ztk_zswh, gs_zth_zsho, gs_zpl_zsho, gs_zwh_zsho, gs_zho_zsho, gs_zrw_zsho, gs_zen_zsho, gs_zrd_zsho, gs_zqu_zsho, gs_zn_zsho, gs_zkd_zsho, gs_zcp_zsho, gs_ztk_zsho, gs_zth_zsrw, gs_zpl_zsrw, gs_zwh_zsrw, gs_zho_zsrw, gs_zrw_zsrw, gs_zen_zsrw, gs_zrd_zsrw, gs_zqu_zsrw, gs_zn_zsrw, gs_zkd_zsrw, gs_zcp_zsrw, gs_ztk_zsrw, gs_zth_zsen, gs_zpl_zsen, gs_zwh_zsen, gs_zho_zsen, gs_zrw_zsen, gs_zen_zsen, gs_zrd_zsen, gs_zqu_zsen, gs_zn_zsen, gs_zkd_zsen, gs_zcp_zsen, gs_ztk_zsen, gs_zth_zsrd, gs_zpl_zsrd, gs_zwh_zsrd, gs_zho_zsrd, gs_zrw_zsrd, gs_zen_zsrd, gs_zrd_zsrd, gs_zqu_zsrd, gs_zn_zsrd, gs_zkd_zsrd, gs_zcp_zsrd, gs_ztk_zsrd, gs_zth_zsqu, gs_zpl_zsqu, gs_zwh_zsqu, gs_zho_zsqu, gs_zrw_zsqu, gs_zen_zsqu, gs_zrd_zsqu, gs_zqu_zsqu, gs_zn_zsqu, gs_zkd_zsqu, gs_zcp_zsqu, gs_ztk_zsqu, gs_zth_zstk, gs_zpl_zstk, gs_zwh_zstk, gs_zho_zstk, gs_zrw_zstk, gs_zen_zstk, gs_zrd_zstk, gs_zqu_zstk, gs_zn_zstk, gs_zkd_zstk, gs_zcp_zstk, gs_ztk_zstk]
theorem zbeg_3 {σ : zS} {t : Nat} {a g : Int32} : zth (zbegin σ t a g) 3 t = 1 := by simp [zbegin, gs_zth_zsth, gs_zpl_zsth, gs_zwh_zsth, gs_zho_zsth, gs_zrw_zsth, gs_zen_zsth, gs_zrd_zsth, gs_zqu_zsth, gs_zn_zsth, gs_zkd_zsth, gs_zcp_zsth, gs_ztk_zsth, gs_zth_zspl, gs_zpl_zspl, gs_zwh_zspl, gs_zho_zspl, gs_zrw_zspl, gs_zen_zspl, gs_zrd_zspl, gs_zqu_zspl, gs_zn_zspl, gs_zkd_zspl, gs_zcp_zspl, gs_ztk_zspl, gs_zth_zswh, gs_zpl_zswh, gs_zwh_zswh, gs_zho_zswh, gs_zrw_zswh, gs_zen_zswh, gs_zrd_zswh, gs_zqu_zswh, gs_zn_zswh, gs_zkd_zswh, gs_zcp_zswh, gs_ztk_zswh, gs_zth_zsho, gs_zpl_zsho, gs_zwh_zsho, gs_zho_zsho, gs_zrw_zsho, gs_zen_zsho, gs_zrd_zsho, gs_zqu_zsho, gs_zn_zsho, gs_zkd_zsho, gs_zcp_zsho, gs_ztk_zsho, gs_zth_zsrw, gs_zpl_zsrw, gs_zwh_zsrw, gs_zho_zsrw, gs_zrw_zsrw, gs_zen_zsrw, gs_zrd_zsrw, gs_zqu_zsrw, gs_zn_zsrw, gs_zkd_zsrw, gs_zcp_zsrw, gs_ztk_zsrw, gs_zth_zsen, gs_zpl_zsen, gs_zwh_zsen, gs_zho_zsen, gs_zrw_zsen, gs_zen_zsen, gs_zrd_zsen, gs_zqu_zsen, gs_zn_zsen, gs_zkd_zsen, gs_zcp_zsen, gs_ztk_zsen, gs_zth_zsrd, gs_zpl_zsrd, gs_zwh_zsrd, gs_zho_zsrd, gs_zrw_zsrd, gs_zen_zsrd, gs_zrd_zsrd, gs_zqu_zsrd, gs_zn_zsrd, gs_zkd_zsrd, gs_zcp_zsrd, gs_ztk_zsrd, gs_zth_zsqu, gs_zpl_zsqu, gs_zwh_zsqu, gs_zho_zsqu, gs_zrw_zsqu, gs_zen_zsqu, gs_zrd_zsqu, gs_zqu_zsqu, gs_zn_zsqu, gs_zkd_zsqu, gs_zcp_zsqu, gs_ztk_zsqu, gs_zth_zstk, gs_zpl_zstk, gs_zwh_zstk, gs_zho_zstk, gs_zrw_zstk, gs_zen_zstk, gs_zrd_zstk, gs_zqu_zstk, gs_zn_zstk, gs_zkd_zstk, gs_zcp_zstk, gs_ztk_zstk]
theorem zbeg_11 {σ : zS} {t : Nat} {a g : Int32} : zth (zbegin σ t a g) 11 t = 0 := by simp [zbegin, gs_zth_zsth, gs_zpl_zsth, gs_zwh_zsth, gs_zho_zsth, gs_zrw_zsth, gs_zen_zsth, gs_zrd_zsth, gs_zqu_zsth, gs_zn_zsth, gs_zkd_zsth, gs_zcp_zsth, gs_ztk_zsth, gs_zth_zspl, gs_zpl_zspl, gs_zwh_zspl, gs_zho_zspl, gs_zrw_zspl, gs_zen_zspl, gs_zrd_zspl, gs_zqu_zspl, gs_zn_zspl, gs_zkd_zspl, gs_zcp_zspl, gs_ztk_zspl, gs_zth_zswh, gs_zpl_zswh, gs_zwh_zswh, gs_zho_zswh, gs_zrw_zswh, gs_zen_zswh, gs_zrd_zswh, gs_zqu_zswh, gs_zn_zswh, gs_zkd_zswh, gs_zcp_zswh, gs_ztk_zswh, gs_zth_zsho, gs_zpl_zsho, gs_zwh_zsho, gs_zho_zsho, gs_zrw_zsho, gs_zen_zsho, gs_zrd_zsho, gs_zqu_zsho, gs_zn_zsho, gs_zkd_zsho, gs_zcp_zsho, gs_ztk_zsho, gs_zth_zsrw, gs_zpl_zsrw, gs_zwh_zsrw, gs_zho_zsrw, gs_zrw_zsrw, gs_zen_zsrw, gs_zrd_zsrw, gs_zqu_zsrw, gs_zn_zsrw, gs_zkd_zsrw, gs_zcp_zsrw, gs_ztk_zsrw, gs_zth_zsen, gs_zpl_zsen, gs_zwh_zsen, gs_zho_zsen, gs_zrw_zsen, gs_zen_zsen, gs_zrd_zsen, gs_zqu_zsen, gs_zn_zsen, gs_zkd_zsen, gs_zcp_zsen, gs_ztk_zsen, gs_zth_zsrd, gs_zpl_zsrd, gs_zwh_zsrd, gs_zho_zsrd, gs_zrw_zsrd, gs_zen_zsrd, gs_zrd_zsrd, gs_zqu_zsrd, gs_zn_zsrd, gs_zkd_zsrd, gs_zcp_zsrd, gs_ztk_zsrd, gs_zth_zsqu, gs_zpl_zsqu, gs_zwh_zsqu, gs_zho_zsqu, gs_zrw_zsqu, gs_zen_zsqu, gs_zrd_zsqu, gs_zqu_zsqu, gs_zn_zsqu, gs_zkd_zsqu, gs_zcp_zsqu, gs_ztk_zsqu, gs_zth_zstk, gs_zpl_zstk, gs_zwh_zstk, gs_zho_zstk, gs_zrw_zstk, gs_zen_zstk, gs_zrd_zstk, gs_zqu_zstk, gs_zn_zstk, gs_zkd_zstk, gs_zcp_zstk, gs_ztk_zstk]
theorem zbeg_6 {σ : zS} {t : Nat} {a g : Int32} : zth (zbegin σ t a g) 6 t = zth σ 6 t := by simp [zbegin, gs_zth_zsth, gs_zpl_zsth, gs_zwh_zsth, gs_zho_zsth, gs_zrw_zsth, gs_zen_zsth, gs_zrd_zsth, gs_zqu_zsth, gs_zn_zsth, gs_zkd_zsth, gs_zcp_zsth, gs_ztk_zsth, gs_zth_zspl, gs_zpl_zspl, gs_zwh_zspl, gs_zho_zspl, gs_zrw_zspl, gs_zen_zspl, gs_zrd_zspl, gs_zqu_zspl, gs_zn_zspl, gs_zkd_zspl, gs_zcp_zspl, gs_ztk_zspl, gs_zth_zswh, gs_zpl_zswh, gs_zwh_zswh, gs_zho_zswh, gs_zrw_zswh, gs_zen_zswh, gs_zrd_zswh, gs_zqu_zswh, gs_zn_zswh, gs_zkd_zswh, gs_zcp_zswh, gs_ztk_zswh, gs_zth_zsho, gs_zpl_zsho, gs_zwh_zsho, gs_zho_zsho, gs_zrw_zsho, gs_zen_zsho, gs_zrd_zsho, gs_zqu_zsho, gs_zn_zsho, gs_zkd_zsho, gs_zcp_zsho, gs_ztk_zsho, gs_zth_zsrw, gs_zpl_zsrw, gs_zwh_zsrw, gs_zho_zsrw, gs_zrw_zsrw, gs_zen_zsrw, gs_zrd_zsrw, gs_zqu_zsrw, gs_zn_zsrw, gs_zkd_zsrw, gs_zcp_zsrw, gs_ztk_zsrw, gs_zth_zsen, gs_zpl_zsen, gs_zwh_zsen, gs_zho_zsen, gs_zrw_zsen, gs_zen_zsen, gs_zrd_zsen, gs_zqu_zsen, gs_zn_zsen, gs_zkd_zsen, gs_zcp_zsen, gs_ztk_zsen, gs_zth_zsrd, gs_zpl_zsrd, gs_zwh_zsrd, gs_zho_zsrd, gs_zrw_zsrd, gs_zen_zsrd, gs_zrd_zsrd, gs_zqu_zsrd, gs_zn_zsrd, gs_zkd_zsrd, gs_zcp_zsrd, gs_ztk_zsrd, gs_zth_zsqu, gs_zpl_zsqu, gs_zwh_zsqu, gs_zho_zsqu, gs_zrw_zsqu, gs_zen_zsqu, gs_zrd_zsqu, gs_zqu_zsqu, gs_zn_zsqu, gs_zkd_zsqu, gs_zcp_zsqu, gs_ztk_zsqu, gs_zth_zstk, gs_zpl_zstk, gs_zwh_zstk, gs_zho_zstk, gs_zrw_zstk, gs_zen_zstk, gs_zrd_zstk, gs_zqu_zstk, gs_zn_zstk, gs_zkd_zstk, gs_zcp_zstk, gs_ztk_zstk]
theorem zbeg_ne {σ : zS} {t u f : Nat} {a g : Int32} (h : ¬ u = t) : zth (zbegin σ t a g) f u = zth σ f u := by simp [zbegin, h, gs_zth_zsth, gs_zpl_zsth, gs_zwh_zsth, gs_zho_zsth, gs_zrw_zsth, gs_zen_zsth, gs_zrd_zsth, gs_zqu_zsth, gs_zn_zsth, gs_zkd_zsth, gs_zcp_zsth, gs_ztk_zsth, gs_zth_zspl, gs_zpl_zspl, gs_zwh_zspl, gs_zho_zspl, gs_zrw_zspl, gs_zen_zspl, gs_zrd_zspl, gs_zqu_zspl, gs_zn_zspl, gs_zkd_zspl, gs_zcp_zspl, gs_ztk_zspl, gs_zth_zswh, gs_zpl_zswh, gs_zwh_zswh, gs_zho_zswh, gs_zrw_zswh, gs_zen_zswh, gs_zrd_zswh, gs_zqu_zswh, gs_zn_zswh, gs_zkd_zswh, gs_zcp_zswh, gs_ztk_zswh, gs_zth_zsho, gs_zpl_zsho, gs_zwh_zsho, gs_zho_zsho, gs_zrw_zsho, gs_zen_zsho, gs_zrd_zsho, gs_zqu_zsho, gs_zn_zsho, gs_zkd_zsho, gs_zcp_zsho, gs_ztk_zsho, gs_zth_zsrw, gs_zpl_zsrw, gs_zwh_zsrw, gs_zho_zsrw, gs_zrw_zsrw, gs_zen_zsrw, gs_zrd_zsrw, gs_zqu_zsrw, gs_zn_zsrw, gs_zkd_zsrw, gs_zcp_zsrw, gs_ztk_zsrw, gs_zth_zsen, gs_zpl_zsen, gs_zwh_zsen, gs_zho_zsen, gs_zrw_zsen, gs_zen_zsen, gs_zrd_zsen, gs_zqu_zsen, gs_zn_zsen, gs_zkd_zsen, gs_zcp_zsen, gs_ztk_zsen, gs_zth_zsrd, gs_zpl_zsrd, gs_zwh_zsrd, gs_zho_zsrd, gs_zrw_zsrd, gs_zen_zsrd, gs_zrd_zsrd, gs_zqu_zsrd, gs_zn_zsrd, gs_zkd_zsrd, gs_zcp_zsrd, gs_ztk_zsrd, gs_zth_zsqu, gs_zpl_zsqu, gs_zwh_zsqu, gs_zho_zsqu, gs_zrw_zsqu, gs_zen_zsqu, gs_zrd_zsqu, gs_zqu_zsqu, gs_zn_zsqu, gs_zkd_zsqu, gs_zcp_zsqu, gs_ztk_zsqu, gs_zth_zstk, gs_zpl_zstk, gs_zwh_zstk, gs_zho_zstk, gs_zrw_zstk, gs_zen_zstk, gs_zrd_zstk, gs_zqu_zstk, gs_zn_zstk, gs_zkd_zstk, gs_zcp_zstk, gs_ztk_zstk]
/-- what is known of an act that is begun and isn't done at once -/
theorem zheld {σ : zS} {o t : Nat} {a g : Int32} (hk : zAK (zkd σ o) a) (hal : zallows σ o t a g = true) (h1 : zonce (zbegin σ t a g) o t = false) : (a = 2 ∧ zkd σ o = 0 ∧ zho σ o = some t) ∨ (¬ a = 2 ∧ zRA (zkd σ o) a 0 ∧ ¬ zho σ o = some t ∨ ¬ a = 2 ∧ zRA (zkd σ o) a 0 ∧ 2 ≤ zkd σ o) := by
  unfold zonce at h1
  have h1 := Bool.or_eq_false_iff.mp h1
  have hp : zpassC (zkd σ o) (zbegin σ t a g) o t = false := h1.1
  have hal : zallowsC (zkd σ o) σ o t a g = true := hal
  rcases hk with ⟨hk, ha⟩ | ⟨hk, ha⟩ | ⟨hk, ha⟩ | ⟨hk, ha⟩ | ⟨hk, ha⟩ | ⟨hk, ha⟩
  · rw [hk] at hp hal ⊢
    have hp : ¬ (zho σ o = some t ∧ ¬ zth (zbegin σ t a g) 8 t = 2) := of_decide_eq_false hp
    have hal : a = 0 ∨ zho σ o = some t := of_decide_eq_true hal
    rw [zbeg_8] at hp
    by_cases h2 : a = 2
    · refine Or.inl ⟨h2, rfl, ?_⟩
      rcases hal with z | z
      · exact absurd (z.symm.trans h2) (by decide)
      · exact z
    · have hno : ¬ zho σ o = some t := fun z => hp ⟨z, h2⟩
      have ha0 : a = 0 := hal.resolve_right hno
      exact Or.inr (Or.inl ⟨h2, ⟨Or.inl ⟨rfl, Or.inl ha0⟩, fun z => absurd z h2, fun _ => rfl⟩, hno⟩)
  · rw [hk] at hp hal ⊢
    have hp : ¬ (zho σ o = some t ∨ zth (zbegin σ t a g) 8 t = 6) := of_decide_eq_false hp
    rw [zbeg_8] at hp
    have hno : ¬ zho σ o = some t := fun z => hp (Or.inl z)
    have h6 : ¬ a = 6 := fun z => hp (Or.inr z)
    have hal : (if a = 6 then decide (0 < zrd σ o t) else if a = 8 then decide (zho σ o = some t) else true) = true := hal
    rw [if_neg h6] at hal
    have h8 : ¬ a = 8 := fun z => by
      rw [if_pos z] at hal
      exact hno (of_decide_eq_true hal)
    have ha : a = 5 ∨ a = 7 := by
      rcases ha with z | z | z | z
      · exact Or.inl z
      · exact absurd z h6
      · exact Or.inr z
      · exact absurd z h8
    have h2 : ¬ a = 2 := by rcases ha with rfl | rfl <;> decide
    exact Or.inr (Or.inl ⟨h2, ⟨Or.inr (Or.inl ⟨rfl, ha⟩), fun z => absurd z h2, fun _ => rfl⟩, hno⟩)
  · rw [hk] at hp ⊢
    have hp : ¬ zth (zbegin σ t a g) 8 t = 10 := of_decide_eq_false hp
    rw [zbeg_8] at hp
    have ha : a = 9 := ha.resolve_right hp
    subst ha
    exact Or.inr (Or.inr ⟨by decide, ⟨Or.inr (Or.inr (Or.inl ⟨rfl, rfl⟩)), fun z => absurd z (by decide), fun _ => rfl⟩, by decide⟩)
  · rw [hk] at hp ⊢
    have hp : ¬ zth (zbegin σ t a g) 8 t = 12 := of_decide_eq_false hp
    rw [zbeg_8] at hp
    have ha : a = 11 := ha.resolve_right hp
    subst ha
    exact Or.inr (Or.inr ⟨by decide, ⟨Or.inr (Or.inr (Or.inr (Or.inl ⟨rfl, rfl⟩))), fun z => absurd z (by decide), fun _ => rfl⟩, by decide⟩)
  · rw [hk] at hp ⊢
    have hp : ¬ (zth (zbegin σ t a g) 8 t = 14 ∨ _) := of_decide_eq_false hp
    rw [zbeg_8] at hp
    have ha : a = 13 := ha.resolve_right (fun z => hp (Or.inl z))
    subst ha
    exact Or.inr (Or.inr ⟨by decide, ⟨Or.inr (Or.inr (Or.inr (Or.inr (Or.inl ⟨rfl, rfl⟩)))), fun z => absurd z (by decide), fun _ => rfl⟩, by decide⟩)
  · rw [hk]
    have h2 : ¬ a = 2 := by rcases ha with rfl | rfl <;> decide
    exact Or.inr (Or.inr ⟨h2, ⟨Or.inr (Or.inr (Or.inr (Or.inr (Or.inr ⟨rfl, ha⟩)))), fun z => absurd z h2, fun _ => rfl⟩, by decide⟩)
theorem zNv_free {X : Nat → Bool} {σ : zS} {o : Nat} (h : zNv X σ) (hk : zkd σ o = 0) : zNv X (zsho (zspl σ 6 o 0) o none) := by
  refine zNv_place (o := o) h rfl rfl rfl rfl rfl rfl (fun o' e => ⟨by simp [e, gs_zth_zsth, gs_zpl_zsth, gs_zwh_zsth, gs_zho_zsth, gs_zrw_zsth, gs_zen_zsth, gs_zrd_zsth, gs_zqu_zsth, gs_zn_zsth, gs_zkd_zsth, gs_zcp_zsth, gs_ztk_zsth, gs_zth_zspl, gs_zpl_zspl, gs_zwh_zspl, gs_zho_zspl, gs_zrw_zspl, gs_zen_zspl, gs_zrd_zspl, gs_zqu_zspl, gs_zn_zspl, gs_zkd_zspl, gs_zcp_zspl, gs_ztk_zspl, gs_zth_zswh, gs_zpl_zswh, gs_zwh_zswh, gs_zho_zswh, gs_zrw_zswh, gs_zen_zswh, gs_zrd_zswh, gs_zqu_zswh, gs_zn_zswh, gs_zkd_zswh, gs_zcp_zswh, gs_ztk_zswh, gs_zth_zsho, gs_zpl_zsho, gs_zwh_zsho, gs_zho_zsho, gs_zrw_zsho, gs_zen_zsho, gs_zrd_zsho, gs_zqu_zsho, gs_zn_zsho, gs_zkd_zsho, gs_zcp_zsho, gs_ztk_zsho, gs_zth_zsrw, gs_zpl_zsrw, gs_zwh_zsrw, gs_zho_zsrw, gs_zrw_zsrw, gs_zen_zsrw, gs_zrd_zsrw, gs_zqu_zsrw, gs_zn_zsrw, gs_zkd_zsrw, gs_zcp_zsrw, gs_ztk_zsrw, gs_zth_zsen, gs_zpl_zsen, gs_zwh_zsen, gs_zho_zsen, gs_zrw_zsen, gs_zen_zsen, gs_zrd_zsen, gs_zqu_zsen, gs_zn_zsen, gs_zkd_zsen, gs_zcp_zsen, gs_ztk_zsen, gs_zth_zsrd, gs_zpl_zsrd, gs_zwh_zsrd, gs_zho_zsrd, gs_zrw_zsrd, gs_zen_zsrd, gs_zrd_zsrd, gs_zqu_zsrd, gs_zn_zsrd, gs_zkd_zsrd, gs_zcp_zsrd, gs_ztk_zsrd, gs_zth_zsqu, gs_zpl_zsqu, gs_zwh_zsqu, gs_zho_zsqu, gs_zrw_zsqu, gs_zen_zsqu, gs_zrd_zsqu, gs_zqu_zsqu, gs_zn_zsqu, gs_zkd_zsqu, gs_zcp_zsqu, gs_ztk_zsqu, gs_zth_zstk, gs_zpl_zstk, gs_zwh_zstk, gs_zho_zstk, gs_zrw_zstk, gs_zen_zstk, gs_zrd_zstk, gs_zqu_zstk, gs_zn_zstk, gs_zkd_zstk, gs_zcp_zstk, gs_ztk_zstk], fun f => by simp [e, gs_zth_zsth, gs_zpl_zsth, gs_zwh_zsth, gs_zho_zsth, gs_zrw_zsth, gs_zen_zsth, gs_zrd_zsth, gs_zqu_zsth, gs_zn_zsth, gs_zkd_zsth, gs_zcp_zsth, gs_ztk_zsth, gs_zth_zspl, gs_zpl_zspl, gs_zwh_zspl, gs_zho_zspl, gs_zrw_zspl, gs_zen_zspl, gs_zrd_zspl, gs_zqu_zspl, gs_zn_zspl, gs_zkd_zspl, gs_zcp_zspl, gs_ztk_zspl, gs_zth_zswh, gs_zpl_zswh, gs_zwh_zswh, gs_zho_zswh, gs_zrw_zswh, gs_zen_zswh, gs_zrd_zswh, gs_zqu_zswh, gs_zn_zswh, gs_zkd_zswh, gs_zcp_zswh, gs_ztk_zswh, gs_zth_zsho, gs_zpl_zsho, gs_zwh_zsho, gs_zho_zsho, gs_zrw_zsho, gs_zen_zsho, gs_zrd_zsho, gs_zqu_zsho, gs_zn_zsho, gs_zkd_zsho, gs_zcp_zsho, gs_ztk_zsho, gs_zth_zsrw, gs_zpl_zsrw, gs_zwh_zsrw, gs_zho_zsrw, gs_zrw_zsrw, gs_zen_zsrw, gs_zrd_zsrw, gs_zqu_zsrw, gs_zn_zsrw, gs_zkd_zsrw, gs_zcp_zsrw, gs_ztk_zsrw, gs_zth_zsen, gs_zpl_zsen, gs_zwh_zsen, gs_zho_zsen, gs_zrw_zsen, gs_zen_zsen, gs_zrd_zsen, gs_zqu_zsen, gs_zn_zsen, gs_zkd_zsen, gs_zcp_zsen, gs_ztk_zsen, gs_zth_zsrd, gs_zpl_zsrd, gs_zwh_zsrd, gs_zho_zsrd, gs_zrw_zsrd, gs_zen_zsrd, gs_zrd_zsrd, gs_zqu_zsrd, gs_zn_zsrd, gs_zkd_zsrd, gs_zcp_zsrd, gs_ztk_zsrd, gs_zth_zsqu, gs_zpl_zsqu, gs_zwh_zsqu, gs_zho_zsqu, gs_zrw_zsqu, gs_zen_zsqu, gs_zrd_zsqu, gs_zqu_zsqu, gs_zn_zsqu, gs_zkd_zsqu, gs_zcp_zsqu, gs_ztk_zsqu, gs_zth_zstk, gs_zpl_zstk, gs_zwh_zstk, gs_zho_zstk, gs_zrw_zstk, gs_zen_zstk, gs_zrd_zstk, gs_zqu_zstk, gs_zn_zstk, gs_zkd_zstk, gs_zcp_zstk, gs_ztk_zstk], rfl, rfl⟩) (fun j u ho hj hu => by simp [gs_zth_zsth, gs_zpl_zsth, gs_zwh_zsth, gs_zho_zsth, gs_zrw_zsth, gs_zen_zsth, gs_zrd_zsth, gs_zqu_zsth, gs_zn_zsth, gs_zkd_zsth, gs_zcp_zsth, gs_ztk_zsth, gs_zth_zspl, gs_zpl_zspl, gs_zwh_zspl, gs_zho_zspl, gs_zrw_zspl, gs_zen_zspl, gs_zrd_zspl, gs_zqu_zspl, gs_zn_zspl, gs_zkd_zspl, gs_zcp_zspl, gs_ztk_zspl, gs_zth_zswh, gs_zpl_zswh, gs_zwh_zswh, gs_zho_zswh, gs_zrw_zswh, gs_zen_zswh, gs_zrd_zswh, gs_zqu_zswh, gs_zn_zswh, gs_zkd_zswh, gs_zcp_zswh, gs_ztk_zswh, gs_zth_zsho, gs_zpl_zsho, gs_zwh_zsho, gs_zho_zsho, gs_zrw_zsho, gs_zen_zsho, gs_zrd_zsho, gs_zqu_zsho, gs_zn_zsho, gs_zkd_zsho, gs_zcp_zsho, gs_ztk_zsho, gs_zth_zsrw, gs_zpl_zsrw, gs_zwh_zsrw, gs_zho_zsrw, gs_zrw_zsrw, gs_zen_zsrw, gs_zrd_zsrw, gs_zqu_zsrw, gs_zn_zsrw, gs_zkd_zsrw, gs_zcp_zsrw, gs_ztk_zsrw, gs_zth_zsen, gs_zpl_zsen, gs_zwh_zsen, gs_zho_zsen, gs_zrw_zsen, gs_zen_zsen, gs_zrd_zsen, gs_zqu_zsen, gs_zn_zsen, gs_zkd_zsen, gs_zcp_zsen, gs_ztk_zsen, gs_zth_zsrd, gs_zpl_zsrd, gs_zwh_zsrd, gs_zho_zsrd, gs_zrw_zsrd, gs_zen_zsrd, gs_zrd_zsrd, gs_zqu_zsrd, gs_zn_zsrd, gs_zkd_zsrd, gs_zcp_zsrd, gs_ztk_zsrd, gs_zth_zsqu, gs_zpl_zsqu, gs_zwh_zsqu, gs_zho_zsqu, gs_zrw_zsqu, gs_zen_zsqu, gs_zrd_zsqu, gs_zqu_zsqu, gs_zn_zsqu, gs_zkd_zsqu, gs_zcp_zsqu, gs_ztk_zsqu, gs_zth_zstk, gs_zpl_zstk, gs_zwh_zstk, gs_zho_zstk, gs_zrw_zstk, gs_zen_zstk, gs_zrd_zstk, gs_zqu_zstk, gs_zn_zstk, gs_zkd_zstk, gs_zcp_zstk, gs_ztk_zstk]) (fun ho => ?_)
  obtain ⟨a1, a2, a3, a4, a5, a6, a7, a8, a9⟩ := h.2.2.2.2.2 o ho
  refine ⟨a1, a2, a3, fun t z => ?_, fun z => ?_, fun _ => ?_, fun z => ?_, fun z => ?_, a9⟩
  · simp [gs_zth_zsth, gs_zpl_zsth, gs_zwh_zsth, gs_zho_zsth, gs_zrw_zsth, gs_zen_zsth, gs_zrd_zsth, gs_zqu_zsth, gs_zn_zsth, gs_zkd_zsth, gs_zcp_zsth, gs_ztk_zsth, gs_zth_zspl, gs_zpl_zspl, gs_zwh_zspl, gs_zho_zspl, gs_zrw_zspl, gs_zen_zspl, gs_zrd_zspl, gs_zqu_zspl, gs_zn_zspl, gs_zkd_zspl, gs_zcp_zspl, gs_ztk_zspl, gs_zth_zswh, gs_zpl_zswh, gs_zwh_zswh, gs_zho_zswh, gs_zrw_zswh, gs_zen_zswh, gs_zrd_zswh, gs_zqu_zswh, gs_zn_zswh, gs_zkd_zswh, gs_zcp_zswh, gs_ztk_zswh, gs_zth_zsho, gs_zpl_zsho, gs_zwh_zsho, gs_zho_zsho, gs_zrw_zsho, gs_zen_zsho, gs_zrd_zsho, gs_zqu_zsho, gs_zn_zsho, gs_zkd_zsho, gs_zcp_zsho, gs_ztk_zsho, gs_zth_zsrw, gs_zpl_zsrw, gs_zwh_zsrw, gs_zho_zsrw, gs_zrw_zsrw, gs_zen_zsrw, gs_zrd_zsrw, gs_zqu_zsrw, gs_zn_zsrw, gs_zkd_zsrw, gs_zcp_zsrw, gs_ztk_zsrw, gs_zth_zsen, gs_zpl_zsen, gs_zwh_zsen, gs_zho_zsen, gs_zrw_zsen, gs_zen_zsen, gs_zrd_zsen, gs_zqu_zsen, gs_zn_zsen, gs_zkd_zsen, gs_zcp_zsen, gs_ztk_zsen, gs_zth_zsrd, gs_zpl_zsrd, gs_zwh_zsrd, gs_zho_zsrd, gs_zrw_zsrd, gs_zen_zsrd, gs_zrd_zsrd, gs_zqu_zsrd, gs_zn_zsrd, gs_zkd_zsrd, gs_zcp_zsrd, gs_ztk_zsrd, gs_zth_zsqu, gs_zpl_zsqu, gs_zwh_zsqu, gs_zho_zsqu, gs_zrw_zsqu, gs_zen_zsqu, gs_zrd_zsqu, gs_zqu_zsqu, gs_zn_zsqu, gs_zkd_zsqu, gs_zcp_zsqu, gs_ztk_zsqu, gs_zth_zstk, gs_zpl_zstk, gs_zwh_zstk, gs_zho_zstk, gs_zrw_zstk, gs_zen_zstk, gs_zrd_zstk, gs_zqu_zstk, gs_zn_zstk, gs_zkd_zstk, gs_zcp_zstk, gs_ztk_zstk] at z
  · simp [gs_zth_zsth, gs_zpl_zsth, gs_zwh_zsth, gs_zho_zsth, gs_zrw_zsth, gs_zen_zsth, gs_zrd_zsth, gs_zqu_zsth, gs_zn_zsth, gs_zkd_zsth, gs_zcp_zsth, gs_ztk_zsth, gs_zth_zspl, gs_zpl_zspl, gs_zwh_zspl, gs_zho_zspl, gs_zrw_zspl, gs_zen_zspl, gs_zrd_zspl, gs_zqu_zspl, gs_zn_zspl, gs_zkd_zspl, gs_zcp_zspl, gs_ztk_zspl, gs_zth_zswh, gs_zpl_zswh, gs_zwh_zswh, gs_zho_zswh, gs_zrw_zswh, gs_zen_zswh, gs_zrd_zswh, gs_zqu_zswh, gs_zn_zswh, gs_zkd_zswh, gs_zcp_zswh, gs_ztk_zswh, gs_zth_zsho, gs_zpl_zsho, gs_zwh_zsho, gs_zho_zsho, gs_zrw_zsho, gs_zen_zsho, gs_zrd_zsho, gs_zqu_zsho, gs_zn_zsho, gs_zkd_zsho, gs_zcp_zsho, gs_ztk_zsho, gs_zth_zsrw, gs_zpl_zsrw, gs_zwh_zsrw, gs_zho_zsrw, gs_zrw_zsrw, gs_zen_zsrw, gs_zrd_zsrw, gs_zqu_zsrw, gs_zn_zsrw, gs_zkd_zsrw, gs_zcp_zsrw, gs_ztk_zsrw, gs_zth_zsen, gs_zpl_zsen, gs_zwh_zsen, gs_zho_zsen, gs_zrw_zsen, gs_zen_zsen, gs_zrd_zsen, gs_zqu_zsen, gs_zn_zsen, gs_zkd_zsen, gs_zcp_zsen, gs_ztk_zsen, gs_zth_zsrd, gs_zpl_zsrd, gs_zwh_zsrd, gs_zho_zsrd, gs_zrw_zsrd, gs_zen_zsrd, gs_zrd_zsrd, gs_zqu_zsrd, gs_zn_zsrd, gs_zkd_zsrd, gs_zcp_zsrd, gs_ztk_zsrd, gs_zth_zsqu, gs_zpl_zsqu, gs_zwh_zsqu, gs_zho_zsqu, gs_zrw_zsqu, gs_zen_zsqu, gs_zrd_zsqu, gs_zqu_zsqu, gs_zn_zsqu, gs_zkd_zsqu, gs_zcp_zsqu, gs_ztk_zsqu, gs_zth_zstk, gs_zpl_zstk, gs_zwh_zstk, gs_zho_zstk, gs_zrw_zstk, gs_zen_zstk, gs_zrd_zstk, gs_zqu_zstk, gs_zn_zstk, gs_zkd_zstk, gs_zcp_zstk, gs_ztk_zstk]
  · simp [gs_zth_zsth, gs_zpl_zsth, gs_zwh_zsth, gs_zho_zsth, gs_zrw_zsth, gs_zen_zsth, gs_zrd_zsth, gs_zqu_zsth, gs_zn_zsth, gs_zkd_zsth, gs_zcp_zsth, gs_ztk_zsth, gs_zth_zspl, gs_zpl_zspl, gs_zwh_zspl, gs_zho_zspl, gs_zrw_zspl, gs_zen_zspl, gs_zrd_zspl, gs_zqu_zspl, gs_zn_zspl, gs_zkd_zspl, gs_zcp_zspl, gs_ztk_zspl, gs_zth_zswh, gs_zpl_zswh, gs_zwh_zswh, gs_zho_zswh, gs_zrw_zswh, gs_zen_zswh, gs_zrd_zswh, gs_zqu_zswh, gs_zn_zswh, gs_zkd_zswh, gs_zcp_zswh, gs_ztk_zswh, gs_zth_zsho, gs_zpl_zsho, gs_zwh_zsho, gs_zho_zsho, gs_zrw_zsho, gs_zen_zsho, gs_zrd_zsho, gs_zqu_zsho, gs_zn_zsho, gs_zkd_zsho, gs_zcp_zsho, gs_ztk_zsho, gs_zth_zsrw, gs_zpl_zsrw, gs_zwh_zsrw, gs_zho_zsrw, gs_zrw_zsrw, gs_zen_zsrw, gs_zrd_zsrw, gs_zqu_zsrw, gs_zn_zsrw, gs_zkd_zsrw, gs_zcp_zsrw, gs_ztk_zsrw, gs_zth_zsen, gs_zpl_zsen, gs_zwh_zsen, gs_zho_zsen, gs_zrw_zsen, gs_zen_zsen, gs_zrd_zsen, gs_zqu_zsen, gs_zn_zsen, gs_zkd_zsen, gs_zcp_zsen, gs_ztk_zsen, gs_zth_zsrd, gs_zpl_zsrd, gs_zwh_zsrd, gs_zho_zsrd, gs_zrw_zsrd, gs_zen_zsrd, gs_zrd_zsrd, gs_zqu_zsrd, gs_zn_zsrd, gs_zkd_zsrd, gs_zcp_zsrd, gs_ztk_zsrd, gs_zth_zsqu, gs_zpl_zsqu, gs_zwh_zsqu, gs_zho_zsqu, gs_zrw_zsqu, gs_zen_zsqu, gs_zrd_zsqu, gs_zqu_zsqu, gs_zn_zsqu, gs_zkd_zsqu, gs_zcp_zsqu, gs_ztk_zsqu, gs_zth_zstk, gs_zpl_zstk, gs_zwh_zstk, gs_zho_zstk, gs_zrw_zstk, gs_zen_zstk, gs_zrd_zstk, gs_zqu_zstk, gs_zn_zstk, gs_zkd_zstk, gs_zcp_zstk, gs_ztk_zstk]
  · exact absurd (hk.symm.trans (show zkd σ o = 1 from z)) (by decide)
  · exact absurd (hk.symm.trans (show zkd σ o = 4 from z)) (by decide)
theorem zNv_joinC {X : Nat → Bool} {σ : zS} {o t : Nat} {p : Int32} (h : zNv X σ) (hX : X t = true) (ht : t < 6) (ho : o < zn σ) (hk : zkd σ o = 0) (h8 : zth σ 8 t = 2) : zNv (xr X t) (zjoinC σ o t p) := by
  have h1 := zNv_free (o := o) (zNv_sth (f := 10) (x := zpl σ 6 o) h hX (by decide)) hk
  have hcj := zcj_in (zth σ 9 t)
  have e8 : zth (zsho (zspl (zsth σ 10 t (zpl σ 6 o)) 6 o 0) o none) 8 t = 2 := by
    rw [← h8]; simp [gs_zth_zsth, gs_zpl_zsth, gs_zwh_zsth, gs_zho_zsth, gs_zrw_zsth, gs_zen_zsth, gs_zrd_zsth, gs_zqu_zsth, gs_zn_zsth, gs_zkd_zsth, gs_zcp_zsth, gs_ztk_zsth, gs_zth_zspl, gs_zpl_zspl, gs_zwh_zspl, gs_zho_zspl, gs_zrw_zspl, gs_zen_zspl, gs_zrd_zspl, gs_zqu_zspl, gs_zn_zspl, gs_zkd_zspl, gs_zcp_zspl, gs_ztk_zspl, gs_zth_zswh, gs_zpl_zswh, gs_zwh_zswh, gs_zho_zswh, gs_zrw_zswh, gs_zen_zswh, gs_zrd_zswh, gs_zqu_zswh, gs_zn_zswh, gs_zkd_zswh, gs_zcp_zswh, gs_ztk_zswh, gs_zth_zsho, gs_zpl_zsho, gs_zwh_zsho, gs_zho_zsho, gs_zrw_zsho, gs_zen_zsho, gs_zrd_zsho, gs_zqu_zsho, gs_zn_zsho, gs_zkd_zsho, gs_zcp_zsho, gs_ztk_zsho, gs_zth_zsrw, gs_zpl_zsrw, gs_zwh_zsrw, gs_zho_zsrw, gs_zrw_zsrw, gs_zen_zsrw, gs_zrd_zsrw, gs_zqu_zsrw, gs_zn_zsrw, gs_zkd_zsrw, gs_zcp_zsrw, gs_ztk_zsrw, gs_zth_zsen, gs_zpl_zsen, gs_zwh_zsen, gs_zho_zsen, gs_zrw_zsen, gs_zen_zsen, gs_zrd_zsen, gs_zqu_zsen, gs_zn_zsen, gs_zkd_zsen, gs_zcp_zsen, gs_ztk_zsen, gs_zth_zsrd, gs_zpl_zsrd, gs_zwh_zsrd, gs_zho_zsrd, gs_zrw_zsrd, gs_zen_zsrd, gs_zrd_zsrd, gs_zqu_zsrd, gs_zn_zsrd, gs_zkd_zsrd, gs_zcp_zsrd, gs_ztk_zsrd, gs_zth_zsqu, gs_zpl_zsqu, gs_zwh_zsqu, gs_zho_zsqu, gs_zrw_zsqu, gs_zen_zsqu, gs_zrd_zsqu, gs_zqu_zsqu, gs_zn_zsqu, gs_zkd_zsqu, gs_zcp_zsqu, gs_ztk_zsqu, gs_zth_zstk, gs_zpl_zstk, gs_zwh_zstk, gs_zho_zstk, gs_zrw_zstk, gs_zen_zstk, gs_zrd_zstk, gs_zqu_zstk, gs_zn_zstk, gs_zkd_zstk, gs_zcp_zstk, gs_ztk_zstk]
  have e9 : zth (zsho (zspl (zsth σ 10 t (zpl σ 6 o)) 6 o 0) o none) 9 t = zth σ 9 t := by simp [gs_zth_zsth, gs_zpl_zsth, gs_zwh_zsth, gs_zho_zsth, gs_zrw_zsth, gs_zen_zsth, gs_zrd_zsth, gs_zqu_zsth, gs_zn_zsth, gs_zkd_zsth, gs_zcp_zsth, gs_ztk_zsth, gs_zth_zspl, gs_zpl_zspl, gs_zwh_zspl, gs_zho_zspl, gs_zrw_zspl, gs_zen_zspl, gs_zrd_zspl, gs_zqu_zspl, gs_zn_zspl, gs_zkd_zspl, gs_zcp_zspl, gs_ztk_zspl, gs_zth_zswh, gs_zpl_zswh, gs_zwh_zswh, gs_zho_zswh, gs_zrw_zswh, gs_zen_zswh, gs_zrd_zswh, gs_zqu_zswh, gs_zn_zswh, gs_zkd_zswh, gs_zcp_zswh, gs_ztk_zswh, gs_zth_zsho, gs_zpl_zsho, gs_zwh_zsho, gs_zho_zsho, gs_zrw_zsho, gs_zen_zsho, gs_zrd_zsho, gs_zqu_zsho, gs_zn_zsho, gs_zkd_zsho, gs_zcp_zsho, gs_ztk_zsho, gs_zth_zsrw, gs_zpl_zsrw, gs_zwh_zsrw, gs_zho_zsrw, gs_zrw_zsrw, gs_zen_zsrw, gs_zrd_zsrw, gs_zqu_zsrw, gs_zn_zsrw, gs_zkd_zsrw, gs_zcp_zsrw, gs_ztk_zsrw, gs_zth_zsen, gs_zpl_zsen, gs_zwh_zsen, gs_zho_zsen, gs_zrw_zsen, gs_zen_zsen, gs_zrd_zsen, gs_zqu_zsen, gs_zn_zsen, gs_zkd_zsen, gs_zcp_zsen, gs_ztk_zsen, gs_zth_zsrd, gs_zpl_zsrd, gs_zwh_zsrd, gs_zho_zsrd, gs_zrw_zsrd, gs_zen_zsrd, gs_zrd_zsrd, gs_zqu_zsrd, gs_zn_zsrd, gs_zkd_zsrd, gs_zcp_zsrd, gs_ztk_zsrd, gs_zth_zsqu, gs_zpl_zsqu, gs_zwh_zsqu, gs_zho_zsqu, gs_zrw_zsqu, gs_zen_zsqu, gs_zrd_zsqu, gs_zqu_zsqu, gs_zn_zsqu, gs_zkd_zsqu, gs_zcp_zsqu, gs_ztk_zsqu, gs_zth_zstk, gs_zpl_zstk, gs_zwh_zstk, gs_zho_zstk, gs_zrw_zstk, gs_zen_zstk, gs_zrd_zstk, gs_zqu_zstk, gs_zn_zstk, gs_zkd_zstk, gs_zcp_zstk, gs_ztk_zstk]
  have eh : ¬ zho (zsho (zspl (zsth σ 10 t (zpl σ 6 o)) 6 o 0) o none) o = some t := by simp [gs_zth_zsth, gs_zpl_zsth, gs_zwh_zsth, gs_zho_zsth, gs_zrw_zsth, gs_zen_zsth, gs_zrd_zsth, gs_zqu_zsth, gs_zn_zsth, gs_zkd_zsth, gs_zcp_zsth, gs_ztk_zsth, gs_zth_zspl, gs_zpl_zspl, gs_zwh_zspl, gs_zho_zspl, gs_zrw_zspl, gs_zen_zspl, gs_zrd_zspl, gs_zqu_zspl, gs_zn_zspl, gs_zkd_zspl, gs_zcp_zspl, gs_ztk_zspl, gs_zth_zswh, gs_zpl_zswh, gs_zwh_zswh, gs_zho_zswh, gs_zrw_zswh, gs_zen_zswh, gs_zrd_zswh, gs_zqu_zswh, gs_zn_zswh, gs_zkd_zswh, gs_zcp_zswh, gs_ztk_zswh, gs_zth_zsho, gs_zpl_zsho, gs_zwh_zsho, gs_zho_zsho, gs_zrw_zsho, gs_zen_zsho, gs_zrd_zsho, gs_zqu_zsho, gs_zn_zsho, gs_zkd_zsho, gs_zcp_zsho, gs_ztk_zsho, gs_zth_zsrw, gs_zpl_zsrw, gs_zwh_zsrw, gs_zho_zsrw, gs_zrw_zsrw, gs_zen_zsrw, gs_zrd_zsrw, gs_zqu_zsrw, gs_zn_zsrw, gs_zkd_zsrw, gs_zcp_zsrw, gs_ztk_zsrw, gs_zth_zsen, gs_zpl_zsen, gs_zwh_zsen, gs_zho_zsen, gs_zrw_zsen, gs_zen_zsen, gs_zrd_zsen, gs_zqu_zsen, gs_zn_zsen, gs_zkd_zsen, gs_zcp_zsen, gs_ztk_zsen, gs_zth_zsrd, gs_zpl_zsrd, gs_zwh_zsrd, gs_zho_zsrd, gs_zrw_zsrd, gs_zen_zsrd, gs_zrd_zsrd, gs_zqu_zsrd, gs_zn_zsrd, gs_zkd_zsrd, gs_zcp_zsrd, gs_ztk_zsrd, gs_zth_zsqu, gs_zpl_zsqu, gs_zwh_zsqu, gs_zho_zsqu, gs_zrw_zsqu, gs_zen_zsqu, gs_zrd_zsqu, gs_zqu_zsqu, gs_zn_zsqu, gs_zkd_zsqu, gs_zcp_zsqu, gs_ztk_zsqu, gs_zth_zstk, gs_zpl_zstk, gs_zwh_zstk, gs_zho_zstk, gs_zrw_zstk, gs_zen_zstk, gs_zrd_zstk, gs_zqu_zstk, gs_zn_zstk, gs_zkd_zstk, gs_zcp_zstk, gs_ztk_zstk]
  exact zNv_row (j := zcj (zth σ 9 t)) (p := p) (s := 2) h1 hX ht ho (Or.inr ⟨hk, hcj.2⟩) (fun z => absurd z hcj.1) (fun _ => ⟨rfl, e8, by rw [e9]⟩) eh
theorem zGP_act {n : Nat} {X : Nat → Bool} {σ : zS} {o t : Nat} {a g : Int32} (hv : zNv X σ) (hb : zB n X σ) (ht : t < 6) (ho : o < zn σ) (hk : zAK (zkd σ o) a) (hal : zallows σ o t a g = true) (h1 : zonce (zbegin σ t a g) o t = true) : zGP (zbegin σ t a g) o t := by
  have hal : zallowsC (zkd σ o) σ o t a g = true := hal
  refine ⟨fun k0 a1 => ?_, fun k1 => ?_⟩
  · have k0 : zkd σ o = 0 := k0
    rw [zbeg_8] at a1
    rw [k0] at hal
    have hal : a = 0 ∨ zho σ o = some t := of_decide_eq_true hal
    rcases hal with z | z
    · exact absurd (z.symm.trans a1) (by decide)
    · exact z
  · have k1 : zkd σ o = 1 := k1
    rw [zbeg_8]
    rw [k1] at hal
    have hal : (if a = 6 then decide (0 < zrd σ o t) else if a = 8 then decide (zho σ o = some t) else true) = true := hal
    have hbk := (hv.2.2.2.2.2 o ho).2.2.2.2.2.2.1 k1
    have hcan : zho σ o = some t ∨ a = 6 ∨ (¬ (¬ zho σ o = none ∧ ¬ zho σ o = some t) ∧ (a = 5 ∨ zpl σ 4 o ≤ zrd σ o t)) := by
      unfold zonce at h1
      rcases (Bool.or_eq_true _ _).mp h1 with z | z
      · have z : zpassC (zkd σ o) (zbegin σ t a g) o t = true := z
        rw [k1] at z
        have z : zho σ o = some t ∨ zth (zbegin σ t a g) 8 t = 6 := of_decide_eq_true z
        rw [zbeg_8] at z
        exact z.imp_right Or.inl
      · have z := ((Bool.and_eq_true _ _).mp z).1
        have z : zcanC (zkd σ o) (zbegin σ t a g) o t = true := z
        rw [k1] at z
        have z : ¬ (¬ zho σ o = none ∧ ¬ zho σ o = some t) ∧ (zth (zbegin σ t a g) 8 t = 5 ∨ zpl σ 4 o ≤ zrd σ o t) := of_decide_eq_true z
        rw [zbeg_8] at z
        exact Or.inr (Or.inr z)
    refine ⟨fun a5 => ?_, fun a6 => ?_, fun a7 u hu hne => ?_, fun z1 z2 z3 => ?_⟩
    · rcases hcan with z | z | z
      · exact Or.inr z
      · exact absurd (a5.symm.trans z) (by decide)
      · by_cases e : zho σ o = none
        · exact Or.inl e
        · exact Or.inr (Decidable.byContradiction (fun e2 => z.1 ⟨e, e2⟩))
    · rw [if_pos a6] at hal
      exact of_decide_eq_true hal
    · rcases hcan with z | z | z
      · exact hbk.2.2 t z u hu hne
      · exact absurd (a7.symm.trans z) (by decide)
      · refine (zBk_oth hb hbk ho k1 ht).mp ?_ u hu hne
        rcases z.2 with z | z
        · exact absurd (a7.symm.trans z) (by decide)
        · exact z
    · have h8 : a = 8 := by
        rcases hk with ⟨z, -⟩ | ⟨-, z⟩ | ⟨z, -⟩ | ⟨z, -⟩ | ⟨z, -⟩ | ⟨z, -⟩
        · exact absurd (z.symm.trans k1) (by decide)
        · rcases z with z | z | z | z
          · exact absurd z z1
          · exact absurd z z2
          · exact absurd z z3
          · exact z
        all_goals exact absurd (z.symm.trans k1) (by decide)
      rw [if_neg z2, if_pos h8] at hal
      exact of_decide_eq_true hal
theorem zIF_J {n : Nat} (hn : n + 3 < 1000000) : zIF (zJn n) (zJn (n + 1)) := by
  intro σ t o a g p ⟨hv, hb, _⟩ ht ho hia hip hyk h2 hal
  have hp1 := hv.2.2.2.2.2 o ho
  have hak := zAK_of hia hyk hp1.1
  have v1 : zNv (xa x0 t) (zbegin σ t a g) := zNv_begin hv h2
  have b1 : zB (n + 1) (xa x0 t) (zbegin σ t a g) := zB_begin hb (by omega) ht
  have hX : (xa x0 t) t = true := by simp
  have hid := hv.idle h2
  have up : ∀ σ', zB n x0 σ' → zB (n + 1) x0 σ' := fun σ' h9 => h9.mono (by omega) (by omega)
  have fin : ∀ σ', zNv (xa x0 t) σ' → zB (n + 1) (xa x0 t) σ' → ∀ h, zNv x0 (zend σ' t h) ∧ zB n x0 (zend σ' t h) := fun σ' w1 w2 h => by
    have h9 := zNv_end (t := t) (h := h) w1 hX
    have h8 := zB_end (t := t) (h := h) w2 ht hX
    rw [xar x0 rfl] at h9 h8
    exact ⟨h9, h8⟩
  refine ⟨fun hon => ⟨fun k0 => ?_, fun k5 a15 => ?_⟩, hv.lt5 ho (Or.inl rfl) ht (hid o 0 ho (Or.inl rfl)), fun k0 => hv.lt5 ho (Or.inr ⟨k0, (zcj_in g).2⟩) ht (hid o _ ho (Or.inr ⟨k0, (zcj_in g).2⟩)), ?_⟩
  · exact v1.two ho k0 (zcj_in _).1 (zcj_in _).2
  · have k5 : zkd σ o = 5 := k5
    rw [zbeg_8] at a15
    unfold zonce at hon
    rcases (Bool.or_eq_true _ _).mp hon with z | z
    · have z : zpassC (zkd σ o) (zbegin σ t a g) o t = true := z
      rw [k5] at z
      cases z
    · have z := ((Bool.and_eq_true _ _).mp z).1
      have z : zcanC (zkd σ o) (zbegin σ t a g) o t = true := z
      rw [k5] at z
      have z : (if zth (zbegin σ t a g) 8 t = 15 then decide ((zqu σ o).length < zcp σ o) else decide (0 < (zqu σ o).length)) = true := z
      rw [zbeg_8, if_neg a15] at z
      have z := of_decide_eq_true z
      intro e
      have e : zqu σ o = [] := e
      rw [e] at z
      exact absurd z (by decide)
  · unfold zperf
    split
    · have h9 := fin _ v1 b1 3
      exact ⟨h9.1, up _ h9.2, by omega⟩
    · split
      · rename_i hon
        have hg := zNv_grant v1 b1 (by omega) hX ht ho (zGP_act hv hb ht ho hak hal hon)
        have h9 := zNv_end (t := t) (h := 0) hg.1 hX
        have h8 := zB_end (t := t) (h := 0) hg.2 ht hX
        rw [xar x0 rfl] at h9 h8
        exact ⟨h9, h8, by omega⟩
      · rename_i hon
        have hon : zonce (zbegin σ t a g) o t = false := by
          cases h : zonce (zbegin σ t a g) o t with
          | false => rfl
          | true => exact absurd h hon
        split
        · have h9 := fin _ (zNv_mark (t := t) (x := 0) v1 (Or.inl rfl)) (zB_le b1 rfl rfl rfl (fun _ _ h9 => h9)) 4
          have h8 := zNv_gave (o := o) h9.1 h9.2 ho
          exact ⟨h8.1, up _ h8.2, by omega⟩
        · split
          · have h9 := fin _ v1 b1 2
            exact ⟨h9.1, up _ h9.2, by omega⟩
          · show zJn (n + 1) (zholdC (zkd σ o) (zbegin σ t a g) o t p)
            have hx : ∀ u, xr (xa x0 t) t u = x0 u := fun u => by rw [xar x0 rfl]
            rcases zheld hak hal hon with ⟨e2, k0, hown⟩ | hz
            · rw [k0]
              show zJn (n + 1) (if zth (zbegin σ t a g) 8 t = 2 then zjoinC (zbegin σ t a g) o t p else zjoin (zbegin σ t a g) o t p)
              rw [zbeg_8, if_pos e2]
              have h9 := zNv_joinC (p := p) v1 hX ht ho k0 (by rw [zbeg_8]; exact e2)
              rw [xar x0 rfl] at h9
              refine ⟨h9, zB_le b1 rfl rfl rfl (fun u hu hz => ?_), by omega⟩
              by_cases e : u = t
              · subst e; simp
              · simpa [zjoinC, zstay, e, gs_zth_zsth, gs_zpl_zsth, gs_zwh_zsth, gs_zho_zsth, gs_zrw_zsth, gs_zen_zsth, gs_zrd_zsth, gs_zqu_zsth, gs_zn_zsth, gs_zkd_zsth, gs_zcp_zsth, gs_ztk_zsth, gs_zth_zspl, gs_zpl_zspl, gs_zwh_zspl, gs_zho_zspl, gs_zrw_zspl, gs_zen_zspl, gs_zrd_zspl, gs_zqu_zspl, gs_zn_zspl, gs_zkd_zspl, gs_zcp_zspl, gs_ztk_zspl, gs_zth_zswh, gs_zpl_zswh, gs_zwh_zswh, gs_zho_zswh, gs_zrw_zswh, gs_zen_zswh, gs_zrd_zswh, gs_zqu_zswh, gs_zn_zswh, gs_zkd_zswh, gs_zcp_zswh, gs_ztk_zswh, gs_zth_zsho, gs_zpl_zsho, gs_zwh_zsho, gs_zho_zsho, gs_zrw_zsho, gs_zen_zsho, gs_zrd_zsho, gs_zqu_zsho, gs_zn_zsho, gs_zkd_zsho, gs_zcp_zsho, gs_ztk_zsho, gs_zth_zsrw, gs_zpl_zsrw, gs_zwh_zsrw, gs_zho_zsrw, gs_zrw_zsrw, gs_zen_zsrw, gs_zrd_zsrw, gs_zqu_zsrw, gs_zn_zsrw, gs_zkd_zsrw, gs_zcp_zsrw, gs_ztk_zsrw, gs_zth_zsen, gs_zpl_zsen, gs_zwh_zsen, gs_zho_zsen, gs_zrw_zsen, gs_zen_zsen, gs_zrd_zsen, gs_zqu_zsen, gs_zn_zsen, gs_zkd_zsen, gs_zcp_zsen, gs_ztk_zsen, gs_zth_zsrd, gs_zpl_zsrd, gs_zwh_zsrd, gs_zho_zsrd, gs_zrw_zsrd, gs_zen_zsrd, gs_zrd_zsrd, gs_zqu_zsrd, gs_zn_zsrd, gs_zkd_zsrd, gs_zcp_zsrd, gs_ztk_zsrd, gs_zth_zsqu, gs_zpl_zsqu, gs_zwh_zsqu, gs_zho_zsqu, gs_zrw_zsqu, gs_zen_zsqu, gs_zrd_zsqu, gs_zqu_zsqu, gs_zn_zsqu, gs_zkd_zsqu, gs_zcp_zsqu, gs_ztk_zsqu, gs_zth_zstk, gs_zpl_zstk, gs_zwh_zstk, gs_zho_zstk, gs_zrw_zstk, gs_zen_zstk, gs_zrd_zstk, gs_zqu_zstk, gs_zn_zstk, gs_zkd_zstk, gs_zcp_zstk, gs_ztk_zstk] using hz
            · have hra : ¬ a = 2 ∧ zRA (zkd σ o) a 0 ∧ ¬ zho σ o = some t := by
                rcases hz with ⟨z1, z2, z3⟩ | ⟨z1, z2, z3⟩
                · exact ⟨z1, z2, z3⟩
                · exact ⟨z1, z2, by rw [hp1.2.2.2.2.1 z3]; simp⟩
              have e : zholdC (zkd σ o) (zbegin σ t a g) o t p = zjoin (zbegin σ t a g) o t p := by
                unfold zholdC
                split
                · rw [zbeg_8, if_neg hra.1]
                · rfl
              rw [e]
              have h9 := zNv_join (p := p) v1 hX ht ho (by rw [zbeg_8, zbeg_11]; exact hra.2.1) hra.2.2
              rw [xar x0 rfl] at h9
              refine ⟨h9, zB_le b1 rfl rfl rfl (fun u hu hz => ?_), by omega⟩
              by_cases e : u = t
              · subst e; simp
              · simpa [zjoin, zstay, e, gs_zth_zsth, gs_zpl_zsth, gs_zwh_zsth, gs_zho_zsth, gs_zrw_zsth, gs_zen_zsth, gs_zrd_zsth, gs_zqu_zsth, gs_zn_zsth, gs_zkd_zsth, gs_zcp_zsth, gs_ztk_zsth, gs_zth_zspl, gs_zpl_zspl, gs_zwh_zspl, gs_zho_zspl, gs_zrw_zspl, gs_zen_zspl, gs_zrd_zspl, gs_zqu_zspl, gs_zn_zspl, gs_zkd_zspl, gs_zcp_zspl, gs_ztk_zspl, gs_zth_zswh, gs_zpl_zswh, gs_zwh_zswh, gs_zho_zswh, gs_zrw_zswh, gs_zen_zswh, gs_zrd_zswh, gs_zqu_zswh, gs_zn_zswh, gs_zkd_zswh, gs_zcp_zswh, gs_ztk_zswh, gs_zth_zsho, gs_zpl_zsho, gs_zwh_zsho, gs_zho_zsho, gs_zrw_zsho, gs_zen_zsho, gs_zrd_zsho, gs_zqu_zsho, gs_zn_zsho, gs_zkd_zsho, gs_zcp_zsho, gs_ztk_zsho, gs_zth_zsrw, gs_zpl_zsrw, gs_zwh_zsrw, gs_zho_zsrw, gs_zrw_zsrw, gs_zen_zsrw, gs_zrd_zsrw, gs_zqu_zsrw, gs_zn_zsrw, gs_zkd_zsrw, gs_zcp_zsrw, gs_ztk_zsrw, gs_zth_zsen, gs_zpl_zsen, gs_zwh_zsen, gs_zho_zsen, gs_zrw_zsen, gs_zen_zsen, gs_zrd_zsen, gs_zqu_zsen, gs_zn_zsen, gs_zkd_zsen, gs_zcp_zsen, gs_ztk_zsen, gs_zth_zsrd, gs_zpl_zsrd, gs_zwh_zsrd, gs_zho_zsrd, gs_zrw_zsrd, gs_zen_zsrd, gs_zrd_zsrd, gs_zqu_zsrd, gs_zn_zsrd, gs_zkd_zsrd, gs_zcp_zsrd, gs_ztk_zsrd, gs_zth_zsqu, gs_zpl_zsqu, gs_zwh_zsqu, gs_zho_zsqu, gs_zrw_zsqu, gs_zen_zsqu, gs_zrd_zsqu, gs_zqu_zsqu, gs_zn_zsqu, gs_zkd_zsqu, gs_zcp_zsqu, gs_ztk_zsqu, gs_zth_zstk, gs_zpl_zstk, gs_zwh_zstk, gs_zho_zstk, gs_zrw_zstk, gs_zen_zstk, gs_zrd_zstk, gs_zqu_zstk, gs_zn_zstk, gs_zkd_zstk, gs_zcp_zstk, gs_ztk_zstk] using hz
theorem zFr_perf {σ : zS} {o t : Nat} {p : Int32} : zFr o σ (zperf σ o t p) := by
  unfold zperf
  split
  · exact zFr_end
  · split
    · exact zFr_grant.tr zFr_end
    · split
      · exact ((zFr_th (f := 6) (by decide) (by decide)).tr zFr_end).tr zFr_gave
      · split
        · exact zFr_end
        · unfold zhold zholdC
          split
          · split
            · exact zFr_joinC
            · exact zFr_join
          · exact zFr_join
/-- who isn't in the row is not touched -/
theorem zgr_out {n : Nat} {σ : zS} {o u t : Nat} (hJ : zJn n σ) (ho : o < zn σ) (hm : u ∈ zrw σ 0 o) (hc : zcan σ o u = true) (hne : ¬ t = u) : zth (zgr σ o u) 3 t = zth σ 3 t := by
  obtain ⟨ht, hx, hw, hs, hra⟩ := hJ.1.blk ho hm
  have h4 : ¬ zkd σ o = 4 := fun e => by unfold zcan at hc; rw [e] at hc; cases hc
  have h9 : zth (zgrant (zrm σ o u) o u) 3 t = zth σ 3 t := zgrant_th (σ := zrm σ o u) (w := zth σ 11 u) (by decide) hra h4
  unfold zgr
  rw [← h9]
  simp [zend, hne, gs_zth_zsth, gs_zpl_zsth, gs_zwh_zsth, gs_zho_zsth, gs_zrw_zsth, gs_zen_zsth, gs_zrd_zsth, gs_zqu_zsth, gs_zn_zsth, gs_zkd_zsth, gs_zcp_zsth, gs_ztk_zsth, gs_zth_zspl, gs_zpl_zspl, gs_zwh_zspl, gs_zho_zspl, gs_zrw_zspl, gs_zen_zspl, gs_zrd_zspl, gs_zqu_zspl, gs_zn_zspl, gs_zkd_zspl, gs_zcp_zspl, gs_ztk_zspl, gs_zth_zswh, gs_zpl_zswh, gs_zwh_zswh, gs_zho_zswh, gs_zrw_zswh, gs_zen_zswh, gs_zrd_zswh, gs_zqu_zswh, gs_zn_zswh, gs_zkd_zswh, gs_zcp_zswh, gs_ztk_zswh, gs_zth_zsho, gs_zpl_zsho, gs_zwh_zsho, gs_zho_zsho, gs_zrw_zsho, gs_zen_zsho, gs_zrd_zsho, gs_zqu_zsho, gs_zn_zsho, gs_zkd_zsho, gs_zcp_zsho, gs_ztk_zsho, gs_zth_zsrw, gs_zpl_zsrw, gs_zwh_zsrw, gs_zho_zsrw, gs_zrw_zsrw, gs_zen_zsrw, gs_zrd_zsrw, gs_zqu_zsrw, gs_zn_zsrw, gs_zkd_zsrw, gs_zcp_zsrw, gs_ztk_zsrw, gs_zth_zsen, gs_zpl_zsen, gs_zwh_zsen, gs_zho_zsen, gs_zrw_zsen, gs_zen_zsen, gs_zrd_zsen, gs_zqu_zsen, gs_zn_zsen, gs_zkd_zsen, gs_zcp_zsen, gs_ztk_zsen, gs_zth_zsrd, gs_zpl_zsrd, gs_zwh_zsrd, gs_zho_zsrd, gs_zrw_zsrd, gs_zen_zsrd, gs_zrd_zsrd, gs_zqu_zsrd, gs_zn_zsrd, gs_zkd_zsrd, gs_zcp_zsrd, gs_ztk_zsrd, gs_zth_zsqu, gs_zpl_zsqu, gs_zwh_zsqu, gs_zho_zsqu, gs_zrw_zsqu, gs_zen_zsqu, gs_zrd_zsqu, gs_zqu_zsqu, gs_zn_zsqu, gs_zkd_zsqu, gs_zcp_zsqu, gs_ztk_zsqu, gs_zth_zstk, gs_zpl_zstk, gs_zwh_zstk, gs_zho_zstk, gs_zrw_zstk, gs_zen_zstk, gs_zrd_zstk, gs_zqu_zstk, gs_zn_zstk, gs_zkd_zstk, gs_zcp_zstk, gs_ztk_zstk]
theorem zgo_out {n o t : Nat} : ∀ (m : Nat) (x : Int32) (p : Nat) (σ : zS), zJn n σ → o < zn σ → t ∉ zrw σ 0 o → zth (zgo o m x p σ).1 3 t = zth σ 3 t ∧ t ∉ zrw (zgo o m x p σ).1 0 o
  | 0, x, p, σ, _, _, hm => ⟨rfl, hm⟩
  | m + 1, x, p, σ, hJ, ho, hm => by
    cases hp : (zrw σ 0 o)[p]? with
    | none =>
      have e : zgo o (m + 1) x p σ = (σ, p) := by
        unfold zgo
        rw [hp]
      rw [e]
      exact ⟨rfl, hm⟩
    | some u =>
      have hu := List.mem_of_getElem? hp
      by_cases hg : (x &&& zbit σ o u) = 0 ∧ zcan σ o u = true
      · rw [zgo_grant hp hg.1 hg.2]
        have hne : ¬ t = u := fun z => hm (by rw [z]; exact hu)
        have h9 := zgo_out m x p (zgr σ o u) (zIA_J n σ o u hJ ho hu hg.2).2.2.2 (by rw [zgr_n.1]; exact ho) (by
          rw [zgr_row hJ ho hu hg.2]
          exact fun z => hm (List.mem_filter.mp z).1)
        rw [zgr_out hJ ho hu hg.2 hne] at h9
        exact h9
      · rw [zgo_ref hp hg]
        exact zgo_out m _ (p + 1) σ hJ ho hm
theorem zset_out {n o t : Nat} : ∀ (k : Nat) (σ : zS), zJn n σ → o < zn σ → t ∉ zrw σ 0 o → zth (zset o k σ) 3 t = zth σ 3 t
  | 0, σ, _, _, _ => rfl
  | k + 1, σ, hJ, ho, hm => by
    have h1 := zgo_out (n := n) (zrw σ 0 o).length 0 0 σ hJ ho hm
    unfold zset
    split
    · rw [zset_out k _ (zgo_J ((zIA_J n).J o) _ _ _ _ ⟨hJ, ho⟩).1 (by rw [(zgo_n _ _ _ _).1]; exact ho) h1.2]
      exact h1.1
    · exact h1.1
