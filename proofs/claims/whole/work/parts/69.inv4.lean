/-! the invariant: what the class wants of it -/
theorem zNv_grant {n : Nat} {X : Nat → Bool} {σ : zS} {o t : Nat} (h : zNv X σ) (hb : zB n X σ) (hn : n + 1 < 1000000) (hX : X t = true) (ht : t < 6) (ho : o < zn σ) (hg : zGP σ o t) : zNv X (zgrant σ o t) ∧ zB (n + 1) X (zgrant σ o t) := by
  have hp := h.2.2.2.2.2 o ho
  have up : ∀ σ', zB n X σ' → zB (n + 1) X σ' := fun σ' h9 => h9.mono (by omega) hn
  have hkd := hp.1
  have hgr : zgrant σ o t = zgrantC (zkd σ o) σ o t := rfl
  rcases (show zkd σ o = 0 ∨ zkd σ o = 1 ∨ zkd σ o = 2 ∨ zkd σ o = 3 ∨ zkd σ o = 4 ∨ zkd σ o = 5 by omega) with hk | hk | hk | hk | hk | hk
  · rw [hgr, hk]
    show zNv X (zgrantK σ o t) ∧ zB (n + 1) X (zgrantK σ o t)
    unfold zgrantK
    split
    · exact ⟨zNv_hold h hX ht (by omega) (fun z => absurd (hk.symm.trans z) (by decide)), up _ (zB_le hb rfl rfl rfl (fun _ _ h9 => h9))⟩
    · split
      · rename_i h1
        refine ⟨zNv_leave h ho (by omega) (hg.1 hk h1), up _ ?_⟩
        unfold zleave
        split <;> exact zB_le hb rfl rfl rfl (fun _ _ h9 => h9)
      · split
        · exact ⟨zNv_hold h hX ht (by omega) (fun z => absurd (hk.symm.trans z) (by decide)), up _ (zB_le hb rfl rfl rfl (fun _ _ h9 => h9))⟩
        · split
          · have h9 := zNv_call (n := n) (o := o) (zcj_in (zth σ 9 t)).1 (zcj_in (zth σ 9 t)).2 1 σ h hb ho hk
            exact ⟨h9.1, up _ h9.2⟩
          · have h9 := zNv_call (n := n) (o := o) (zcj_in (zth σ 9 t)).1 (zcj_in (zth σ 9 t)).2 (zrw σ (zcj (zth σ 9 t)) o).length σ h hb ho hk
            exact ⟨h9.1, up _ h9.2⟩
  · rw [hgr, hk]
    show zNv X (zgrantB σ o t) ∧ zB (n + 1) X (zgrantB σ o t)
    obtain ⟨g5, g6, g7, g8⟩ := hg.2 hk
    obtain ⟨b1, b2, b3⟩ := hp.2.2.2.2.2.2.1 hk
    have hrt := clN (b1 t ht)
    have hle := zsN_le (f := fun u => (zrd σ o u).toNatClampNeg) 6 ht
    have hle : (zrd σ o t).toNatClampNeg ≤ zsN (fun u => (zrd σ o u).toNatClampNeg) 6 := hle
    have hbo := hb.2 o ho hk
    obtain ⟨k, hkk⟩ : ∃ k, k = (zrd σ o t).toNatClampNeg := ⟨_, rfl⟩
    rw [← hkk] at hrt hle
    unfold zgrantB
    split
    · rename_i h5
      have e1 : zrd σ o t + 1 = nI (k + 1) := by rw [hrt, nI_1]
      refine ⟨zNv_read h hk ht (by rw [e1]; exact nI_pos (by omega)) (g5 h5), zB_read hb hn ht ?_⟩
      rw [e1, nI_clamp (by omega), ← hkk]
      exact Nat.le_refl _
    · split
      · rename_i h5 h6
        have hpos := g6 h6
        have hk0 : ¬ k = 0 := fun z => by rw [hrt, z] at hpos; exact absurd hpos (by decide)
        obtain ⟨m, rfl⟩ : ∃ m, k = m + 1 := ⟨k - 1, by omega⟩
        have e1 : zrd σ o t + -1 = nI m := by
          rw [hrt, ← nI_1, Int32.add_assoc]
          exact Int32.add_zero _
        refine ⟨zNv_read h hk ht (by rw [e1]; exact nI_pos (by omega)) ?_, zB_read hb hn ht ?_⟩
        · cases hw : zho σ o with
          | none => exact Or.inl rfl
          | some w =>
            by_cases e : t = w
            · rw [e]; exact Or.inr rfl
            · rw [b3 w hw t ht e] at hpos
              exact absurd hpos (by decide)
        · rw [e1, nI_clamp (by omega), ← hkk]
          omega
      · split
        · rename_i h5 h6 h7
          exact ⟨zNv_hold h hX ht (by omega) (fun _ => g7 h7), up _ (zB_le hb rfl rfl rfl (fun _ _ h9 => h9))⟩
        · rename_i h5 h6 h7
          refine ⟨zNv_leave h ho (by omega) (g8 h5 h6 h7), up _ ?_⟩
          unfold zleave
          split <;> exact zB_le hb rfl rfl rfl (fun _ _ h9 => h9)
  · rw [hgr, hk]
    exact ⟨zNv_pl h (by omega) (by decide) (fun z => absurd z (by decide)), up _ (zB_le hb rfl rfl rfl (fun _ _ h9 => h9))⟩
  · rw [hgr, hk]
    show zNv X (if zth σ 8 t = 12 ∧ ¬ zpl σ 3 o ≤ 0 then zspl σ 3 o (zpl σ 3 o - 1) else σ) ∧ zB (n + 1) X (if zth σ 8 t = 12 ∧ ¬ zpl σ 3 o ≤ 0 then zspl σ 3 o (zpl σ 3 o - 1) else σ)
    split
    · exact ⟨zNv_pl h (by omega) (by decide) (fun z => absurd z (by decide)), up _ (zB_le hb rfl rfl rfl (fun _ _ h9 => h9))⟩
    · exact ⟨h, up _ hb⟩
  · rw [hgr, hk]
    show zNv X (zgrantA σ o t) ∧ zB (n + 1) X (zgrantA σ o t)
    unfold zgrantA
    split
    · have h9 := zNv_endAll (n := n) (X := X) (o := o) (h := 3) (zrw σ 0 o).length (zspl σ 4 o 0) (zNv_pl h (by omega) (by decide) (fun _ => Or.inl rfl)) (zB_le hb rfl rfl rfl (fun _ _ h9 => h9)) ho
      exact ⟨h9.1, up _ h9.2⟩
    · have h9 := zNv_endAll (n := n) (X := X) (o := o) (h := 0) (zrw σ 0 o).length σ h hb ho
      exact ⟨h9.1, up _ h9.2⟩
  · rw [hgr, hk]
    show zNv X (zgrantQ σ o t) ∧ zB (n + 1) X (zgrantQ σ o t)
    have hq := hp.2.2.2.2.2.2.2.2 hk
    unfold zgrantQ
    split
    · split
      · refine ⟨zNv_qu h (by rw [List.length_append]; simp; omega), up _ (zB_le hb rfl rfl rfl (fun _ _ h9 => h9))⟩
      · exact ⟨h, up _ hb⟩
    · split
      · exact ⟨h, up _ hb⟩
      · rename_i x b hqe
        refine ⟨zNv_val (zNv_qu h ?_), up _ (zB_le hb rfl rfl rfl (fun _ _ h9 => h9))⟩
        rw [hqe] at hq
        simp at hq
        omega
theorem zNv.blk {X : Nat → Bool} {σ : zS} {o t : Nat} (h : zNv X σ) (ho : o < zn σ) (hm : t ∈ zrw σ 0 o) : t < 6 ∧ X t = false ∧ zwh σ t = some o ∧ zth σ 2 t = 1 ∧ zRA (zkd σ o) (zth σ 8 t) (zth σ 11 t) := by
  obtain ⟨a1, a2, a3, a4, a5⟩ := (h.2.1 o 0 ho (Or.inl rfl)).2 t hm
  refine ⟨a1, a2, a3, a4 rfl, ?_⟩
  rcases h.1 t a1 a2 with h1 | ⟨h1, o1, h2, h3, h4, h5⟩ | h1
  · exact absurd (h1.1.symm.trans (a4 rfl)) (by decide)
  · cases Option.some.inj (h2.symm.trans a3)
    exact h5
  · exact absurd (h1.1.symm.trans (a4 rfl)) (by decide)
theorem zgrant_th {σ : zS} {o t f u : Nat} {w : Int32} (hf : ¬ f = 5) (hra : zRA (zkd σ o) (zth σ 8 t) w) (h4 : ¬ zkd σ o = 4) : zth (zgrant σ o t) f u = zth σ f u := by
  show zth (zgrantC (zkd σ o) σ o t) f u = _
  rcases hra.1 with ⟨hk, ha⟩ | ⟨hk, ha⟩ | ⟨hk, ha⟩ | ⟨hk, ha⟩ | ⟨hk, ha⟩ | ⟨hk, ha⟩
  · rw [hk]
    show zth (zgrantK σ o t) f u = _
    unfold zgrantK
    rcases ha with ha | ha
    · rw [if_pos ha]; rfl
    · rw [if_neg (by rw [ha]; decide), if_neg (by rw [ha]; decide), if_pos ha]; rfl
  · rw [hk]
    show zth (zgrantB σ o t) f u = _
    unfold zgrantB
    rcases ha with ha | ha
    · rw [if_pos ha]; rfl
    · rw [if_neg (by rw [ha]; decide), if_neg (by rw [ha]; decide), if_pos ha]; rfl
  · rw [hk]; rfl
  · rw [hk]
    show zth (if zth σ 8 t = 12 ∧ ¬ zpl σ 3 o ≤ 0 then _ else _) f u = _
    rw [if_neg (fun z => by rw [ha] at z; exact absurd z.1 (by decide))]
  · exact absurd hk h4
  · rw [hk]
    show zth (zgrantQ σ o t) f u = _
    unfold zgrantQ
    split
    · split <;> rfl
    · split
      · rfl
      · rw [gs_zth_zsth, if_neg (fun z => hf z.1)]; rfl
theorem zNv.two {X : Nat → Bool} {σ : zS} {o j : Nat} (h : zNv X σ) (ho : o < zn σ) (hk : zkd σ o = 0) (hj : ¬ j = 0) (hj3 : j < 3) : (zrw σ 0 o).length + (zrw σ j o).length ≤ 6 := by
  have h1 := h.2.1 o 0 ho (Or.inl rfl)
  have h2 := h.2.1 o j ho (Or.inr ⟨hk, hj3⟩)
  have h3 := nod_len 6 (zrw σ 0 o ++ zrw σ j o) (List.nodup_append.mpr ⟨h1.1, h2.1, fun a ha b hb e => by
    subst e
    exact hj (h.one ho (Or.inl rfl) ho (Or.inr ⟨hk, hj3⟩) ha hb).2.symm⟩) (fun x hx => by
      rcases List.mem_append.mp hx with z | z
      · exact (h1.2 x z).1
      · exact (h2.2 x z).1)
  rw [List.length_append] at h3
  exact h3
theorem zNv.lt5 {X : Nat → Bool} {σ : zS} {o j t : Nat} (h : zNv X σ) (ho : o < zn σ) (hj : j = 0 ∨ (zkd σ o = 0 ∧ j < 3)) (ht : t < 6) (hm : t ∉ zrw σ j o) : (zrw σ j o).length < 6 := nod_len5 (h.2.1 o j ho hj).1 (fun x hx => ((h.2.1 o j ho hj).2 x hx).1) ht hm
/-- the invariant between calls -/
def zJn (n : Nat) (σ : zS) : Prop := zNv x0 σ ∧ zB n x0 σ ∧ n + 2 < 1000000
theorem zhN_ok {w : Int32} (h : w = 0 ∨ w = 2 ∨ w = 4) : w = nI w.toNatClampNeg ∧ w.toNatClampNeg < 5 := by
  rcases h with rfl | rfl | rfl <;> decide
theorem zRA.w {kd : Nat} {a w : Int32} (h : zRA kd a w) : w = 0 ∨ w = 2 ∨ w = 4 := by
  by_cases e : a = 2
  · exact h.2.1 e
  · exact Or.inl (h.2.2 e)
theorem zIA_J (n : Nat) : zIA (zJn n) := by
  intro σ o t ⟨h, hb, hn⟩ ho hm hc
  obtain ⟨ht, hx, hw, hs, hra⟩ := h.blk ho hm
  have h1 : zNv (xa x0 t) (zrm σ o t) := zNv_rm h ho (Or.inl rfl) hm
  have hb1 : zB n (xa x0 t) (zrm σ o t) := zB_le hb rfl rfl rfl (fun u hu hz => by
    by_cases e : u = t
    · subst e; simp [hs]
    · simpa [zrm, xa, e, gs_zth_zsth, gs_zpl_zsth, gs_zwh_zsth, gs_zho_zsth, gs_zrw_zsth, gs_zen_zsth, gs_zrd_zsth, gs_zqu_zsth, gs_zn_zsth, gs_zkd_zsth, gs_zcp_zsth, gs_ztk_zsth, gs_zth_zspl, gs_zpl_zspl, gs_zwh_zspl, gs_zho_zspl, gs_zrw_zspl, gs_zen_zspl, gs_zrd_zspl, gs_zqu_zspl, gs_zn_zspl, gs_zkd_zspl, gs_zcp_zspl, gs_ztk_zspl, gs_zth_zswh, gs_zpl_zswh, gs_zwh_zswh, gs_zho_zswh, gs_zrw_zswh, gs_zen_zswh, gs_zrd_zswh, gs_zqu_zswh, gs_zn_zswh, gs_zkd_zswh, gs_zcp_zswh, gs_ztk_zswh, gs_zth_zsho, gs_zpl_zsho, gs_zwh_zsho, gs_zho_zsho, gs_zrw_zsho, gs_zen_zsho, gs_zrd_zsho, gs_zqu_zsho, gs_zn_zsho, gs_zkd_zsho, gs_zcp_zsho, gs_ztk_zsho, gs_zth_zsrw, gs_zpl_zsrw, gs_zwh_zsrw, gs_zho_zsrw, gs_zrw_zsrw, gs_zen_zsrw, gs_zrd_zsrw, gs_zqu_zsrw, gs_zn_zsrw, gs_zkd_zsrw, gs_zcp_zsrw, gs_ztk_zsrw, gs_zth_zsen, gs_zpl_zsen, gs_zwh_zsen, gs_zho_zsen, gs_zrw_zsen, gs_zen_zsen, gs_zrd_zsen, gs_zqu_zsen, gs_zn_zsen, gs_zkd_zsen, gs_zcp_zsen, gs_ztk_zsen, gs_zth_zsrd, gs_zpl_zsrd, gs_zwh_zsrd, gs_zho_zsrd, gs_zrw_zsrd, gs_zen_zsrd, gs_zrd_zsrd, gs_zqu_zsrd, gs_zn_zsrd, gs_zkd_zsrd, gs_zcp_zsrd, gs_ztk_zsrd, gs_zth_zsqu, gs_zpl_zsqu, gs_zwh_zsqu, gs_zho_zsqu, gs_zrw_zsqu, gs_zen_zsqu, gs_zrd_zsqu, gs_zqu_zsqu, gs_zn_zsqu, gs_zkd_zsqu, gs_zcp_zsqu, gs_ztk_zsqu, gs_zth_zstk, gs_zpl_zstk, gs_zwh_zstk, gs_zho_zstk, gs_zrw_zstk, gs_zen_zstk, gs_zrd_zstk, gs_zqu_zstk, gs_zn_zstk, gs_zkd_zstk, gs_zcp_zstk, gs_ztk_zstk] using hz)
  have hX : (xa x0 t) t = true := by simp
  have h4 : ¬ zkd σ o = 4 := fun e => by
    unfold zcan at hc; rw [e] at hc; cases hc
  have hgp : zGP (zrm σ o t) o t := by
    refine ⟨fun k0 a1 => ?_, fun k1 => ?_⟩
    · have a1 : zth σ 8 t = 1 := a1
      have k0 : zkd σ o = 0 := k0
      rcases hra.1 with z | z | z | z | z | z
      · rcases z.2 with z | z <;> exact absurd (z.symm.trans a1) (by decide)
      all_goals exact absurd (z.1.symm.trans k0) (by decide)
    · have k1 : zkd σ o = 1 := k1
      have hc1 : zcanC (zkd σ o) σ o t = true := hc
      rw [k1] at hc1
      have hc2 := of_decide_eq_true hc1
      have ha : zth σ 8 t = 5 ∨ zth σ 8 t = 7 := by
        rcases hra.1 with z | z | z | z | z | z
        · exact absurd (z.1.symm.trans k1) (by decide)
        · exact z.2
        all_goals exact absurd (z.1.symm.trans k1) (by decide)
      refine ⟨fun _ => ?_, fun z => ?_, fun a7 u hu hne => ?_, fun z1 z2 z3 => ?_⟩
      · by_cases e : zho σ o = none
        · exact Or.inl e
        · exact Or.inr (Decidable.byContradiction (fun e2 => hc2.1 ⟨e, e2⟩))
      · have z : zth σ 8 t = 6 := z
        rcases ha with ha | ha <;> exact absurd (ha.symm.trans z) (by decide)
      · have a7 : zth σ 8 t = 7 := a7
        refine (zBk_oth hb ((h.2.2.2.2.2 o ho).2.2.2.2.2.2.1 k1) ho k1 ht).mp ?_ u hu hne
        rcases hc2.2 with z | z
        · exact absurd (z.symm.trans a7) (by decide)
        · exact z
      · rcases ha with ha | ha
        · exact absurd ha z1
        · exact absurd ha z3
  have hth : zth (zgrant (zrm σ o t) o t) 11 t = zth σ 11 t := zgrant_th (σ := zrm σ o t) (w := zth σ 11 t) (by decide) hra h4
  have hg := zNv_grant h1 hb1 (by omega) hX ht ho hgp
  have hok := zhN_ok hra.w
  refine ⟨⟨fun k0 => ?_, fun k5 a15 => ?_⟩, ?_, ?_, ?_, ?_, hn⟩
  · exact h1.two ho k0 (zcj_in _).1 (zcj_in _).2
  · have hc1 : zcanC (zkd σ o) σ o t = true := hc
    have k5 : zkd σ o = 5 := k5
    have a15 : ¬ zth σ 8 t = 15 := a15
    rw [k5] at hc1
    have hc2 : (if zth σ 8 t = 15 then decide ((zqu σ o).length < zcp σ o) else decide (0 < (zqu σ o).length)) = true := hc1
    rw [if_neg a15] at hc2
    have := of_decide_eq_true hc2
    intro e
    have e : zqu σ o = [] := e
    rw [e] at this
    exact absurd this (by decide)
  · unfold zhN; rw [hth]; exact hok.1
  · unfold zhN; rw [hth]; exact hok.2
  · have h9 := zNv_end (t := t) (h := zhN (zgrant (zrm σ o t) o t) t) hg.1 hX
    rw [xar x0 rfl] at h9
    exact h9
  · have h9 := zB_end (t := t) (h := zhN (zgrant (zrm σ o t) o t) t) hg.2 ht hX
    rw [xar x0 rfl] at h9
    exact h9
theorem zNv_gave {n : Nat} {X : Nat → Bool} {σ : zS} {o : Nat} (h : zNv X σ) (hb : zB n X σ) (ho : o < zn σ) : zNv X (zgave σ o) ∧ zB n X (zgave σ o) := by
  unfold zgave
  split
  · rename_i hk
    exact zNv_endAll (zrw σ 0 o).length (zspl σ 4 o 1) (zNv_pl h (by omega) (by decide) (fun _ => Or.inr rfl)) (zB_le hb rfl rfl rfl (fun _ _ h9 => h9)) ho
  · exact ⟨h, hb⟩
theorem zNv_giveUp {n : Nat} {σ : zS} {o t k : Nat} (h : zNv x0 σ) (hb : zB n x0 σ) (ht : t < 6) (hw : zwh σ t = some o) (hk : k = 2 ∨ k = 4) : o < zn σ ∧ (zkd σ o = 0 → zth σ 2 t = 2 → (zrw σ 0 o).length < 6) ∧ zNv x0 (zgiveUp σ o t k) ∧ zB n x0 (zgiveUp σ o t k) := by
  rcases h.1 t ht rfl with h1 | ⟨h1, o1, h2, h3, h4, h5⟩ | ⟨h1, o1, h2, h3, h4, h5, h6⟩
  · exact absurd (h1.2.1.symm.trans hw) (by simp)
  · cases Option.some.inj (h2.symm.trans hw)
    have h21 : ¬ zth σ 2 t = 2 := fun z => absurd (h1.symm.trans z) (by decide)
    refine ⟨h3, fun _ z => absurd z h21, ?_⟩
    unfold zgiveUp
    rw [if_neg (fun z => h21 z.2)]
    unfold zleaveRow
    have h9 := zNv_end (t := t) (h := k) (zNv_rm h h3 (Or.inl rfl) h4) (by simp)
    rw [xar x0 rfl] at h9
    exact zNv_gave h9 (zB_le hb rfl rfl rfl (fun u hu hz => by
      by_cases e : u = t
      · subst e; simp [h1]
      · simpa [zend, e, gs_zth_zsth, gs_zpl_zsth, gs_zwh_zsth, gs_zho_zsth, gs_zrw_zsth, gs_zen_zsth, gs_zrd_zsth, gs_zqu_zsth, gs_zn_zsth, gs_zkd_zsth, gs_zcp_zsth, gs_ztk_zsth, gs_zth_zspl, gs_zpl_zspl, gs_zwh_zspl, gs_zho_zspl, gs_zrw_zspl, gs_zen_zspl, gs_zrd_zspl, gs_zqu_zspl, gs_zn_zspl, gs_zkd_zspl, gs_zcp_zspl, gs_ztk_zspl, gs_zth_zswh, gs_zpl_zswh, gs_zwh_zswh, gs_zho_zswh, gs_zrw_zswh, gs_zen_zswh, gs_zrd_zswh, gs_zqu_zswh, gs_zn_zswh, gs_zkd_zswh, gs_zcp_zswh, gs_ztk_zswh, gs_zth_zsho, gs_zpl_zsho, gs_zwh_zsho, gs_zho_zsho, gs_zrw_zsho, gs_zen_zsho, gs_zrd_zsho, gs_zqu_zsho, gs_zn_zsho, gs_zkd_zsho, gs_zcp_zsho, gs_ztk_zsho, gs_zth_zsrw, gs_zpl_zsrw, gs_zwh_zsrw, gs_zho_zsrw, gs_zrw_zsrw, gs_zen_zsrw, gs_zrd_zsrw, gs_zqu_zsrw, gs_zn_zsrw, gs_zkd_zsrw, gs_zcp_zsrw, gs_ztk_zsrw, gs_zth_zsen, gs_zpl_zsen, gs_zwh_zsen, gs_zho_zsen, gs_zrw_zsen, gs_zen_zsen, gs_zrd_zsen, gs_zqu_zsen, gs_zn_zsen, gs_zkd_zsen, gs_zcp_zsen, gs_ztk_zsen, gs_zth_zsrd, gs_zpl_zsrd, gs_zwh_zsrd, gs_zho_zsrd, gs_zrw_zsrd, gs_zen_zsrd, gs_zrd_zsrd, gs_zqu_zsrd, gs_zn_zsrd, gs_zkd_zsrd, gs_zcp_zsrd, gs_ztk_zsrd, gs_zth_zsqu, gs_zpl_zsqu, gs_zwh_zsqu, gs_zho_zsqu, gs_zrw_zsqu, gs_zen_zsqu, gs_zrd_zsqu, gs_zqu_zsqu, gs_zn_zsqu, gs_zkd_zsqu, gs_zcp_zsqu, gs_ztk_zsqu, gs_zth_zstk, gs_zpl_zstk, gs_zwh_zstk, gs_zho_zstk, gs_zrw_zstk, gs_zen_zstk, gs_zrd_zstk, gs_zqu_zstk, gs_zn_zstk, gs_zkd_zstk, gs_zcp_zstk, gs_ztk_zstk] using hz)) h3
  · cases Option.some.inj (h2.symm.trans hw)
    have hv : zcj (zth σ 9 t) = 0 ∨ (zkd σ o = 0 ∧ zcj (zth σ 9 t) < 3) := Or.inr ⟨h4, (zcj_in _).2⟩
    have hm0 : t ∉ zrw σ 0 o := fun z => (zcj_in (zth σ 9 t)).1 (h.one h3 (Or.inl rfl) h3 hv z h6).2.symm
    refine ⟨h3, fun _ _ => h.lt5 h3 (Or.inl rfl) ht hm0, ?_⟩
    unfold zgiveUp
    rw [if_pos ⟨h4, h1⟩]
    have h9 := zNv_take (v := nI k) (zNv_rm h h3 hv h6) (by simp) ht h3 h4 h5 (by rcases hk with rfl | rfl; exact Or.inr (Or.inl rfl); exact Or.inr (Or.inr rfl)) (h.2.2.1 o _ t h3 hv h6)
    rw [xar x0 rfl] at h9
    exact ⟨h9, zB_le hb rfl rfl rfl (fun u hu hz => by
      by_cases e : u = t
      · subst e; simp [h1]
      · simpa [ztake, zstay, e, gs_zth_zsth, gs_zpl_zsth, gs_zwh_zsth, gs_zho_zsth, gs_zrw_zsth, gs_zen_zsth, gs_zrd_zsth, gs_zqu_zsth, gs_zn_zsth, gs_zkd_zsth, gs_zcp_zsth, gs_ztk_zsth, gs_zth_zspl, gs_zpl_zspl, gs_zwh_zspl, gs_zho_zspl, gs_zrw_zspl, gs_zen_zspl, gs_zrd_zspl, gs_zqu_zspl, gs_zn_zspl, gs_zkd_zspl, gs_zcp_zspl, gs_ztk_zspl, gs_zth_zswh, gs_zpl_zswh, gs_zwh_zswh, gs_zho_zswh, gs_zrw_zswh, gs_zen_zswh, gs_zrd_zswh, gs_zqu_zswh, gs_zn_zswh, gs_zkd_zswh, gs_zcp_zswh, gs_ztk_zswh, gs_zth_zsho, gs_zpl_zsho, gs_zwh_zsho, gs_zho_zsho, gs_zrw_zsho, gs_zen_zsho, gs_zrd_zsho, gs_zqu_zsho, gs_zn_zsho, gs_zkd_zsho, gs_zcp_zsho, gs_ztk_zsho, gs_zth_zsrw, gs_zpl_zsrw, gs_zwh_zsrw, gs_zho_zsrw, gs_zrw_zsrw, gs_zen_zsrw, gs_zrd_zsrw, gs_zqu_zsrw, gs_zn_zsrw, gs_zkd_zsrw, gs_zcp_zsrw, gs_ztk_zsrw, gs_zth_zsen, gs_zpl_zsen, gs_zwh_zsen, gs_zho_zsen, gs_zrw_zsen, gs_zen_zsen, gs_zrd_zsen, gs_zqu_zsen, gs_zn_zsen, gs_zkd_zsen, gs_zcp_zsen, gs_ztk_zsen, gs_zth_zsrd, gs_zpl_zsrd, gs_zwh_zsrd, gs_zho_zsrd, gs_zrw_zsrd, gs_zen_zsrd, gs_zrd_zsrd, gs_zqu_zsrd, gs_zn_zsrd, gs_zkd_zsrd, gs_zcp_zsrd, gs_ztk_zsrd, gs_zth_zsqu, gs_zpl_zsqu, gs_zwh_zsqu, gs_zho_zsqu, gs_zrw_zsqu, gs_zen_zsqu, gs_zrd_zsqu, gs_zqu_zsqu, gs_zn_zsqu, gs_zkd_zsqu, gs_zcp_zsqu, gs_ztk_zsqu, gs_zth_zstk, gs_zpl_zstk, gs_zwh_zstk, gs_zho_zstk, gs_zrw_zstk, gs_zen_zstk, gs_zrd_zstk, gs_zqu_zstk, gs_zn_zstk, gs_zkd_zstk, gs_zcp_zstk, gs_ztk_zstk] using hz)⟩
theorem zIB_J (n : Nat) : zIB (zJn n) := by
  intro σ t o ⟨h, hb, hn⟩ ht hw _
  obtain ⟨a1, a2, a3, a4⟩ := zNv_giveUp (k := 4) h hb ht hw (Or.inr rfl)
  exact ⟨a2, a3, a4, hn⟩
theorem zID_J (n : Nat) : zID (zJn n) := by
  intro σ t o ⟨h, hb, hn⟩ ht hw hp
  have h1 : zNv x0 (zsth σ 7 t (zth σ 7 t - 1)) := zNv_pat h (by rw [hw]; simp)
  have hb1 : zB n x0 (zsth σ 7 t (zth σ 7 t - 1)) := zB_le hb rfl rfl rfl (fun _ _ h9 => h9)
  refine ⟨⟨h1, hb1, hn⟩, fun _ => ?_⟩
  obtain ⟨a1, a2, a3, a4⟩ := zNv_giveUp (k := 2) h1 hb1 ht hw (Or.inl rfl)
  exact ⟨a2, a3, a4, hn⟩
theorem zIE_J (n : Nat) : zIE (zJn n) := fun σ x ⟨h, hb, hn⟩ => ⟨h, hb, hn⟩
theorem zIW_J (n : Nat) : zIW (zJn n) := fun σ t o ⟨h, hb, hn⟩ ht hw => (zNv_giveUp (k := 2) h hb ht hw (Or.inl rfl)).1
