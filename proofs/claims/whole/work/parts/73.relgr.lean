/-! rows ended, called; grants -/
theorem zsrwS {σ : zS} {j o : Nat} : zsrw σ j o (zrw σ j o) = σ := by
  show (_, _, _, _, yu (zrw σ) j o (zrw σ j o), _) = σ
  rw [yu_self]
  rfl
theorem zsrwT {σ : zS} {j o : Nat} {a b : List Nat} : zsrw (zsrw σ j o a) j o b = zsrw σ j o b := by
  show (_, _, _, _, yu (yu (zrw σ) j o a) j o b, _) = _
  rw [yu_yu]
  rfl
theorem nod_tail {t : Nat} {r : List Nat} (h : (t :: r).Nodup) : (t :: r).filter (fun u => u ≠ t) = r := nod_idx (i := 0) h rfl
theorem zendAll_fold {o h : Nat} : ∀ (l : List Nat) (σ : zS), zrw σ 0 o = l → l.Nodup → zendAll o h l.length σ = l.foldl (fun s u => zend s u h) (zsrw σ 0 o [])
  | [], σ, hl, _ => by
    show σ = zsrw σ 0 o []
    rw [← hl, zsrwS]
  | t :: r, σ, hl, hn => by
    have e1 : zend1 o h σ = zend (zsrw σ 0 o r) t h := by
      unfold zend1
      rw [hl]
      show zend (zsrw σ 0 o ((t :: r).filter (fun u => u ≠ t))) t h = _
      rw [nod_tail hn]
    show zendAll o h r.length (zend1 o h σ) = _
    rw [e1, zendAll_fold r _ (by show yu _ _ _ _ _ _ = _; exact yu_same _ _ _ _) (List.nodup_cons.mp hn).2]
    show r.foldl _ (zsrw (zend (zsrw σ 0 o r) t h) 0 o []) = r.foldl _ (zend (zsrw σ 0 o []) t h)
    have e2 : zsrw (zend (zsrw σ 0 o r) t h) 0 o [] = zend (zsrw σ 0 o []) t h := by
      have e3 : zsrw (zend (zsrw σ 0 o r) t h) 0 o [] = zend (zsrw (zsrw σ 0 o r) 0 o []) t h := rfl
      rw [e3, zsrwT]
    rw [e2]
abbrev xl (X : Nat → Bool) (l : List Nat) : Nat → Bool := fun u => X u || decide (u ∈ l)
theorem xl_cons {X : Nat → Bool} {t : Nat} {r : List Nat} (hX : X t = false) (hn : t ∉ r) : xr (xl X (t :: r)) t = xl X r := by
  funext u
  show ((X u || decide (u ∈ t :: r)) && !decide (u = t)) = (X u || decide (u ∈ r))
  by_cases e : u = t
  · subst e; simp [hX, hn]
  · simp [e]
theorem xl_nil {X : Nat → Bool} : xl X [] = X := by funext u; simp [xl]
theorem mRT_weak {X X' : Nat → Bool} {σ : zS} {M : mM} (h : mRT X σ M) (hX : ∀ u, X' u = false → X u = false) : mRT X' σ M := fun t ht => ⟨(h t ht).1, (h t ht).2.1, fun z => (h t ht).2.2 (hX t z)⟩
theorem mRP_clear {σ : zS} {M : mM} {o : Nat} (h : mRP σ M) (ho : o < zn σ) : mRP (zsrw σ 0 o []) (yu M 216 o 0) := by
  obtain ⟨h1, h2, h3, h4, h5, h6, h7, h8, h9, h10, h11⟩ := h.1 o ho
  have e0 : zrw (zsrw σ 0 o []) 0 o = [] := by rw [gs_zrw_zsrw, if_pos ⟨rfl, rfl⟩]
  have ea : zamt (zsrw σ 0 o []) o = zamt σ o := rfl
  have ec : ∀ c, zcr (zsrw σ 0 o []) c o = zcr σ c o := fun c => by unfold zcr; simp [gs_zth_zsth, gs_zpl_zsth, gs_zwh_zsth, gs_zho_zsth, gs_zrw_zsth, gs_zen_zsth, gs_zrd_zsth, gs_zqu_zsth, gs_zn_zsth, gs_zkd_zsth, gs_zcp_zsth, gs_ztk_zsth, gs_zth_zspl, gs_zpl_zspl, gs_zwh_zspl, gs_zho_zspl, gs_zrw_zspl, gs_zen_zspl, gs_zrd_zspl, gs_zqu_zspl, gs_zn_zspl, gs_zkd_zspl, gs_zcp_zspl, gs_ztk_zspl, gs_zth_zswh, gs_zpl_zswh, gs_zwh_zswh, gs_zho_zswh, gs_zrw_zswh, gs_zen_zswh, gs_zrd_zswh, gs_zqu_zswh, gs_zn_zswh, gs_zkd_zswh, gs_zcp_zswh, gs_ztk_zswh, gs_zth_zsho, gs_zpl_zsho, gs_zwh_zsho, gs_zho_zsho, gs_zrw_zsho, gs_zen_zsho, gs_zrd_zsho, gs_zqu_zsho, gs_zn_zsho, gs_zkd_zsho, gs_zcp_zsho, gs_ztk_zsho, gs_zth_zsrw, gs_zpl_zsrw, gs_zwh_zsrw, gs_zho_zsrw, gs_zrw_zsrw, gs_zen_zsrw, gs_zrd_zsrw, gs_zqu_zsrw, gs_zn_zsrw, gs_zkd_zsrw, gs_zcp_zsrw, gs_ztk_zsrw, gs_zth_zsen, gs_zpl_zsen, gs_zwh_zsen, gs_zho_zsen, gs_zrw_zsen, gs_zen_zsen, gs_zrd_zsen, gs_zqu_zsen, gs_zn_zsen, gs_zkd_zsen, gs_zcp_zsen, gs_ztk_zsen, gs_zth_zsrd, gs_zpl_zsrd, gs_zwh_zsrd, gs_zho_zsrd, gs_zrw_zsrd, gs_zen_zsrd, gs_zrd_zsrd, gs_zqu_zsrd, gs_zn_zsrd, gs_zkd_zsrd, gs_zcp_zsrd, gs_ztk_zsrd, gs_zth_zsqu, gs_zpl_zsqu, gs_zwh_zsqu, gs_zho_zsqu, gs_zrw_zsqu, gs_zen_zsqu, gs_zrd_zsqu, gs_zqu_zsqu, gs_zn_zsqu, gs_zkd_zsqu, gs_zcp_zsqu, gs_ztk_zsqu, gs_zth_zstk, gs_zpl_zstk, gs_zwh_zstk, gs_zho_zstk, gs_zrw_zstk, gs_zen_zstk, gs_zrd_zstk, gs_zqu_zstk, gs_zn_zstk, gs_zkd_zstk, gs_zcp_zstk, gs_ztk_zstk]
  refine mRP_one (o := o) h rfl ho (fun o' e => ⟨rfl, rfl, fun j' => by simp [zrm, e, gs_zth_zsth, gs_zpl_zsth, gs_zwh_zsth, gs_zho_zsth, gs_zrw_zsth, gs_zen_zsth, gs_zrd_zsth, gs_zqu_zsth, gs_zn_zsth, gs_zkd_zsth, gs_zcp_zsth, gs_ztk_zsth, gs_zth_zspl, gs_zpl_zspl, gs_zwh_zspl, gs_zho_zspl, gs_zrw_zspl, gs_zen_zspl, gs_zrd_zspl, gs_zqu_zspl, gs_zn_zspl, gs_zkd_zspl, gs_zcp_zspl, gs_ztk_zspl, gs_zth_zswh, gs_zpl_zswh, gs_zwh_zswh, gs_zho_zswh, gs_zrw_zswh, gs_zen_zswh, gs_zrd_zswh, gs_zqu_zswh, gs_zn_zswh, gs_zkd_zswh, gs_zcp_zswh, gs_ztk_zswh, gs_zth_zsho, gs_zpl_zsho, gs_zwh_zsho, gs_zho_zsho, gs_zrw_zsho, gs_zen_zsho, gs_zrd_zsho, gs_zqu_zsho, gs_zn_zsho, gs_zkd_zsho, gs_zcp_zsho, gs_ztk_zsho, gs_zth_zsrw, gs_zpl_zsrw, gs_zwh_zsrw, gs_zho_zsrw, gs_zrw_zsrw, gs_zen_zsrw, gs_zrd_zsrw, gs_zqu_zsrw, gs_zn_zsrw, gs_zkd_zsrw, gs_zcp_zsrw, gs_ztk_zsrw, gs_zth_zsen, gs_zpl_zsen, gs_zwh_zsen, gs_zho_zsen, gs_zrw_zsen, gs_zen_zsen, gs_zrd_zsen, gs_zqu_zsen, gs_zn_zsen, gs_zkd_zsen, gs_zcp_zsen, gs_ztk_zsen, gs_zth_zsrd, gs_zpl_zsrd, gs_zwh_zsrd, gs_zho_zsrd, gs_zrw_zsrd, gs_zen_zsrd, gs_zrd_zsrd, gs_zqu_zsrd, gs_zn_zsrd, gs_zkd_zsrd, gs_zcp_zsrd, gs_ztk_zsrd, gs_zth_zsqu, gs_zpl_zsqu, gs_zwh_zsqu, gs_zho_zsqu, gs_zrw_zsqu, gs_zen_zsqu, gs_zrd_zsqu, gs_zqu_zsqu, gs_zn_zsqu, gs_zkd_zsqu, gs_zcp_zsqu, gs_ztk_zsqu, gs_zth_zstk, gs_zpl_zstk, gs_zwh_zstk, gs_zho_zstk, gs_zrw_zstk, gs_zen_zstk, gs_zrd_zstk, gs_zqu_zstk, gs_zn_zstk, gs_zkd_zstk, gs_zcp_zstk, gs_ztk_zstk], rfl, fun _ => rfl, fun _ => rfl, rfl⟩) (fun o' e => ⟨by (repeat first | rw [yu_ne _ _ (by omega)] | rw [mSft_at (by omega)]), by (repeat first | rw [yu_ne _ _ (by omega)] | rw [mSft_at (by omega)]), by (repeat first | rw [yu_ne _ _ (by omega)] | rw [mSft_at (by omega)]), by (repeat first | rw [yu_ne _ _ (by omega)] | rw [mSft_at (by omega)]), by (repeat first | rw [yu_ne _ _ (by omega)] | rw [mSft_at (by omega)]), by (repeat first | rw [yu_ne _ _ (by omega)] | rw [mSft_at (by omega)]), fun j hj => by (repeat first | rw [yu_ne _ _ (by omega)] | rw [mSft_at (by omega)]), fun c hc => by (repeat first | rw [yu_ne _ _ (by omega)] | rw [mSft_at (by omega)]), fun c j hc hj => by (repeat first | rw [yu_ne _ _ (by omega)] | rw [mSft_at (by omega)]), fun j hj => by (repeat first | rw [yu_ne _ _ (by omega)] | rw [mSft_at (by omega)]), fun j hj => by (repeat first | rw [yu_ne _ _ (by omega)] | rw [mSft_at (by omega)])⟩) ?_
  refine ⟨by (repeat first | rw [yu_ne _ _ (by omega)] | rw [mSft_at (by omega)]); exact h1, by (repeat first | rw [yu_ne _ _ (by omega)] | rw [mSft_at (by omega)]); exact h2, by (repeat first | rw [yu_ne _ _ (by omega)] | rw [mSft_at (by omega)]); rw [ea]; exact h3, by (repeat first | rw [yu_ne _ _ (by omega)] | rw [mSft_at (by omega)]); exact h4, by rw [e0]; exact yu_same _ _ _ _, by (repeat first | rw [yu_ne _ _ (by omega)] | rw [mSft_at (by omega)]); exact h6, by rw [e0]; decide, by rw [e0]; exact fun j hj => absurd hj (Nat.not_lt_zero j), fun c9 hc9 => by rw [ec]; exact ⟨(by (repeat first | rw [yu_ne _ _ (by omega)] | rw [mSft_at (by omega)]) : _ = M 218 (o * 2 + c9)).trans (h9 c9 hc9).1, (h9 c9 hc9).2.1, mL_same (h9 c9 hc9).2.2 (h9 c9 hc9).2.1 (fun j hj => by (repeat first | rw [yu_ne _ _ (by omega)] | rw [mSft_at (by omega)]))⟩, fun u hu => (by (repeat first | rw [yu_ne _ _ (by omega)] | rw [mSft_at (by omega)]) : _ = M 220 (o * 6 + u)).trans (h10 u hu), fun hk5 => ⟨(h11 hk5).1, fun j hj => (by have := (h11 hk5).1; have hj : j < (zqu σ o).length := hj; (repeat first | rw [yu_ne _ _ (by omega)] | rw [mSft_at (by omega)]) : _ = M 221 (o * 3 + j)).trans ((h11 hk5).2 j hj)⟩⟩
theorem mR_ends {h : Nat} : ∀ (l : List Nat) (X : Nat → Bool) (σ : zS) (M : mM), l.Nodup → (∀ u ∈ l, u < 6 ∧ X u = false) → mR (xl X l) σ M → mR X (l.foldl (fun s u => zend s u h) σ) (mEnds M l h)
  | [], X, σ, M, _, _, hr => by rw [xl_nil] at hr; exact hr
  | t :: r, X, σ, M, hn, ha, hr => by
    have h9 := List.nodup_cons.mp hn
    show mR X (r.foldl _ (zend σ t h)) (mEnds (mEndL M t h) r h)
    refine mR_ends r X _ _ h9.2 (fun u hu => ha u (List.mem_cons_of_mem _ hu)) ?_
    have h8 := mR_200 (f := 25) (x := nI h) (mR_end (h := h) hr (ha t List.mem_cons_self).1) (by decide)
    rw [xl_cons (ha t List.mem_cons_self).2 h9.1] at h8
    exact h8
theorem mEndL_c {M : mM} {o u h : Nat} : mEndL (yu M 216 o 0) u h = yu (mEndL M u h) 216 o 0 := by
  funext K j
  unfold mEndL mEnd
  by_cases e : K = 216
  · subst e
    (repeat first | rw [yu_ne _ _ (by omega)] | rw [mSft_at (by omega)])
    by_cases e2 : j = o
    · subst e2; rw [yu_same, yu_same]
    · (repeat first | rw [yu_ne _ _ (by omega)] | rw [mSft_at (by omega)])
  · rw [yu_ne (k := 216) _ _ (Or.inl e)]
    by_cases e1 : K = 200
    · subst e1; simp [yu]
    · rw [yu_ne (k := 200) _ _ (Or.inl e1), yu_ne (k := 200) _ _ (Or.inl e1)]
      rw [show (yu M 216 o 0) 222 h = M 222 h from yu_ne _ _ (Or.inl (by decide))]
      exact congrFun (yu_cg (yu_cg (yu_cg (yu_cg (yu_cg (yu_cg (by funext j2; rw [yu_ne _ _ (Or.inl e)]))))))) j
theorem mEnds_c {o h : Nat} : ∀ (l : List Nat) (M : mM), yu (mEnds M l h) 216 o 0 = mEnds (yu M 216 o 0) l h
  | [], M => rfl
  | t :: r, M => by
    show yu (mEnds (mEndL M t h) r h) 216 o 0 = mEnds (mEndL (yu M 216 o 0) t h) r h
    rw [mEndL_c, mEnds_c r]
theorem mR_endAll {X : Nat → Bool} {σ : zS} {M : mM} {o h : Nat} (hr : mR X σ M) (ho : o < zn σ) (hnd : (zrw σ 0 o).Nodup) (hall : ∀ u ∈ zrw σ 0 o, u < 6 ∧ X u = false) : mR X (zendAll o h (zrw σ 0 o).length σ) (mBrk M o (zrw σ 0 o) h) := by
  rw [zendAll_fold _ σ rfl hnd]
  unfold mBrk
  rw [mEnds_c]
  refine mR_ends _ X _ _ hnd hall ⟨mRT_weak (mRT_same hr.1 rfl rfl (fun K a b => ?_)) (fun u hu => ?_), mRP_clear hr.2.1 ho, mRG_same hr.2.2 rfl rfl rfl (fun j => ?_) ?_ ?_⟩
  · funext j; (repeat first | rw [yu_ne _ _ (by omega)] | rw [mSft_at (by omega)])
  · have hu : (X u || decide (u ∈ zrw σ 0 o)) = false := hu
    exact (Bool.or_eq_false_iff.mp hu).1
  all_goals (repeat first | rw [yu_ne _ _ (by omega)] | rw [mSft_at (by omega)])
theorem zcall_nil {o j : Nat} : ∀ (m : Nat) (σ : zS), zrw σ j o = [] → zcall o j m σ = σ
  | 0, σ, _ => rfl
  | m + 1, σ, h => by
    show zcall o j m (zcall1 o j σ) = σ
    have e : zcall1 o j σ = σ := by unfold zcall1; rw [h]
    rw [e]
    exact zcall_nil m σ h
theorem mR_call {n : Nat} {X : Nat → Bool} {o c : Nat} (hc : c < 2) : ∀ (m : Nat) (lc : List Nat) (nr : Nat) (σ : zS) (M : mM), mR X σ M → zNv X σ → zB n X σ → o < zn σ → zkd σ o = 0 → zrw σ (c + 1) o = lc → (zrw σ 0 o).length = nr → mR X (zcall o (c + 1) m σ) (mCallL o (o * 2 + c) m lc nr M)
  | 0, lc, nr, σ, M, hr, _, _, _, _, _, _ => by cases lc <;> exact hr
  | m + 1, [], nr, σ, M, hr, _, _, _, _, hl, _ => by rw [zcall_nil _ σ hl]; exact hr
  | m + 1, u :: r, nr, σ, M, hr, hv, hb, ho, hk, hl, hn => by
    have hj : c + 1 = 0 ∨ (zkd σ o = 0 ∧ c + 1 < 3) := Or.inr ⟨hk, by omega⟩
    have hnd := (hv.2.1 o (c + 1) ho hj).1
    have hmem : u ∈ zrw σ (c + 1) o := by rw [hl]; exact List.mem_cons_self
    obtain ⟨b1, b2, b3, -, b5⟩ := (hv.2.1 o (c + 1) ho hj).2 u hmem
    obtain ⟨c1, c2⟩ := hv.act2 ho hk (Nat.succ_ne_zero c) (by omega) hmem
    have h2 := hv.two ho hk (Nat.succ_ne_zero c) (by omega)
    have e1 : zcall1 o (c + 1) σ = ztake (zsrw σ (c + 1) o ((zrw σ (c + 1) o).filter (fun v => v ≠ u))) o u 0 := by
      unfold zcall1
      rw [hl]
    have hrm := mR_rmc (i := 0) (t := u) hr ho hk hc hnd (by rw [hl]; rfl)
    have hlen : (zrw σ (c + 1) o).length - 1 = r.length := by rw [hl]; rfl
    rw [hlen] at hrm
    rw [hl] at h2
    have hu := (hr.1 u b1).2.2 b2
    have e0 : zrw (zsrw σ (c + 1) o ((zrw σ (c + 1) o).filter (fun v => v ≠ u))) 0 o = zrw σ 0 o := by rw [gs_zrw_zsrw, if_neg (by omega)]
    have htk := mR_take (n := nr) (h := 0) (t := u) hrm ho (by rw [e0]; exact hn) (by simp at h2; omega) c1 (by
      show mRem M 219 _ 218 _ 0 _ 208 u = zth σ 10 u
      unfold mRem
      (repeat first | rw [yu_ne _ _ (by omega)] | rw [mSft_at (by omega)])
      exact hu.2.2.2.2.2.2.2.1 (by rw [c2]; decide) c1) (by
      show mRem M 219 _ 218 _ 0 _ 202 u = zth σ 3 u
      unfold mRem
      (repeat first | rw [yu_ne _ _ (by omega)] | rw [mSft_at (by omega)])
      exact hu.2.1)
    rw [xar X b2] at htk
    have h1 := zNv_call1 (n := n) hv hb ho hk (Nat.succ_ne_zero c) (by omega : c + 1 < 3)
    show mR X (zcall o (c + 1) m (zcall1 o (c + 1) σ)) (mCallL o (o * 2 + c) m r (nr + 1) (mCalled (mRem M 219 ((o * 2 + c) * 6) 218 (o * 2 + c) 0 r.length) u o nr 0))
    have hfl : (zrw σ (c + 1) o).filter (fun v => v ≠ u) = r := by
      rw [hl] at hnd ⊢
      exact nod_tail hnd
    refine mR_call hc m r (nr + 1) _ _ (by rw [e1]; exact htk) h1.1 h1.2 (by rw [zcall1_nk.1]; exact ho) (by rw [zcall1_nk.2]; exact hk) ?_ ?_
    · rw [e1, hfl]
      show yu (yu (zrw σ) (c + 1) o r) 0 o (zrw (zsrw σ (c + 1) o r) 0 o ++ [u]) (c + 1) o = r
      rw [yu_ne _ _ (by omega), yu_same]
    · rw [e1]
      show (yu (zrw (zsrw σ (c + 1) o ((zrw σ (c + 1) o).filter (fun v => v ≠ u)))) 0 o (zrw (zsrw σ (c + 1) o ((zrw σ (c + 1) o).filter (fun v => v ≠ u))) 0 o ++ [u]) 0 o).length = nr + 1
      rw [yu_same, List.length_append, e0, hn]
      rfl
/-- a grant and the leaving of the row may change places -/
theorem zgrant_rm {σ : zS} {o t : Nat} {w : Int32} (hra : zRA (zkd σ o) (zth σ 8 t) w) (h4 : ¬ zkd σ o = 4) : zgrant (zrm σ o t) o t = zrm (zgrant σ o t) o t := by
  show zgrantC (zkd σ o) (zrm σ o t) o t = zrm (zgrantC (zkd σ o) σ o t) o t
  rcases hra.1 with ⟨hk, ha⟩ | ⟨hk, ha⟩ | ⟨hk, ha⟩ | ⟨hk, ha⟩ | ⟨hk, ha⟩ | ⟨hk, ha⟩
  · rw [hk]
    show zgrantK (zrm σ o t) o t = zrm (zgrantK σ o t) o t
    unfold zgrantK
    rcases ha with ha | ha
    · rw [if_pos (show zth (zrm σ o t) 8 t = 0 from ha), if_pos ha]; rfl
    · have ha2 : zth (zrm σ o t) 8 t = 2 := ha
      rw [if_neg (by rw [ha2]; decide), if_neg (by rw [ha2]; decide), if_pos ha2, if_neg (by rw [ha]; decide), if_neg (by rw [ha]; decide), if_pos ha]; rfl
  · rw [hk]
    show zgrantB (zrm σ o t) o t = zrm (zgrantB σ o t) o t
    unfold zgrantB
    rcases ha with ha | ha
    · rw [if_pos (show zth (zrm σ o t) 8 t = 5 from ha), if_pos ha]; rfl
    · have ha2 : zth (zrm σ o t) 8 t = 7 := ha
      rw [if_neg (by rw [ha2]; decide), if_neg (by rw [ha2]; decide), if_pos ha2, if_neg (by rw [ha]; decide), if_neg (by rw [ha]; decide), if_pos ha]; rfl
  · rw [hk]; rfl
  · rw [hk]
    show (if zth (zrm σ o t) 8 t = 12 ∧ _ then _ else _) = zrm (if zth σ 8 t = 12 ∧ _ then _ else _) o t
    have hn : ¬ zth σ 8 t = 12 := by rw [ha]; decide
    rw [if_neg (fun z => hn z.1), if_neg (fun z => hn z.1)]
  · exact absurd hk h4
  · rw [hk]
    show zgrantQ (zrm σ o t) o t = zrm (zgrantQ σ o t) o t
    unfold zgrantQ
    by_cases h15 : zth σ 8 t = 15
    · rw [if_pos (show zth (zrm σ o t) 8 t = 15 from h15), if_pos h15]
      by_cases hl : (zqu σ o).length < zcp σ o
      · rw [if_pos (show (zqu (zrm σ o t) o).length < zcp (zrm σ o t) o from hl), if_pos hl]; rfl
      · rw [if_neg (show ¬ (zqu (zrm σ o t) o).length < zcp (zrm σ o t) o from hl), if_neg hl]
    · rw [if_neg (show ¬ zth (zrm σ o t) 8 t = 15 from h15), if_neg h15]
      have hq : zqu (zrm σ o t) o = zqu σ o := rfl
      rw [hq]
      cases zqu σ o <;> rfl
/-- what the model knows of the one to whom is granted -/
def mGA (σ : zS) (M : mM) (o t : Nat) (a : Int32) : Prop := (zth σ 8 t = 2 ∧ a = 0 ∧ ¬ M 211 t = 0 ∧ M 208 t = zth σ 10 t ∧ zkd σ o = 0 ∧ zho σ o = none) ∨ (¬ zth σ 8 t = 2 ∧ a = zth σ 8 t ∧ M 211 t = 0 ∧ M 207 t = zth σ 9 t)
theorem mRG_pl {σ σ' : zS} {M M' : mM} (h : mRG σ M) (h1 : zen σ' = zen σ) (h2 : zn σ' = zn σ) (h3 : ztk σ' = ztk σ) (h4 : M' 222 = M 222) (h5 : M' 200 = M 200) : mRG σ' M' := mRG_same h h1 h2 h3 (fun j => by rw [h4]) (by rw [h5]) (by rw [h5])
theorem mR_grant {X : Nat → Bool} {σ : zS} {M : mM} {o t : Nat} {a w : Int32} (hr : mR X σ M) (ho : o < zn σ) (ht : t < 6) (hra : zRA (zkd σ o) (zth σ 8 t) w) (h4 : ¬ zkd σ o = 4) (hp : zPp1 σ o) (hga : mGA σ M o t a) (hc5 : zkd σ o = 5 → zcan σ o t = true) : ∃ n, mGok M o a n ∧ mR X (zgrant σ o t) (mGrant M t o a n) := by
  have hgr : zgrant σ o t = zgrantC (zkd σ o) σ o t := rfl
  rw [hgr]
  have h3 := (hr.2.1.1 o ho).2.2.1
  rcases hra.1 with ⟨hk, ha⟩ | ⟨hk, ha⟩ | ⟨hk, ha⟩ | ⟨hk, ha⟩ | ⟨hk, ha⟩ | ⟨hk, ha⟩
  · unfold zamt at h3
    rw [hk] at h3
    have h3 : M 214 o = zpl σ 6 o := h3
    have ea : a = 0 := by
      rcases hga with ⟨-, e, -⟩ | ⟨e1, e2, -⟩
      · exact e
      · rcases ha with ha | ha
        · exact e2.trans ha
        · exact absurd ha e1
    have eg : mGrant M t o a 0 = mHold M t o := by unfold mGrant; rw [if_pos (Or.inl ea)]
    refine ⟨0, ⟨Or.inl ea, fun z => ?_, fun z => ?_⟩, ?_⟩
    · rw [ea] at z; exact absurd z (by decide)
    · rw [ea] at z; exact absurd z (by decide)
    rw [eg, hk]
    have hx : ∃ x, zgrantC 0 σ o t = zspl (zsho σ o (some t)) 6 o x ∧ M 214 o + (if M 211 t = 0 then 1 else M 208 t) = x := by
      rcases hga with ⟨e1, -, e3, e4, -, e6⟩ | ⟨e1, e2, e3, -⟩
      · refine ⟨zth σ 10 t, ?_, ?_⟩
        · show zgrantK σ o t = _
          unfold zgrantK
          rw [if_neg (by rw [e1]; decide), if_neg (by rw [e1]; decide), if_pos e1]
        · rw [if_neg e3, e4, h3, hp.2.2.2.2.2.1 e6]
          exact Int32.zero_add _
      · refine ⟨zpl σ 6 o + 1, ?_, ?_⟩
        · show zgrantK σ o t = _
          unfold zgrantK
          rw [if_pos (e2.symm.trans ea)]
        · rw [if_pos e3, h3]
    obtain ⟨x, e1, e2⟩ := hx
    rw [e1]
    unfold mHold
    rw [e2]
    refine ⟨mRT_same hr.1 rfl rfl (fun K a b => ?_), mRP_hold hr.2.1 ho (by omega), mRG_pl hr.2.2 rfl rfl rfl ?_ ?_⟩ <;> (funext j; (repeat first | rw [yu_ne _ _ (by omega)] | rw [mSft_at (by omega)]))
  · unfold zamt at h3
    rw [hk] at h3
    have h3 : M 214 o = zpl σ 6 o := h3
    rcases hga with ⟨e1, -⟩ | ⟨e1, e2, e3, e4⟩
    · rcases ha with ha | ha <;> exact absurd (ha.symm.trans e1) (by decide)
    rw [hk]
    rcases ha with ha | ha
    · rw [ha] at e2
      have eg : mGrant M t o a 0 = mRead M t o := by unfold mGrant; rw [if_neg (by rw [e2]; decide), if_pos e2]
      refine ⟨0, ⟨by rw [e2]; decide, fun z => ?_, fun z => ?_⟩, ?_⟩
      · rw [e2] at z; exact absurd z (by decide)
      · rw [e2] at z; exact absurd z (by decide)
      rw [eg]
      show mR X (zgrantB σ o t) (mRead M t o)
      unfold zgrantB mRead
      rw [if_pos ha]
      have h10 := (hr.2.1.1 o ho).2.2.2.2.2.2.2.2.2.1 t ht
      rw [if_pos hk] at h10
      rw [h10]
      refine ⟨mRT_same hr.1 rfl rfl (fun K a b => ?_), mRP_read hr.2.1 ho hk ht, mRG_pl hr.2.2 rfl rfl rfl ?_ ?_⟩ <;> (funext j; (repeat first | rw [yu_ne _ _ (by omega)] | rw [mSft_at (by omega)]))
    · rw [ha] at e2
      have eg : mGrant M t o a 0 = mHold M t o := by unfold mGrant; rw [if_pos (Or.inr e2)]
      refine ⟨0, ⟨by rw [e2]; decide, fun z => ?_, fun z => ?_⟩, ?_⟩
      · rw [e2] at z; exact absurd z (by decide)
      · rw [e2] at z; exact absurd z (by decide)
      rw [eg]
      show mR X (zgrantB σ o t) (mHold M t o)
      unfold zgrantB mHold
      rw [if_neg (by rw [ha]; decide), if_neg (by rw [ha]; decide), if_pos ha, if_pos e3, h3]
      refine ⟨mRT_same hr.1 rfl rfl (fun K a b => ?_), mRP_hold hr.2.1 ho (by omega), mRG_pl hr.2.2 rfl rfl rfl ?_ ?_⟩ <;> (funext j; (repeat first | rw [yu_ne _ _ (by omega)] | rw [mSft_at (by omega)]))
  · unfold zamt at h3
    rw [hk] at h3
    have h3 : M 214 o = zpl σ 3 o := h3
    rcases hga with ⟨e1, -⟩ | ⟨e1, e2, e3, e4⟩
    · exact absurd (ha.symm.trans e1) (by decide)
    rw [ha] at e2
    have eg : mGrant M t o a 0 = mAsk M t o := by unfold mGrant; rw [if_neg (by rw [e2]; decide), if_neg (by rw [e2]; decide), if_pos e2]
    refine ⟨0, ⟨by rw [e2]; decide, fun z => ?_, fun z => ?_⟩, ?_⟩
    · rw [e2] at z; exact absurd z (by decide)
    · rw [e2] at z; exact absurd z (by decide)
    rw [eg, hk]
    show mR X (zspl σ 3 o (zpl σ 3 o + (if zth σ 8 t = 10 then zth σ 9 t else -(zth σ 9 t)))) (mAsk M t o)
    unfold mAsk
    rw [if_neg (by rw [ha]; decide), h3, e4, Int32.sub_eq_add_neg]
    refine ⟨mRT_same hr.1 rfl rfl (fun K a b => ?_), mRP_pl3 hr.2.1 ho (Or.inl hk), mRG_pl hr.2.2 rfl rfl rfl ?_ ?_⟩ <;> (funext j; (repeat first | rw [yu_ne _ _ (by omega)] | rw [mSft_at (by omega)]))
  · rcases hga with ⟨e1, -⟩ | ⟨e1, e2, e3, e4⟩
    · exact absurd (ha.symm.trans e1) (by decide)
    rw [ha] at e2
    have eg : mGrant M t o a 0 = M := by unfold mGrant; rw [if_neg (by rw [e2]; decide), if_neg (by rw [e2]; decide), if_neg (by rw [e2]; decide), if_neg (by rw [e2]; decide), if_neg (by rw [e2]; decide)]
    refine ⟨0, ⟨by rw [e2]; decide, fun z => ?_, fun z => ?_⟩, ?_⟩
    · rw [e2] at z; exact absurd z (by decide)
    · rw [e2] at z; exact absurd z (by decide)
    rw [eg, hk]
    show mR X (if zth σ 8 t = 12 ∧ _ then _ else _) M
    rw [if_neg (fun z => absurd (ha.symm.trans z.1) (by decide))]
    exact hr
  · exact absurd hk h4
  · unfold zamt at h3
    rw [hk] at h3
    have h3 : M 214 o = nI (zqu σ o).length := h3
    rcases hga with ⟨e1, -⟩ | ⟨e1, e2, e3, e4⟩
    · rcases ha with ha | ha <;> exact absurd (ha.symm.trans e1) (by decide)
    have hc : zcanC (zkd σ o) σ o t = true := hc5 hk
    rw [hk] at hc
    have hc : (if zth σ 8 t = 15 then decide ((zqu σ o).length < zcp σ o) else decide (0 < (zqu σ o).length)) = true := hc
    have hcp := hp.2.2.1
    have hql := hp.2.2.2.2.2.2.2.2 hk
    rcases ha with ha | ha
    · rw [ha] at e2
      rw [if_pos ha] at hc
      have hc := of_decide_eq_true hc
      have eg : mGrant M t o a (zqu σ o).length = mPut M t o (zqu σ o).length := by unfold mGrant; rw [if_neg (by rw [e2]; decide), if_neg (by rw [e2]; decide), if_neg (by rw [e2]; decide), if_pos e2]
      refine ⟨(zqu σ o).length, ⟨by rw [e2]; decide, fun z => ⟨by omega, h3⟩, fun z => ?_⟩, ?_⟩
      · rw [e2] at z; exact absurd z (by decide)
      rw [eg, hk]
      show mR X (zgrantQ σ o t) (mPut M t o (zqu σ o).length)
      unfold zgrantQ mPut
      rw [if_pos ha, if_pos hc, e4]
      refine ⟨mRT_same hr.1 rfl rfl (fun K a b => ?_), mRP_put hr.2.1 ho hk rfl (by omega), mRG_pl hr.2.2 rfl rfl rfl ?_ ?_⟩ <;> (funext j; (repeat first | rw [yu_ne _ _ (by omega)] | rw [mSft_at (by omega)]))
    · rw [ha] at e2
      rw [if_neg (by rw [ha]; decide)] at hc
      have hc := of_decide_eq_true hc
      obtain ⟨x, b, hq⟩ : ∃ x b, zqu σ o = x :: b := by
        cases hq : zqu σ o with
        | nil => rw [hq] at hc; exact absurd hc (by decide)
        | cons x b => exact ⟨x, b, rfl⟩
      have hlen : (zqu σ o).length = b.length + 1 := by rw [hq]; rfl
      have eg : mGrant M t o a b.length = mTake M t o b.length := by unfold mGrant; rw [if_neg (by rw [e2]; decide), if_neg (by rw [e2]; decide), if_neg (by rw [e2]; decide), if_neg (by rw [e2]; decide), if_pos e2]
      refine ⟨b.length, ⟨by rw [e2]; decide, fun z => ?_, fun z => ⟨by omega, by rw [h3, hlen]⟩⟩, ?_⟩
      · rw [e2] at z; exact absurd z (by decide)
      rw [eg, hk]
      show mR X (zgrantQ σ o t) (mTake M t o b.length)
      unfold zgrantQ mTake
      rw [if_neg (by rw [ha]; decide), hq]
      have h221 : M 221 (o * 3) = x := by
        have h9 := ((hr.2.1.1 o ho).2.2.2.2.2.2.2.2.2.2 hk).2 0 (by omega)
        simp only [hq] at h9
        exact h9
      rw [h221]
      show mR X (zsth (zsqu σ o b) 5 t x) _
      refine ⟨fun u hu => ?_, mRP_same (mRP_tkq hr.2.1 ho hk hq rfl) rfl (fun o' => ⟨rfl, rfl, fun _ => rfl, rfl, fun _ => rfl, fun _ => rfl, rfl⟩) (mSm_all (fun K a b9 c => ?_)), mRG_pl hr.2.2 rfl rfl rfl ?_ ?_⟩
      · have h9 := hr.1 u hu
        by_cases e : u = t
        · subst e
          obtain ⟨b1, b2, b3⟩ := h9
          refine ⟨?_, ?_, fun hx => ?_⟩
          · (repeat first | rw [yu_ne _ _ (by omega)] | rw [mSft_at (by omega)])
            rw [yu_same, gs_zth_zsth, if_pos ⟨rfl, rfl⟩]
          · (repeat first | rw [yu_ne _ _ (by omega)] | rw [mSft_at (by omega)])
            rw [b2]
            simp [gs_zth_zsth, gs_zpl_zsth, gs_zwh_zsth, gs_zho_zsth, gs_zrw_zsth, gs_zen_zsth, gs_zrd_zsth, gs_zqu_zsth, gs_zn_zsth, gs_zkd_zsth, gs_zcp_zsth, gs_ztk_zsth, gs_zth_zspl, gs_zpl_zspl, gs_zwh_zspl, gs_zho_zspl, gs_zrw_zspl, gs_zen_zspl, gs_zrd_zspl, gs_zqu_zspl, gs_zn_zspl, gs_zkd_zspl, gs_zcp_zspl, gs_ztk_zspl, gs_zth_zswh, gs_zpl_zswh, gs_zwh_zswh, gs_zho_zswh, gs_zrw_zswh, gs_zen_zswh, gs_zrd_zswh, gs_zqu_zswh, gs_zn_zswh, gs_zkd_zswh, gs_zcp_zswh, gs_ztk_zswh, gs_zth_zsho, gs_zpl_zsho, gs_zwh_zsho, gs_zho_zsho, gs_zrw_zsho, gs_zen_zsho, gs_zrd_zsho, gs_zqu_zsho, gs_zn_zsho, gs_zkd_zsho, gs_zcp_zsho, gs_ztk_zsho, gs_zth_zsrw, gs_zpl_zsrw, gs_zwh_zsrw, gs_zho_zsrw, gs_zrw_zsrw, gs_zen_zsrw, gs_zrd_zsrw, gs_zqu_zsrw, gs_zn_zsrw, gs_zkd_zsrw, gs_zcp_zsrw, gs_ztk_zsrw, gs_zth_zsen, gs_zpl_zsen, gs_zwh_zsen, gs_zho_zsen, gs_zrw_zsen, gs_zen_zsen, gs_zrd_zsen, gs_zqu_zsen, gs_zn_zsen, gs_zkd_zsen, gs_zcp_zsen, gs_ztk_zsen, gs_zth_zsrd, gs_zpl_zsrd, gs_zwh_zsrd, gs_zho_zsrd, gs_zrw_zsrd, gs_zen_zsrd, gs_zrd_zsrd, gs_zqu_zsrd, gs_zn_zsrd, gs_zkd_zsrd, gs_zcp_zsrd, gs_ztk_zsrd, gs_zth_zsqu, gs_zpl_zsqu, gs_zwh_zsqu, gs_zho_zsqu, gs_zrw_zsqu, gs_zen_zsqu, gs_zrd_zsqu, gs_zqu_zsqu, gs_zn_zsqu, gs_zkd_zsqu, gs_zcp_zsqu, gs_ztk_zsqu, gs_zth_zstk, gs_zpl_zstk, gs_zwh_zstk, gs_zho_zstk, gs_zrw_zstk, gs_zen_zstk, gs_zrd_zstk, gs_zqu_zstk, gs_zn_zstk, gs_zkd_zstk, gs_zcp_zstk, gs_ztk_zstk]
          · have b4 := b3 hx
            unfold mRu at b4 ⊢
            have hs : ∀ K, ¬ K = 221 → mSft (yu (yu M 204 u x) 214 o (nI b.length)) 221 (o * 3) b.length K = (yu (yu M 204 u x) 214 o (nI b.length)) K := fun K hK => funext (fun j => mSft_at (fun z => hK z.1))
            rw [hs 201 (by decide), hs 202 (by decide), hs 203 (by decide), hs 205 (by decide), hs 206 (by decide), hs 207 (by decide), hs 208 (by decide), hs 209 (by decide), hs 211 (by decide)]
            simpa [yu, gs_zth_zsth, gs_zpl_zsth, gs_zwh_zsth, gs_zho_zsth, gs_zrw_zsth, gs_zen_zsth, gs_zrd_zsth, gs_zqu_zsth, gs_zn_zsth, gs_zkd_zsth, gs_zcp_zsth, gs_ztk_zsth, gs_zth_zspl, gs_zpl_zspl, gs_zwh_zspl, gs_zho_zspl, gs_zrw_zspl, gs_zen_zspl, gs_zrd_zspl, gs_zqu_zspl, gs_zn_zspl, gs_zkd_zspl, gs_zcp_zspl, gs_ztk_zspl, gs_zth_zswh, gs_zpl_zswh, gs_zwh_zswh, gs_zho_zswh, gs_zrw_zswh, gs_zen_zswh, gs_zrd_zswh, gs_zqu_zswh, gs_zn_zswh, gs_zkd_zswh, gs_zcp_zswh, gs_ztk_zswh, gs_zth_zsho, gs_zpl_zsho, gs_zwh_zsho, gs_zho_zsho, gs_zrw_zsho, gs_zen_zsho, gs_zrd_zsho, gs_zqu_zsho, gs_zn_zsho, gs_zkd_zsho, gs_zcp_zsho, gs_ztk_zsho, gs_zth_zsrw, gs_zpl_zsrw, gs_zwh_zsrw, gs_zho_zsrw, gs_zrw_zsrw, gs_zen_zsrw, gs_zrd_zsrw, gs_zqu_zsrw, gs_zn_zsrw, gs_zkd_zsrw, gs_zcp_zsrw, gs_ztk_zsrw, gs_zth_zsen, gs_zpl_zsen, gs_zwh_zsen, gs_zho_zsen, gs_zrw_zsen, gs_zen_zsen, gs_zrd_zsen, gs_zqu_zsen, gs_zn_zsen, gs_zkd_zsen, gs_zcp_zsen, gs_ztk_zsen, gs_zth_zsrd, gs_zpl_zsrd, gs_zwh_zsrd, gs_zho_zsrd, gs_zrw_zsrd, gs_zen_zsrd, gs_zrd_zsrd, gs_zqu_zsrd, gs_zn_zsrd, gs_zkd_zsrd, gs_zcp_zsrd, gs_ztk_zsrd, gs_zth_zsqu, gs_zpl_zsqu, gs_zwh_zsqu, gs_zho_zsqu, gs_zrw_zsqu, gs_zen_zsqu, gs_zrd_zsqu, gs_zqu_zsqu, gs_zn_zsqu, gs_zkd_zsqu, gs_zcp_zsqu, gs_ztk_zsqu, gs_zth_zstk, gs_zpl_zstk, gs_zwh_zstk, gs_zho_zstk, gs_zrw_zstk, gs_zen_zstk, gs_zrd_zstk, gs_zqu_zstk, gs_zn_zstk, gs_zkd_zstk, gs_zcp_zstk, gs_ztk_zstk] using b4
        · refine mRt_oth h9 (fun f => by simp [e, gs_zth_zsth, gs_zpl_zsth, gs_zwh_zsth, gs_zho_zsth, gs_zrw_zsth, gs_zen_zsth, gs_zrd_zsth, gs_zqu_zsth, gs_zn_zsth, gs_zkd_zsth, gs_zcp_zsth, gs_ztk_zsth, gs_zth_zspl, gs_zpl_zspl, gs_zwh_zspl, gs_zho_zspl, gs_zrw_zspl, gs_zen_zspl, gs_zrd_zspl, gs_zqu_zspl, gs_zn_zspl, gs_zkd_zspl, gs_zcp_zspl, gs_ztk_zspl, gs_zth_zswh, gs_zpl_zswh, gs_zwh_zswh, gs_zho_zswh, gs_zrw_zswh, gs_zen_zswh, gs_zrd_zswh, gs_zqu_zswh, gs_zn_zswh, gs_zkd_zswh, gs_zcp_zswh, gs_ztk_zswh, gs_zth_zsho, gs_zpl_zsho, gs_zwh_zsho, gs_zho_zsho, gs_zrw_zsho, gs_zen_zsho, gs_zrd_zsho, gs_zqu_zsho, gs_zn_zsho, gs_zkd_zsho, gs_zcp_zsho, gs_ztk_zsho, gs_zth_zsrw, gs_zpl_zsrw, gs_zwh_zsrw, gs_zho_zsrw, gs_zrw_zsrw, gs_zen_zsrw, gs_zrd_zsrw, gs_zqu_zsrw, gs_zn_zsrw, gs_zkd_zsrw, gs_zcp_zsrw, gs_ztk_zsrw, gs_zth_zsen, gs_zpl_zsen, gs_zwh_zsen, gs_zho_zsen, gs_zrw_zsen, gs_zen_zsen, gs_zrd_zsen, gs_zqu_zsen, gs_zn_zsen, gs_zkd_zsen, gs_zcp_zsen, gs_ztk_zsen, gs_zth_zsrd, gs_zpl_zsrd, gs_zwh_zsrd, gs_zho_zsrd, gs_zrw_zsrd, gs_zen_zsrd, gs_zrd_zsrd, gs_zqu_zsrd, gs_zn_zsrd, gs_zkd_zsrd, gs_zcp_zsrd, gs_ztk_zsrd, gs_zth_zsqu, gs_zpl_zsqu, gs_zwh_zsqu, gs_zho_zsqu, gs_zrw_zsqu, gs_zen_zsqu, gs_zrd_zsqu, gs_zqu_zsqu, gs_zn_zsqu, gs_zkd_zsqu, gs_zcp_zsqu, gs_ztk_zsqu, gs_zth_zstk, gs_zpl_zstk, gs_zwh_zstk, gs_zho_zstk, gs_zrw_zstk, gs_zen_zstk, gs_zrd_zstk, gs_zqu_zstk, gs_zn_zstk, gs_zkd_zstk, gs_zcp_zstk, gs_ztk_zstk]) rfl (fun K a b9 => ?_)
          (repeat first | rw [yu_ne _ _ (by omega)] | rw [mSft_at (by omega)])
      · funext j
        show (if K = 221 ∧ o * 3 ≤ j ∧ j < o * 3 + b.length then _ else _) = (if K = 221 ∧ o * 3 ≤ j ∧ j < o * 3 + b.length then _ else _)
        rw [yu_cg (A := yu M 204 t x) (B := M) (K := 221) (by funext j2; (repeat first | rw [yu_ne _ _ (by omega)] | rw [mSft_at (by omega)])), yu_cg (A := yu M 204 t x) (B := M) (K := K) (by funext j2; (repeat first | rw [yu_ne _ _ (by omega)] | rw [mSft_at (by omega)]))]
      · funext j; (repeat first | rw [yu_ne _ _ (by omega)] | rw [mSft_at (by omega)])
      · funext j; (repeat first | rw [yu_ne _ _ (by omega)] | rw [mSft_at (by omega)])
