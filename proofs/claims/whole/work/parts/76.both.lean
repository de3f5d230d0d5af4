/-! leaving, ticking, interrupting: both sides -/
theorem yCT_mono {G : yG} {i : yM} {As : List yV} {ω : yW} {P P' : Option yV → yW → Prop} {X X' : String → yW → Prop} (h : yCT G i As ω P X) (hP : ∀ r w, P r w → P' r w) (hX : ∀ E w, X E w → X' E w) : yCT G i As ω P' X' := by
  intro ad0 p e hl hc hk s m args below h1 h2 h3 h4
  obtain ⟨n, o, a1, a2, a3, a4⟩ := h ad0 p e hl hc hk s m args below h1 h2 h3 h4
  refine ⟨n, o, a1, a2, a3, ?_⟩
  rcases a4 with ⟨⟨r, ad, w, b1, b2, b3⟩, b4⟩ | ⟨q, b1, E, ce, L, ⟨ad, w, c1, c2⟩, b3⟩
  · exact Or.inl ⟨⟨r, ad, w, b1, hP r w b2, b3⟩, b4⟩
  · exact Or.inr ⟨q, b1, E, ce, L, ⟨ad, w, hX E w c1, c2⟩, b3⟩
theorem mCT_mono {G : yG} {i : yM} {As : List yV} {s : Nat → Option ySh} {F : Nat → Nat → Option Nat} {M : mM} {P P' : Option yV → mM → Prop} (h : mCT G i As s F M P) (hP : ∀ r M', P r M' → P' r M') : mCT G i As s F M P' := yCT_mono h (fun r w ⟨M', e, h9⟩ => ⟨M', e, hP r M' h9⟩) (fun _ _ h9 => h9)
def mRS (n : Nat) (σ : zS) (M : mM) : Prop := zJn n σ ∧ mR x0 σ M ∧ ∀ o, o < zn σ → zSd σ o
def mR0 (n : Nat) (M0 : mM) (σ : zS) (M : mM) : Prop := mRS n σ M ∧ mFx M0 M
theorem mEnds_26 {h K j : Nat} (hK : mOut K j) : ∀ (l : List Nat) (M : mM), mEnds M l h K j = M K j
  | [], M => rfl
  | u :: l, M => by
    show mEnds (mEndL M u h) l h K j = _
    rw [mEnds_26 hK l]
    unfold mOut at hK
    unfold mEndL mEnd
    (repeat first | rw [yu_ne _ _ (by omega)] | rw [mSft_at (by omega)])
theorem mBrk_26 {o h K j : Nat} {l : List Nat} {M : mM} (hK : mOut K j) : mBrk M o l h K j = M K j := by
  unfold mBrk
  rw [yu_ne _ _ (by unfold mOut at hK; omega)]
  exact mEnds_26 hK l M
theorem zNv.len6 {X : Nat → Bool} {σ : zS} {o : Nat} (h : zNv X σ) (ho : o < zn σ) : (zrw σ 0 o).length ≤ 6 := nod_len 6 _ (h.2.1 o 0 ho (Or.inl rfl)).1 (fun x hx => ((h.2.1 o 0 ho (Or.inl rfl)).2 x hx).1)
theorem mRR.done {n o : Nat} {σ : zS} {M M0 : mM} (hJ : zJn n σ) (ho : o < zn σ) (h : mRR n o M0 (zset o 7 σ) M) : mR0 n M0 (zset o 7 σ) M := by
  refine ⟨⟨h.1, h.2.1, fun o' ho' => ?_⟩, h.2.2.2.2⟩
  by_cases e : o' = o
  · rw [e]
    exact zset_does 7 σ hJ ho (by have := hJ.1.len6 ho; omega)
  · exact h.2.2.1 o' ho' e
theorem mRS_mark {n t : Nat} {σ : zS} {M : mM} (h : mRS n σ M) : mRS n (zsth σ 6 t 1) (yu M 210 t 1) :=
  ⟨⟨zNv_mark h.1.1 (Or.inr rfl), zB_le h.1.2.1 rfl rfl rfl (fun _ _ h9 => h9), h.1.2.2⟩, mR_mark h.2.1, fun o' ho' => zSd_cg (h.2.2 o' ho') ⟨rfl, rfl, fun _ => rfl, rfl, fun _ => rfl, fun _ => rfl, rfl⟩ (fun u _ => by simp [gs_zth_zsth, gs_zpl_zsth, gs_zwh_zsth, gs_zho_zsth, gs_zrw_zsth, gs_zen_zsth, gs_zrd_zsth, gs_zqu_zsth, gs_zn_zsth, gs_zkd_zsth, gs_zcp_zsth, gs_ztk_zsth, gs_zth_zspl, gs_zpl_zspl, gs_zwh_zspl, gs_zho_zspl, gs_zrw_zspl, gs_zen_zspl, gs_zrd_zspl, gs_zqu_zspl, gs_zn_zspl, gs_zkd_zspl, gs_zcp_zspl, gs_ztk_zspl, gs_zth_zswh, gs_zpl_zswh, gs_zwh_zswh, gs_zho_zswh, gs_zrw_zswh, gs_zen_zswh, gs_zrd_zswh, gs_zqu_zswh, gs_zn_zswh, gs_zkd_zswh, gs_zcp_zswh, gs_ztk_zswh, gs_zth_zsho, gs_zpl_zsho, gs_zwh_zsho, gs_zho_zsho, gs_zrw_zsho, gs_zen_zsho, gs_zrd_zsho, gs_zqu_zsho, gs_zn_zsho, gs_zkd_zsho, gs_zcp_zsho, gs_ztk_zsho, gs_zth_zsrw, gs_zpl_zsrw, gs_zwh_zsrw, gs_zho_zsrw, gs_zrw_zsrw, gs_zen_zsrw, gs_zrd_zsrw, gs_zqu_zsrw, gs_zn_zsrw, gs_zkd_zsrw, gs_zcp_zsrw, gs_ztk_zsrw, gs_zth_zsen, gs_zpl_zsen, gs_zwh_zsen, gs_zho_zsen, gs_zrw_zsen, gs_zen_zsen, gs_zrd_zsen, gs_zqu_zsen, gs_zn_zsen, gs_zkd_zsen, gs_zcp_zsen, gs_ztk_zsen, gs_zth_zsrd, gs_zpl_zsrd, gs_zwh_zsrd, gs_zho_zsrd, gs_zrw_zsrd, gs_zen_zsrd, gs_zrd_zsrd, gs_zqu_zsrd, gs_zn_zsrd, gs_zkd_zsrd, gs_zcp_zsrd, gs_ztk_zsrd, gs_zth_zsqu, gs_zpl_zsqu, gs_zwh_zsqu, gs_zho_zsqu, gs_zrw_zsqu, gs_zen_zsqu, gs_zrd_zsqu, gs_zqu_zsqu, gs_zn_zsqu, gs_zkd_zsqu, gs_zcp_zsqu, gs_ztk_zsqu, gs_zth_zstk, gs_zpl_zstk, gs_zwh_zstk, gs_zho_zstk, gs_zrw_zstk, gs_zen_zstk, gs_zrd_zstk, gs_zqu_zstk, gs_zn_zstk, gs_zkd_zstk, gs_zcp_zstk, gs_ztk_zstk])⟩
theorem mRS_pat {n t o : Nat} {σ : zS} {M : mM} {x : Int32} (h : mRS n σ M) (hw : zwh σ t = some o) : mRS n (zsth σ 7 t x) (yu M 205 t x) :=
  ⟨⟨zNv_pat h.1.1 (by rw [hw]; simp), zB_le h.1.2.1 rfl rfl rfl (fun _ _ h9 => h9), h.1.2.2⟩, mR_pat h.2.1, fun o' ho' => zSd_cg (h.2.2 o' ho') ⟨rfl, rfl, fun _ => rfl, rfl, fun _ => rfl, fun _ => rfl, rfl⟩ (fun u _ => by simp [gs_zth_zsth, gs_zpl_zsth, gs_zwh_zsth, gs_zho_zsth, gs_zrw_zsth, gs_zen_zsth, gs_zrd_zsth, gs_zqu_zsth, gs_zn_zsth, gs_zkd_zsth, gs_zcp_zsth, gs_ztk_zsth, gs_zth_zspl, gs_zpl_zspl, gs_zwh_zspl, gs_zho_zspl, gs_zrw_zspl, gs_zen_zspl, gs_zrd_zspl, gs_zqu_zspl, gs_zn_zspl, gs_zkd_zspl, gs_zcp_zspl, gs_ztk_zspl, gs_zth_zswh, gs_zpl_zswh, gs_zwh_zswh, gs_zho_zswh, gs_zrw_zswh, gs_zen_zswh, gs_zrd_zswh, gs_zqu_zswh, gs_zn_zswh, gs_zkd_zswh, gs_zcp_zswh, gs_ztk_zswh, gs_zth_zsho, gs_zpl_zsho, gs_zwh_zsho, gs_zho_zsho, gs_zrw_zsho, gs_zen_zsho, gs_zrd_zsho, gs_zqu_zsho, gs_zn_zsho, gs_zkd_zsho, gs_zcp_zsho, gs_ztk_zsho, gs_zth_zsrw, gs_zpl_zsrw, gs_zwh_zsrw, gs_zho_zsrw, gs_zrw_zsrw, gs_zen_zsrw, gs_zrd_zsrw, gs_zqu_zsrw, gs_zn_zsrw, gs_zkd_zsrw, gs_zcp_zsrw, gs_ztk_zsrw, gs_zth_zsen, gs_zpl_zsen, gs_zwh_zsen, gs_zho_zsen, gs_zrw_zsen, gs_zen_zsen, gs_zrd_zsen, gs_zqu_zsen, gs_zn_zsen, gs_zkd_zsen, gs_zcp_zsen, gs_ztk_zsen, gs_zth_zsrd, gs_zpl_zsrd, gs_zwh_zsrd, gs_zho_zsrd, gs_zrw_zsrd, gs_zen_zsrd, gs_zrd_zsrd, gs_zqu_zsrd, gs_zn_zsrd, gs_zkd_zsrd, gs_zcp_zsrd, gs_ztk_zsrd, gs_zth_zsqu, gs_zpl_zsqu, gs_zwh_zsqu, gs_zho_zsqu, gs_zrw_zsqu, gs_zen_zsqu, gs_zrd_zsqu, gs_zqu_zsqu, gs_zn_zsqu, gs_zkd_zsqu, gs_zcp_zsqu, gs_ztk_zsqu, gs_zth_zstk, gs_zpl_zstk, gs_zwh_zstk, gs_zho_zstk, gs_zrw_zstk, gs_zen_zstk, gs_zrd_zstk, gs_zqu_zstk, gs_zn_zstk, gs_zkd_zstk, gs_zcp_zstk, gs_ztk_zstk])⟩
theorem mRS_stk {n : Nat} {σ : zS} {M : mM} {x : Int32} (h : mRS n σ M) : mRS n (zstk σ x) (yu M 200 24 x) :=
  ⟨⟨zNv_stk h.1.1, zB_le h.1.2.1 rfl rfl rfl (fun _ _ h9 => h9), h.1.2.2⟩, mR_stk h.2.1, fun o' ho' => zSd_cg (h.2.2 o' ho') ⟨rfl, rfl, fun _ => rfl, rfl, fun _ => rfl, fun _ => rfl, rfl⟩ (fun u _ => ⟨rfl, rfl⟩)⟩
theorem mRS_200 {n f : Nat} {σ : zS} {M : mM} {x : Int32} (h : mRS n σ M) (hf : 24 < f) : mRS n σ (yu M 200 f x) := ⟨h.1, mR_200 h.2.1 hf, h.2.2⟩
theorem mR_gave {X : Nat → Bool} {σ : zS} {M : mM} {o : Nat} (hr : mR X σ M) (hv : zNv X σ) (ho : o < zn σ) : mR X (zgave σ o) (if M 212 o = 4 then mBrk (yu M 223 o 1) o (zrw σ 0 o) 3 else M) := by
  have hrow := hv.2.1 o 0 ho (Or.inl rfl)
  have hk6 := (hv.2.2.2.2.2 o ho).1
  have h212 := (hr.2.1.1 o ho).1
  have h4 : M 212 o = 4 ↔ zkd σ o = 4 := by
    rw [h212, show (4 : Int32) = nI 4 from rfl, nI_eq (by omega) (by decide)]
  unfold zgave
  by_cases hk : zkd σ o = 4
  · rw [if_pos hk, if_pos (h4.mpr hk)]
    refine mR_endAll (σ := zspl σ 4 o 1) ⟨mRT_same hr.1 rfl rfl (fun K a b => ?_), mRP_brk hr.2.1 ho hk, mRG_pl hr.2.2 rfl rfl rfl ?_ ?_⟩ ho hrow.1 (fun u hu => ⟨(hrow.2 u hu).1, (hrow.2 u hu).2.1⟩) <;> (funext j; (repeat first | rw [yu_ne _ _ (by omega)] | rw [mSft_at (by omega)]))
  · rw [if_neg hk, if_neg (fun z => hk (h4.mp z))]
    exact hr
theorem idx_of {l : List Nat} {t : Nat} (h : t ∈ l) : ∃ i : Nat, l[i]? = some t := by
  obtain ⟨i, hi, he⟩ := List.getElem_of_mem h
  exact ⟨i, by rw [List.getElem?_eq_getElem hi, he]⟩
theorem c_M_leaveJ {G : yG} {s : Nat → Option ySh} {F : Nat → Nat → Option Nat} (hS : mSh s F) {n t o h : Nat} {σ : zS} {M M0 : mM} (hR : mR0 n M0 σ M) (ht : t < 6) (hw : zwh σ t = some o) (hh : h = 2 ∨ h = 4) : mCT G m_M_leave [yr 200, yi (nI t), yi (nI h)] s F M (fun r M' => r = none ∧ mR0 n M0 (zset o 7 (zgiveUp σ o t h)) M') := by
  obtain ⟨⟨⟨hv, hb, hn⟩, hr, hsd⟩, h26⟩ := hR
  obtain ⟨q1, q2, q3, q4⟩ := zNv_giveUp (k := h) hv hb ht hw hh
  have ho6 : o < 6 := by have := hv.2.2.2.1; omega
  have ho9 : o < zn (zgiveUp σ o t h) := by rw [(zFr_giveUp (o := o)).2.2]; exact q1
  have has : zAS o (zgiveUp σ o t h) := (zFr_giveUp (o := o)).as (fun o' ho' _ => hsd o' ho')
  obtain ⟨g1, g2, g3, g4, g5, g6, g7, g8, gg9, g10, g11⟩ := hr.2.1.1 o q1
  have hrow := hv.2.1 o 0 q1 (Or.inl rfl)
  obtain ⟨u1, u2, u3, u4, u5, u6, u7, u8, u9⟩ := mRu_of hr ht rfl
  rw [hw] at u3
  have h5 : h < 5 := by omega
  have wrap : ∀ (P : Option yV → mM → Prop), mCT G m_M_leave [yr 200, yi (nI t), yi (nI h)] s F M (fun r M' => r = none ∧ mRR n o M0 (zset o 7 (zgiveUp σ o t h)) M') → mCT G m_M_leave [yr 200, yi (nI t), yi (nI h)] s F M (fun r M' => r = none ∧ mR0 n M0 (zset o 7 (zgiveUp σ o t h)) M') := fun _ h9 => mCT_mono h9 (fun r M' z => ⟨z.1, mRR.done ⟨q3, q4, hn⟩ ho9 z.2⟩)
  refine wrap (fun _ _ => True) ?_
  rcases hv.1 t ht rfl with h1 | ⟨h1, o1, h2, h3, h4, hra⟩ | ⟨h1, o1, h2, h3, h4, h6, h7⟩
  · exact absurd (h1.2.1.symm.trans hw) (by simp)
  · cases Option.some.inj (h2.symm.trans hw)
    obtain ⟨i, hi⟩ := idx_of h4
    refine c_M_leaveB hS ht ho6 h5 u3 (by rw [u1, h1]; decide) g7 g5 g8 (fun u hu => (hrow.2 u hu).1) hrow.1 hi (mPass_J n o M0) ⟨⟨q3, q4, hn⟩, ?_, has, ho9, fun K j hK => by
      rw [← h26 K j hK]
      unfold mLvB
      split
      · rw [mBrk_26 hK]
        unfold mOut at hK
        unfold mEndL mEnd mRem
        (repeat first | rw [yu_ne _ _ (by omega)] | rw [mSft_at (by omega)])
      · unfold mOut at hK
        unfold mEndL mEnd mRem
        (repeat first | rw [yu_ne _ _ (by omega)] | rw [mSft_at (by omega)])⟩
    have e1 : zgiveUp σ o t h = zgave (zend (zrm σ o t) t h) o := by
      unfold zgiveUp
      rw [if_neg (fun z => absurd (h1.symm.trans z.2) (by decide))]
      rfl
    rw [e1]
    have r1 := mR_200 (f := 25) (x := nI h) (mR_end (h := h) (mR_rm (o := o) (t := t) (i := i) hr q1 hrow.1 hi) ht) (by decide)
    rw [xar x0 rfl] at r1
    have v1 := zNv_end (t := t) (h := h) (zNv_rm hv q1 (Or.inl rfl) h4) (by simp)
    rw [xar x0 rfl] at v1
    have r2 := mR_gave r1 v1 q1
    have e2 : zrw (zend (zsrw σ 0 o ((zrw σ 0 o).filter (fun u => u ≠ t))) t h) 0 o = (zrw σ 0 o).eraseIdx i := by
      show yu _ _ _ _ _ _ = _
      rw [yu_same, nod_idx hrow.1 hi]
    have e3 : zrw (zend (zrm σ o t) t h) 0 o = (zrw σ 0 o).eraseIdx i := e2
    rw [e3] at r2
    have e4 : (yu (mEnd (mRem M 217 (o * 6) 216 o i ((zrw σ 0 o).length - 1)) t h) 200 25 (nI h)) 212 o = M 212 o := by
      unfold mEnd mRem
      (repeat first | rw [yu_ne _ _ (by omega)] | rw [mSft_at (by omega)])
    rw [e4] at r2
    unfold mLvB
    exact r2
  · cases Option.some.inj (h2.symm.trans hw)
    have hcj := zcj_in (zth σ 9 t)
    have hnr : (zrw σ 0 o).length < 6 := q2 h4 h1
    have hlc : ∀ c, c < 2 → (zcr σ c o).length ≤ 6 ∧ M 218 (o * 2 + c) = nI (zcr σ c o).length ∧ mL M 219 ((o * 2 + c) * 6) (zcr σ c o) ∧ (∀ u ∈ zcr σ c o, u < 6) ∧ (zcr σ c o).Nodup := fun c hc => by
      obtain ⟨a1, a2, a3⟩ := gg9 c hc
      have hr2 := hv.2.1 o (c + 1) q1 (Or.inr ⟨h4, by omega⟩)
      refine ⟨a2, a1, a3, ?_, ?_⟩
      · unfold zcr
        rw [if_pos h4]
        exact fun u hu => (hr2.2 u hu).1
      · unfold zcr
        rw [if_pos h4]
        exact hr2.1
    have hcr : ∀ c, zcr σ c o = zrw σ (c + 1) o := fun c => by unfold zcr; rw [if_pos h4]
    have e1 : zgiveUp σ o t h = ztake (zsrw σ (zcj (zth σ 9 t)) o ((zrw σ (zcj (zth σ 9 t)) o).filter (fun u => u ≠ t))) o t (nI h) := by
      unfold zgiveUp
      rw [if_pos ⟨h4, h1⟩]
    have main : ∀ c i, c < 2 → zcj (zth σ 9 t) = c + 1 → (zcr σ c o)[i]? = some t → mRR n o M0 (zgiveUp σ o t h) (mLvW M t o (o * 2 + c) i ((zcr σ c o).length - 1) (zrw σ 0 o).length h) := fun c i hc hj hi => by
      refine ⟨⟨q3, q4, hn⟩, ?_, has, ho9, fun K j hK => by
        rw [← h26 K j hK]
        unfold mOut at hK
        unfold mLvW
        rw [mCalled_keep (by unfold mCo; omega)]
        unfold mRem
        (repeat first | rw [yu_ne _ _ (by omega)] | rw [mSft_at (by omega)])⟩
      rw [e1, hj]
      rw [hcr] at hi ⊢
      have r1 := mR_rmc (t := t) (i := i) hr q1 h4 hc (hv.2.1 o (c + 1) q1 (Or.inr ⟨h4, by omega⟩)).1 hi
      have e0 : zrw (zsrw σ (c + 1) o ((zrw σ (c + 1) o).filter (fun v => v ≠ t))) 0 o = zrw σ 0 o := by rw [gs_zrw_zsrw, if_neg (by omega)]
      have r2 := mR_take (n := (zrw σ 0 o).length) (h := h) (t := t) r1 q1 (by rw [e0]) hnr h6 (by
        show mRem M 219 _ 218 _ i _ 208 t = zth σ 10 t
        unfold mRem
        (repeat first | rw [yu_ne _ _ (by omega)] | rw [mSft_at (by omega)])
        exact u8 (by rw [h1]; decide) h6) (by
        show mRem M 219 _ 218 _ i _ 202 t = zth σ 3 t
        unfold mRem
        (repeat first | rw [yu_ne _ _ (by omega)] | rw [mSft_at (by omega)])
        exact u2)
      rw [xar x0 rfl] at r2
      unfold mLvW
      exact r2
    rcases (show zcj (zth σ 9 t) = 1 ∨ zcj (zth σ 9 t) = 2 by omega) with hj | hj
    · rw [hj] at h7
      obtain ⟨i, hi⟩ := idx_of h7
      rw [← hcr 0] at hi
      refine c_M_leaveW0 hS (lc := fun c => zcr σ c o) ht ho6 u3 (by rw [u1, h1]) hnr g5 hlc hi (mPass_J n o M0) (fun z => ?_) (main 0 i (by decide) hj hi)
      have z : t ∈ zcr σ 1 o := z
      rw [hcr 1] at z
      exact absurd (hv.one q1 (Or.inr ⟨h4, by decide⟩) q1 (Or.inr ⟨h4, by decide⟩) h7 z).2 (by decide)
    · rw [hj] at h7
      obtain ⟨i, hi⟩ := idx_of h7
      rw [← hcr 1] at hi
      refine c_M_leaveW1 hS (lc := fun c => zcr σ c o) ht ho6 u3 (by rw [u1, h1]) hnr g5 hlc hi (mPass_J n o M0) (fun z => ?_) (main 1 i (by decide) hj hi)
      have z : t ∈ zcr σ 0 o := z
      rw [hcr 0] at z
      exact absurd (hv.one q1 (Or.inr ⟨h4, by decide⟩) q1 (Or.inr ⟨h4, by decide⟩) h7 z).2 (by decide)
theorem sub1_pos {x : Int32} (h : 0 < x) : x - 1 ≤ 0 ↔ x - 1 = 0 := by
  obtain ⟨k, hk, rfl⟩ := nI_of (x := x) (fun z => Int32.lt_irrefl (Int32.lt_trans h z))
  have h : nI 0 < nI k := h
  rw [nI_ltI (by decide) hk] at h
  obtain ⟨m, rfl⟩ : ∃ m, k = m + 1 := ⟨k - 1, by omega⟩
  rw [← nI_1, Int32.add_sub_cancel, nI_eq0 (by omega), show (0 : Int32) = nI 0 from rfl, nI_leI (by omega) (by decide)]
  omega
theorem mTk_J {G : yG} {s : Nat → Option ySh} {F : Nat → Nat → Option Nat} (hS : mSh s F) (n : Nat) (M0 : mM) : mTk G s F (mR0 n M0) := by
  intro σ M t ⟨hR, h26⟩ ht
  obtain ⟨u1, u2, u3, u4, u5, u6, u7, u8, u9⟩ := mRu_of hR.2.1 ht rfl
  rw [u4]
  cases hw : zwh σ t with
  | none =>
    refine Or.inl ⟨?_, by unfold ztk1; rw [hw]⟩
    rcases hR.1.1.1 t ht rfl with h1 | ⟨h1, o1, h2, -⟩ | ⟨h1, o1, h2, -⟩
    · rw [h1.2.2]; decide
    · exact absurd (hw.symm.trans h2) (by simp)
    · exact absurd (hw.symm.trans h2) (by simp)
  | some o =>
    by_cases h0 : 0 < zth σ 7 t
    · have hpn : ¬ zth σ 7 t ≤ 0 := Int32.not_le.mpr h0
      by_cases h1 : zth σ 7 t - 1 = 0
      · have e : ztk1 σ t = (zset o 7 (zgiveUp (zsth σ 7 t (zth σ 7 t - 1)) o t 2), true) := by
          unfold ztk1
          rw [hw]
          show (if 0 < zth σ 7 t then _ else _) = _
          rw [if_pos h0, if_pos h1]
        refine Or.inr (Or.inr ⟨hpn, (sub1_pos h0).mpr h1, by rw [e], ?_⟩)
        rw [e]
        exact c_M_leaveJ hS (h := 2) ⟨mRS_pat hR hw, fun K j hK => by rw [yu_ne _ _ (by unfold mOut at hK; omega)]; exact h26 K j hK⟩ ht hw (Or.inl rfl)
      · have e : ztk1 σ t = (zsth σ 7 t (zth σ 7 t - 1), false) := by
          unfold ztk1
          rw [hw]
          show (if 0 < zth σ 7 t then _ else _) = _
          rw [if_pos h0, if_neg h1]
        refine Or.inr (Or.inl ⟨hpn, fun z => h1 ((sub1_pos h0).mp z), by rw [e], ?_⟩)
        rw [e]
        exact ⟨mRS_pat hR hw, fun K j hK => by rw [yu_ne _ _ (by unfold mOut at hK; omega)]; exact h26 K j hK⟩
    · refine Or.inl ⟨Int32.not_lt.mp h0, ?_⟩
      unfold ztk1
      rw [hw]
      show (if 0 < zth σ 7 t then _ else _) = _
      rw [if_neg h0]
theorem mR0_tick {n : Nat} {σ : zS} {M M0 : mM} (h : mR0 n M0 σ M) : mR0 n M0 (zstk σ (ztk σ + 1)) (yu M 200 24 (M 200 24 + 1)) := by
  rw [h.1.2.1.2.2.2.2]
  exact ⟨mRS_stk h.1, fun K j hK => by rw [yu_ne _ _ (by unfold mOut at hK; omega)]; exact h.2 K j hK⟩
theorem c_M_tickJ {G : yG} {s : Nat → Option ySh} {F : Nat → Nat → Option Nat} (hS : mSh s F) {n : Nat} {σ : zS} {M : mM} {x : Int32} (hR : mRS n σ M) : mCT G m_M_tick [yr 200, yi x] s F M (fun r M' => ((x < 1 ∨ ¬ x ≤ 50) ∧ M' = yu M 200 26 1 ∧ ∃ v, r = some (yi v)) ∨ (¬ x < 1 ∧ x ≤ 50 ∧ r = some (yi (ztickL x.toNatClampNeg 0 σ).2) ∧ mR0 n (yu M 200 26 0) (ztickL x.toNatClampNeg 0 σ).1 M')) :=
  c_M_tick hS (mTk_J hS n (yu M 200 26 0)) (fun σ M h => mR0_tick h) ⟨mRS_200 hR (by decide), fun _ _ _ => rfl⟩
theorem c_M_interruptJ {G : yG} {s : Nat → Option ySh} {F : Nat → Nat → Option Nat} (hS : mSh s F) {n : Nat} {σ : zS} {M : mM} {x : Int32} (hR : mRS n σ M) : mCT G m_M_interrupt [yr 200, yi x] s F M (fun r M' => r = none ∧ ((ztat x = none ∧ M' = yu M 200 26 1) ∨ ∃ t, ztat x = some t ∧ mR0 n (yu M 200 26 0) (zint σ t) M')) := by
  refine c_M_interrupt hS (fun t ht => ?_)
  obtain ⟨u1, u2, u3, u4, u5, u6, u7, u8, u9⟩ := mRu_of hR.2.1 ht rfl
  have hR2 : mR0 n (yu M 200 26 0) σ (yu M 200 26 0) := ⟨mRS_200 (f := 26) (x := 0) hR (by decide), fun _ _ _ => rfl⟩
  rw [u1, u5]
  rcases hR.1.1.1 t ht rfl with ⟨h1, h2, -⟩ | ⟨h1, o, h2, -, -, -⟩ | ⟨h1, o, h2, -, -, h6, -⟩
  · refine ⟨fun _ => ?_, fun z => absurd (Or.inl h1) z⟩
    have e : zint σ t = zsth σ 6 t 1 := by unfold zint; rw [h2]
    rw [e]
    exact ⟨mRS_mark hR2.1, fun K j hK => by rw [yu_ne _ _ (by unfold mOut at hK; omega)]⟩
  · by_cases h8 : zth σ 8 t = 2
    · rw [if_pos ⟨h1, h8⟩]
      refine ⟨fun _ => ?_, fun z => absurd (Or.inr (by decide)) z⟩
      have e : zint σ t = zsth σ 6 t 1 := by
        unfold zint
        rw [h2]
        show (if zth σ 2 t = 1 ∧ zth σ 8 t = 2 then _ else _) = _
        rw [if_pos ⟨h1, h8⟩]
      rw [e]
      exact ⟨mRS_mark hR2.1, fun K j hK => by rw [yu_ne _ _ (by unfold mOut at hK; omega)]⟩
    · rw [if_neg (fun z => h8 z.2)]
      refine ⟨fun z => ?_, fun _ => ?_⟩
      · rcases z with z | z
        · exact absurd (h1.symm.trans z) (by decide)
        · exact absurd rfl z
      · have e : zint σ t = zset o 7 (zgiveUp σ o t 4) := by
          unfold zint
          rw [h2]
          show (if zth σ 2 t = 1 ∧ zth σ 8 t = 2 then _ else _) = _
          rw [if_neg (fun z => h8 z.2)]
        rw [e]
        exact c_M_leaveJ hS (h := 4) hR2 ht h2 (Or.inr rfl)
  · have hn1 : ¬ (zth σ 2 t = 1 ∧ zth σ 8 t = 2) := fun z => absurd (h1.symm.trans z.1) (by decide)
    rw [if_neg hn1]
    refine ⟨fun z => ?_, fun _ => ?_⟩
    · rcases z with z | z
      · exact absurd (h1.symm.trans z) (by decide)
      · exact absurd rfl z
    · have e : zint σ t = zset o 7 (zgiveUp σ o t 4) := by
        unfold zint
        rw [h2]
        show (if zth σ 2 t = 1 ∧ zth σ 8 t = 2 then _ else _) = _
        rw [if_neg hn1]
      rw [e]
      exact c_M_leaveJ hS (h := 4) hR2 ht h2 (Or.inr rfl)
