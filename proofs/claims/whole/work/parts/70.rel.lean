/-! the model's cells against the state -/
def mRu (σ : zS) (M : mM) (t : Nat) : Prop := M 201 t = zth σ 2 t ∧ M 202 t = zth σ 3 t ∧ M 203 t = znum (zwh σ t) ∧ M 205 t = zth σ 7 t ∧ M 211 t = (if zth σ 2 t = 1 ∧ zth σ 8 t = 2 then 1 else 0) ∧ (zth σ 2 t = 1 → M 206 t = if zth σ 8 t = 2 then 0 else zth σ 8 t) ∧ (zth σ 2 t = 1 → ¬ zth σ 8 t = 2 → M 207 t = zth σ 9 t) ∧ (¬ zth σ 2 t = 0 → zth σ 8 t = 2 → M 208 t = zth σ 10 t) ∧ (zth σ 2 t = 1 → zth σ 8 t = 2 → M 209 t = zth σ 11 t)
def mRt (x : Bool) (σ : zS) (M : mM) (t : Nat) : Prop := M 204 t = zth σ 5 t ∧ M 210 t = zth σ 6 t ∧ (x = false → mRu σ M t)
def zamtC (c : Nat) (σ : zS) (o : Nat) : Int32 := match c with
  | 0 => zpl σ 6 o
  | 1 => zpl σ 6 o
  | 2 => zpl σ 3 o
  | 3 => zpl σ 3 o
  | 4 => 0
  | _ => nI (zqu σ o).length
def zamt (σ : zS) (o : Nat) : Int32 := zamtC (zkd σ o) σ o
def zcr (σ : zS) (c o : Nat) : List Nat := if zkd σ o = 0 then zrw σ (c + 1) o else []
def mRp (σ : zS) (M : mM) (o : Nat) : Prop := M 212 o = nI (zkd σ o) ∧ M 213 o = nI (zcp σ o) ∧ M 214 o = zamt σ o ∧ M 215 o = znum (zho σ o) ∧ M 216 o = nI (zrw σ 0 o).length ∧ M 223 o = (if zkd σ o = 4 then zpl σ 4 o else 0) ∧ (zrw σ 0 o).length ≤ 6 ∧ mL M 217 (o * 6) (zrw σ 0 o) ∧
  (∀ c, c < 2 → M 218 (o * 2 + c) = nI (zcr σ c o).length ∧ (zcr σ c o).length ≤ 6 ∧ mL M 219 ((o * 2 + c) * 6) (zcr σ c o)) ∧ (∀ u, u < 6 → M 220 (o * 6 + u) = (if zkd σ o = 1 then zrd σ o u else 0)) ∧
  (zkd σ o = 5 → (zqu σ o).length ≤ 3 ∧ ∀ j (h : j < (zqu σ o).length), M 221 (o * 3 + j) = (zqu σ o)[j])
def mRz (M : mM) (o : Nat) : Prop := M 216 o = 0 ∧ (∀ c, c < 2 → M 218 (o * 2 + c) = 0) ∧ (∀ u, u < 6 → M 220 (o * 6 + u) = 0) ∧ M 223 o = 0
def mRT (X : Nat → Bool) (σ : zS) (M : mM) : Prop := ∀ t, t < 6 → mRt (X t) σ M t
def mRP (σ : zS) (M : mM) : Prop := (∀ o, o < zn σ → mRp σ M o) ∧ (∀ o, zn σ ≤ o → o < 6 → mRz M o)
def mRG (σ : zS) (M : mM) : Prop := (∀ h, h < 5 → M 222 h = zsum (fun t => zen σ t h) 6) ∧ M 200 23 = nI (zn σ) ∧ M 200 24 = ztk σ
def mR (X : Nat → Bool) (σ : zS) (M : mM) : Prop := mRT X σ M ∧ mRP σ M ∧ mRG σ M
/-- the cells of a place are the same -/
def mSm (M M' : mM) (o : Nat) : Prop := M' 212 o = M 212 o ∧ M' 213 o = M 213 o ∧ M' 214 o = M 214 o ∧ M' 215 o = M 215 o ∧ M' 216 o = M 216 o ∧ M' 223 o = M 223 o ∧ (∀ j, j < 6 → M' 217 (o * 6 + j) = M 217 (o * 6 + j)) ∧ (∀ c, c < 2 → M' 218 (o * 2 + c) = M 218 (o * 2 + c)) ∧ (∀ c j, c < 2 → j < 6 → M' 219 ((o * 2 + c) * 6 + j) = M 219 ((o * 2 + c) * 6 + j)) ∧ (∀ j, j < 6 → M' 220 (o * 6 + j) = M 220 (o * 6 + j)) ∧ (∀ j, j < 3 → M' 221 (o * 3 + j) = M 221 (o * 3 + j))
theorem mRt_oth {x : Bool} {σ σ' : zS} {M M' : mM} {u : Nat} (h : mRt x σ M u) (h1 : ∀ f, zth σ' f u = zth σ f u) (h2 : zwh σ' u = zwh σ u) (h3 : ∀ K, 201 ≤ K → K ≤ 211 → M' K u = M K u) : mRt x σ' M' u := by
  unfold mRt mRu at h ⊢
  simp only [h1, h2, h3 201 (by decide) (by decide), h3 202 (by decide) (by decide), h3 203 (by decide) (by decide), h3 204 (by decide) (by decide), h3 205 (by decide) (by decide), h3 206 (by decide) (by decide), h3 207 (by decide) (by decide), h3 208 (by decide) (by decide), h3 209 (by decide) (by decide), h3 210 (by decide) (by decide), h3 211 (by decide) (by decide)]
  exact h
theorem mRT_same {X : Nat → Bool} {σ σ' : zS} {M M' : mM} (h : mRT X σ M) (h1 : zth σ' = zth σ) (h2 : zwh σ' = zwh σ) (h3 : ∀ K, 201 ≤ K → K ≤ 211 → M' K = M K) : mRT X σ' M' := fun t ht => mRt_oth (h t ht) (fun f => by rw [h1]) (by rw [h2]) (fun K a b => by rw [h3 K a b])
theorem mL_same {M M' : mM} {K b : Nat} {l : List Nat} (h : mL M K b l) (hl : l.length ≤ 6) (h2 : ∀ j, j < 6 → M' K (b + j) = M K (b + j)) : mL M' K b l := fun j hj => (h2 j (by omega)).trans (h j hj)
theorem mRp_same {σ σ' : zS} {M M' : mM} {o : Nat} (h : mRp σ M o) (hs : zSp σ σ' o) (hm : mSm M M' o) : mRp σ' M' o := by
  obtain ⟨s1, s2, s3, s4, s5, s6, s7⟩ := hs
  obtain ⟨m1, m2, m3, m4, m5, m6, m7, m8, m9, m10, m11⟩ := hm
  obtain ⟨h1, h2, h3, h4, h5, h6, h7, h8, h9, h10, h11⟩ := h
  have ea : zamt σ' o = zamt σ o := by simp only [zamt, zamtC, s1, s5, s7]
  have ec : ∀ c, zcr σ' c o = zcr σ c o := fun c => by simp only [zcr, s1, s3]
  refine ⟨by rw [m1, s1, h1], by rw [m2, s2, h2], by rw [m3, ea, h3], by rw [m4, s4, h4], by rw [m5, s3, h5], by rw [m6, s1, s5, h6], by rw [s3]; exact h7, by rw [s3]; exact mL_same h8 h7 m7, fun c hc => ?_, fun u hu => by rw [m10 u hu, s1, s6, h10 u hu], fun hk => ?_⟩
  · rw [ec]
    obtain ⟨a1, a2, a3⟩ := h9 c hc
    exact ⟨by rw [m8 c hc, a1], a2, mL_same a3 a2 (fun j hj => m9 c j hc hj)⟩
  · rw [s1] at hk
    obtain ⟨a1, a2⟩ := h11 hk
    simp only [s7]
    exact ⟨a1, fun j hj => by rw [m11 j (by omega), a2 j hj]⟩
theorem mRz_same {M M' : mM} {o : Nat} (h : mRz M o) (hm : mSm M M' o) : mRz M' o := by
  obtain ⟨m1, m2, m3, m4, m5, m6, m7, m8, m9, m10, m11⟩ := hm
  exact ⟨m5.trans h.1, fun c hc => (m8 c hc).trans (h.2.1 c hc), fun u hu => (m10 u hu).trans (h.2.2.1 u hu), m6.trans h.2.2.2⟩
theorem mSm_all {M M' : mM} (h : ∀ K, 212 ≤ K → K ≤ 223 → ¬ K = 222 → M' K = M K) (o : Nat) : mSm M M' o := by
  unfold mSm
  rw [h 212 (by decide) (by decide) (by decide), h 213 (by decide) (by decide) (by decide), h 214 (by decide) (by decide) (by decide), h 215 (by decide) (by decide) (by decide), h 216 (by decide) (by decide) (by decide), h 217 (by decide) (by decide) (by decide), h 218 (by decide) (by decide) (by decide), h 219 (by decide) (by decide) (by decide), h 220 (by decide) (by decide) (by decide), h 221 (by decide) (by decide) (by decide), h 223 (by decide) (by decide) (by decide)]
  exact ⟨rfl, rfl, rfl, rfl, rfl, rfl, fun _ _ => rfl, fun _ _ => rfl, fun _ _ _ _ => rfl, fun _ _ => rfl, fun _ _ => rfl⟩
/-- one place may differ -/
theorem mRP_one {σ σ' : zS} {M M' : mM} {o : Nat} (h : mRP σ M) (hn : zn σ' = zn σ) (ho : o < zn σ) (hs : ∀ o', ¬ o' = o → zSp σ σ' o') (hm : ∀ o', ¬ o' = o → mSm M M' o') (h1 : mRp σ' M' o) : mRP σ' M' := by
  refine ⟨fun o' ho' => ?_, fun o' ho' h6 => ?_⟩
  · by_cases e : o' = o
    · rw [e]; exact h1
    · exact mRp_same (h.1 o' (by omega)) (hs o' e) (hm o' e)
  · rw [hn] at ho'
    exact mRz_same (h.2 o' ho' h6) (hm o' (by omega))
theorem mRP_same {σ σ' : zS} {M M' : mM} (h : mRP σ M) (hn : zn σ' = zn σ) (hs : ∀ o', zSp σ σ' o') (hm : ∀ o', mSm M M' o') : mRP σ' M' := by
  refine ⟨fun o' ho' => ?_, fun o' ho' h6 => ?_⟩
  · exact mRp_same (h.1 o' (by omega)) (hs o') (hm o')
  · rw [hn] at ho'
    exact mRz_same (h.2 o' ho' h6) (hm o')
theorem mRG_same {σ σ' : zS} {M M' : mM} (h : mRG σ M) (h1 : zen σ' = zen σ) (h2 : zn σ' = zn σ) (h3 : ztk σ' = ztk σ) (h4 : ∀ j, M' 222 j = M 222 j) (h5 : M' 200 23 = M 200 23) (h6 : M' 200 24 = M 200 24) : mRG σ' M' := by
  refine ⟨fun q hq => ?_, ?_, ?_⟩
  · rw [h4, h1]; exact h.1 q hq
  · rw [h5, h2]; exact h.2.1
  · rw [h6, h3]; exact h.2.2
theorem mR_200 {X : Nat → Bool} {σ : zS} {M : mM} {f : Nat} {x : Int32} (h : mR X σ M) (hf : 24 < f) : mR X σ (yu M 200 f x) := by
  refine ⟨mRT_same h.1 rfl rfl (fun K a b => ?_), mRP_same h.2.1 rfl (fun o => zSp.rf σ o) (mSm_all (fun K a b c => ?_)), mRG_same h.2.2 rfl rfl rfl (fun j => ?_) ?_ ?_⟩
  · funext j; (repeat rw [yu_ne _ _ (by omega)])
  · funext j; (repeat rw [yu_ne _ _ (by omega)])
  all_goals (repeat rw [yu_ne _ _ (by omega)])
/-- an act ends -/
theorem mR_end {X : Nat → Bool} {σ : zS} {M : mM} {t h : Nat} (hr : mR X σ M) (ht : t < 6) : mR (xr X t) (zend σ t h) (mEnd M t h) := by
  have e3 : mEnd M t h = yu (yu (yu (yu (yu (yu M 201 t 0) 202 t (nI h)) 203 t (-1)) 205 t (-1)) 211 t 0) 222 h (M 222 h + 1) := rfl
  rw [e3]
  refine ⟨fun u hu => ?_, mRP_same hr.2.1 rfl (fun o => ⟨rfl, rfl, fun _ => rfl, rfl, fun _ => rfl, fun _ => rfl, rfl⟩) (mSm_all (fun K a b c => ?_)), ?_⟩
  · by_cases e : u = t
    · subst e
      obtain ⟨a1, a2, -⟩ := hr.1 u hu
      refine ⟨?_, ?_, fun _ => ?_⟩
      · (repeat rw [yu_ne _ _ (by omega)])
        rw [a1]
        simp [zend, gs_zth_zsth, gs_zpl_zsth, gs_zwh_zsth, gs_zho_zsth, gs_zrw_zsth, gs_zen_zsth, gs_zrd_zsth, gs_zqu_zsth, gs_zn_zsth, gs_zkd_zsth, gs_zcp_zsth, gs_ztk_zsth, gs_zth_zspl, gs_zpl_zspl, gs_zwh_zspl, gs_zho_zspl, gs_zrw_zspl, gs_zen_zspl, gs_zrd_zspl, gs_zqu_zspl, gs_zn_zspl, gs_zkd_zspl, gs_zcp_zspl, gs_ztk_zspl, gs_zth_zswh, gs_zpl_zswh, gs_zwh_zswh, gs_zho_zswh, gs_zrw_zswh, gs_zen_zswh, gs_zrd_zswh, gs_zqu_zswh, gs_zn_zswh, gs_zkd_zswh, gs_zcp_zswh, gs_ztk_zswh, gs_zth_zsho, gs_zpl_zsho, gs_zwh_zsho, gs_zho_zsho, gs_zrw_zsho, gs_zen_zsho, gs_zrd_zsho, gs_zqu_zsho, gs_zn_zsho, gs_zkd_zsho, gs_zcp_zsho, gs_ztk_zsho, gs_zth_zsrw, gs_zpl_zsrw, gs_zwh_zsrw, gs_zho_zsrw, gs_zrw_zsrw, gs_zen_zsrw, gs_zrd_zsrw, gs_zqu_zsrw, gs_zn_zsrw, gs_zkd_zsrw, gs_zcp_zsrw, gs_ztk_zsrw, gs_zth_zsen, gs_zpl_zsen, gs_zwh_zsen, gs_zho_zsen, gs_zrw_zsen, gs_zen_zsen, gs_zrd_zsen, gs_zqu_zsen, gs_zn_zsen, gs_zkd_zsen, gs_zcp_zsen, gs_ztk_zsen, gs_zth_zsrd, gs_zpl_zsrd, gs_zwh_zsrd, gs_zho_zsrd, gs_zrw_zsrd, gs_zen_zsrd, gs_zrd_zsrd, gs_zqu_zsrd, gs_zn_zsrd, gs_zkd_zsrd, gs_zcp_zsrd, gs_ztk_zsrd, gs_zth_zsqu, gs_zpl_zsqu, gs_zwh_zsqu, gs_zho_zsqu, gs_zrw_zsqu, gs_zen_zsqu, gs_zrd_zsqu, gs_zqu_zsqu, gs_zn_zsqu, gs_zkd_zsqu, gs_zcp_zsqu, gs_ztk_zsqu, gs_zth_zstk, gs_zpl_zstk, gs_zwh_zstk, gs_zho_zstk, gs_zrw_zstk, gs_zen_zstk, gs_zrd_zstk, gs_zqu_zstk, gs_zn_zstk, gs_zkd_zstk, gs_zcp_zstk, gs_ztk_zstk]
      · (repeat rw [yu_ne _ _ (by omega)])
        rw [a2]
        simp [zend, gs_zth_zsth, gs_zpl_zsth, gs_zwh_zsth, gs_zho_zsth, gs_zrw_zsth, gs_zen_zsth, gs_zrd_zsth, gs_zqu_zsth, gs_zn_zsth, gs_zkd_zsth, gs_zcp_zsth, gs_ztk_zsth, gs_zth_zspl, gs_zpl_zspl, gs_zwh_zspl, gs_zho_zspl, gs_zrw_zspl, gs_zen_zspl, gs_zrd_zspl, gs_zqu_zspl, gs_zn_zspl, gs_zkd_zspl, gs_zcp_zspl, gs_ztk_zspl, gs_zth_zswh, gs_zpl_zswh, gs_zwh_zswh, gs_zho_zswh, gs_zrw_zswh, gs_zen_zswh, gs_zrd_zswh, gs_zqu_zswh, gs_zn_zswh, gs_zkd_zswh, gs_zcp_zswh, gs_ztk_zswh, gs_zth_zsho, gs_zpl_zsho, gs_zwh_zsho, gs_zho_zsho, gs_zrw_zsho, gs_zen_zsho, gs_zrd_zsho, gs_zqu_zsho, gs_zn_zsho, gs_zkd_zsho, gs_zcp_zsho, gs_ztk_zsho, gs_zth_zsrw, gs_zpl_zsrw, gs_zwh_zsrw, gs_zho_zsrw, gs_zrw_zsrw, gs_zen_zsrw, gs_zrd_zsrw, gs_zqu_zsrw, gs_zn_zsrw, gs_zkd_zsrw, gs_zcp_zsrw, gs_ztk_zsrw, gs_zth_zsen, gs_zpl_zsen, gs_zwh_zsen, gs_zho_zsen, gs_zrw_zsen, gs_zen_zsen, gs_zrd_zsen, gs_zqu_zsen, gs_zn_zsen, gs_zkd_zsen, gs_zcp_zsen, gs_ztk_zsen, gs_zth_zsrd, gs_zpl_zsrd, gs_zwh_zsrd, gs_zho_zsrd, gs_zrw_zsrd, gs_zen_zsrd, gs_zrd_zsrd, gs_zqu_zsrd, gs_zn_zsrd, gs_zkd_zsrd, gs_zcp_zsrd, gs_ztk_zsrd, gs_zth_zsqu, gs_zpl_zsqu, gs_zwh_zsqu, gs_zho_zsqu, gs_zrw_zsqu, gs_zen_zsqu, gs_zrd_zsqu, gs_zqu_zsqu, gs_zn_zsqu, gs_zkd_zsqu, gs_zcp_zsqu, gs_ztk_zsqu, gs_zth_zstk, gs_zpl_zstk, gs_zwh_zstk, gs_zho_zstk, gs_zrw_zstk, gs_zen_zstk, gs_zrd_zstk, gs_zqu_zstk, gs_zn_zstk, gs_zkd_zstk, gs_zcp_zstk, gs_ztk_zstk]
      · unfold mRu
        simp [zend, yu, znum, gs_zth_zsth, gs_zpl_zsth, gs_zwh_zsth, gs_zho_zsth, gs_zrw_zsth, gs_zen_zsth, gs_zrd_zsth, gs_zqu_zsth, gs_zn_zsth, gs_zkd_zsth, gs_zcp_zsth, gs_ztk_zsth, gs_zth_zspl, gs_zpl_zspl, gs_zwh_zspl, gs_zho_zspl, gs_zrw_zspl, gs_zen_zspl, gs_zrd_zspl, gs_zqu_zspl, gs_zn_zspl, gs_zkd_zspl, gs_zcp_zspl, gs_ztk_zspl, gs_zth_zswh, gs_zpl_zswh, gs_zwh_zswh, gs_zho_zswh, gs_zrw_zswh, gs_zen_zswh, gs_zrd_zswh, gs_zqu_zswh, gs_zn_zswh, gs_zkd_zswh, gs_zcp_zswh, gs_ztk_zswh, gs_zth_zsho, gs_zpl_zsho, gs_zwh_zsho, gs_zho_zsho, gs_zrw_zsho, gs_zen_zsho, gs_zrd_zsho, gs_zqu_zsho, gs_zn_zsho, gs_zkd_zsho, gs_zcp_zsho, gs_ztk_zsho, gs_zth_zsrw, gs_zpl_zsrw, gs_zwh_zsrw, gs_zho_zsrw, gs_zrw_zsrw, gs_zen_zsrw, gs_zrd_zsrw, gs_zqu_zsrw, gs_zn_zsrw, gs_zkd_zsrw, gs_zcp_zsrw, gs_ztk_zsrw, gs_zth_zsen, gs_zpl_zsen, gs_zwh_zsen, gs_zho_zsen, gs_zrw_zsen, gs_zen_zsen, gs_zrd_zsen, gs_zqu_zsen, gs_zn_zsen, gs_zkd_zsen, gs_zcp_zsen, gs_ztk_zsen, gs_zth_zsrd, gs_zpl_zsrd, gs_zwh_zsrd, gs_zho_zsrd, gs_zrw_zsrd, gs_zen_zsrd, gs_zrd_zsrd, gs_zqu_zsrd, gs_zn_zsrd, gs_zkd_zsrd, gs_zcp_zsrd, gs_ztk_zsrd, gs_zth_zsqu, gs_zpl_zsqu, gs_zwh_zsqu, gs_zho_zsqu, gs_zrw_zsqu, gs_zen_zsqu, gs_zrd_zsqu, gs_zqu_zsqu, gs_zn_zsqu, gs_zkd_zsqu, gs_zcp_zsqu, gs_ztk_zsqu, gs_zth_zstk, gs_zpl_zstk, gs_zwh_zstk, gs_zho_zstk, gs_zrw_zstk, gs_zen_zstk, gs_zrd_zstk, gs_zqu_zstk, gs_zn_zstk, gs_zkd_zstk, gs_zcp_zstk, gs_ztk_zstk]
    · have hx : xr X t u = X u := by simp [e]
      rw [hx]
      refine mRt_oth (hr.1 u hu) (fun f => ?_) ?_ (fun K a b => ?_)
      · simp [zend, e, gs_zth_zsth, gs_zpl_zsth, gs_zwh_zsth, gs_zho_zsth, gs_zrw_zsth, gs_zen_zsth, gs_zrd_zsth, gs_zqu_zsth, gs_zn_zsth, gs_zkd_zsth, gs_zcp_zsth, gs_ztk_zsth, gs_zth_zspl, gs_zpl_zspl, gs_zwh_zspl, gs_zho_zspl, gs_zrw_zspl, gs_zen_zspl, gs_zrd_zspl, gs_zqu_zspl, gs_zn_zspl, gs_zkd_zspl, gs_zcp_zspl, gs_ztk_zspl, gs_zth_zswh, gs_zpl_zswh, gs_zwh_zswh, gs_zho_zswh, gs_zrw_zswh, gs_zen_zswh, gs_zrd_zswh, gs_zqu_zswh, gs_zn_zswh, gs_zkd_zswh, gs_zcp_zswh, gs_ztk_zswh, gs_zth_zsho, gs_zpl_zsho, gs_zwh_zsho, gs_zho_zsho, gs_zrw_zsho, gs_zen_zsho, gs_zrd_zsho, gs_zqu_zsho, gs_zn_zsho, gs_zkd_zsho, gs_zcp_zsho, gs_ztk_zsho, gs_zth_zsrw, gs_zpl_zsrw, gs_zwh_zsrw, gs_zho_zsrw, gs_zrw_zsrw, gs_zen_zsrw, gs_zrd_zsrw, gs_zqu_zsrw, gs_zn_zsrw, gs_zkd_zsrw, gs_zcp_zsrw, gs_ztk_zsrw, gs_zth_zsen, gs_zpl_zsen, gs_zwh_zsen, gs_zho_zsen, gs_zrw_zsen, gs_zen_zsen, gs_zrd_zsen, gs_zqu_zsen, gs_zn_zsen, gs_zkd_zsen, gs_zcp_zsen, gs_ztk_zsen, gs_zth_zsrd, gs_zpl_zsrd, gs_zwh_zsrd, gs_zho_zsrd, gs_zrw_zsrd, gs_zen_zsrd, gs_zrd_zsrd, gs_zqu_zsrd, gs_zn_zsrd, gs_zkd_zsrd, gs_zcp_zsrd, gs_ztk_zsrd, gs_zth_zsqu, gs_zpl_zsqu, gs_zwh_zsqu, gs_zho_zsqu, gs_zrw_zsqu, gs_zen_zsqu, gs_zrd_zsqu, gs_zqu_zsqu, gs_zn_zsqu, gs_zkd_zsqu, gs_zcp_zsqu, gs_ztk_zsqu, gs_zth_zstk, gs_zpl_zstk, gs_zwh_zstk, gs_zho_zstk, gs_zrw_zstk, gs_zen_zstk, gs_zrd_zstk, gs_zqu_zstk, gs_zn_zstk, gs_zkd_zstk, gs_zcp_zstk, gs_ztk_zstk]
      · simp [zend, e, gs_zth_zsth, gs_zpl_zsth, gs_zwh_zsth, gs_zho_zsth, gs_zrw_zsth, gs_zen_zsth, gs_zrd_zsth, gs_zqu_zsth, gs_zn_zsth, gs_zkd_zsth, gs_zcp_zsth, gs_ztk_zsth, gs_zth_zspl, gs_zpl_zspl, gs_zwh_zspl, gs_zho_zspl, gs_zrw_zspl, gs_zen_zspl, gs_zrd_zspl, gs_zqu_zspl, gs_zn_zspl, gs_zkd_zspl, gs_zcp_zspl, gs_ztk_zspl, gs_zth_zswh, gs_zpl_zswh, gs_zwh_zswh, gs_zho_zswh, gs_zrw_zswh, gs_zen_zswh, gs_zrd_zswh, gs_zqu_zswh, gs_zn_zswh, gs_zkd_zswh, gs_zcp_zswh, gs_ztk_zswh, gs_zth_zsho, gs_zpl_zsho, gs_zwh_zsho, gs_zho_zsho, gs_zrw_zsho, gs_zen_zsho, gs_zrd_zsho, gs_zqu_zsho, gs_zn_zsho, gs_zkd_zsho, gs_zcp_zsho, gs_ztk_zsho, gs_zth_zsrw, gs_zpl_zsrw, gs_zwh_zsrw, gs_zho_zsrw, gs_zrw_zsrw, gs_zen_zsrw, gs_zrd_zsrw, gs_zqu_zsrw, gs_zn_zsrw, gs_zkd_zsrw, gs_zcp_zsrw, gs_ztk_zsrw, gs_zth_zsen, gs_zpl_zsen, gs_zwh_zsen, gs_zho_zsen, gs_zrw_zsen, gs_zen_zsen, gs_zrd_zsen, gs_zqu_zsen, gs_zn_zsen, gs_zkd_zsen, gs_zcp_zsen, gs_ztk_zsen, gs_zth_zsrd, gs_zpl_zsrd, gs_zwh_zsrd, gs_zho_zsrd, gs_zrw_zsrd, gs_zen_zsrd, gs_zrd_zsrd, gs_zqu_zsrd, gs_zn_zsrd, gs_zkd_zsrd, gs_zcp_zsrd, gs_ztk_zsrd, gs_zth_zsqu, gs_zpl_zsqu, gs_zwh_zsqu, gs_zho_zsqu, gs_zrw_zsqu, gs_zen_zsqu, gs_zrd_zsqu, gs_zqu_zsqu, gs_zn_zsqu, gs_zkd_zsqu, gs_zcp_zsqu, gs_ztk_zsqu, gs_zth_zstk, gs_zpl_zstk, gs_zwh_zstk, gs_zho_zstk, gs_zrw_zstk, gs_zen_zstk, gs_zrd_zstk, gs_zqu_zstk, gs_zn_zstk, gs_zkd_zstk, gs_zcp_zstk, gs_ztk_zstk]
      · (repeat rw [yu_ne _ _ (by omega)])
  · funext j
    (repeat rw [yu_ne _ _ (by omega)])
  · refine ⟨fun q hq => ?_, ?_, ?_⟩
    · by_cases e : q = h
      · subst e
        rw [yu_same, hr.2.2.1 q hq]
        · rw [← zsum_upd (f := fun u => zen σ u q) 6 ht]
          refine zsum_ext 6 (fun u hu => ?_)
          by_cases e : u = t
          · subst e; simp [zend, gs_zth_zsth, gs_zpl_zsth, gs_zwh_zsth, gs_zho_zsth, gs_zrw_zsth, gs_zen_zsth, gs_zrd_zsth, gs_zqu_zsth, gs_zn_zsth, gs_zkd_zsth, gs_zcp_zsth, gs_ztk_zsth, gs_zth_zspl, gs_zpl_zspl, gs_zwh_zspl, gs_zho_zspl, gs_zrw_zspl, gs_zen_zspl, gs_zrd_zspl, gs_zqu_zspl, gs_zn_zspl, gs_zkd_zspl, gs_zcp_zspl, gs_ztk_zspl, gs_zth_zswh, gs_zpl_zswh, gs_zwh_zswh, gs_zho_zswh, gs_zrw_zswh, gs_zen_zswh, gs_zrd_zswh, gs_zqu_zswh, gs_zn_zswh, gs_zkd_zswh, gs_zcp_zswh, gs_ztk_zswh, gs_zth_zsho, gs_zpl_zsho, gs_zwh_zsho, gs_zho_zsho, gs_zrw_zsho, gs_zen_zsho, gs_zrd_zsho, gs_zqu_zsho, gs_zn_zsho, gs_zkd_zsho, gs_zcp_zsho, gs_ztk_zsho, gs_zth_zsrw, gs_zpl_zsrw, gs_zwh_zsrw, gs_zho_zsrw, gs_zrw_zsrw, gs_zen_zsrw, gs_zrd_zsrw, gs_zqu_zsrw, gs_zn_zsrw, gs_zkd_zsrw, gs_zcp_zsrw, gs_ztk_zsrw, gs_zth_zsen, gs_zpl_zsen, gs_zwh_zsen, gs_zho_zsen, gs_zrw_zsen, gs_zen_zsen, gs_zrd_zsen, gs_zqu_zsen, gs_zn_zsen, gs_zkd_zsen, gs_zcp_zsen, gs_ztk_zsen, gs_zth_zsrd, gs_zpl_zsrd, gs_zwh_zsrd, gs_zho_zsrd, gs_zrw_zsrd, gs_zen_zsrd, gs_zrd_zsrd, gs_zqu_zsrd, gs_zn_zsrd, gs_zkd_zsrd, gs_zcp_zsrd, gs_ztk_zsrd, gs_zth_zsqu, gs_zpl_zsqu, gs_zwh_zsqu, gs_zho_zsqu, gs_zrw_zsqu, gs_zen_zsqu, gs_zrd_zsqu, gs_zqu_zsqu, gs_zn_zsqu, gs_zkd_zsqu, gs_zcp_zsqu, gs_ztk_zsqu, gs_zth_zstk, gs_zpl_zstk, gs_zwh_zstk, gs_zho_zstk, gs_zrw_zstk, gs_zen_zstk, gs_zrd_zstk, gs_zqu_zstk, gs_zn_zstk, gs_zkd_zstk, gs_zcp_zstk, gs_ztk_zstk]
          · simp [zend, e, gs_zth_zsth, gs_zpl_zsth, gs_zwh_zsth, gs_zho_zsth, gs_zrw_zsth, gs_zen_zsth, gs_zrd_zsth, gs_zqu_zsth, gs_zn_zsth, gs_zkd_zsth, gs_zcp_zsth, gs_ztk_zsth, gs_zth_zspl, gs_zpl_zspl, gs_zwh_zspl, gs_zho_zspl, gs_zrw_zspl, gs_zen_zspl, gs_zrd_zspl, gs_zqu_zspl, gs_zn_zspl, gs_zkd_zspl, gs_zcp_zspl, gs_ztk_zspl, gs_zth_zswh, gs_zpl_zswh, gs_zwh_zswh, gs_zho_zswh, gs_zrw_zswh, gs_zen_zswh, gs_zrd_zswh, gs_zqu_zswh, gs_zn_zswh, gs_zkd_zswh, gs_zcp_zswh, gs_ztk_zswh, gs_zth_zsho, gs_zpl_zsho, gs_zwh_zsho, gs_zho_zsho, gs_zrw_zsho, gs_zen_zsho, gs_zrd_zsho, gs_zqu_zsho, gs_zn_zsho, gs_zkd_zsho, gs_zcp_zsho, gs_ztk_zsho, gs_zth_zsrw, gs_zpl_zsrw, gs_zwh_zsrw, gs_zho_zsrw, gs_zrw_zsrw, gs_zen_zsrw, gs_zrd_zsrw, gs_zqu_zsrw, gs_zn_zsrw, gs_zkd_zsrw, gs_zcp_zsrw, gs_ztk_zsrw, gs_zth_zsen, gs_zpl_zsen, gs_zwh_zsen, gs_zho_zsen, gs_zrw_zsen, gs_zen_zsen, gs_zrd_zsen, gs_zqu_zsen, gs_zn_zsen, gs_zkd_zsen, gs_zcp_zsen, gs_ztk_zsen, gs_zth_zsrd, gs_zpl_zsrd, gs_zwh_zsrd, gs_zho_zsrd, gs_zrw_zsrd, gs_zen_zsrd, gs_zrd_zsrd, gs_zqu_zsrd, gs_zn_zsrd, gs_zkd_zsrd, gs_zcp_zsrd, gs_ztk_zsrd, gs_zth_zsqu, gs_zpl_zsqu, gs_zwh_zsqu, gs_zho_zsqu, gs_zrw_zsqu, gs_zen_zsqu, gs_zrd_zsqu, gs_zqu_zsqu, gs_zn_zsqu, gs_zkd_zsqu, gs_zcp_zsqu, gs_ztk_zsqu, gs_zth_zstk, gs_zpl_zstk, gs_zwh_zstk, gs_zho_zstk, gs_zrw_zstk, gs_zen_zstk, gs_zrd_zstk, gs_zqu_zstk, gs_zn_zstk, gs_zkd_zstk, gs_zcp_zstk, gs_ztk_zstk]
      · (repeat rw [yu_ne _ _ (by omega)])
        rw [hr.2.2.1 q hq]
        refine zsum_ext 6 (fun u hu => ?_)
        simp [zend, e, gs_zth_zsth, gs_zpl_zsth, gs_zwh_zsth, gs_zho_zsth, gs_zrw_zsth, gs_zen_zsth, gs_zrd_zsth, gs_zqu_zsth, gs_zn_zsth, gs_zkd_zsth, gs_zcp_zsth, gs_ztk_zsth, gs_zth_zspl, gs_zpl_zspl, gs_zwh_zspl, gs_zho_zspl, gs_zrw_zspl, gs_zen_zspl, gs_zrd_zspl, gs_zqu_zspl, gs_zn_zspl, gs_zkd_zspl, gs_zcp_zspl, gs_ztk_zspl, gs_zth_zswh, gs_zpl_zswh, gs_zwh_zswh, gs_zho_zswh, gs_zrw_zswh, gs_zen_zswh, gs_zrd_zswh, gs_zqu_zswh, gs_zn_zswh, gs_zkd_zswh, gs_zcp_zswh, gs_ztk_zswh, gs_zth_zsho, gs_zpl_zsho, gs_zwh_zsho, gs_zho_zsho, gs_zrw_zsho, gs_zen_zsho, gs_zrd_zsho, gs_zqu_zsho, gs_zn_zsho, gs_zkd_zsho, gs_zcp_zsho, gs_ztk_zsho, gs_zth_zsrw, gs_zpl_zsrw, gs_zwh_zsrw, gs_zho_zsrw, gs_zrw_zsrw, gs_zen_zsrw, gs_zrd_zsrw, gs_zqu_zsrw, gs_zn_zsrw, gs_zkd_zsrw, gs_zcp_zsrw, gs_ztk_zsrw, gs_zth_zsen, gs_zpl_zsen, gs_zwh_zsen, gs_zho_zsen, gs_zrw_zsen, gs_zen_zsen, gs_zrd_zsen, gs_zqu_zsen, gs_zn_zsen, gs_zkd_zsen, gs_zcp_zsen, gs_ztk_zsen, gs_zth_zsrd, gs_zpl_zsrd, gs_zwh_zsrd, gs_zho_zsrd, gs_zrw_zsrd, gs_zen_zsrd, gs_zrd_zsrd, gs_zqu_zsrd, gs_zn_zsrd, gs_zkd_zsrd, gs_zcp_zsrd, gs_ztk_zsrd, gs_zth_zsqu, gs_zpl_zsqu, gs_zwh_zsqu, gs_zho_zsqu, gs_zrw_zsqu, gs_zen_zsqu, gs_zrd_zsqu, gs_zqu_zsqu, gs_zn_zsqu, gs_zkd_zsqu, gs_zcp_zsqu, gs_ztk_zsqu, gs_zth_zstk, gs_zpl_zstk, gs_zwh_zstk, gs_zho_zstk, gs_zrw_zstk, gs_zen_zstk, gs_zrd_zstk, gs_zqu_zstk, gs_zn_zstk, gs_zkd_zstk, gs_zcp_zstk, gs_ztk_zstk]
    · (repeat rw [yu_ne _ _ (by omega)])
      exact hr.2.2.2.1
    · (repeat rw [yu_ne _ _ (by omega)])
      exact hr.2.2.2.2
