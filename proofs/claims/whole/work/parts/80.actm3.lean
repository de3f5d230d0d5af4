/-! acts: the simple ones; act -/
theorem mCallL_le {o c : Nat} : ∀ (lc : List Nat) (k nr : Nat) (M : mM), lc.length ≤ k → mCallL o c k lc nr M = mCallL o c lc.length lc nr M
  | [], 0, nr, M, _ => rfl
  | [], k + 1, nr, M, _ => rfl
  | u :: lc, 0, nr, M, h => absurd h (by simp)
  | u :: lc, k + 1, nr, M, h => by
    show mCallL o c k lc (nr + 1) _ = mCallL o c lc.length lc (nr + 1) _
    exact mCallL_le lc k _ _ (by simp at h; omega)
theorem mCallL_26 {o c K j : Nat} (hK : mOut K j) : ∀ (k : Nat) (lc : List Nat) (nr : Nat) (M : mM), mCallL o c k lc nr M K j = M K j
  | 0, lc, nr, M => by cases lc <;> rfl
  | k + 1, [], nr, M => rfl
  | k + 1, u :: lc, nr, M => by
    show mCallL o c k lc (nr + 1) _ K j = _
    rw [mCallL_26 hK k lc]
    unfold mOut at hK
    rw [mCalled_keep (by unfold mCo; omega)]
    unfold mRem
    (repeat first | rw [yu_ne _ _ (by omega)] | rw [mSft_at (by omega)])
theorem mLess_keep {M : mM} {o K j : Nat} (h1 : ¬ K = 214) (h2 : ¬ K = 215) : mLess M o K j = M K j := by
  unfold mLess
  split <;> (repeat first | rw [yu_ne _ _ (by omega)] | rw [mSft_at (by omega)])
theorem zleave_th {σ : zS} {o : Nat} : zth (zleave σ o) = zth σ ∧ zwh (zleave σ o) = zwh σ ∧ zen (zleave σ o) = zen σ ∧ zn (zleave σ o) = zn σ ∧ ztk (zleave σ o) = ztk σ := by
  unfold zleave
  split <;> exact ⟨rfl, rfl, rfl, rfl, rfl⟩
theorem mR_less {X : Nat → Bool} {σ : zS} {M : mM} {o : Nat} (r1 : mR X σ M) (ho : o < zn σ) (hk : zkd σ o < 2) : mR X (zleave σ o) (mLess M o) :=
  ⟨mRT_same r1.1 zleave_th.1 zleave_th.2.1 (fun K a b => by funext j; exact mLess_keep (by omega) (by omega)), mRP_less r1.2.1 ho hk, mRG_pl r1.2.2 zleave_th.2.2.1 zleave_th.2.2.2.1 zleave_th.2.2.2.2 (by funext j; exact mLess_keep (by decide) (by decide)) (by funext j; exact mLess_keep (by decide) (by decide))⟩
theorem mEndL_d {M : mM} {o u h : Nat} {x : Int32} : mEndL (yu M 223 o x) u h = yu (mEndL M u h) 223 o x := by
  funext K j
  unfold mEndL mEnd
  by_cases e : K = 223
  · subst e
    (repeat first | rw [yu_ne _ _ (by omega)] | rw [mSft_at (by omega)])
    by_cases e2 : j = o
    · subst e2; rw [yu_same, yu_same]
    · (repeat first | rw [yu_ne _ _ (by omega)] | rw [mSft_at (by omega)])
  · rw [yu_ne (k := 223) _ _ (Or.inl e)]
    by_cases e1 : K = 200
    · subst e1; simp [yu]
    · rw [yu_ne (k := 200) _ _ (Or.inl e1), yu_ne (k := 200) _ _ (Or.inl e1)]
      rw [show (yu M 223 o x) 222 h = M 222 h from yu_ne _ _ (Or.inl (by decide))]
      exact congrFun (yu_cg (yu_cg (yu_cg (yu_cg (yu_cg (yu_cg (by funext j2; rw [yu_ne _ _ (Or.inl e)]))))))) j
theorem mEnds_d {o h : Nat} {x : Int32} : ∀ (l : List Nat) (M : mM), yu (mEnds M l h) 223 o x = mEnds (yu M 223 o x) l h
  | [], M => rfl
  | t :: r, M => by
    show yu (mEnds (mEndL M t h) r h) 223 o x = mEnds (mEndL (yu M 223 o x) t h) r h
    rw [mEndL_d, mEnds_d r]
theorem mBrk_d {M : mM} {o h : Nat} {l : List Nat} {x : Int32} : yu (mBrk M o l h) 223 o x = mBrk (yu M 223 o x) o l h := by
  unfold mBrk
  rw [← mEnds_d]
  funext K j
  by_cases e : K = 216
  · subst e
    rw [yu_ne (k := 223) _ _ (Or.inl (by decide))]
    by_cases e2 : j = o
    · subst e2; rw [yu_same, yu_same]
    · (repeat first | rw [yu_ne _ _ (by omega)] | rw [mSft_at (by omega)])
  · rw [yu_ne (k := 216) _ _ (Or.inl e)]
    exact congrFun (yu_cg (by funext j2; rw [yu_ne (k := 216) _ _ (Or.inl e)])) j

theorem c_act_S1 {G : yG} {s : Nat → Option ySh} {F : Nat → Nat → Option Nat} (hS : mSh s F) {n t o : Nat} {σ : zS} {M M0 : mM} {g p : Int32} {x6 x7 x8 : Option yV} (hR : mR0 n M0 σ M) (hn : n + 3 < 1000000) (ht : t < 6) (ho : o < zn σ) (hia : zisAct 1 g = true) (hip : zisPat p = true) (hyk : yst (1 : Int32).toNatClampNeg = nI (zkd σ o)) (h2 : zth σ 2 t = 0) (hal : zallows σ o t 1 g = true) (hk : zkd σ o = 0) : yWW G m_M_act (mQ G m_M_act s F (mAP n M0 σ o t 1 g p)) s 154 [some (yr 200), some (yi (nI t)), some (yi (nI o)), some (yi 1), some (yi g), some (yi p), x6, x7, x8] [] (mw s F M) 0 0 := by
  obtain ⟨⟨⟨hv, hb, hn2⟩, hr, hsd⟩, h26⟩ := hR
  have ho6 : o < 6 := by have := hv.2.2.2.1; omega
  obtain ⟨f1, f2, f3, f4⟩ := zIF_J hn σ t o 1 g p ⟨hv, hb, hn2⟩ ht ho hia hip hyk h2 hal
  have v1 : zNv (xa x0 t) (zbegin σ t 1 g) := zNv_begin hv h2
  have b1 : zB (n + 1) (xa x0 t) (zbegin σ t 1 g) := zB_begin hb (by omega) ht
  have r1 : mR (xa x0 t) (zbegin σ t 1 g) M := mR_beginS hr
  have hid : t ∉ zrw σ 0 o := hv.idle h2 o 0 ho (Or.inl rfl)
  have s1 : zSd (zbegin σ t 1 g) o := zSd_beg (hsd o ho) hid
  have has : zAS o (zbegin σ t 1 g) := fun o' ho' _ => zSd_beg (hsd o' ho') (hv.idle h2 o' 0 ho' (Or.inl rfl))
  have has2 := (zFr_perf (σ := (zbegin σ t 1 g)) (o := o) (t := t) (p := p)).as has
  have ho2 : o < zn (zperf (zbegin σ t 1 g) o t p) := by rw [(zFr_perf (o := o)).2.2]; exact ho
  obtain ⟨g1, g2, g3, g4, g5, g6, g7, g8, gg9, g10, g11⟩ := r1.2.1.1 o ho
  have hrow := hv.2.1 o 0 ho (Or.inl rfl)
  have href : zrefuses (zbegin σ t 1 g) o t = false := ref_no (fun z => by rw [zbeg_8] at z; exact absurd z.2 (by decide))
  have hal2 : zallowsC (zkd σ o) σ o t 1 g = true := hal
  rw [hk] at hal2
  have hon : zonce (zbegin σ t 1 g) o t = true := by
    have e1 : zpass (zbegin σ t 1 g) o t = true := by
      show zpassC (zkd σ o) (zbegin σ t 1 g) o t = true
      rw [hk]
      exact decide_eq_true ⟨(of_decide_eq_true hal2 : (1 : Int32) = 0 ∨ zho σ o = some t).resolve_left (by decide), by rw [zbeg_8]; decide⟩
    unfold zonce
    rw [e1]
    rfl
  have hpf := perf_once (p := p) href hon
  have hg : zgrant (zbegin σ t 1 g) o t = zleave (zbegin σ t 1 g) o := by
    show zgrantC (zkd σ o) (zbegin σ t 1 g) o t = _
    rw [hk]
    show zgrantK (zbegin σ t 1 g) o t = _
    unfold zgrantK
    rw [if_neg (by rw [zbeg_8]; decide), if_pos zbeg_8]
  have rg : mR (xa x0 t) (zgrant (zbegin σ t 1 g) o t) (mLess M o) := by
    rw [hg]
    exact mR_less r1 ho (by show zkd σ o < 2; omega)
  have r2 := mR_end (h := 0) rg ht
  rw [xar x0 rfl, ← hpf] at r2
  have r26 : mFx M0 (mEnd (mLess M o) t 0) := fun K j9 hK => by
    rw [mEnd_26 hK, ← h26 K j9 hK]
    unfold mOut at hK; rw [mLess_keep (by omega) (by omega)]
  refine c_M_actS1 hS ht ho6 (mCT_mono (c_M_simple1 hS ht ho6 (mPass_J (n + 1) o M0) (σ := zperf (zbegin σ t 1 g) o t p) ⟨f4, r2, has2, ho2, r26⟩) (fun r M' z => ⟨z.1, fin_pass (x := 0) f4 ho2 (by rw [hpf, zend_2]; decide) (by rw [hpf, zend_3]; rfl) z.2⟩))

theorem c_act_S8 {G : yG} {s : Nat → Option ySh} {F : Nat → Nat → Option Nat} (hS : mSh s F) {n t o : Nat} {σ : zS} {M M0 : mM} {g p : Int32} {x6 x7 x8 : Option yV} (hR : mR0 n M0 σ M) (hn : n + 3 < 1000000) (ht : t < 6) (ho : o < zn σ) (hia : zisAct 8 g = true) (hip : zisPat p = true) (hyk : yst (8 : Int32).toNatClampNeg = nI (zkd σ o)) (h2 : zth σ 2 t = 0) (hal : zallows σ o t 8 g = true) (hk : zkd σ o = 1) : yWW G m_M_act (mQ G m_M_act s F (mAP n M0 σ o t 8 g p)) s 154 [some (yr 200), some (yi (nI t)), some (yi (nI o)), some (yi 8), some (yi g), some (yi p), x6, x7, x8] [] (mw s F M) 0 0 := by
  obtain ⟨⟨⟨hv, hb, hn2⟩, hr, hsd⟩, h26⟩ := hR
  have ho6 : o < 6 := by have := hv.2.2.2.1; omega
  obtain ⟨f1, f2, f3, f4⟩ := zIF_J hn σ t o 8 g p ⟨hv, hb, hn2⟩ ht ho hia hip hyk h2 hal
  have v1 : zNv (xa x0 t) (zbegin σ t 8 g) := zNv_begin hv h2
  have b1 : zB (n + 1) (xa x0 t) (zbegin σ t 8 g) := zB_begin hb (by omega) ht
  have r1 : mR (xa x0 t) (zbegin σ t 8 g) M := mR_beginS hr
  have hid : t ∉ zrw σ 0 o := hv.idle h2 o 0 ho (Or.inl rfl)
  have s1 : zSd (zbegin σ t 8 g) o := zSd_beg (hsd o ho) hid
  have has : zAS o (zbegin σ t 8 g) := fun o' ho' _ => zSd_beg (hsd o' ho') (hv.idle h2 o' 0 ho' (Or.inl rfl))
  have has2 := (zFr_perf (σ := (zbegin σ t 8 g)) (o := o) (t := t) (p := p)).as has
  have ho2 : o < zn (zperf (zbegin σ t 8 g) o t p) := by rw [(zFr_perf (o := o)).2.2]; exact ho
  obtain ⟨g1, g2, g3, g4, g5, g6, g7, g8, gg9, g10, g11⟩ := r1.2.1.1 o ho
  have hrow := hv.2.1 o 0 ho (Or.inl rfl)
  have href : zrefuses (zbegin σ t 8 g) o t = false := ref_no (fun z => by rw [zbeg_8] at z; exact absurd z.2 (by decide))
  have hal2 : zallowsC (zkd σ o) σ o t 8 g = true := hal
  rw [hk] at hal2
  have hon : zonce (zbegin σ t 8 g) o t = true := by
    have e1 : zpass (zbegin σ t 8 g) o t = true := by
      show zpassC (zkd σ o) (zbegin σ t 8 g) o t = true
      rw [hk]
      exact decide_eq_true (Or.inl (of_decide_eq_true hal2 : zho σ o = some t))
    unfold zonce
    rw [e1]
    rfl
  have hpf := perf_once (p := p) href hon
  have hg : zgrant (zbegin σ t 8 g) o t = zleave (zbegin σ t 8 g) o := by
    show zgrantC (zkd σ o) (zbegin σ t 8 g) o t = _
    rw [hk]
    show zgrantB (zbegin σ t 8 g) o t = _
    unfold zgrantB
    rw [if_neg (by rw [zbeg_8]; decide), if_neg (by rw [zbeg_8]; decide), if_neg (by rw [zbeg_8]; decide)]
  have rg : mR (xa x0 t) (zgrant (zbegin σ t 8 g) o t) (mLess M o) := by
    rw [hg]
    exact mR_less r1 ho (by show zkd σ o < 2; omega)
  have r2 := mR_end (h := 0) rg ht
  rw [xar x0 rfl, ← hpf] at r2
  have r26 : mFx M0 (mEnd (mLess M o) t 0) := fun K j9 hK => by
    rw [mEnd_26 hK, ← h26 K j9 hK]
    unfold mOut at hK; rw [mLess_keep (by omega) (by omega)]
  refine c_M_actS8 hS ht ho6 (mCT_mono (c_M_simple8 hS ht ho6 (mPass_J (n + 1) o M0) (σ := zperf (zbegin σ t 8 g) o t p) ⟨f4, r2, has2, ho2, r26⟩) (fun r M' z => ⟨z.1, fin_pass (x := 0) f4 ho2 (by rw [hpf, zend_2]; decide) (by rw [hpf, zend_3]; rfl) z.2⟩))

theorem c_act_S3 {G : yG} {s : Nat → Option ySh} {F : Nat → Nat → Option Nat} (hS : mSh s F) {n t o : Nat} {σ : zS} {M M0 : mM} {j : Nat} {p : Int32} {x6 x7 x8 : Option yV} (hR : mR0 n M0 σ M) (hn : n + 3 < 1000000) (ht : t < 6) (ho : o < zn σ) (hia : zisAct 3 (nI j) = true) (hip : zisPat p = true) (hyk : yst (3 : Int32).toNatClampNeg = nI (zkd σ o)) (h2 : zth σ 2 t = 0) (hal : zallows σ o t 3 (nI j) = true) (hk : zkd σ o = 0) (hj : j < 2) : yWW G m_M_act (mQ G m_M_act s F (mAP n M0 σ o t 3 (nI j) p)) s 154 [some (yr 200), some (yi (nI t)), some (yi (nI o)), some (yi 3), some (yi (nI j)), some (yi p), x6, x7, x8] [] (mw s F M) 0 0 := by
  obtain ⟨⟨⟨hv, hb, hn2⟩, hr, hsd⟩, h26⟩ := hR
  have ho6 : o < 6 := by have := hv.2.2.2.1; omega
  obtain ⟨f1, f2, f3, f4⟩ := zIF_J hn σ t o 3 (nI j) p ⟨hv, hb, hn2⟩ ht ho hia hip hyk h2 hal
  have v1 : zNv (xa x0 t) (zbegin σ t 3 (nI j)) := zNv_begin hv h2
  have b1 : zB (n + 1) (xa x0 t) (zbegin σ t 3 (nI j)) := zB_begin hb (by omega) ht
  have r1 : mR (xa x0 t) (zbegin σ t 3 (nI j)) M := mR_beginS hr
  have hid : t ∉ zrw σ 0 o := hv.idle h2 o 0 ho (Or.inl rfl)
  have s1 : zSd (zbegin σ t 3 (nI j)) o := zSd_beg (hsd o ho) hid
  have has : zAS o (zbegin σ t 3 (nI j)) := fun o' ho' _ => zSd_beg (hsd o' ho') (hv.idle h2 o' 0 ho' (Or.inl rfl))
  have has2 := (zFr_perf (σ := (zbegin σ t 3 (nI j))) (o := o) (t := t) (p := p)).as has
  have ho2 : o < zn (zperf (zbegin σ t 3 (nI j)) o t p) := by rw [(zFr_perf (o := o)).2.2]; exact ho
  obtain ⟨g1, g2, g3, g4, g5, g6, g7, g8, gg9, g10, g11⟩ := r1.2.1.1 o ho
  have hrow := hv.2.1 o 0 ho (Or.inl rfl)
  have href : zrefuses (zbegin σ t 3 (nI j)) o t = false := ref_no (fun z => by rw [zbeg_8] at z; exact absurd z.2 (by decide))
  have hal2 : zallowsC (zkd σ o) σ o t 3 (nI j) = true := hal
  rw [hk] at hal2
  have hon : zonce (zbegin σ t 3 (nI j)) o t = true := by
    have e1 : zpass (zbegin σ t 3 (nI j)) o t = true := by
      show zpassC (zkd σ o) (zbegin σ t 3 (nI j)) o t = true
      rw [hk]
      exact decide_eq_true ⟨(of_decide_eq_true hal2 : (3 : Int32) = 0 ∨ zho σ o = some t).resolve_left (by decide), by rw [zbeg_8]; decide⟩
    unfold zonce
    rw [e1]
    rfl
  have hpf := perf_once (p := p) href hon
  have hg : zgrant (zbegin σ t 3 (nI j)) o t = zcall o (zcj (zth (zbegin σ t 3 (nI j)) 9 t)) 1 (zbegin σ t 3 (nI j)) := by
    show zgrantC (zkd σ o) (zbegin σ t 3 (nI j)) o t = _
    rw [hk]
    show zgrantK (zbegin σ t 3 (nI j)) o t = _
    unfold zgrantK
    rw [if_neg (by rw [zbeg_8]; decide), if_neg (by rw [zbeg_8]; decide), if_neg (by rw [zbeg_8]; decide), if_pos zbeg_8]
  have rg : mR (xa x0 t) (zgrant (zbegin σ t 3 (nI j)) o t) (mCallL o (o * 2 + j) 1 (zrw σ (j + 1) o) (zrw σ 0 o).length M) := by
    rw [hg]
    have hcj : zcj (nI j) = j + 1 := by
      rcases (show j = 0 ∨ j = 1 by omega) with rfl | rfl <;> decide
    rw [zbeg_9, hcj]
    exact mR_call hj 1 _ _ _ _ r1 v1 b1 ho hk rfl rfl
  have r2 := mR_end (h := 0) rg ht
  rw [xar x0 rfl, ← hpf] at r2
  have r26 : mFx M0 (mEnd (mCallL o (o * 2 + j) 1 (zrw σ (j + 1) o) (zrw σ 0 o).length M) t 0) := fun K j9 hK => by
    rw [mEnd_26 hK, ← h26 K j9 hK]
    rw [mCallL_26 hK]
  refine c_M_actS3 hS ht ho6 (mCT_mono (c_M_simple3 hS ht ho6 (lc := zrw σ (j + 1) o) (nr := (zrw σ 0 o).length) hj (by have := hv.two (j := j + 1) ho hk (by omega) (by omega); omega) (fun u hu => ((hv.2.1 o (j + 1) ho (Or.inr ⟨hk, by omega⟩)).2 u hu).1) (by have h9 := (gg9 j hj).1; unfold zcr at h9; rw [if_pos (show zkd (zbegin σ t 3 (nI j)) o = 0 from hk)] at h9; exact h9) g5 (by have h9 := (gg9 j hj).2.2; unfold zcr at h9; rw [if_pos (show zkd (zbegin σ t 3 (nI j)) o = 0 from hk)] at h9; exact h9) (mPass_J (n + 1) o M0) (σ := zperf (zbegin σ t 3 (nI j)) o t p) ⟨f4, r2, has2, ho2, r26⟩) (fun r M' z => ⟨z.1, fin_pass (x := 0) f4 ho2 (by rw [hpf, zend_2]; decide) (by rw [hpf, zend_3]; rfl) z.2⟩))

theorem c_act_S4 {G : yG} {s : Nat → Option ySh} {F : Nat → Nat → Option Nat} (hS : mSh s F) {n t o : Nat} {σ : zS} {M M0 : mM} {j : Nat} {p : Int32} {x6 x7 x8 : Option yV} (hR : mR0 n M0 σ M) (hn : n + 3 < 1000000) (ht : t < 6) (ho : o < zn σ) (hia : zisAct 4 (nI j) = true) (hip : zisPat p = true) (hyk : yst (4 : Int32).toNatClampNeg = nI (zkd σ o)) (h2 : zth σ 2 t = 0) (hal : zallows σ o t 4 (nI j) = true) (hk : zkd σ o = 0) (hj : j < 2) : yWW G m_M_act (mQ G m_M_act s F (mAP n M0 σ o t 4 (nI j) p)) s 154 [some (yr 200), some (yi (nI t)), some (yi (nI o)), some (yi 4), some (yi (nI j)), some (yi p), x6, x7, x8] [] (mw s F M) 0 0 := by
  obtain ⟨⟨⟨hv, hb, hn2⟩, hr, hsd⟩, h26⟩ := hR
  have ho6 : o < 6 := by have := hv.2.2.2.1; omega
  obtain ⟨f1, f2, f3, f4⟩ := zIF_J hn σ t o 4 (nI j) p ⟨hv, hb, hn2⟩ ht ho hia hip hyk h2 hal
  have v1 : zNv (xa x0 t) (zbegin σ t 4 (nI j)) := zNv_begin hv h2
  have b1 : zB (n + 1) (xa x0 t) (zbegin σ t 4 (nI j)) := zB_begin hb (by omega) ht
  have r1 : mR (xa x0 t) (zbegin σ t 4 (nI j)) M := mR_beginS hr
  have hid : t ∉ zrw σ 0 o := hv.idle h2 o 0 ho (Or.inl rfl)
  have s1 : zSd (zbegin σ t 4 (nI j)) o := zSd_beg (hsd o ho) hid
  have has : zAS o (zbegin σ t 4 (nI j)) := fun o' ho' _ => zSd_beg (hsd o' ho') (hv.idle h2 o' 0 ho' (Or.inl rfl))
  have has2 := (zFr_perf (σ := (zbegin σ t 4 (nI j))) (o := o) (t := t) (p := p)).as has
  have ho2 : o < zn (zperf (zbegin σ t 4 (nI j)) o t p) := by rw [(zFr_perf (o := o)).2.2]; exact ho
  obtain ⟨g1, g2, g3, g4, g5, g6, g7, g8, gg9, g10, g11⟩ := r1.2.1.1 o ho
  have hrow := hv.2.1 o 0 ho (Or.inl rfl)
  have href : zrefuses (zbegin σ t 4 (nI j)) o t = false := ref_no (fun z => by rw [zbeg_8] at z; exact absurd z.2 (by decide))
  have hal2 : zallowsC (zkd σ o) σ o t 4 (nI j) = true := hal
  rw [hk] at hal2
  have hon : zonce (zbegin σ t 4 (nI j)) o t = true := by
    have e1 : zpass (zbegin σ t 4 (nI j)) o t = true := by
      show zpassC (zkd σ o) (zbegin σ t 4 (nI j)) o t = true
      rw [hk]
      exact decide_eq_true ⟨(of_decide_eq_true hal2 : (4 : Int32) = 0 ∨ zho σ o = some t).resolve_left (by decide), by rw [zbeg_8]; decide⟩
    unfold zonce
    rw [e1]
    rfl
  have hpf := perf_once (p := p) href hon
  have hg : zgrant (zbegin σ t 4 (nI j)) o t = zcall o (zcj (zth (zbegin σ t 4 (nI j)) 9 t)) (zrw (zbegin σ t 4 (nI j)) (zcj (zth (zbegin σ t 4 (nI j)) 9 t)) o).length (zbegin σ t 4 (nI j)) := by
    show zgrantC (zkd σ o) (zbegin σ t 4 (nI j)) o t = _
    rw [hk]
    show zgrantK (zbegin σ t 4 (nI j)) o t = _
    unfold zgrantK
    rw [if_neg (by rw [zbeg_8]; decide), if_neg (by rw [zbeg_8]; decide), if_neg (by rw [zbeg_8]; decide), if_neg (by rw [zbeg_8]; decide)]
  have rg : mR (xa x0 t) (zgrant (zbegin σ t 4 (nI j)) o t) (mCallL o (o * 2 + j) 6 (zrw σ (j + 1) o) (zrw σ 0 o).length M) := by
    rw [hg]
    have hcj : zcj (nI j) = j + 1 := by
      rcases (show j = 0 ∨ j = 1 by omega) with rfl | rfl <;> decide
    rw [zbeg_9, hcj]
    rw [mCallL_le _ 6 _ _ (by have := hv.two (j := j + 1) ho hk (by omega) (by omega); omega)]
    exact mR_call hj _ _ _ _ _ r1 v1 b1 ho hk rfl rfl
  have r2 := mR_end (h := 0) rg ht
  rw [xar x0 rfl, ← hpf] at r2
  have r26 : mFx M0 (mEnd (mCallL o (o * 2 + j) 6 (zrw σ (j + 1) o) (zrw σ 0 o).length M) t 0) := fun K j9 hK => by
    rw [mEnd_26 hK, ← h26 K j9 hK]
    rw [mCallL_26 hK]
  refine c_M_actS4 hS ht ho6 (mCT_mono (c_M_simple4 hS ht ho6 (lc := zrw σ (j + 1) o) (nr := (zrw σ 0 o).length) hj (by have := hv.two (j := j + 1) ho hk (by omega) (by omega); omega) (fun u hu => ((hv.2.1 o (j + 1) ho (Or.inr ⟨hk, by omega⟩)).2 u hu).1) (by have h9 := (gg9 j hj).1; unfold zcr at h9; rw [if_pos (show zkd (zbegin σ t 4 (nI j)) o = 0 from hk)] at h9; exact h9) g5 (by have h9 := (gg9 j hj).2.2; unfold zcr at h9; rw [if_pos (show zkd (zbegin σ t 4 (nI j)) o = 0 from hk)] at h9; exact h9) (mPass_J (n + 1) o M0) (σ := zperf (zbegin σ t 4 (nI j)) o t p) ⟨f4, r2, has2, ho2, r26⟩) (fun r M' z => ⟨z.1, fin_pass (x := 0) f4 ho2 (by rw [hpf, zend_2]; decide) (by rw [hpf, zend_3]; rfl) z.2⟩))

theorem c_act_S6 {G : yG} {s : Nat → Option ySh} {F : Nat → Nat → Option Nat} (hS : mSh s F) {n t o : Nat} {σ : zS} {M M0 : mM} {g p : Int32} {x6 x7 x8 : Option yV} (hR : mR0 n M0 σ M) (hn : n + 3 < 1000000) (ht : t < 6) (ho : o < zn σ) (hia : zisAct 6 g = true) (hip : zisPat p = true) (hyk : yst (6 : Int32).toNatClampNeg = nI (zkd σ o)) (h2 : zth σ 2 t = 0) (hal : zallows σ o t 6 g = true) (hk : zkd σ o = 1) : yWW G m_M_act (mQ G m_M_act s F (mAP n M0 σ o t 6 g p)) s 154 [some (yr 200), some (yi (nI t)), some (yi (nI o)), some (yi 6), some (yi g), some (yi p), x6, x7, x8] [] (mw s F M) 0 0 := by
  obtain ⟨⟨⟨hv, hb, hn2⟩, hr, hsd⟩, h26⟩ := hR
  have ho6 : o < 6 := by have := hv.2.2.2.1; omega
  obtain ⟨f1, f2, f3, f4⟩ := zIF_J hn σ t o 6 g p ⟨hv, hb, hn2⟩ ht ho hia hip hyk h2 hal
  have v1 : zNv (xa x0 t) (zbegin σ t 6 g) := zNv_begin hv h2
  have b1 : zB (n + 1) (xa x0 t) (zbegin σ t 6 g) := zB_begin hb (by omega) ht
  have r1 : mR (xa x0 t) (zbegin σ t 6 g) M := mR_beginS hr
  have hid : t ∉ zrw σ 0 o := hv.idle h2 o 0 ho (Or.inl rfl)
  have s1 : zSd (zbegin σ t 6 g) o := zSd_beg (hsd o ho) hid
  have has : zAS o (zbegin σ t 6 g) := fun o' ho' _ => zSd_beg (hsd o' ho') (hv.idle h2 o' 0 ho' (Or.inl rfl))
  have has2 := (zFr_perf (σ := (zbegin σ t 6 g)) (o := o) (t := t) (p := p)).as has
  have ho2 : o < zn (zperf (zbegin σ t 6 g) o t p) := by rw [(zFr_perf (o := o)).2.2]; exact ho
  obtain ⟨g1, g2, g3, g4, g5, g6, g7, g8, gg9, g10, g11⟩ := r1.2.1.1 o ho
  have hrow := hv.2.1 o 0 ho (Or.inl rfl)
  have href : zrefuses (zbegin σ t 6 g) o t = false := ref_no (fun z => by rw [zbeg_8] at z; exact absurd z.2 (by decide))
  have hal2 : zallowsC (zkd σ o) σ o t 6 g = true := hal
  rw [hk] at hal2
  have hon : zonce (zbegin σ t 6 g) o t = true := by
    have e1 : zpass (zbegin σ t 6 g) o t = true := by
      show zpassC (zkd σ o) (zbegin σ t 6 g) o t = true
      rw [hk]
      exact decide_eq_true (Or.inr zbeg_8)
    unfold zonce
    rw [e1]
    rfl
  have hpf := perf_once (p := p) href hon
  have hg : zgrant (zbegin σ t 6 g) o t = zspl (zsrd (zbegin σ t 6 g) o t (zrd σ o t + -1)) 4 o (zpl σ 4 o + -1) := by
    show zgrantC (zkd σ o) (zbegin σ t 6 g) o t = _
    rw [hk]
    show zgrantB (zbegin σ t 6 g) o t = _
    unfold zgrantB
    rw [if_neg (by rw [zbeg_8]; decide), if_pos zbeg_8]
    rfl
  have rg : mR (xa x0 t) (zgrant (zbegin σ t 6 g) o t) (yu M 220 (o * 6 + t) (M 220 (o * 6 + t) - 1)) := by
    rw [hg]
    have h10 := g10 t ht
    rw [if_pos (show zkd (zbegin σ t 6 g) o = 1 from hk)] at h10
    rw [h10, Int32.sub_eq_add_neg]
    refine ⟨mRT_same r1.1 rfl rfl (fun K a b => ?_), mRP_read r1.2.1 ho hk ht, mRG_pl r1.2.2 rfl rfl rfl ?_ ?_⟩ <;> (funext j; (repeat first | rw [yu_ne _ _ (by omega)] | rw [mSft_at (by omega)]))
  have r2 := mR_end (h := 0) rg ht
  rw [xar x0 rfl, ← hpf] at r2
  have r26 : mFx M0 (mEnd (yu M 220 (o * 6 + t) (M 220 (o * 6 + t) - 1)) t 0) := fun K j9 hK => by
    rw [mEnd_26 hK, ← h26 K j9 hK]
    unfold mOut at hK; (repeat first | rw [yu_ne _ _ (by omega)] | rw [mSft_at (by omega)])
  refine c_M_actS6 hS ht ho6 (mCT_mono (c_M_simple6 hS ht ho6 (mPass_J (n + 1) o M0) (σ := zperf (zbegin σ t 6 g) o t p) ⟨f4, r2, has2, ho2, r26⟩) (fun r M' z => ⟨z.1, fin_pass (x := 0) f4 ho2 (by rw [hpf, zend_2]; decide) (by rw [hpf, zend_3]; rfl) z.2⟩))

theorem c_act_S10 {G : yG} {s : Nat → Option ySh} {F : Nat → Nat → Option Nat} (hS : mSh s F) {n t o : Nat} {σ : zS} {M M0 : mM} {g p : Int32} {x6 x7 x8 : Option yV} (hR : mR0 n M0 σ M) (hn : n + 3 < 1000000) (ht : t < 6) (ho : o < zn σ) (hia : zisAct 10 g = true) (hip : zisPat p = true) (hyk : yst (10 : Int32).toNatClampNeg = nI (zkd σ o)) (h2 : zth σ 2 t = 0) (hal : zallows σ o t 10 g = true) (hk : zkd σ o = 2) : yWW G m_M_act (mQ G m_M_act s F (mAP n M0 σ o t 10 g p)) s 154 [some (yr 200), some (yi (nI t)), some (yi (nI o)), some (yi 10), some (yi g), some (yi p), x6, x7, x8] [] (mw s F M) 0 0 := by
  obtain ⟨⟨⟨hv, hb, hn2⟩, hr, hsd⟩, h26⟩ := hR
  have ho6 : o < 6 := by have := hv.2.2.2.1; omega
  obtain ⟨f1, f2, f3, f4⟩ := zIF_J hn σ t o 10 g p ⟨hv, hb, hn2⟩ ht ho hia hip hyk h2 hal
  have v1 : zNv (xa x0 t) (zbegin σ t 10 g) := zNv_begin hv h2
  have b1 : zB (n + 1) (xa x0 t) (zbegin σ t 10 g) := zB_begin hb (by omega) ht
  have r1 : mR (xa x0 t) (zbegin σ t 10 g) M := mR_beginS hr
  have hid : t ∉ zrw σ 0 o := hv.idle h2 o 0 ho (Or.inl rfl)
  have s1 : zSd (zbegin σ t 10 g) o := zSd_beg (hsd o ho) hid
  have has : zAS o (zbegin σ t 10 g) := fun o' ho' _ => zSd_beg (hsd o' ho') (hv.idle h2 o' 0 ho' (Or.inl rfl))
  have has2 := (zFr_perf (σ := (zbegin σ t 10 g)) (o := o) (t := t) (p := p)).as has
  have ho2 : o < zn (zperf (zbegin σ t 10 g) o t p) := by rw [(zFr_perf (o := o)).2.2]; exact ho
  obtain ⟨g1, g2, g3, g4, g5, g6, g7, g8, gg9, g10, g11⟩ := r1.2.1.1 o ho
  have hrow := hv.2.1 o 0 ho (Or.inl rfl)
  have href : zrefuses (zbegin σ t 10 g) o t = false := ref_no (fun z => by rw [zbeg_8] at z; exact absurd z.2 (by decide))
  have hal2 : zallowsC (zkd σ o) σ o t 10 g = true := hal
  rw [hk] at hal2
  have hon : zonce (zbegin σ t 10 g) o t = true := by
    have e1 : zpass (zbegin σ t 10 g) o t = true := by
      show zpassC (zkd σ o) (zbegin σ t 10 g) o t = true
      rw [hk]
      exact decide_eq_true zbeg_8
    unfold zonce
    rw [e1]
    rfl
  have hpf := perf_once (p := p) href hon
  have hg : zgrant (zbegin σ t 10 g) o t = zspl (zbegin σ t 10 g) 3 o (zpl σ 3 o + g) := by
    show zgrantC (zkd σ o) (zbegin σ t 10 g) o t = _
    rw [hk]
    show zspl (zbegin σ t 10 g) 3 o (zpl (zbegin σ t 10 g) 3 o + (if zth (zbegin σ t 10 g) 8 t = 10 then zth (zbegin σ t 10 g) 9 t else -(zth (zbegin σ t 10 g) 9 t))) = _
    rw [if_pos zbeg_8, zbeg_9]
    rfl
  have rg : mR (xa x0 t) (zgrant (zbegin σ t 10 g) o t) (yu M 214 o (M 214 o + g)) := by
    rw [hg]
    have h3 : M 214 o = zpl σ 3 o := by
      rw [g3]
      show zamtC (zkd σ o) _ o = _
      rw [hk]
      rfl
    rw [h3]
    refine ⟨mRT_same r1.1 rfl rfl (fun K a b => ?_), mRP_pl3 r1.2.1 ho (Or.inl hk), mRG_pl r1.2.2 rfl rfl rfl ?_ ?_⟩ <;> (funext j; (repeat first | rw [yu_ne _ _ (by omega)] | rw [mSft_at (by omega)]))
  have r2 := mR_end (h := 0) rg ht
  rw [xar x0 rfl, ← hpf] at r2
  have r26 : mFx M0 (mEnd (yu M 214 o (M 214 o + g)) t 0) := fun K j9 hK => by
    rw [mEnd_26 hK, ← h26 K j9 hK]
    unfold mOut at hK; (repeat first | rw [yu_ne _ _ (by omega)] | rw [mSft_at (by omega)])
  refine c_M_actS10 hS ht ho6 (mCT_mono (c_M_simple10 hS ht ho6 (mPass_J (n + 1) o M0) (σ := zperf (zbegin σ t 10 g) o t p) ⟨f4, r2, has2, ho2, r26⟩) (fun r M' z => ⟨z.1, fin_pass (x := 0) f4 ho2 (by rw [hpf, zend_2]; decide) (by rw [hpf, zend_3]; rfl) z.2⟩))

theorem c_act_S12 {G : yG} {s : Nat → Option ySh} {F : Nat → Nat → Option Nat} (hS : mSh s F) {n t o : Nat} {σ : zS} {M M0 : mM} {g p : Int32} {x6 x7 x8 : Option yV} (hR : mR0 n M0 σ M) (hn : n + 3 < 1000000) (ht : t < 6) (ho : o < zn σ) (hia : zisAct 12 g = true) (hip : zisPat p = true) (hyk : yst (12 : Int32).toNatClampNeg = nI (zkd σ o)) (h2 : zth σ 2 t = 0) (hal : zallows σ o t 12 g = true) (hk : zkd σ o = 3) : yWW G m_M_act (mQ G m_M_act s F (mAP n M0 σ o t 12 g p)) s 154 [some (yr 200), some (yi (nI t)), some (yi (nI o)), some (yi 12), some (yi g), some (yi p), x6, x7, x8] [] (mw s F M) 0 0 := by
  obtain ⟨⟨⟨hv, hb, hn2⟩, hr, hsd⟩, h26⟩ := hR
  have ho6 : o < 6 := by have := hv.2.2.2.1; omega
  obtain ⟨f1, f2, f3, f4⟩ := zIF_J hn σ t o 12 g p ⟨hv, hb, hn2⟩ ht ho hia hip hyk h2 hal
  have v1 : zNv (xa x0 t) (zbegin σ t 12 g) := zNv_begin hv h2
  have b1 : zB (n + 1) (xa x0 t) (zbegin σ t 12 g) := zB_begin hb (by omega) ht
  have r1 : mR (xa x0 t) (zbegin σ t 12 g) M := mR_beginS hr
  have hid : t ∉ zrw σ 0 o := hv.idle h2 o 0 ho (Or.inl rfl)
  have s1 : zSd (zbegin σ t 12 g) o := zSd_beg (hsd o ho) hid
  have has : zAS o (zbegin σ t 12 g) := fun o' ho' _ => zSd_beg (hsd o' ho') (hv.idle h2 o' 0 ho' (Or.inl rfl))
  have has2 := (zFr_perf (σ := (zbegin σ t 12 g)) (o := o) (t := t) (p := p)).as has
  have ho2 : o < zn (zperf (zbegin σ t 12 g) o t p) := by rw [(zFr_perf (o := o)).2.2]; exact ho
  obtain ⟨g1, g2, g3, g4, g5, g6, g7, g8, gg9, g10, g11⟩ := r1.2.1.1 o ho
  have hrow := hv.2.1 o 0 ho (Or.inl rfl)
  have href : zrefuses (zbegin σ t 12 g) o t = false := ref_no (fun z => by rw [zbeg_8] at z; exact absurd z.2 (by decide))
  have hal2 : zallowsC (zkd σ o) σ o t 12 g = true := hal
  rw [hk] at hal2
  have hon : zonce (zbegin σ t 12 g) o t = true := by
    have e1 : zpass (zbegin σ t 12 g) o t = true := by
      show zpassC (zkd σ o) (zbegin σ t 12 g) o t = true
      rw [hk]
      exact decide_eq_true zbeg_8
    unfold zonce
    rw [e1]
    rfl
  have hpf := perf_once (p := p) href hon
  have hg : zgrant (zbegin σ t 12 g) o t = (if ¬ zpl σ 3 o ≤ 0 then zspl (zbegin σ t 12 g) 3 o (zpl σ 3 o - 1) else (zbegin σ t 12 g)) := by
    show zgrantC (zkd σ o) (zbegin σ t 12 g) o t = _
    rw [hk]
    show (if zth (zbegin σ t 12 g) 8 t = 12 ∧ ¬ zpl σ 3 o ≤ 0 then zspl (zbegin σ t 12 g) 3 o (zpl σ 3 o - 1) else (zbegin σ t 12 g)) = _
    by_cases e : zpl σ 3 o ≤ 0
    · rw [if_neg (fun z => z.2 e), if_neg (fun z => z e)]
    · rw [if_pos ⟨zbeg_8, e⟩, if_pos e]
  have rg : mR (xa x0 t) (zgrant (zbegin σ t 12 g) o t) (mDown M o) := by
    rw [hg]
    have h3 : M 214 o = zpl σ 3 o := by
      rw [g3]
      show zamtC (zkd σ o) _ o = _
      rw [hk]
      rfl
    unfold mDown
    rw [h3]
    by_cases e : zpl σ 3 o ≤ 0
    · rw [if_pos e, if_neg (fun z => z e)]
      exact r1
    · rw [if_neg e, if_pos e]
      refine ⟨mRT_same r1.1 rfl rfl (fun K a b => ?_), mRP_pl3 r1.2.1 ho (Or.inr hk), mRG_pl r1.2.2 rfl rfl rfl ?_ ?_⟩ <;> (funext j; (repeat first | rw [yu_ne _ _ (by omega)] | rw [mSft_at (by omega)]))
  have r2 := mR_end (h := 0) rg ht
  rw [xar x0 rfl, ← hpf] at r2
  have r26 : mFx M0 (mEnd (mDown M o) t 0) := fun K j9 hK => by
    rw [mEnd_26 hK, ← h26 K j9 hK]
    unfold mOut at hK; unfold mDown; split
    · rfl
    · (repeat first | rw [yu_ne _ _ (by omega)] | rw [mSft_at (by omega)])
  refine c_M_actS12 hS ht ho6 (mCT_mono (c_M_simple12 hS ht ho6 (mPass_J (n + 1) o M0) (σ := zperf (zbegin σ t 12 g) o t p) ⟨f4, r2, has2, ho2, r26⟩) (fun r M' z => ⟨z.1, fin_pass (x := 0) f4 ho2 (by rw [hpf, zend_2]; decide) (by rw [hpf, zend_3]; rfl) z.2⟩))

theorem c_act_S14 {G : yG} {s : Nat → Option ySh} {F : Nat → Nat → Option Nat} (hS : mSh s F) {n t o : Nat} {σ : zS} {M M0 : mM} {g p : Int32} {x6 x7 x8 : Option yV} (hR : mR0 n M0 σ M) (hn : n + 3 < 1000000) (ht : t < 6) (ho : o < zn σ) (hia : zisAct 14 g = true) (hip : zisPat p = true) (hyk : yst (14 : Int32).toNatClampNeg = nI (zkd σ o)) (h2 : zth σ 2 t = 0) (hal : zallows σ o t 14 g = true) (hk : zkd σ o = 4) : yWW G m_M_act (mQ G m_M_act s F (mAP n M0 σ o t 14 g p)) s 154 [some (yr 200), some (yi (nI t)), some (yi (nI o)), some (yi 14), some (yi g), some (yi p), x6, x7, x8] [] (mw s F M) 0 0 := by
  obtain ⟨⟨⟨hv, hb, hn2⟩, hr, hsd⟩, h26⟩ := hR
  have ho6 : o < 6 := by have := hv.2.2.2.1; omega
  obtain ⟨f1, f2, f3, f4⟩ := zIF_J hn σ t o 14 g p ⟨hv, hb, hn2⟩ ht ho hia hip hyk h2 hal
  have v1 : zNv (xa x0 t) (zbegin σ t 14 g) := zNv_begin hv h2
  have b1 : zB (n + 1) (xa x0 t) (zbegin σ t 14 g) := zB_begin hb (by omega) ht
  have r1 : mR (xa x0 t) (zbegin σ t 14 g) M := mR_beginS hr
  have hid : t ∉ zrw σ 0 o := hv.idle h2 o 0 ho (Or.inl rfl)
  have s1 : zSd (zbegin σ t 14 g) o := zSd_beg (hsd o ho) hid
  have has : zAS o (zbegin σ t 14 g) := fun o' ho' _ => zSd_beg (hsd o' ho') (hv.idle h2 o' 0 ho' (Or.inl rfl))
  have has2 := (zFr_perf (σ := (zbegin σ t 14 g)) (o := o) (t := t) (p := p)).as has
  have ho2 : o < zn (zperf (zbegin σ t 14 g) o t p) := by rw [(zFr_perf (o := o)).2.2]; exact ho
  obtain ⟨g1, g2, g3, g4, g5, g6, g7, g8, gg9, g10, g11⟩ := r1.2.1.1 o ho
  have hrow := hv.2.1 o 0 ho (Or.inl rfl)
  have href : zrefuses (zbegin σ t 14 g) o t = false := ref_no (fun z => by rw [zbeg_8] at z; exact absurd z.2 (by decide))
  have hal2 : zallowsC (zkd σ o) σ o t 14 g = true := hal
  rw [hk] at hal2
  have hon : zonce (zbegin σ t 14 g) o t = true := by
    have e1 : zpass (zbegin σ t 14 g) o t = true := by
      show zpassC (zkd σ o) (zbegin σ t 14 g) o t = true
      rw [hk]
      exact decide_eq_true (Or.inl zbeg_8)
    unfold zonce
    rw [e1]
    rfl
  have hpf := perf_once (p := p) href hon
  have hg : zgrant (zbegin σ t 14 g) o t = zendAll o 3 (zrw σ 0 o).length (zspl (zbegin σ t 14 g) 4 o 0) := by
    show zgrantC (zkd σ o) (zbegin σ t 14 g) o t = _
    rw [hk]
    show zgrantA (zbegin σ t 14 g) o t = _
    unfold zgrantA
    rw [if_pos zbeg_8]
    rfl
  have rg : mR (xa x0 t) (zgrant (zbegin σ t 14 g) o t) (yu (mBrk M o (zrw σ 0 o) 3) 223 o 0) := by
    rw [hg]
    rw [mBrk_d]
    have hrow1 := v1.2.1 o 0 ho (Or.inl rfl)
    have r0 : mR (xa x0 t) (zspl (zbegin σ t 14 g) 4 o 0) (yu M 223 o 0) := by
      refine ⟨mRT_same r1.1 rfl rfl (fun K a b => ?_), mRP_brk r1.2.1 ho hk, mRG_pl r1.2.2 rfl rfl rfl ?_ ?_⟩ <;> (funext j; (repeat first | rw [yu_ne _ _ (by omega)] | rw [mSft_at (by omega)]))
    exact mR_endAll (h := 3) r0 ho hrow1.1 (fun u hu => ⟨(hrow1.2 u hu).1, (hrow1.2 u hu).2.1⟩)
  have r2 := mR_end (h := 0) rg ht
  rw [xar x0 rfl, ← hpf] at r2
  have r26 : mFx M0 (mEnd (yu (mBrk M o (zrw σ 0 o) 3) 223 o 0) t 0) := fun K j9 hK => by
    rw [mEnd_26 hK, ← h26 K j9 hK]
    rw [yu_ne _ _ (by unfold mOut at hK; omega), mBrk_26 hK]
  refine c_M_actS14 hS ht ho6 (mCT_mono (c_M_simple14 hS ht ho6 (l := zrw σ 0 o) g7 g5 g8 (fun u hu => (hrow.2 u hu).1) (mPass_J (n + 1) o M0) (σ := zperf (zbegin σ t 14 g) o t p) ⟨f4, r2, has2, ho2, r26⟩) (fun r M' z => ⟨z.1, fin_pass (x := 0) f4 ho2 (by rw [hpf, zend_2]; decide) (by rw [hpf, zend_3]; rfl) z.2⟩))
