/-! acts: the model's, whole -/
theorem zSd_4 {σ : zS} {o : Nat} (h : zkd σ o = 4) : zSd σ o := fun i u _ hc => by
  unfold zcan at hc
  rw [h] at hc
  cases hc
theorem mRef_0 {M : mM} {t o : Nat} {a : Int32} {l : List Nat} (h : M 210 t = 0) : mRef M t o a l = (2, mEnd M t 2) := by
  unfold mRef
  rw [if_pos h, if_neg (fun z => z.2 h), yu_id h]
theorem mRef_1 {M : mM} {t o : Nat} {a : Int32} {l : List Nat} (h : ¬ M 210 t = 0) (h13 : ¬ a = 13) : mRef M t o a l = (4, mEnd (yu M 210 t 0) t 4) := by
  unfold mRef
  rw [if_neg h, if_neg (fun z => h13 z.1)]
theorem mRef_13 {M : mM} {t o : Nat} {l : List Nat} (h : ¬ M 210 t = 0) : mRef M t o 13 l = (4, mEnd (mBrk (yu (yu M 210 t 0) 223 o 1) o l 3) t 4) := by
  unfold mRef
  rw [if_neg h, if_pos ⟨rfl, h⟩]
theorem mEnter_26 {M : mM} {t o n K j : Nat} {p : Int32} (hK : mOut K j) : mEnter (yu (yu M 202 t 1) 205 t p) t o n K j = M K j := by
  unfold mOut at hK
  unfold mEnter
  (repeat first | rw [yu_ne _ _ (by omega)] | rw [mSft_at (by omega)])
theorem c_act_gen {G : yG} {s : Nat → Option ySh} {F : Nat → Nat → Option Nat} (hS : mSh s F) {n t o : Nat} {σ : zS} {M M0 : mM} {a g p : Int32} {x6 x8 : Option yV} (hR : mR0 n M0 σ M) (hn : n + 3 < 1000000) (ht : t < 6) (ho : o < zn σ) (hia : zisAct a g = true) (hip : zisPat p = true) (hyk : yst (a : Int32).toNatClampNeg = nI (zkd σ o)) (h2 : zth σ 2 t = 0) (hal : zallows σ o t a g = true) (hra : zRA (zkd σ o) a 0) (ha2 : ¬ a = 2) (ha13 : ¬ a = 13) (h4 : ¬ zkd σ o = 4) : yWW G m_M_act (mQ G m_M_act s F (mAP n M0 σ o t a g p)) s 267 [some (yr 200), some (yi (nI t)), some (yi (nI o)), some (yi a), some (yi g), some (yi p), x6, some (yi (zb (mOwn M t o))), x8] [] (mw s F (mBeg M t a g)) 0 0 := by
  obtain ⟨⟨⟨hv, hb, hn2⟩, hr, hsd⟩, h26⟩ := hR
  have ho6 : o < 6 := by have := hv.2.2.2.1; omega
  obtain ⟨f1, f2, f3, f4⟩ := zIF_J hn σ t o a g p ⟨hv, hb, hn2⟩ ht ho hia hip hyk h2 hal
  have v1 : zNv (xa x0 t) (zbegin σ t a g) := zNv_begin hv h2
  have b1 : zB (n + 1) (xa x0 t) (zbegin σ t a g) := zB_begin hb (by omega) ht
  have r1 : mR (xa x0 t) (zbegin σ t a g) (mBeg M t a g) := mR_begin hr
  have hid : t ∉ zrw σ 0 o := hv.idle h2 o 0 ho (Or.inl rfl)
  have s1 : zSd (zbegin σ t a g) o := zSd_beg (hsd o ho) hid
  have has : zAS o (zbegin σ t a g) := fun o' ho' _ => zSd_beg (hsd o' ho') (hv.idle h2 o' 0 ho' (Or.inl rfl))
  have has2 := (zFr_perf (σ := (zbegin σ t a g)) (o := o) (t := t) (p := p)).as has
  have ho2 : o < zn (zperf (zbegin σ t a g) o t p) := by rw [(zFr_perf (o := o)).2.2]; exact ho
  obtain ⟨g1, g2, g3, g4, g5, g6, g7, g8, gg9, g10, g11⟩ := r1.2.1.1 o ho
  have hrow := hv.2.1 o 0 ho (Or.inl rfl)
  have m6 : (mBeg M t a g) 206 t = a := by unfold mBeg; simp [yu]
  have m7 : (mBeg M t a g) 207 t = g := by unfold mBeg; simp [yu]
  have m11 : (mBeg M t a g) 211 t = 0 := by unfold mBeg; simp [yu]
  have m10 : (mBeg M t a g) 210 t = zth σ 6 t := (r1.1 t ht).2.1.trans zbeg_6
  have hra8 : zRA (zkd (zbegin σ t a g) o) (zth (zbegin σ t a g) 8 t) 0 := by rw [zbeg_8]; exact hra
  have how9 : mOwn M t o = decide (zkd σ o < 2 ∧ zho σ o = some t) := mOwn_eq hr hv ho ht
  have hone := zonce_eq (a := a) (ow := mOwn M t o) r1 v1 b1 ho ht zbeg_8 hra ha2 h4 (m7.trans zbeg_9.symm) how9
  have hcn := mcan_eq r1 v1 b1 ho ht hra8 (fun _ => m7.trans zbeg_9.symm)
  rw [zbeg_8, show mac a = a from if_neg ha2] at hcn
  have href : zrefuses (zbegin σ t a g) o t = false := ref_no (fun z => h4 z.1)
  have hoff : ¬ (mcan (mBeg M t a g) t o a = true ∧ (mOwn M t o = true ∨ mss (mBeg M t a g) (zrw σ 0 o) a = false)) → zonce (zbegin σ t a g) o t = false := fun hno => by
    rw [hone]
    cases e : mcan (mBeg M t a g) t o a with
    | false => rfl
    | true =>
      rw [Bool.true_and]
      cases e2 : mOwn M t o with
      | true => exact absurd ⟨e, Or.inl e2⟩ hno
      | false =>
        rw [Bool.false_or]
        cases e3 : mss (mBeg M t a g) (zrw (zbegin σ t a g) 0 o) a with
        | true => rfl
        | false => exact absurd ⟨e, Or.inr e3⟩ hno
  refine c_M_act_267 hS ht ho6 (l := zrw σ 0 o) g7 g5 g8 (fun u hu => (hrow.2 u hu).1) f2 ha2 ha13 (mPass_J (n + 1) o M0) (fun hc how => ?_) (fun hno hmp => ?_) (fun hno h0 hp => ?_)
  · have hon : zonce (zbegin σ t a g) o t = true := by
      rw [hone, hc, Bool.true_and]
      rcases how with z | z
      · rw [z]; rfl
      · have z : mss (mBeg M t a g) (zrw (zbegin σ t a g) 0 o) a = false := z
        rw [z]; exact Bool.or_true _
    have hpf := perf_once (p := p) href hon
    obtain ⟨k, hgok, hmr⟩ := mR_grant (a := a) r1 ho ht hra8 h4 (v1.2.2.2.2.2 o ho) (Or.inr ⟨by rw [zbeg_8]; exact ha2, zbeg_8.symm, m11, m7.trans zbeg_9.symm⟩) (fun k5 => by
      have k5 : zkd σ o = 5 := k5
      rw [hc, show zkd (zbegin σ t a g) o = zkd σ o from rfl, k5] at hcn
      simpa using hcn.symm)
    have r2 := mR_end (h := 0) hmr ht
    rw [xar x0 rfl, ← hpf] at r2
    refine ⟨zperf (zbegin σ t a g) o t p, k, hgok, ⟨f4, r2, has2, ho2, ?_⟩, fun M' hM' => ?_⟩
    · exact fun K j hK => by rw [mEnd_26 hK, mGrant_keep (by unfold mOut at hK; unfold mGf; omega), mBeg_26 hK]; exact h26 K j hK
    · exact fin_pass (x := 0) f4 ho2 (by rw [hpf, zend_2]; decide) (by rw [hpf, zend_3]; rfl) hM'
  · have hon := hoff hno
    by_cases h6 : zth σ 6 t = 0
    · have hp0 : p = 0 := hmp.resolve_left (fun z => z (m10.trans h6))
      have hpf := perf_zero href hon (zbeg_6.trans h6) hp0
      rw [mRef_0 (m10.trans h6)]
      show mAP _ _ _ _ _ _ _ _ (some (yi (nI 2))) (mEnd _ t 2)
      have r2 := mR_end (h := 2) r1 ht
      rw [xar x0 rfl, ← hpf] at r2
      exact fin_no (x := nI 2) f4 (by rw [hpf]; exact zSd_end s1) has2 r2 (fun K j hK => by rw [mEnd_26 hK, mBeg_26 hK]; exact h26 K j hK) (by rw [hpf, zend_3])
    · have hpf := perf_mark (p := p) href hon (fun z => h6 (zbeg_6.symm.trans z))
      have hgv : zgave (zend (zsth (zbegin σ t a g) 6 t 0) t 4) o = zend (zsth (zbegin σ t a g) 6 t 0) t 4 := by
        unfold zgave
        exact if_neg h4
      rw [hgv] at hpf
      rw [mRef_1 (fun z => h6 (m10.symm.trans z)) ha13]
      show mAP _ _ _ _ _ _ _ _ (some (yi (nI 4))) (mEnd (yu _ 210 t 0) t 4)
      have r2 := mR_end (h := 4) (mR_mark (x := 0) (t := t) r1) ht
      rw [xar x0 rfl, ← hpf] at r2
      exact fin_no (x := nI 4) f4 (by rw [hpf]; exact zSd_end (zSd_mk s1)) has2 r2 (fun K j hK => by rw [mEnd_26 hK, yu_ne _ _ (by unfold mOut at hK; omega), mBeg_26 hK]; exact h26 K j hK) (by rw [hpf, zend_3])
  · have hon := hoff hno
    have hpf := perf_hold (p := p) href hon (zbeg_6.trans (m10.symm.trans h0)) hp
    have hh : zhold (zbegin σ t a g) o t p = zjoin (zbegin σ t a g) o t p := by
      unfold zhold zholdC
      split
      · rw [zbeg_8, if_neg ha2]
      · rfl
    rw [hh] at hpf
    have r2 := mR_join (p := p) r1 ho rfl f2 (by rw [zbeg_8]; exact ha2) zbeg_3 (m6.trans zbeg_8.symm) (m7.trans zbeg_9.symm) m11
    rw [xar x0 rfl, ← hpf] at r2
    exact fin_no (x := 1) f4 (by rw [hpf]; exact zSd_join s1 hon) has2 r2 (fun K j hK => by rw [mEnter_26 hK, mBeg_26 hK]; exact h26 K j hK) (by
      rw [hpf]
      refine Eq.trans ?_ (zbeg_3 (σ := σ) (t := t) (a := a) (g := g))
      simp [zjoin, zstay, gs_zth_zsth, gs_zpl_zsth, gs_zwh_zsth, gs_zho_zsth, gs_zrw_zsth, gs_zen_zsth, gs_zrd_zsth, gs_zqu_zsth, gs_zn_zsth, gs_zkd_zsth, gs_zcp_zsth, gs_ztk_zsth, gs_zth_zspl, gs_zpl_zspl, gs_zwh_zspl, gs_zho_zspl, gs_zrw_zspl, gs_zen_zspl, gs_zrd_zspl, gs_zqu_zspl, gs_zn_zspl, gs_zkd_zspl, gs_zcp_zspl, gs_ztk_zspl, gs_zth_zswh, gs_zpl_zswh, gs_zwh_zswh, gs_zho_zswh, gs_zrw_zswh, gs_zen_zswh, gs_zrd_zswh, gs_zqu_zswh, gs_zn_zswh, gs_zkd_zswh, gs_zcp_zswh, gs_ztk_zswh, gs_zth_zsho, gs_zpl_zsho, gs_zwh_zsho, gs_zho_zsho, gs_zrw_zsho, gs_zen_zsho, gs_zrd_zsho, gs_zqu_zsho, gs_zn_zsho, gs_zkd_zsho, gs_zcp_zsho, gs_ztk_zsho, gs_zth_zsrw, gs_zpl_zsrw, gs_zwh_zsrw, gs_zho_zsrw, gs_zrw_zsrw, gs_zen_zsrw, gs_zrd_zsrw, gs_zqu_zsrw, gs_zn_zsrw, gs_zkd_zsrw, gs_zcp_zsrw, gs_ztk_zsrw, gs_zth_zsen, gs_zpl_zsen, gs_zwh_zsen, gs_zho_zsen, gs_zrw_zsen, gs_zen_zsen, gs_zrd_zsen, gs_zqu_zsen, gs_zn_zsen, gs_zkd_zsen, gs_zcp_zsen, gs_ztk_zsen, gs_zth_zsrd, gs_zpl_zsrd, gs_zwh_zsrd, gs_zho_zsrd, gs_zrw_zsrd, gs_zen_zsrd, gs_zrd_zsrd, gs_zqu_zsrd, gs_zn_zsrd, gs_zkd_zsrd, gs_zcp_zsrd, gs_ztk_zsrd, gs_zth_zsqu, gs_zpl_zsqu, gs_zwh_zsqu, gs_zho_zsqu, gs_zrw_zsqu, gs_zen_zsqu, gs_zrd_zsqu, gs_zqu_zsqu, gs_zn_zsqu, gs_zkd_zsqu, gs_zcp_zsqu, gs_ztk_zsqu, gs_zth_zstk, gs_zpl_zstk, gs_zwh_zstk, gs_zho_zstk, gs_zrw_zstk, gs_zen_zstk, gs_zrd_zstk, gs_zqu_zstk, gs_zn_zstk, gs_zkd_zstk, gs_zcp_zstk, gs_ztk_zstk])
theorem c_act_wait {G : yG} {s : Nat → Option ySh} {F : Nat → Nat → Option Nat} (hS : mSh s F) {n t o : Nat} {σ : zS} {M M0 : mM} {j : Nat} {p : Int32} {x6 x7 x8 : Option yV} (hR : mR0 n M0 σ M) (hn : n + 3 < 1000000) (ht : t < 6) (ho : o < zn σ) (hia : zisAct 2 (nI j) = true) (hip : zisPat p = true) (hyk : yst (2 : Int32).toNatClampNeg = nI (zkd σ o)) (h2 : zth σ 2 t = 0) (hal : zallows σ o t 2 (nI j) = true) (hk : zkd σ o = 0) (hj : j < 2) : yWW G m_M_act (mQ G m_M_act s F (mAP n M0 σ o t 2 (nI j) p)) s 267 [some (yr 200), some (yi (nI t)), some (yi (nI o)), some (yi 2), some (yi (nI j)), some (yi p), x6, x7, x8] [] (mw s F (mBeg M t 2 (nI j))) 0 0 := by
  obtain ⟨⟨⟨hv, hb, hn2⟩, hr, hsd⟩, h26⟩ := hR
  have ho6 : o < 6 := by have := hv.2.2.2.1; omega
  obtain ⟨f1, f2, f3, f4⟩ := zIF_J hn σ t o 2 (nI j) p ⟨hv, hb, hn2⟩ ht ho hia hip hyk h2 hal
  have v1 : zNv (xa x0 t) (zbegin σ t 2 (nI j)) := zNv_begin hv h2
  have b1 : zB (n + 1) (xa x0 t) (zbegin σ t 2 (nI j)) := zB_begin hb (by omega) ht
  have r1 : mR (xa x0 t) (zbegin σ t 2 (nI j)) (mBeg M t 2 (nI j)) := mR_begin hr
  have hid : t ∉ zrw σ 0 o := hv.idle h2 o 0 ho (Or.inl rfl)
  have s1 : zSd (zbegin σ t 2 (nI j)) o := zSd_beg (hsd o ho) hid
  have has : zAS o (zbegin σ t 2 (nI j)) := fun o' ho' _ => zSd_beg (hsd o' ho') (hv.idle h2 o' 0 ho' (Or.inl rfl))
  have has2 := (zFr_perf (σ := (zbegin σ t 2 (nI j))) (o := o) (t := t) (p := p)).as has
  have ho2 : o < zn (zperf (zbegin σ t 2 (nI j)) o t p) := by rw [(zFr_perf (o := o)).2.2]; exact ho
  obtain ⟨g1, g2, g3, g4, g5, g6, g7, g8, gg9, g10, g11⟩ := r1.2.1.1 o ho
  have hrow := hv.2.1 o 0 ho (Or.inl rfl)
  have m6 : (mBeg M t 2 (nI j)) 206 t = 2 := by unfold mBeg; simp [yu]
  have m7 : (mBeg M t 2 (nI j)) 207 t = (nI j) := by unfold mBeg; simp [yu]
  have m11 : (mBeg M t 2 (nI j)) 211 t = 0 := by unfold mBeg; simp [yu]
  have m10 : (mBeg M t 2 (nI j)) 210 t = zth σ 6 t := (r1.1 t ht).2.1.trans zbeg_6
  have hcj : zcj (nI j) = j + 1 := by
    rcases (show j = 0 ∨ j = 1 by omega) with rfl | rfl <;> decide
  have href : zrefuses (zbegin σ t 2 (nI j)) o t = false := ref_no (fun z => absurd (hk.symm.trans z.1) (by decide))
  have hal2 : zallowsC (zkd σ o) σ o t 2 (nI j) = true := hal
  rw [hk] at hal2
  have hown : zho σ o = some t := (of_decide_eq_true hal2 : (2 : Int32) = 0 ∨ zho σ o = some t).resolve_left (by decide)
  have hon : zonce (zbegin σ t 2 (nI j)) o t = false := by
    have e1 : zpass (zbegin σ t 2 (nI j)) o t = false := by
      show zpassC (zkd σ o) _ o t = false
      rw [hk]
      exact decide_eq_false (fun z => z.2 zbeg_8)
    have e2 : zcan (zbegin σ t 2 (nI j)) o t = false := by
      show zcanC (zkd σ o) _ o t = false
      rw [hk]
      refine decide_eq_false (fun z => ?_)
      have z : zho σ o = none := z
      rw [hown] at z
      cases z
    unfold zonce
    rw [e1, e2]
    rfl
  have hcs : (mBeg M t 2 (nI j)) 218 (o * 2 + j) = nI (zrw σ (j + 1) o).length := by
    have h9 := (gg9 j hj).1
    unfold zcr at h9
    rw [if_pos (show zkd (zbegin σ t 2 (nI j)) o = 0 from hk)] at h9
    exact h9
  have hn6 : (zrw σ (j + 1) o).length < 6 := by
    have h9 := f3 hk
    rw [hcj] at h9
    exact h9
  refine c_M_act_267w hS ht ho6 (l := zrw σ 0 o) g7 g5 g8 (fun u hu => (hrow.2 u hu).1) hj hn6 hcs (mPass_J (n + 1) o M0) (fun hmp => ?_) (fun _ _ => zperf (zbegin σ t 2 (nI j)) o t p) (fun h0 hp => ?_)
  · by_cases h6 : zth σ 6 t = 0
    · have hp0 : p = 0 := hmp.resolve_left (fun z => z (m10.trans h6))
      have hpf := perf_zero href hon (zbeg_6.trans h6) hp0
      rw [mRef_0 (m10.trans h6)]
      show mAP _ _ _ _ _ _ _ _ (some (yi (nI 2))) (mEnd _ t 2)
      have r2 := mR_end (h := 2) r1 ht
      rw [xar x0 rfl, ← hpf] at r2
      exact fin_no (x := nI 2) f4 (by rw [hpf]; exact zSd_end s1) has2 r2 (fun K j hK => by rw [mEnd_26 hK, mBeg_26 hK]; exact h26 K j hK) (by rw [hpf, zend_3])
    · have hpf := perf_mark (p := p) href hon (fun z => h6 (zbeg_6.symm.trans z))
      have hgv : zgave (zend (zsth (zbegin σ t 2 (nI j)) 6 t 0) t 4) o = zend (zsth (zbegin σ t 2 (nI j)) 6 t 0) t 4 := by
        unfold zgave
        exact if_neg (fun z => absurd (hk.symm.trans (show zkd σ o = 4 from z)) (by decide))
      rw [hgv] at hpf
      rw [mRef_1 (fun z => h6 (m10.symm.trans z)) (by decide)]
      show mAP _ _ _ _ _ _ _ _ (some (yi (nI 4))) (mEnd (yu _ 210 t 0) t 4)
      have r2 := mR_end (h := 4) (mR_mark (x := 0) (t := t) r1) ht
      rw [xar x0 rfl, ← hpf] at r2
      exact fin_no (x := nI 4) f4 (by rw [hpf]; exact zSd_end (zSd_mk s1)) has2 r2 (fun K j hK => by rw [mEnd_26 hK, yu_ne _ _ (by unfold mOut at hK; omega), mBeg_26 hK]; exact h26 K j hK) (by rw [hpf, zend_3])
  · have hpf := perf_hold (p := p) href hon (zbeg_6.trans (m10.symm.trans h0)) hp
    have hh : zhold (zbegin σ t 2 (nI j)) o t p = zjoinC (zbegin σ t 2 (nI j)) o t p := by
      show zholdC (zkd σ o) _ o t p = _
      rw [hk]
      show (if zth (zbegin σ t 2 (nI j)) 8 t = 2 then _ else _) = _
      rw [if_pos zbeg_8]
    rw [hh] at hpf
    have r2 := mR_wait (p := p) (n := (zrw σ (j + 1) o).length) r1 ho hk hj (by rw [zbeg_9]; exact hcj) rfl hn6 zbeg_8 zbeg_3 m11
    rw [xar x0 rfl, ← hpf] at r2
    refine ⟨⟨f4, r2, has2, ho2, ?_⟩, fun M' hM' => fin_pass (x := 1) f4 ho2 ?_ ?_ hM'⟩
    · intro K j9 hK
      rw [← h26 K j9 hK, ← mBeg_26 (M := M) (t := t) (a := 2) (g := nI j) hK]
      unfold mOut at hK
      unfold mWait
      (repeat first | rw [yu_ne _ _ (by omega)] | rw [mSft_at (by omega)])
    · rw [hpf]
      simp [zjoinC, zstay, gs_zth_zsth, gs_zpl_zsth, gs_zwh_zsth, gs_zho_zsth, gs_zrw_zsth, gs_zen_zsth, gs_zrd_zsth, gs_zqu_zsth, gs_zn_zsth, gs_zkd_zsth, gs_zcp_zsth, gs_ztk_zsth, gs_zth_zspl, gs_zpl_zspl, gs_zwh_zspl, gs_zho_zspl, gs_zrw_zspl, gs_zen_zspl, gs_zrd_zspl, gs_zqu_zspl, gs_zn_zspl, gs_zkd_zspl, gs_zcp_zspl, gs_ztk_zspl, gs_zth_zswh, gs_zpl_zswh, gs_zwh_zswh, gs_zho_zswh, gs_zrw_zswh, gs_zen_zswh, gs_zrd_zswh, gs_zqu_zswh, gs_zn_zswh, gs_zkd_zswh, gs_zcp_zswh, gs_ztk_zswh, gs_zth_zsho, gs_zpl_zsho, gs_zwh_zsho, gs_zho_zsho, gs_zrw_zsho, gs_zen_zsho, gs_zrd_zsho, gs_zqu_zsho, gs_zn_zsho, gs_zkd_zsho, gs_zcp_zsho, gs_ztk_zsho, gs_zth_zsrw, gs_zpl_zsrw, gs_zwh_zsrw, gs_zho_zsrw, gs_zrw_zsrw, gs_zen_zsrw, gs_zrd_zsrw, gs_zqu_zsrw, gs_zn_zsrw, gs_zkd_zsrw, gs_zcp_zsrw, gs_ztk_zsrw, gs_zth_zsen, gs_zpl_zsen, gs_zwh_zsen, gs_zho_zsen, gs_zrw_zsen, gs_zen_zsen, gs_zrd_zsen, gs_zqu_zsen, gs_zn_zsen, gs_zkd_zsen, gs_zcp_zsen, gs_ztk_zsen, gs_zth_zsrd, gs_zpl_zsrd, gs_zwh_zsrd, gs_zho_zsrd, gs_zrw_zsrd, gs_zen_zsrd, gs_zrd_zsrd, gs_zqu_zsrd, gs_zn_zsrd, gs_zkd_zsrd, gs_zcp_zsrd, gs_ztk_zsrd, gs_zth_zsqu, gs_zpl_zsqu, gs_zwh_zsqu, gs_zho_zsqu, gs_zrw_zsqu, gs_zen_zsqu, gs_zrd_zsqu, gs_zqu_zsqu, gs_zn_zsqu, gs_zkd_zsqu, gs_zcp_zsqu, gs_ztk_zsqu, gs_zth_zstk, gs_zpl_zstk, gs_zwh_zstk, gs_zho_zstk, gs_zrw_zstk, gs_zen_zstk, gs_zrd_zstk, gs_zqu_zstk, gs_zn_zstk, gs_zkd_zstk, gs_zcp_zstk, gs_ztk_zstk]
    · rw [hpf]
      refine Eq.trans ?_ (zbeg_3 (σ := σ) (t := t) (a := 2) (g := nI j))
      simp [zjoinC, zstay, gs_zth_zsth, gs_zpl_zsth, gs_zwh_zsth, gs_zho_zsth, gs_zrw_zsth, gs_zen_zsth, gs_zrd_zsth, gs_zqu_zsth, gs_zn_zsth, gs_zkd_zsth, gs_zcp_zsth, gs_ztk_zsth, gs_zth_zspl, gs_zpl_zspl, gs_zwh_zspl, gs_zho_zspl, gs_zrw_zspl, gs_zen_zspl, gs_zrd_zspl, gs_zqu_zspl, gs_zn_zspl, gs_zkd_zspl, gs_zcp_zspl, gs_ztk_zspl, gs_zth_zswh, gs_zpl_zswh, gs_zwh_zswh, gs_zho_zswh, gs_zrw_zswh, gs_zen_zswh, gs_zrd_zswh, gs_zqu_zswh, gs_zn_zswh, gs_zkd_zswh, gs_zcp_zswh, gs_ztk_zswh, gs_zth_zsho, gs_zpl_zsho, gs_zwh_zsho, gs_zho_zsho, gs_zrw_zsho, gs_zen_zsho, gs_zrd_zsho, gs_zqu_zsho, gs_zn_zsho, gs_zkd_zsho, gs_zcp_zsho, gs_ztk_zsho, gs_zth_zsrw, gs_zpl_zsrw, gs_zwh_zsrw, gs_zho_zsrw, gs_zrw_zsrw, gs_zen_zsrw, gs_zrd_zsrw, gs_zqu_zsrw, gs_zn_zsrw, gs_zkd_zsrw, gs_zcp_zsrw, gs_ztk_zsrw, gs_zth_zsen, gs_zpl_zsen, gs_zwh_zsen, gs_zho_zsen, gs_zrw_zsen, gs_zen_zsen, gs_zrd_zsen, gs_zqu_zsen, gs_zn_zsen, gs_zkd_zsen, gs_zcp_zsen, gs_ztk_zsen, gs_zth_zsrd, gs_zpl_zsrd, gs_zwh_zsrd, gs_zho_zsrd, gs_zrw_zsrd, gs_zen_zsrd, gs_zrd_zsrd, gs_zqu_zsrd, gs_zn_zsrd, gs_zkd_zsrd, gs_zcp_zsrd, gs_ztk_zsrd, gs_zth_zsqu, gs_zpl_zsqu, gs_zwh_zsqu, gs_zho_zsqu, gs_zrw_zsqu, gs_zen_zsqu, gs_zrd_zsqu, gs_zqu_zsqu, gs_zn_zsqu, gs_zkd_zsqu, gs_zcp_zsqu, gs_ztk_zsqu, gs_zth_zstk, gs_zpl_zstk, gs_zwh_zstk, gs_zho_zstk, gs_zrw_zstk, gs_zen_zstk, gs_zrd_zstk, gs_zqu_zstk, gs_zn_zstk, gs_zkd_zstk, gs_zcp_zstk, gs_ztk_zstk]
theorem c_act_arrive {G : yG} {s : Nat → Option ySh} {F : Nat → Nat → Option Nat} (hS : mSh s F) {n t o : Nat} {σ : zS} {M M0 : mM} {g p : Int32} {x6 x7 x8 : Option yV} (hR : mR0 n M0 σ M) (hn : n + 3 < 1000000) (ht : t < 6) (ho : o < zn σ) (hia : zisAct 13 g = true) (hip : zisPat p = true) (hyk : yst (13 : Int32).toNatClampNeg = nI (zkd σ o)) (h2 : zth σ 2 t = 0) (hal : zallows σ o t 13 g = true) (hk : zkd σ o = 4) : yWW G m_M_act (mQ G m_M_act s F (mAP n M0 σ o t 13 g p)) s 267 [some (yr 200), some (yi (nI t)), some (yi (nI o)), some (yi 13), some (yi g), some (yi p), x6, x7, x8] [] (mw s F (mBeg M t 13 g)) 0 0 := by
  obtain ⟨⟨⟨hv, hb, hn2⟩, hr, hsd⟩, h26⟩ := hR
  have ho6 : o < 6 := by have := hv.2.2.2.1; omega
  obtain ⟨f1, f2, f3, f4⟩ := zIF_J hn σ t o 13 g p ⟨hv, hb, hn2⟩ ht ho hia hip hyk h2 hal
  have v1 : zNv (xa x0 t) (zbegin σ t 13 g) := zNv_begin hv h2
  have b1 : zB (n + 1) (xa x0 t) (zbegin σ t 13 g) := zB_begin hb (by omega) ht
  have r1 : mR (xa x0 t) (zbegin σ t 13 g) (mBeg M t 13 g) := mR_begin hr
  have hid : t ∉ zrw σ 0 o := hv.idle h2 o 0 ho (Or.inl rfl)
  have s1 : zSd (zbegin σ t 13 g) o := zSd_beg (hsd o ho) hid
  have has : zAS o (zbegin σ t 13 g) := fun o' ho' _ => zSd_beg (hsd o' ho') (hv.idle h2 o' 0 ho' (Or.inl rfl))
  have has2 := (zFr_perf (σ := (zbegin σ t 13 g)) (o := o) (t := t) (p := p)).as has
  have ho2 : o < zn (zperf (zbegin σ t 13 g) o t p) := by rw [(zFr_perf (o := o)).2.2]; exact ho
  obtain ⟨g1, g2, g3, g4, g5, g6, g7, g8, gg9, g10, g11⟩ := r1.2.1.1 o ho
  have hrow := hv.2.1 o 0 ho (Or.inl rfl)
  have m6 : (mBeg M t 13 g) 206 t = 13 := by unfold mBeg; simp [yu]
  have m7 : (mBeg M t 13 g) 207 t = g := by unfold mBeg; simp [yu]
  have m11 : (mBeg M t 13 g) 211 t = 0 := by unfold mBeg; simp [yu]
  have m10 : (mBeg M t 13 g) 210 t = zth σ 6 t := (r1.1 t ht).2.1.trans zbeg_6
  have hp4 := hv.2.2.2.2.2 o ho
  have s2 : zSd (zperf (zbegin σ t 13 g) o t p) o := zSd_4 (by rw [zperf_n.2]; exact hk)
  have m223 : (mBeg M t 13 g) 223 o = zpl σ 4 o := by rw [g6]; exact if_pos hk
  have m213 : (mBeg M t 13 g) 213 o = nI (zcp σ o) := g2
  have hcmp : (mBeg M t 13 g) 213 o ≤ nI ((zrw σ 0 o).length + 1) ↔ zcp σ o ≤ (zrw σ 0 o).length + 1 := by
    rw [m213]
    exact nI_leI (by have := hp4.2.2.1; omega) (by omega)
  have hrow1 := v1.2.1 o 0 ho (Or.inl rfl)
  by_cases hbr : zpl σ 4 o = 0
  · have href : zrefuses (zbegin σ t 13 g) o t = false := by
      show zrefusesC (zkd σ o) (zbegin σ t 13 g) o t = false
      rw [hk]
      exact decide_eq_false (fun z => z.2 hbr)
    have hcan : zcan (zbegin σ t 13 g) o t = false := by
      show zcanC (zkd σ o) _ o t = false
      rw [hk]
      rfl
    by_cases hlt : zcp σ o ≤ (zrw σ 0 o).length + 1
    · have hon : zonce (zbegin σ t 13 g) o t = true := by
        unfold zonce
        have e1 : zpass (zbegin σ t 13 g) o t = true := by
          show zpassC (zkd σ o) (zbegin σ t 13 g) o t = true
          rw [hk]
          exact decide_eq_true (Or.inr (by show ¬ (zrw σ 0 o).length + 1 < zcp σ o; omega))
        rw [e1]
        rfl
      have hpf := perf_once (p := p) href hon
      have hg : zgrant (zbegin σ t 13 g) o t = zendAll o 0 (zrw σ 0 o).length (zbegin σ t 13 g) := by
        show zgrantC (zkd σ o) (zbegin σ t 13 g) o t = _
        rw [hk]
        show zgrantA (zbegin σ t 13 g) o t = _
        unfold zgrantA
        rw [if_neg (by rw [zbeg_8]; decide)]
        rfl
      rw [hg] at hpf
      have hA : mArr (mBeg M t 13 g) t o (zrw σ 0 o) = (0, mEnd (mBrk (mBeg M t 13 g) o (zrw σ 0 o) 0) t 0) := by
        unfold mArr
        rw [if_neg (fun z => z (m223.trans hbr)), if_neg (fun z => z (hcmp.mpr hlt))]
      have r2 := mR_end (h := 0) (mR_endAll (h := 0) r1 ho hrow1.1 (fun u hu => ⟨(hrow1.2 u hu).1, (hrow1.2 u hu).2.1⟩)) ht
      have r3 : mR x0 (zperf (zbegin σ t 13 g) o t p) (mEnd (mBrk (mBeg M t 13 g) o (zrw σ 0 o) 0) t 0) := by
        rw [xar x0 rfl] at r2
        rw [hpf]
        exact r2
      refine c_M_act_267a hS ht ho6 (l := zrw σ 0 o) g7 g5 g8 (fun u hu => (hrow.2 u hu).1) f2 ?_ ?_ ?_ ?_ <;> rw [hA]
      · exact fun z => absurd z (show ¬ (0 : Int32) < 0 by decide)
      · exact fun _ => fin_no (M' := mEnd (mBrk (mBeg M t 13 g) o (zrw σ 0 o) 0) t 0) (x := 0) f4 s2 has2 r3 (fun K j hK => by rw [mEnd_26 hK, mBrk_26 hK, mBeg_26 hK]; exact h26 K j hK) (by rw [hpf, zend_3]; rfl)
      · exact fun z => absurd z (show ¬ (0 : Int32) < 0 by decide)
      · exact fun z => absurd z (show ¬ (0 : Int32) < 0 by decide)
    · have hon : zonce (zbegin σ t 13 g) o t = false := by
        have e1 : zpass (zbegin σ t 13 g) o t = false := by
          show zpassC (zkd σ o) (zbegin σ t 13 g) o t = false
          rw [hk]
          refine decide_eq_false (fun z => ?_)
          rcases z with z | z
          · rw [zbeg_8] at z; exact absurd z (by decide)
          · have z : ¬ (zrw σ 0 o).length + 1 < zcp σ o := z
            omega
        unfold zonce
        rw [e1, hcan]
        rfl
      have hA : mArr (mBeg M t 13 g) t o (zrw σ 0 o) = (-1, mBeg M t 13 g) := by
        unfold mArr
        rw [if_neg (fun z => z (m223.trans hbr)), if_pos (fun z => hlt (hcmp.mp z))]
      refine c_M_act_267a hS ht ho6 (l := zrw σ 0 o) g7 g5 g8 (fun u hu => (hrow.2 u hu).1) f2 ?_ ?_ ?_ ?_ <;> rw [hA]
      · exact fun _ => rfl
      · exact fun z => absurd (show (-1 : Int32) < 0 by decide) z
      · intro _ hmp
        by_cases h6 : zth σ 6 t = 0
        · have hp0 : p = 0 := hmp.resolve_left (fun z => z (m10.trans h6))
          have hpf := perf_zero href hon (zbeg_6.trans h6) hp0
          rw [mRef_0 (m10.trans h6)]
          show mAP _ _ _ _ _ _ _ _ (some (yi (nI 2))) (mEnd _ t 2)
          have r2 := mR_end (h := 2) r1 ht
          rw [xar x0 rfl, ← hpf] at r2
          exact fin_no (x := nI 2) f4 s2 has2 r2 (fun K j hK => by rw [mEnd_26 hK, mBeg_26 hK]; exact h26 K j hK) (by rw [hpf, zend_3])
        · have hpf := perf_mark (p := p) href hon (fun z => h6 (zbeg_6.symm.trans z))
          have hge := zgave_end (σ := zsth (zbegin σ t 13 g) 6 t 0) (o := o) (t := t) (h := 4) hk hrow.1 hid
          rw [hge] at hpf
          rw [mRef_13 (fun z => h6 (m10.symm.trans z))]
          show mAP _ _ _ _ _ _ _ _ (some (yi (nI 4))) (mEnd (mBrk (yu (yu _ 210 t 0) 223 o 1) o _ 3) t 4)
          have r0 := mR_mark (x := 0) (t := t) r1
          have r2 : mR (xa x0 t) (zspl (zsth (zbegin σ t 13 g) 6 t 0) 4 o 1) (yu (yu (mBeg M t 13 g) 210 t 0) 223 o 1) := by
            refine ⟨mRT_same r0.1 rfl rfl (fun K a b => ?_), mRP_brk r0.2.1 ho hk, mRG_pl r0.2.2 rfl rfl rfl ?_ ?_⟩ <;> (funext j; (repeat first | rw [yu_ne _ _ (by omega)] | rw [mSft_at (by omega)]))
          have r3 := mR_end (h := 4) (mR_endAll (h := 3) r2 ho hrow1.1 (fun u hu => ⟨(hrow1.2 u hu).1, (hrow1.2 u hu).2.1⟩)) ht
          rw [xar x0 rfl] at r3
          have r4 : mR x0 (zperf (zbegin σ t 13 g) o t p) (mEnd (mBrk (yu (yu (mBeg M t 13 g) 210 t 0) 223 o 1) o (zrw σ 0 o) 3) t 4) := by
            rw [hpf]
            exact r3
          exact fin_no (x := nI 4) f4 s2 has2 r4 (fun K j hK => by
            rw [mEnd_26 hK, mBrk_26 hK, yu_ne _ _ (by unfold mOut at hK; omega), yu_ne _ _ (by unfold mOut at hK; omega), mBeg_26 hK]
            exact h26 K j hK) (by rw [hpf, zend_3])
      · intro _ h0 hp
        have hpf := perf_hold (p := p) href hon (zbeg_6.trans (m10.symm.trans h0)) hp
        have hh : zhold (zbegin σ t 13 g) o t p = zjoin (zbegin σ t 13 g) o t p := by
          show zholdC (zkd σ o) _ o t p = _
          rw [hk]
          rfl
        rw [hh] at hpf
        have r2 := mR_join (p := p) r1 ho rfl f2 (by rw [zbeg_8]; decide) zbeg_3 (m6.trans zbeg_8.symm) (m7.trans zbeg_9.symm) m11
        rw [xar x0 rfl, ← hpf] at r2
        exact fin_no (x := 1) f4 s2 has2 r2 (fun K j hK => by rw [mEnter_26 hK, mBeg_26 hK]; exact h26 K j hK) (by
          rw [hpf]
          refine Eq.trans ?_ (zbeg_3 (σ := σ) (t := t) (a := 13) (g := g))
          simp [zjoin, zstay, gs_zth_zsth, gs_zpl_zsth, gs_zwh_zsth, gs_zho_zsth, gs_zrw_zsth, gs_zen_zsth, gs_zrd_zsth, gs_zqu_zsth, gs_zn_zsth, gs_zkd_zsth, gs_zcp_zsth, gs_ztk_zsth, gs_zth_zspl, gs_zpl_zspl, gs_zwh_zspl, gs_zho_zspl, gs_zrw_zspl, gs_zen_zspl, gs_zrd_zspl, gs_zqu_zspl, gs_zn_zspl, gs_zkd_zspl, gs_zcp_zspl, gs_ztk_zspl, gs_zth_zswh, gs_zpl_zswh, gs_zwh_zswh, gs_zho_zswh, gs_zrw_zswh, gs_zen_zswh, gs_zrd_zswh, gs_zqu_zswh, gs_zn_zswh, gs_zkd_zswh, gs_zcp_zswh, gs_ztk_zswh, gs_zth_zsho, gs_zpl_zsho, gs_zwh_zsho, gs_zho_zsho, gs_zrw_zsho, gs_zen_zsho, gs_zrd_zsho, gs_zqu_zsho, gs_zn_zsho, gs_zkd_zsho, gs_zcp_zsho, gs_ztk_zsho, gs_zth_zsrw, gs_zpl_zsrw, gs_zwh_zsrw, gs_zho_zsrw, gs_zrw_zsrw, gs_zen_zsrw, gs_zrd_zsrw, gs_zqu_zsrw, gs_zn_zsrw, gs_zkd_zsrw, gs_zcp_zsrw, gs_ztk_zsrw, gs_zth_zsen, gs_zpl_zsen, gs_zwh_zsen, gs_zho_zsen, gs_zrw_zsen, gs_zen_zsen, gs_zrd_zsen, gs_zqu_zsen, gs_zn_zsen, gs_zkd_zsen, gs_zcp_zsen, gs_ztk_zsen, gs_zth_zsrd, gs_zpl_zsrd, gs_zwh_zsrd, gs_zho_zsrd, gs_zrw_zsrd, gs_zen_zsrd, gs_zrd_zsrd, gs_zqu_zsrd, gs_zn_zsrd, gs_zkd_zsrd, gs_zcp_zsrd, gs_ztk_zsrd, gs_zth_zsqu, gs_zpl_zsqu, gs_zwh_zsqu, gs_zho_zsqu, gs_zrw_zsqu, gs_zen_zsqu, gs_zrd_zsqu, gs_zqu_zsqu, gs_zn_zsqu, gs_zkd_zsqu, gs_zcp_zsqu, gs_ztk_zsqu, gs_zth_zstk, gs_zpl_zstk, gs_zwh_zstk, gs_zho_zstk, gs_zrw_zstk, gs_zen_zstk, gs_zrd_zstk, gs_zqu_zstk, gs_zn_zstk, gs_zkd_zstk, gs_zcp_zstk, gs_ztk_zstk])
  · have href : zrefuses (zbegin σ t 13 g) o t = true := by
      show zrefusesC (zkd σ o) (zbegin σ t 13 g) o t = true
      rw [hk]
      exact decide_eq_true ⟨zbeg_8, hbr⟩
    have hpf : zperf (zbegin σ t 13 g) o t p = zend (zbegin σ t 13 g) t 3 := by
      unfold zperf
      rw [if_pos href]
    have hA : mArr (mBeg M t 13 g) t o (zrw σ 0 o) = (3, mEnd (mBeg M t 13 g) t 3) := by
      unfold mArr
      rw [if_pos (fun z => hbr (m223.symm.trans z))]
    have r2 := mR_end (h := 3) r1 ht
    rw [xar x0 rfl, ← hpf] at r2
    refine c_M_act_267a hS ht ho6 (l := zrw σ 0 o) g7 g5 g8 (fun u hu => (hrow.2 u hu).1) f2 ?_ ?_ ?_ ?_ <;> rw [hA]
    · exact fun z => absurd z (show ¬ (3 : Int32) < 0 by decide)
    · exact fun _ => fin_no (M' := mEnd (mBeg M t 13 g) t 3) (x := 3) f4 s2 has2 r2 (fun K j hK => by rw [mEnd_26 hK, mBeg_26 hK]; exact h26 K j hK) (by rw [hpf, zend_3]; rfl)
    · exact fun z => absurd z (show ¬ (3 : Int32) < 0 by decide)
    · exact fun z => absurd z (show ¬ (3 : Int32) < 0 by decide)
