/-! a new place, and the start: both sides -/
theorem zmk_at {σ : zS} {c s : Nat} : zkd (zmk σ c s) (zn σ) = c ∧ zcp (zmk σ c s) (zn σ) = s ∧ zho (zmk σ c s) (zn σ) = none ∧ (∀ j, zrw (zmk σ c s) j (zn σ) = []) ∧ (∀ f, zpl (zmk σ c s) f (zn σ) = if f = 3 then nI s else 0) ∧ (∀ t, zrd (zmk σ c s) (zn σ) t = 0) ∧ zqu (zmk σ c s) (zn σ) = [] :=
  ⟨va_up_self _ _ _, va_up_self _ _ _, va_up_self _ _ _, fun j => if_pos rfl, fun f => if_pos rfl, fun t => if_pos rfl, va_up_self _ _ _⟩
theorem zmk_oth {σ : zS} {c s o : Nat} (h : ¬ o = zn σ) : zSp σ (zmk σ c s) o :=
  ⟨va_up_ne _ _ h, va_up_ne _ _ h, fun j => if_neg h, va_up_ne _ _ h, fun f => if_neg h, fun t => if_neg h, va_up_ne _ _ h⟩
theorem zNv_mk {σ : zS} {c s : Nat} (h : zNv x0 σ) (hc : c < 6) (hs1 : 1 ≤ s) (hs : s ≤ 3) (hn : zn σ < 6) : zNv x0 (zmk σ c s) := by
  obtain ⟨h1, h2, h3, h4, h5, h6⟩ := h
  obtain ⟨k1, k2, k3, k4, k5, k6, k7⟩ := zmk_at (σ := σ) (c := c) (s := s)
  have hnn : zn (zmk σ c s) = zn σ + 1 := rfl
  refine ⟨fun t ht hX => ?_, fun o j ho hj => ?_, fun o j t ho hj ht => ?_, ?_, h5, fun o ho => ?_⟩
  · rcases h1 t ht hX with z | ⟨a1, o, a2, a3, a4, a5⟩ | ⟨a1, o, a2, a3, a4, a5, a6⟩
    · exact Or.inl z
    · have e := zmk_oth (σ := σ) (c := c) (s := s) (o := o) (by omega)
      exact Or.inr (Or.inl ⟨a1, o, a2, by omega, by rw [e.2.2.1]; exact a4, by rw [e.1]; exact a5⟩)
    · have e := zmk_oth (σ := σ) (c := c) (s := s) (o := o) (by omega)
      exact Or.inr (Or.inr ⟨a1, o, a2, by omega, by rw [e.1]; exact a4, a5, by rw [e.2.2.1]; exact a6⟩)
  · by_cases e : o = zn σ
    · subst e
      rw [k4]
      exact ⟨List.nodup_nil, fun t ht => nomatch ht⟩
    · have e9 := zmk_oth (σ := σ) (c := c) (s := s) e
      rw [e9.1] at hj
      rw [e9.2.2.1]
      exact h2 o j (by omega) hj
  · by_cases e : o = zn σ
    · subst e
      rw [k4] at ht
      exact nomatch ht
    · have e9 := zmk_oth (σ := σ) (c := c) (s := s) e
      rw [e9.1] at hj
      rw [e9.2.2.1] at ht
      rw [e9.2.2.2.1]
      exact h3 o j t (by omega) hj ht
  · rw [hnn]; omega
  · by_cases e : o = zn σ
    · subst e
      refine ⟨by rw [k1]; exact hc, by rw [k2]; exact hs1, by rw [k2]; exact hs, fun t ht => ?_, fun _ => k3, fun _ => ?_, fun _ => ⟨fun u _ => ?_, ?_, fun w hw => ?_⟩, fun _ => Or.inl ?_, fun _ => ?_⟩
      · rw [k3] at ht; cases ht
      · rw [k5]; rfl
      · rw [k6]; decide
      · rw [k5]
        show (0 : Int32) = _
        exact Eq.trans (by decide : (0 : Int32) = zsum (fun _ => (0 : Int32)) 6) (zsum_ext 6 (fun u _ => (k6 u).symm))
      · rw [k3] at hw; cases hw
      · rw [k5]; rfl
      · rw [k7]; exact Nat.zero_le _
    · obtain ⟨s1, s2, s3, s4, s5, s6, s7⟩ := zmk_oth (σ := σ) (c := c) (s := s) e
      have s6 : zrd (zmk σ c s) o = zrd σ o := funext s6
      have h9 := h6 o (by omega)
      unfold zPp1 zBk at h9 ⊢
      rw [s1, s2, s4, s5, s5, s6, s7]
      exact h9
theorem zB_mk {n : Nat} {σ : zS} {c s : Nat} (h : zB n x0 σ) (hn : 6 ≤ n) : zB n x0 (zmk σ c s) := by
  refine ⟨h.1, fun o ho hk => ?_⟩
  by_cases e : o = zn σ
  · subst e
    have e1 : zsN (fun u => (zrd (zmk σ c s) (zn σ) u).toNatClampNeg) 6 = 0 := zsN_z 6 (fun u hu => by
      show (zrd (zmk σ c s) (zn σ) u).toNatClampNeg = 0
      rw [zmk_at.2.2.2.2.2.1]
      rfl)
    rw [e1]
    have h9 : ∀ (f : Nat → Bool) (m : Nat), zcN f m ≤ m := by
      intro f m
      induction m with
      | zero => exact Nat.le_refl _
      | succ m ih =>
        show zcN f m + _ ≤ m + 1
        split <;> omega
    have := h9 (fun u => x0 u || !decide (zth (zmk σ c s) 2 u = 0)) 6
    omega
  · have e9 := zmk_oth (σ := σ) (c := c) (s := s) e
    have hnn : zn (zmk σ c s) = zn σ + 1 := rfl
    rw [e9.1] at hk
    have h8 := h.2 o (by omega) hk
    rw [show zrd (zmk σ c s) o = zrd σ o from funext e9.2.2.2.2.2.1]
    exact h8
theorem zSd_mkp {σ : zS} {c s : Nat} (h : ∀ o, o < zn σ → zSd σ o) : ∀ o, o < zn (zmk σ c s) → zSd (zmk σ c s) o := by
  intro o ho
  by_cases e : o = zn σ
  · subst e
    intro i u hi
    rw [zmk_at.2.2.2.1] at hi
    simp at hi
  · have hnn : zn (zmk σ c s) = zn σ + 1 := rfl
    exact zSd_cg (h o (by omega)) (zmk_oth e) (fun u _ => ⟨rfl, rfl⟩)
theorem mR_make {σ : zS} {M : mM} {c s : Nat} (hr : mR x0 σ M) (hc : c < 6) (hn : zn σ < 6) : mR x0 (zmk σ c s) (mMake M c s (zn σ)) := by
  obtain ⟨k1, k2, k3, k4, k5, k6, k7⟩ := zmk_at (σ := σ) (c := c) (s := s)
  have hnn : zn (zmk σ c s) = zn σ + 1 := rfl
  obtain ⟨z1, z2, z3, z4⟩ := hr.2.1.2 (zn σ) (Nat.le_refl _) hn
  unfold mMake
  generalize hx : (if nI c = 2 ∨ nI c = 3 then nI s else 0) = x
  have hsm : ∀ o', ¬ o' = zn σ → mSm M (yu (yu (yu (yu (yu (yu M 200 26 0) 212 (zn σ) (nI c)) 213 (zn σ) (nI s)) 214 (zn σ) x) 215 (zn σ) (-1)) 200 23 (nI (zn σ + 1))) o' := fun o' e => ⟨by (repeat first | rw [yu_ne _ _ (by omega)] | rw [mSft_at (by omega)]), by (repeat first | rw [yu_ne _ _ (by omega)] | rw [mSft_at (by omega)]), by (repeat first | rw [yu_ne _ _ (by omega)] | rw [mSft_at (by omega)]), by (repeat first | rw [yu_ne _ _ (by omega)] | rw [mSft_at (by omega)]), by (repeat first | rw [yu_ne _ _ (by omega)] | rw [mSft_at (by omega)]), by (repeat first | rw [yu_ne _ _ (by omega)] | rw [mSft_at (by omega)]), fun j hj => by (repeat first | rw [yu_ne _ _ (by omega)] | rw [mSft_at (by omega)]), fun c hc => by (repeat first | rw [yu_ne _ _ (by omega)] | rw [mSft_at (by omega)]), fun c j hc hj => by (repeat first | rw [yu_ne _ _ (by omega)] | rw [mSft_at (by omega)]), fun j hj => by (repeat first | rw [yu_ne _ _ (by omega)] | rw [mSft_at (by omega)]), fun j hj => by (repeat first | rw [yu_ne _ _ (by omega)] | rw [mSft_at (by omega)])⟩
  refine ⟨mRT_same hr.1 rfl rfl (fun K a b => ?_), ⟨fun o ho => ?_, fun o ho h6 => ?_⟩, fun q hq => ?_, ?_, ?_⟩
  · funext j; (repeat first | rw [yu_ne _ _ (by omega)] | rw [mSft_at (by omega)])
  · by_cases e : o = zn σ
    · subst e
      refine ⟨?_, ?_, ?_, ?_, ?_, ?_, ?_, ?_, fun c9 hc9 => ?_, fun u hu => ?_, fun hk5 => ?_⟩
      · (repeat first | rw [yu_ne _ _ (by omega)] | rw [mSft_at (by omega)])
        rw [yu_same, k1]
      · (repeat first | rw [yu_ne _ _ (by omega)] | rw [mSft_at (by omega)])
        rw [yu_same, k2]
      · (repeat first | rw [yu_ne _ _ (by omega)] | rw [mSft_at (by omega)])
        rw [yu_same]
        unfold zamt
        rw [k1, ← hx]
        rcases (show c = 0 ∨ c = 1 ∨ c = 2 ∨ c = 3 ∨ c = 4 ∨ c = 5 by omega) with rfl | rfl | rfl | rfl | rfl | rfl
        · rw [if_neg (by decide)]; exact (k5 6).symm
        · rw [if_neg (by decide)]; exact (k5 6).symm
        · rw [if_pos (by decide)]; exact (k5 3).symm
        · rw [if_pos (by decide)]; exact (k5 3).symm
        · rw [if_neg (by decide)]; rfl
        · rw [if_neg (by decide)]
          show 0 = nI (zqu (zmk σ 5 s) (zn σ)).length
          rw [k7]; rfl
      · (repeat first | rw [yu_ne _ _ (by omega)] | rw [mSft_at (by omega)])
        rw [yu_same, k3]; rfl
      · (repeat first | rw [yu_ne _ _ (by omega)] | rw [mSft_at (by omega)])
        rw [k4, z1]; rfl
      · (repeat first | rw [yu_ne _ _ (by omega)] | rw [mSft_at (by omega)])
        rw [z4, k5]
        split <;> rfl
      · rw [k4]; decide
      · rw [k4]; exact fun j hj => absurd hj (Nat.not_lt_zero j)
      · have e9 : zcr (zmk σ c s) c9 (zn σ) = [] := by
          unfold zcr
          rw [k4]
          split <;> rfl
        rw [e9]
        refine ⟨?_, by decide, fun j hj => absurd hj (Nat.not_lt_zero j)⟩
        (repeat first | rw [yu_ne _ _ (by omega)] | rw [mSft_at (by omega)])
        rw [z2 c9 hc9]; rfl
      · (repeat first | rw [yu_ne _ _ (by omega)] | rw [mSft_at (by omega)])
        rw [z3 u hu, k6]
        split <;> rfl
      · simp only [k7]
        exact ⟨by decide, fun j hj => absurd hj (Nat.not_lt_zero j)⟩
    · exact mRp_same (hr.2.1.1 o (by omega)) (zmk_oth e) (hsm o e)
  · exact mRz_same (hr.2.1.2 o (by omega) h6) (hsm o (by omega))
  · (repeat first | rw [yu_ne _ _ (by omega)] | rw [mSft_at (by omega)])
    exact hr.2.2.1 q hq
  · exact yu_same _ _ _ _
  · (repeat first | rw [yu_ne _ _ (by omega)] | rw [mSft_at (by omega)])
    exact hr.2.2.2.2
theorem mRS_make {n : Nat} {σ : zS} {M : mM} {c s : Nat} (h : mRS n σ M) (h6 : 6 ≤ n) (hc : c < 6) (hs1 : 1 ≤ s) (hs : s ≤ 3) (hn : zn σ < 6) : mR0 n (yu M 200 26 0) (zmk σ c s) (mMake M c s (zn σ)) := by
  refine ⟨⟨⟨zNv_mk h.1.1 hc hs1 hs hn, zB_mk h.1.2.1 h6, h.1.2.2⟩, mR_make h.2.1 hc hn, zSd_mkp h.2.2⟩, fun K j hK => ?_⟩
  unfold mOut at hK
  unfold mMake
  (repeat first | rw [yu_ne _ _ (by omega)] | rw [mSft_at (by omega)])
theorem mRS_up {n m : Nat} {σ : zS} {M : mM} (h : mRS n σ M) (hm : n ≤ m) (hm2 : m + 2 < 1000000) : mRS m σ M := ⟨⟨h.1.1, h.1.2.1.mono hm (by omega), hm2⟩, h.2⟩
theorem mIni_at {M : mM} : ∀ q, (∀ j, j < q → mIni M q 203 j = -1 ∧ mIni M q 205 j = -1) ∧ (∀ K j, ¬ K = 203 → ¬ K = 205 → mIni M q K j = M K j)
  | 0 => ⟨fun j hj => absurd hj (Nat.not_lt_zero _), fun K j _ _ => rfl⟩
  | q + 1 => by
    obtain ⟨h1, h2⟩ := mIni_at (M := M) q
    refine ⟨fun j hj => ?_, fun K j a b => ?_⟩
    · show yu (yu (mIni M q) 203 q (-1)) 205 q (-1) 203 j = -1 ∧ yu (yu (mIni M q) 203 q (-1)) 205 q (-1) 205 j = -1
      by_cases e : j = q
      · subst e
        rw [yu_same, yu_ne _ _ (by omega), yu_same]
        exact ⟨rfl, rfl⟩
      · rw [yu_ne _ _ (by omega), yu_ne _ _ (by omega), yu_ne _ _ (by omega), yu_ne _ _ (by omega)]
        exact h1 j (by omega)
    · show yu (yu (mIni M q) 203 q (-1)) 205 q (-1) K j = _
      rw [yu_ne _ _ (by omega), yu_ne _ _ (by omega)]
      exact h2 K j a b
theorem mRS_start {M : mM} (h200 : M 200 = fun _ => 0) (hz : ∀ b, b < 23 → M (201 + b) = fun _ => 0) : mRS 6 zs0 (mIni M 6) := by
  have hk : ∀ K j, 200 ≤ K → K < 224 → ¬ K = 203 → ¬ K = 205 → mIni M 6 K j = 0 := fun K j a b c d => by
    rw [(mIni_at 6).2 K j c d]
    by_cases e : K = 200
    · rw [e, h200]
    · have h9 := hz (K - 201) (by omega)
      rw [show 201 + (K - 201) = K by omega] at h9
      rw [h9]
  refine ⟨⟨⟨fun t ht _ => Or.inl ⟨rfl, rfl, rfl⟩, fun o j ho => absurd ho (Nat.not_lt_zero _), fun o j t ho => absurd ho (Nat.not_lt_zero _), by decide, fun t ht => Or.inl rfl, fun o ho => absurd ho (Nat.not_lt_zero _)⟩, ⟨by decide, fun o ho => absurd ho (Nat.not_lt_zero _)⟩, by decide⟩, ⟨fun t ht => ?_, ⟨fun o ho => absurd ho (Nat.not_lt_zero _), fun o ho h6 => ?_⟩, fun q hq => ?_, ?_, ?_⟩, fun o ho => absurd ho (Nat.not_lt_zero _)⟩
  · obtain ⟨a1, a2⟩ := (mIni_at (M := M) 6).1 t ht
    refine ⟨?_, ?_, fun _ => ⟨?_, ?_, ?_, ?_, ?_, fun z => ?_, fun z => ?_, fun z => ?_, fun z => ?_⟩⟩
    · rw [hk _ _ (by decide) (by decide) (by decide) (by decide)]; rfl
    · rw [hk _ _ (by decide) (by decide) (by decide) (by decide)]; rfl
    · rw [hk _ _ (by decide) (by decide) (by decide) (by decide)]; rfl
    · rw [hk _ _ (by decide) (by decide) (by decide) (by decide)]; rfl
    · rw [a1]; rfl
    · rw [a2]; rfl
    · rw [hk _ _ (by decide) (by decide) (by decide) (by decide)]; rfl
    · exact absurd (show (0 : Int32) = 1 from z) (by decide)
    · exact absurd (show (0 : Int32) = 1 from z) (by decide)
    · exact absurd rfl z
    · exact absurd (show (0 : Int32) = 1 from z) (by decide)
  · refine ⟨hk _ _ (by decide) (by decide) (by decide) (by decide), fun c hc => hk _ _ (by decide) (by decide) (by decide) (by decide), fun u hu => hk _ _ (by decide) (by decide) (by decide) (by decide), hk _ _ (by decide) (by decide) (by decide) (by decide)⟩
  · rw [hk _ _ (by decide) (by decide) (by decide) (by decide)]
    show 0 = zsum (fun t => zen zs0 t q) 6
    exact Eq.trans (by decide : (0 : Int32) = zsum (fun _ => (0 : Int32)) 6) (zsum_ext 6 (fun u _ => rfl))
  · exact hk _ _ (by decide) (by decide) (by decide) (by decide)
  · exact hk _ _ (by decide) (by decide) (by decide) (by decide)
theorem zNv.brk {X : Nat → Bool} {σ : zS} (h : zNv X σ) : ∀ o, o < zn σ → zkd σ o = 4 → narrow .boolean (.int (zpl σ 4 o)) = .int (zpl σ 4 o) := fun o ho hk => by
  rcases (h.2.2.2.2.2 o ho).2.2.2.2.2.2.2.1 hk with z | z <;> rw [z] <;> rfl
