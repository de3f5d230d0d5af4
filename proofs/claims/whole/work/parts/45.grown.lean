def zmk (σ : zS) (c s : Nat) : zS := (zth σ, fun f o => if o = zn σ then (if f = 3 then nI s else 0) else zpl σ f o, zwh σ, va_up (zho σ) (zn σ) none, fun j o => if o = zn σ then [] else zrw σ j o, zen σ, fun o t => if o = zn σ then 0 else zrd σ o t, va_up (zqu σ) (zn σ) [], zn σ + 1, va_up (zkd σ) (zn σ) c, va_up (zcp σ) (zn σ) s, ztk σ)
def wRz (w : yW) (k : Nat) : Prop := w.1 k = some (.inl 2) ∧ w.1 (k + 1) = some (.inr (3, 6)) ∧ w.2.1 k 1 = 0 ∧ w.2.2 k 0 = some (k + 1)
theorem wRz.R {w : yW} {k : Nat} (h : wRz w k) : zR [] w k := ⟨by simp, by simp, h.2.2.1, h.2.2.2, fun j hj => absurd hj (by simp)⟩
theorem wK_val {ω : yW} {k : Nat} {n : Int32} : (wK (yadd ω k (.inl 3)) k n).2.1 k 0 = 0 ∧ (wK (yadd ω k (.inl 3)) k n).2.1 k 1 = n ∧ (wK (yadd ω k (.inl 3)) k n).2.2 k 2 = some (k + 1) ∧ wRz (wK (yadd ω k (.inl 3)) k n) (k + 1) ∧ (wK (yadd ω k (.inl 3)) k n).2.2 k 3 = some (k + 3) ∧ (wK (yadd ω k (.inl 3)) k n).2.2 k 4 = some (k + 5) ∧ (wK (yadd ω k (.inl 3)) k n).2.2 k 5 = none ∧ (wK (yadd ω k (.inl 3)) k n).2.1 k 6 = 0 ∧ wRz (wK (yadd ω k (.inl 3)) k n) (k + 3) ∧ wRz (wK (yadd ω k (.inl 3)) k n) (k + 5) := by
  unfold wRz
  simp [wK, wB, wQ, wV, wNewRow, wRow, wPlace, ysf, ysi, yadd, yu, va_up, Nat.add_assoc]
theorem wB_val {ω : yW} {k : Nat} {n : Int32} : (wB (yadd ω k (.inl 4)) k n).2.1 k 0 = 1 ∧ (wB (yadd ω k (.inl 4)) k n).2.1 k 1 = n ∧ (wB (yadd ω k (.inl 4)) k n).2.2 k 2 = some (k + 1) ∧ wRz (wB (yadd ω k (.inl 4)) k n) (k + 1) ∧ (wB (yadd ω k (.inl 4)) k n).2.2 k 3 = some (k + 7) ∧ (wB (yadd ω k (.inl 4)) k n).2.1 k 4 = 0 ∧ (wB (yadd ω k (.inl 4)) k n).2.2 k 5 = none ∧ (wB (yadd ω k (.inl 4)) k n).2.1 k 6 = 0 ∧ (∀ t, (wB (yadd ω k (.inl 4)) k n).2.1 (k + 7) t = 0) ∧ (wB (yadd ω k (.inl 4)) k n).1 (k + 7) = some (.inr (0, 6)) := by
  unfold wRz
  simp [wK, wB, wQ, wV, wNewRow, wRow, wPlace, ysf, ysi, yadd, yu, va_up, Nat.add_assoc]
theorem wV_val {ω : yW} {k ci : Nat} {c n s : Int32} : (wV (yadd ω k (.inl ci)) k c n s).2.1 k 0 = c ∧ (wV (yadd ω k (.inl ci)) k c n s).2.1 k 1 = n ∧ (wV (yadd ω k (.inl ci)) k c n s).2.2 k 2 = some (k + 1) ∧ wRz (wV (yadd ω k (.inl ci)) k c n s) (k + 1) ∧ (wV (yadd ω k (.inl ci)) k c n s).2.1 k 3 = s ∧ (wV (yadd ω k (.inl ci)) k c n s).2.1 k 4 = 0 := by
  unfold wRz
  simp [wK, wB, wQ, wV, wNewRow, wRow, wPlace, ysf, ysi, yadd, yu, va_up, Nat.add_assoc]
theorem wQ_val {ω : yW} {k s : Nat} {n : Int32} : (wQ (yadd ω k (.inl 8)) k n s).2.1 k 0 = 5 ∧ (wQ (yadd ω k (.inl 8)) k n s).2.1 k 1 = n ∧ (wQ (yadd ω k (.inl 8)) k n s).2.2 k 2 = some (k + 1) ∧ wRz (wQ (yadd ω k (.inl 8)) k n s) (k + 1) ∧ (wQ (yadd ω k (.inl 8)) k n s).2.2 k 3 = some (k + 7) ∧ (wQ (yadd ω k (.inl 8)) k n s).2.1 k 4 = 0 ∧ (wQ (yadd ω k (.inl 8)) k n s).1 (k + 7) = some (.inr (0, s)) := by
  unfold wRz
  simp [wK, wB, wQ, wV, wNewRow, wRow, wPlace, ysf, ysi, yadd, yu, va_up, Nat.add_assoc]
/-- the shapes of a new place -/
theorem wMk_row {ω : yW} {c o s : Nat} (hc : c < 6) : wRz (wMk ω c o s) (kP o + 1) := by
  rcases (show c = 0 ∨ c = 1 ∨ c = 2 ∨ c = 3 ∨ c = 4 ∨ c = 5 by omega) with rfl | rfl | rfl | rfl | rfl | rfl
  · exact wK_val.2.2.2.1
  · exact wB_val.2.2.2.1
  · exact wV_val.2.2.2.1
  · exact wV_val.2.2.2.1
  · exact wV_val.2.2.2.1
  · exact wQ_val.2.2.2.1
theorem wMake_o {ω : yW} {c o s : Nat} (hc : c < 6) (j : Nat) (h : j < kP o ∨ kP o + 7 < j) (h0 : j ≠ 0) (h2 : j ≠ 2) : (wMake ω c o s).2.1 j = ω.2.1 j ∧ (wMake ω c o s).2.2 j = ω.2.2 j :=
  ⟨(ysi_ho _ 0 2 _ j h0).1.trans (wMk_o hc j h).1, (ysf_ho _ 2 o _ j h2).2.trans (wMk_o hc j h).2⟩
theorem wMake_n {ω : yW} {c o s : Nat} (j : Nat) (h : kP o ≤ j) : (wMake ω c o s).2.1 j = (wMk ω c o s).2.1 j ∧ (wMake ω c o s).2.2 j = (wMk ω c o s).2.2 j :=
  ⟨(ysi_ho _ 0 2 _ j (by unfold kP at h; omega)).1, (ysf_ho _ 2 o _ j (by unfold kP at h; omega)).2⟩
theorem wRz.make {ω : yW} {c o s k : Nat} (h : wRz (wMk ω c o s) k) (hk : kP o ≤ k) : wRz (wMake ω c o s) k := by
  refine ⟨h.1, h.2.1, ?_, ?_⟩
  · rw [(wMake_n k hk).1]; exact h.2.2.1
  · rw [(wMake_n k hk).2]; exact h.2.2.2
set_option maxHeartbeats 4000000 in
theorem zC_make {σ : zS} {μ ω : yW} {c s : Nat} (h : zC σ μ ω) (hc : c < 6) (hs1 : 1 ≤ s) (hs : s ≤ 3) (hn : zn σ < 6) : zC (zmk σ c s) (wMake ω c (zn σ) s) (wMake ω c (zn σ) s) := by
  have hcl := h.cl
  obtain ⟨⟨a1, a2, a3, a4, a5, a6⟩, b2, b3, b4, b5, b6, b7, b8, b9, b10, b11, -⟩ := h
  have sh : ∀ j, (j < kP (zn σ) ∨ kP (zn σ) + 7 < j) → (wMake ω c (zn σ) s).1 j = ω.1 j := fun j hj => wMk_sh hj
  have ag : ∀ j, (j < kP (zn σ) ∨ kP (zn σ) + 7 < j) → j ≠ 0 → j ≠ 2 → zAg ω (wMake ω c (zn σ) s) j := fun j hj h0 h2 => wMake_o hc j hj h0 h2
  have w0 := wMk_o (ω := ω) (o := zn σ) (s := s) hc 0 (Or.inl (by unfold kP; omega))
  have w2 := wMk_o (ω := ω) (o := zn σ) (s := s) hc 2 (Or.inl (by unfold kP; omega))
  have kd1 : zkd (zmk σ c s) (zn σ) = c := va_up_self _ _ _
  have kd2 : ∀ o, o ≠ zn σ → zkd (zmk σ c s) o = zkd σ o := fun o ho => va_up_ne _ _ ho
  have cp1 : zcp (zmk σ c s) (zn σ) = s := va_up_self _ _ _
  have cp2 : ∀ o, o ≠ zn σ → zcp (zmk σ c s) o = zcp σ o := fun o ho => va_up_ne _ _ ho
  have hr := (wMk_row (ω := ω) (o := zn σ) (s := s) hc).make (by omega)
  refine ⟨⟨(sh 0 (Or.inl (by unfold kP; omega))).trans a1, (sh 1 (Or.inl (by unfold kP; omega))).trans a2, (sh 2 (Or.inl (by unfold kP; omega))).trans a3, fun t ht => ⟨(sh _ (Or.inl (by unfold kP; omega))).trans (a4 t ht).1, (sh _ (Or.inl (by unfold kP; omega))).trans (a4 t ht).2⟩, hn, fun o ho => ?_⟩, rfl, fun k hk => ⟨rfl, rfl⟩, ?_, ?_, (show (ysi (ysf (wMk ω c (zn σ) s) 2 (zn σ) (some (kP (zn σ)))) 0 2 (nI (zn σ + 1))).2.1 0 2 = nI (zn σ + 1) from yu_same (wMk ω c (zn σ) s).2.1 0 2 (nI (zn σ + 1))), ?_, fun t ht => ?_, fun o ho => ?_, fun t ht => ?_, fun o ho => ?_, ?_⟩
  · have ho' : o < zn σ + 1 := ho
    by_cases e : o = zn σ
    · subst e
      rw [kd1, cp1]
      refine ⟨hc, hs1, hs, wMk_at hc, hr.1, hr.2.1, fun e => ?_, fun e => ?_, fun e => ?_⟩
      · subst e; exact ⟨(wK_val (ω := ω) (n := nI (zn σ))).2.2.2.2.2.2.2.2.1.1, (wK_val (ω := ω) (n := nI (zn σ))).2.2.2.2.2.2.2.2.1.2.1, (wK_val (ω := ω) (n := nI (zn σ))).2.2.2.2.2.2.2.2.2.1, (wK_val (ω := ω) (n := nI (zn σ))).2.2.2.2.2.2.2.2.2.2.1⟩
      · subst e; exact (wB_val (ω := ω) (n := nI (zn σ))).2.2.2.2.2.2.2.2.2
      · subst e; exact (wQ_val (ω := ω) (n := nI (zn σ))).2.2.2.2.2.2
    · rw [kd2 o e, cp2 o e]
      have ho2 : o < zn σ := by omega
      have q : ∀ d, d < 8 → (wMake ω c (zn σ) s).1 (kP o + d) = ω.1 (kP o + d) := fun d hd => sh _ (Or.inl (by unfold kP; omega))
      obtain ⟨c1, c2, c3, c4, c5, c6, c7, c8, c9⟩ := a6 o ho2
      exact ⟨c1, c2, c3, (q 0 (by omega)).trans c4, (q 1 (by omega)).trans c5, (q 2 (by omega)).trans c6, fun e => ⟨(q 3 (by omega)).trans (c7 e).1, (q 4 (by omega)).trans (c7 e).2.1, (q 5 (by omega)).trans (c7 e).2.2.1, (q 6 (by omega)).trans (c7 e).2.2.2⟩, fun e => (q 7 (by omega)).trans (c8 e), fun e => (q 7 (by omega)).trans (c9 e)⟩
  · exact (congrFun ((ysf_ho (wMk ω c (zn σ) s) 2 (zn σ) (some (kP (zn σ))) 0 (by omega)).2.trans w0.2) 0).trans b4
  · exact (congrFun ((ysf_ho (wMk ω c (zn σ) s) 2 (zn σ) (some (kP (zn σ))) 0 (by omega)).2.trans w0.2) 1).trans b5
  · exact (ysi_hj (ysf (wMk ω c (zn σ) s) 2 (zn σ) (some (kP (zn σ)))) 0 2 (nI (zn σ + 1)) 3 (by omega)).1.trans ((congrFun w0.1 3).trans b7)
  · rw [(ag 1 (Or.inl (by unfold kP; omega)) (by omega) (by omega)).2]; exact b8 t ht
  · show (ysf (wMk ω c (zn σ) s) 2 (zn σ) (some (kP (zn σ)))).2.2 2 o = if o < zn σ + 1 then some (kP o) else none
    by_cases e : o = zn σ
    · rw [e, if_pos (by omega)]
      exact yu_same _ _ _ _
    · rw [(ysf_hj _ 2 _ _ o e).2, w2.2, b9 o ho]
      by_cases e2 : o < zn σ
      · rw [if_pos e2, if_pos (by omega)]
      · rw [if_neg e2, if_neg (by omega)]
  · obtain ⟨c1, c2, c3, c4, c5, c6⟩ := b10 t ht
    have g1 := ag (10 + t) (Or.inl (by unfold kP; omega)) (by omega) (by omega)
    have g2 := ag (20 + t) (Or.inl (by unfold kP; omega)) (by omega) (by omega)
    refine ⟨by rw [g1.1]; exact c1, by rw [g1.2]; exact c2, by rw [g1.2]; exact c3, fun f h1 h2 h3 => by rw [g1.1]; exact c4 f h1 h2 h3, fun q hq => by rw [g2.1]; exact c5 q hq, fun o ho => Nat.lt_succ_of_lt (c6 o ho)⟩
  · have ho' : o < zn σ + 1 := ho
    by_cases e : o = zn σ
    · subst e
      have p0 := wMake_n (ω := ω) (c := c) (o := zn σ) (s := s) (kP (zn σ)) (Nat.le_refl _)
      have p7 := wMake_n (ω := ω) (c := c) (o := zn σ) (s := s) (kP (zn σ) + 7) (by omega)
      have hh : ∀ t, zho (zmk σ c s) (zn σ) = some t → t < 6 := fun t ht => by
        have : zho (zmk σ c s) (zn σ) = none := va_up_self _ _ _
        rw [this] at ht; cases ht
      have hho : zho (zmk σ c s) (zn σ) = none := va_up_self _ _ _
      have hrw : ∀ j, zrw (zmk σ c s) j (zn σ) = [] := fun j => if_pos rfl
      have hpl : ∀ f, zpl (zmk σ c s) f (zn σ) = if f = 3 then nI s else 0 := fun f => if_pos rfl
      have hqu : zqu (zmk σ c s) (zn σ) = [] := va_up_self _ _ _
      have hrd : ∀ t, zrd (zmk σ c s) (zn σ) t = 0 := fun t => if_pos rfl
      unfold zPl
      rw [kd1, cp1, hho, hrw, hrw, hrw, hqu, hpl, hpl, hpl, p0.1, p0.2, p7.1]
      rcases (show c = 0 ∨ c = 1 ∨ c = 2 ∨ c = 3 ∨ c = 4 ∨ c = 5 by omega) with rfl | rfl | rfl | rfl | rfl | rfl
      · have v := wK_val (ω := ω) (k := kP (zn σ)) (n := nI (zn σ))
        exact ⟨v.1, v.2.1, v.2.2.1, hr.R, fun _ => ⟨v.2.2.2.2.1, v.2.2.2.2.2.1, v.2.2.2.2.2.2.1, v.2.2.2.2.2.2.2.1, (v.2.2.2.2.2.2.2.2.1.make (c := 0) (s := s) (by omega)).R, (v.2.2.2.2.2.2.2.2.2.make (c := 0) (s := s) (by omega)).R⟩, fun z => absurd z (by omega), fun z => absurd z (by omega), fun z => absurd z (by omega), fun z => absurd z (by omega), fun z => absurd z (by omega), fun t ht => nomatch ht⟩
      · have v := wB_val (ω := ω) (k := kP (zn σ)) (n := nI (zn σ))
        exact ⟨v.1, v.2.1, v.2.2.1, hr.R, fun z => absurd z (by omega), fun _ => ⟨v.2.2.2.2.1, v.2.2.2.2.2.1, v.2.2.2.2.2.2.1, v.2.2.2.2.2.2.2.1, fun t ht => (v.2.2.2.2.2.2.2.2.1 t).trans (hrd t).symm⟩, fun z => absurd z (by omega), fun z => absurd z (by omega), fun z => absurd z (by omega), fun z => absurd z (by omega), fun t ht => nomatch ht⟩
      · have v := wV_val (ω := ω) (k := kP (zn σ)) (ci := 5) (c := 2) (n := nI (zn σ)) (s := nI s)
        exact ⟨v.1, v.2.1, v.2.2.1, hr.R, fun z => absurd z (by omega), fun z => absurd z (by omega), fun _ => v.2.2.2.2.1, fun z => absurd z (by omega), fun z => absurd z (by omega), fun z => absurd z (by omega), fun t ht => nomatch ht⟩
      · have v := wV_val (ω := ω) (k := kP (zn σ)) (ci := 6) (c := 3) (n := nI (zn σ)) (s := nI s)
        exact ⟨v.1, v.2.1, v.2.2.1, hr.R, fun z => absurd z (by omega), fun z => absurd z (by omega), fun z => absurd z (by omega), fun _ => v.2.2.2.2.1, fun z => absurd z (by omega), fun z => absurd z (by omega), fun t ht => nomatch ht⟩
      · have v := wV_val (ω := ω) (k := kP (zn σ)) (ci := 7) (c := 4) (n := nI (zn σ)) (s := nI s)
        exact ⟨v.1, v.2.1, v.2.2.1, hr.R, fun z => absurd z (by omega), fun z => absurd z (by omega), fun z => absurd z (by omega), fun z => absurd z (by omega), fun _ => ⟨v.2.2.2.2.1, v.2.2.2.2.2⟩, fun z => absurd z (by omega), fun t ht => nomatch ht⟩
      · have v := wQ_val (ω := ω) (k := kP (zn σ)) (n := nI (zn σ)) (s := s)
        exact ⟨v.1, v.2.1, v.2.2.1, hr.R, fun z => absurd z (by omega), fun z => absurd z (by omega), fun z => absurd z (by omega), fun z => absurd z (by omega), fun z => absurd z (by omega), fun _ => ⟨v.2.2.2.2.1, v.2.2.2.2.2.1, by simp, fun j hj => absurd hj (by simp)⟩, fun t ht => nomatch ht⟩
    · refine (b11 o (by omega)).kept ⟨kd2 o e, cp2 o e, fun j => if_neg e, va_up_ne _ _ e, fun f => if_neg e, fun t => if_neg e, va_up_ne _ _ e⟩ (fun d hd => ag _ (Or.inl (by unfold kP; omega)) (by unfold kP; omega) (by unfold kP; omega))
  · exact yCl.si ((wMk_cl hcl).sf (ynn (wMk_at hc)))
