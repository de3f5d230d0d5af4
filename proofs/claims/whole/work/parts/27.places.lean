/-! places: setters and rows -/
/-- the int slots of a place that are plain numbers, by kind -/
def zpv (kd f : Nat) : Bool := match kd with
  | 0 => f == 6
  | 1 => f == 4 || f == 6
  | 2 => f == 3
  | 3 => f == 3
  | 4 => f == 4
  | _ => false
theorem zpl_same {σ : zS} {f o : Nat} {x : Int32} : zpl (zspl σ f o x) f o = x := yu_same _ _ _ _
theorem zpl_ne {σ : zS} {f o g u : Nat} {x : Int32} (h : g ≠ f ∨ u ≠ o) : zpl (zspl σ f o x) g u = zpl σ g u := yu_ne _ _ h
theorem zho_same {σ : zS} {o : Nat} {x : Option Nat} : zho (zsho σ o x) o = x := va_up_self _ _ _
theorem zC.kd {σ : zS} {μ ω : yW} (h : zC σ μ ω) {o : Nat} (ho : o < zn σ) : zkd σ o < 6 := (h.1.2.2.2.2.2 o ho).1
theorem zC.pv {σ : zS} {μ ω : yW} {o f : Nat} (h : zC σ μ ω) (ho : o < zn σ) (hf : zpv (zkd σ o) f = true) : ω.2.1 (kP o) f = zpl σ f o := by
  obtain ⟨a1, a2, a3, a4, a5, a6, a7, a8, a9, a10, a11⟩ := h.pl ho
  have h6 := h.kd ho
  rcases (show zkd σ o = 0 ∨ zkd σ o = 1 ∨ zkd σ o = 2 ∨ zkd σ o = 3 ∨ zkd σ o = 4 ∨ zkd σ o = 5 by omega) with e | e | e | e | e | e <;> rw [e] at hf <;> simp [zpv] at hf
  · rw [hf]; exact (a5 e).2.2.2.1
  · rcases hf with hf | hf <;> rw [hf]
    · exact (a6 e).2.1
    · exact (a6 e).2.2.2.1
  · rw [hf]; exact a7 e
  · rw [hf]; exact a8 e
  · rw [hf]; exact (a9 e).2
theorem zC_spl {σ : zS} {μ ω : yW} {o f : Nat} {x : Int32} (h : zC σ μ ω) (ho : o < zn σ) (hf : zpv (zkd σ o) f = true) : zC (zspl σ f o x) μ (ysi ω (kP o) f x) := by
  refine zC_place h ho rfl (fun k hk => zAg_si ω _ f x (by omega)) rfl rfl rfl rfl (fun u hu => ⟨rfl, rfl, fun _ => rfl, rfl, fun g => yu_ne _ _ (Or.inr hu), fun _ => rfl, rfl⟩) (fun u => zSt.rf σ u) h.cl ?_
  obtain ⟨a1, a2, a3, a4, a5, a6, a7, a8, a9, a10, a11⟩ := h.pl ho
  have h6 := h.kd ho
  have g : ∀ j, j ≠ kP o → zAg ω (ysi ω (kP o) f x) j := fun j hj => zAg_si ω _ f x hj
  have n : ∀ q, q ≠ f → (ysi ω (kP o) f x).2.1 (kP o) q = ω.2.1 (kP o) q := fun q hq => yu_ne _ _ (Or.inr hq)
  have e1 : (ysi ω (kP o) f x).2.1 (kP o) f = x := yu_same _ _ _ _
  have e2 : zpl (zspl σ f o x) f o = x := zpl_same
  have e3 : ∀ q, q ≠ f → zpl (zspl σ f o x) q o = zpl σ q o := fun q hq => zpl_ne (Or.inl hq)
  have hf0 : f ≠ 0 ∧ f ≠ 1 := by
    rcases (show zkd σ o = 0 ∨ zkd σ o = 1 ∨ zkd σ o = 2 ∨ zkd σ o = 3 ∨ zkd σ o = 4 ∨ zkd σ o = 5 by omega) with e | e | e | e | e | e <;> rw [e] at hf <;> simp [zpv] at hf <;> omega
  refine ⟨(n 0 (Ne.symm hf0.1)).trans a1, (n 1 (Ne.symm hf0.2)).trans a2, a3, a4.kept (g _ (by unfold kP; omega)) (g _ (by unfold kP; omega)), fun hk => ?_, fun hk => ?_, fun hk => ?_, fun hk => ?_, fun hk => ?_, fun hk => ?_, a11⟩
  · have hk' : zkd σ o = 0 := hk
    rw [hk'] at hf
    simp [zpv] at hf
    subst hf
    obtain ⟨b1, b2, b3, b4, b5, b6⟩ := a5 hk
    exact ⟨b1, b2, b3, e1.trans e2.symm, b5.kept (g _ (by unfold kP; omega)) (g _ (by unfold kP; omega)), b6.kept (g _ (by unfold kP; omega)) (g _ (by unfold kP; omega))⟩
  · have hk' : zkd σ o = 1 := hk
    rw [hk'] at hf
    simp [zpv] at hf
    obtain ⟨b1, b2, b3, b4, b5⟩ := a6 hk
    refine ⟨b1, ?_, b3, ?_, fun t ht => by rw [(g (kP o + 7) (by omega)).1]; exact b5 t ht⟩
    · rcases hf with hf | hf
      · subst hf; exact e1.trans e2.symm
      · subst hf; rw [n 4 (by omega), e3 4 (by omega)]; exact b2
    · rcases hf with hf | hf
      · subst hf; rw [n 6 (by omega), e3 6 (by omega)]; exact b4
      · subst hf; exact e1.trans e2.symm
  · have hk' : zkd σ o = 2 := hk
    rw [hk'] at hf
    simp [zpv] at hf
    subst hf
    exact e1.trans e2.symm
  · have hk' : zkd σ o = 3 := hk
    rw [hk'] at hf
    simp [zpv] at hf
    subst hf
    exact e1.trans e2.symm
  · have hk' : zkd σ o = 4 := hk
    rw [hk'] at hf
    simp [zpv] at hf
    subst hf
    exact ⟨(n 3 (by omega)).trans (a9 hk).1, e1.trans e2.symm⟩
  · have hk' : zkd σ o = 5 := hk
    rw [hk'] at hf
    simp [zpv] at hf
theorem zC_sho {σ : zS} {μ ω : yW} {o : Nat} {x : Option Nat} (h : zC σ μ ω) (ho : o < zn σ) (hk : zkd σ o < 2) (hx : ∀ t, x = some t → t < 6) : zC (zsho σ o x) μ (ysf ω (kP o) 5 (x.map (10 + ·))) := by
  refine zC_place h ho rfl (fun k hk => zAg_sf ω _ 5 _ (by omega)) rfl rfl rfl rfl (fun u hu => ⟨rfl, rfl, fun _ => rfl, va_up_ne _ _ hu, fun g => rfl, fun _ => rfl, rfl⟩) (fun u => zSt.rf σ u) (h.cl.sfo fun j9 hj9 => by
    cases x with
    | none => cases hj9
    | some t9 =>
      cases hj9
      rw [h.sT (hx t9 rfl)]
      exact fun z => nomatch z) ?_
  obtain ⟨a1, a2, a3, a4, a5, a6, a7, a8, a9, a10, a11⟩ := h.pl ho
  have g : ∀ j, j ≠ kP o → zAg ω (ysf ω (kP o) 5 (x.map (10 + ·))) j := fun j hj => zAg_sf ω _ 5 _ hj
  have n : ∀ q, q ≠ 5 → (ysf ω (kP o) 5 (x.map (10 + ·))).2.2 (kP o) q = ω.2.2 (kP o) q := fun q hq => yu_ne _ _ (Or.inr hq)
  have e1 : (ysf ω (kP o) 5 (x.map (10 + ·))).2.2 (kP o) 5 = x.map (10 + ·) := yu_same _ _ _ _
  have e2 : zho (zsho σ o x) o = x := zho_same
  refine ⟨a1, a2, (n 2 (by omega)).trans a3, a4.kept (g _ (by unfold kP; omega)) (g _ (by unfold kP; omega)), fun hk => ?_, fun hk => ?_, fun hk => a7 hk, fun hk => a8 hk, fun hk => a9 hk, fun hk9 => ?_, fun t ht => hx t (by rw [e2] at ht; exact ht)⟩
  · obtain ⟨b1, b2, b3, b4, b5, b6⟩ := a5 hk
    exact ⟨(n 3 (by omega)).trans b1, (n 4 (by omega)).trans b2, by rw [e1, e2], b4, b5.kept (g _ (by unfold kP; omega)) (g _ (by unfold kP; omega)), b6.kept (g _ (by unfold kP; omega)) (g _ (by unfold kP; omega))⟩
  · obtain ⟨b1, b2, b3, b4, b5⟩ := a6 hk
    exact ⟨(n 3 (by omega)).trans b1, b2, by rw [e1, e2], b4, b5⟩
  · have : zkd σ o = 5 := hk9
    omega
theorem zC_srd {σ : zS} {μ ω : yW} {o t : Nat} {x : Int32} (h : zC σ μ ω) (ho : o < zn σ) (hk : zkd σ o = 1) : zC (zsrd σ o t x) μ (ysi ω (kP o + 7) t x) := by
  refine zC_place h ho rfl (fun k hk => zAg_si ω _ t x (by omega)) rfl rfl rfl rfl (fun u hu => ⟨rfl, rfl, fun _ => rfl, rfl, fun g => rfl, fun _ => yu_ne _ _ (Or.inl hu), rfl⟩) (fun u => zSt.rf σ u) h.cl ?_
  obtain ⟨a1, a2, a3, a4, a5, a6, a7, a8, a9, a10, a11⟩ := h.pl ho
  have g : ∀ j, j ≠ kP o + 7 → zAg ω (ysi ω (kP o + 7) t x) j := fun j hj => zAg_si ω _ t x hj
  have g0 := g (kP o) (by omega)
  have hne : ∀ c, c ≠ 1 → zkd (zsrd σ o t x) o = c → False := fun c hc h9 => hc (by rw [← h9]; exact hk)
  refine ⟨by rw [g0.1]; exact a1, by rw [g0.1]; exact a2, a3, a4.kept (g _ (by unfold kP; omega)) (g _ (by unfold kP; omega)), fun h9 => absurd h9 (fun z => hne 0 (by omega) z), fun h9 => ?_, fun h9 => absurd h9 (fun z => hne 2 (by omega) z), fun h9 => absurd h9 (fun z => hne 3 (by omega) z), fun h9 => absurd h9 (fun z => hne 4 (by omega) z), fun h9 => absurd h9 (fun z => hne 5 (by omega) z), a11⟩
  obtain ⟨b1, b2, b3, b4, b5⟩ := a6 hk
  rw [g0.1, g0.2]
  refine ⟨b1, b2, b3, b4, fun u hu => ?_⟩
  show yu _ _ _ _ _ _ = yu _ _ _ _ _ _
  by_cases e : u = t
  · rw [e, yu_same, yu_same]
  · rw [yu_ne _ _ (Or.inr e), yu_ne _ _ (Or.inr e)]; exact b5 u hu
section ZPR
variable {G : yG} {i : yM} {Qf : yQT} {pc : Nat} {ls : List (Option yV)} {st : List yV} {σ : zS} {μ : yW} {cs sl : Nat} {sh0 : Nat → Option ySh} {o : Nat}
theorem zC.sP' {ω : yW} {ci : Nat} (h : zC σ μ ω) (ho : o < zn σ) (hk : 3 + zkd σ o = ci) : ω.1 (kP o) = some (.inl ci) := by rw [← hk]; exact h.sP ho
theorem zr_pkind {ix ci : Nat} {ref host : String} (hd : decode (yMb i) pc = .ok (.getfield ix, 3)) (ho : o < zn σ) (hk : zkd σ o < 6) (site : ∀ c, c < 6 → ySF (yMy i).cls ix ref host (3 + c) 0 = true) (k : yWP G i Qf sh0 (pc + 3) ls (yi (nI (zkd σ o)) :: st) (zC σ μ) cs sl) : yWP G i Qf sh0 pc ls (yr (kP o) :: st) (zC σ μ) cs sl := by
  intro ω h
  have h6 := h.kd ho
  refine yr_geti hd (h.sP ho) (site _ h6) (by rcases (show zkd σ o = 0 ∨ zkd σ o = 1 ∨ zkd σ o = 2 ∨ zkd σ o = 3 ∨ zkd σ o = 4 ∨ zkd σ o = 5 by omega) with e | e | e | e | e | e <;> rw [e] <;> rfl) ?_
  rw [(h.pl ho).1]
  exact k ω h
theorem zr_pnum {ix : Nat} {ref host : String} (hd : decode (yMb i) pc = .ok (.getfield ix, 3)) (ho : o < zn σ) (site : ∀ c, c < 6 → ySF (yMy i).cls ix ref host (3 + c) 1 = true) (k : yWP G i Qf sh0 (pc + 3) ls (yi (nI o) :: st) (zC σ μ) cs sl) : yWP G i Qf sh0 pc ls (yr (kP o) :: st) (zC σ μ) cs sl := by
  intro ω h
  have h6 := h.kd ho
  refine yr_geti hd (h.sP ho) (site _ h6) (by rcases (show zkd σ o = 0 ∨ zkd σ o = 1 ∨ zkd σ o = 2 ∨ zkd σ o = 3 ∨ zkd σ o = 4 ∨ zkd σ o = 5 by omega) with e | e | e | e | e | e <;> rw [e] <;> rfl) ?_
  rw [(h.pl ho).2.1]
  exact k ω h
theorem zr_prow {ix : Nat} {ref host : String} (hd : decode (yMb i) pc = .ok (.getfield ix, 3)) (ho : o < zn σ) (site : ∀ c, c < 6 → ySF (yMy i).cls ix ref host (3 + c) 2 = true) (k : yWP G i Qf sh0 (pc + 3) ls (yr (kR 0 o) :: st) (zC σ μ) cs sl) : yWP G i Qf sh0 pc ls (yr (kP o) :: st) (zC σ μ) cs sl := by
  intro ω h
  have h6 := h.kd ho
  refine yr_getr hd (h.sP ho) (site _ h6) (by rcases (show zkd σ o = 0 ∨ zkd σ o = 1 ∨ zkd σ o = 2 ∨ zkd σ o = 3 ∨ zkd σ o = 4 ∨ zkd σ o = 5 by omega) with e | e | e | e | e | e <;> rw [e] <;> rfl) ?_
  rw [(h.pl ho).2.2.1]
  exact k ω h
/-- the row, spelled through the place's own class -/
theorem zr_prow' {ix c : Nat} {ref host : String} (hd : decode (yMb i) pc = .ok (.getfield ix, 3)) (ho : o < zn σ) (hk : zkd σ o = c) (hc : c < 6) (site : ySF (yMy i).cls ix ref host (3 + c) 2 = true) (k : yWP G i Qf sh0 (pc + 3) ls (yr (kR 0 o) :: st) (zC σ μ) cs sl) : yWP G i Qf sh0 pc ls (yr (kP o) :: st) (zC σ μ) cs sl := by
  intro ω h
  refine yr_getr hd (h.sP' ho (by rw [hk])) site (by rcases (show c = 0 ∨ c = 1 ∨ c = 2 ∨ c = 3 ∨ c = 4 ∨ c = 5 by omega) with e | e | e | e | e | e <;> rw [e] <;> rfl) ?_
  rw [(h.pl ho).2.2.1]
  exact k ω h
theorem zr_pgeti {ix f c : Nat} {ref host : String} (hd : decode (yMb i) pc = .ok (.getfield ix, 3)) (ho : o < zn σ) (hk : zkd σ o = c) (site : ySF (yMy i).cls ix ref host (3 + c) f = true) (hf : zpv c f = true) (hi : yfk (3 + c) f = false) (k : yWP G i Qf sh0 (pc + 3) ls (yi (zpl σ f o) :: st) (zC σ μ) cs sl) : yWP G i Qf sh0 pc ls (yr (kP o) :: st) (zC σ μ) cs sl := by
  intro ω h
  refine yr_geti hd (h.sP' ho (by rw [hk])) site hi ?_
  rw [h.pv ho (by rw [hk]; exact hf)]
  exact k ω h
theorem zr_pputi {ix f c : Nat} {ref host : String} {x : Int32} (hd : decode (yMb i) pc = .ok (.putfield ix, 3)) (ho : o < zn σ) (hk : zkd σ o = c) (site : ySF (yMy i).cls ix ref host (3 + c) f = true) (hf : zpv c f = true) (hi : yfk (3 + c) f = false) (hc : c < 6) (hfin : ((zcl c).2.1 f).2.2.2 = false) (hn : narrow (yft (3 + c) f) (.int x) = .int x ∧ fits (yft (3 + c) f) (.int x) = true) (k : yWP G i Qf sh0 (pc + 3) ls st (zC (zspl σ f o x) μ) cs sl) : yWP G i Qf sh0 pc ls (yi x :: yr (kP o) :: st) (zC σ μ) cs sl := by
  intro ω h
  exact yr_puti hd (h.sP' ho (by rw [hk])) site (zcl_ok c hc) hfin hi hn (k _ (zC_spl h ho (by rw [hk]; exact hf)))
theorem zr_pho {ix c : Nat} {ref host : String} (hd : decode (yMb i) pc = .ok (.getfield ix, 3)) (ho : o < zn σ) (hk : zkd σ o = c) (hc : c < 2) (site : ySF (yMy i).cls ix ref host (3 + c) 5 = true) (k : yWP G i Qf sh0 (pc + 3) ls (yo ((zho σ o).map (10 + ·)) :: st) (zC σ μ) cs sl) : yWP G i Qf sh0 pc ls (yr (kP o) :: st) (zC σ μ) cs sl := by
  intro ω h
  refine yr_getr hd (h.sP' ho (by rw [hk])) site (by rcases (show c = 0 ∨ c = 1 by omega) with e | e <;> rw [e] <;> rfl) ?_
  have hv : ω.2.2 (kP o) 5 = (zho σ o).map (10 + ·) := by
    rcases (show c = 0 ∨ c = 1 by omega) with e | e
    · exact ((h.pl ho).2.2.2.2.1 (hk.trans e)).2.2.1
    · exact ((h.pl ho).2.2.2.2.2.1 (hk.trans e)).2.2.1
  rw [hv]
  exact k ω h
theorem zr_pputho {ix c : Nat} {ref host : String} {x : Option Nat} (hd : decode (yMb i) pc = .ok (.putfield ix, 3)) (ho : o < zn σ) (hk : zkd σ o = c) (hc : c < 2) (site : ySF (yMy i).cls ix ref host (3 + c) 5 = true) (hx : ∀ t, x = some t → t < 6) (k : yWP G i Qf sh0 (pc + 3) ls st (zC (zsho σ o x) μ) cs sl) : yWP G i Qf sh0 pc ls (yo (x.map (10 + ·)) :: yr (kP o) :: st) (zC σ μ) cs sl := by
  intro ω h
  refine yr_putr hd (h.sP' ho (by rw [hk])) site (zcl_ok c (by omega)) (by rcases (show c = 0 ∨ c = 1 by omega) with e | e <;> rw [e] <;> rfl) (by rcases (show c = 0 ∨ c = 1 by omega) with e | e <;> rw [e] <;> rfl) (fun ad => ?_) (k _ (zC_sho h ho (by omega) hx))
  rcases (show c = 0 ∨ c = 1 by omega) with e | e <;> rw [e] <;> cases x <;> exact ⟨rfl, rfl⟩
/-- a lock's conditions -/
theorem zr_pc0 {ix : Nat} {ref host : String} (hd : decode (yMb i) pc = .ok (.getfield ix, 3)) (ho : o < zn σ) (hk : zkd σ o = 0) (site : ySF (yMy i).cls ix ref host 3 3 = true) (k : yWP G i Qf sh0 (pc + 3) ls (yr (kR 1 o) :: st) (zC σ μ) cs sl) : yWP G i Qf sh0 pc ls (yr (kP o) :: st) (zC σ μ) cs sl := by
  intro ω h
  refine yr_getr hd (h.sP' ho (by rw [hk])) site rfl ?_
  rw [((h.pl ho).2.2.2.2.1 hk).1]
  exact k ω h
theorem zr_pc1 {ix : Nat} {ref host : String} (hd : decode (yMb i) pc = .ok (.getfield ix, 3)) (ho : o < zn σ) (hk : zkd σ o = 0) (site : ySF (yMy i).cls ix ref host 3 4 = true) (k : yWP G i Qf sh0 (pc + 3) ls (yr (kR 2 o) :: st) (zC σ μ) cs sl) : yWP G i Qf sh0 pc ls (yr (kP o) :: st) (zC σ μ) cs sl := by
  intro ω h
  refine yr_getr hd (h.sP' ho (by rw [hk])) site rfl ?_
  rw [((h.pl ho).2.2.2.2.1 hk).2.1]
  exact k ω h
/-- a book's reads, thread by thread -/
theorem zr_prds {ix : Nat} {ref host : String} (hd : decode (yMb i) pc = .ok (.getfield ix, 3)) (ho : o < zn σ) (hk : zkd σ o = 1) (site : ySF (yMy i).cls ix ref host 4 3 = true) (k : yWP G i Qf sh0 (pc + 3) ls (yr (kP o + 7) :: st) (zC σ μ) cs sl) : yWP G i Qf sh0 pc ls (yr (kP o) :: st) (zC σ μ) cs sl := by
  intro ω h
  refine yr_getr hd (h.sP' ho (by rw [hk])) site rfl ?_
  rw [((h.pl ho).2.2.2.2.2.1 hk).1]
  exact k ω h
theorem zr_rdld {t : Nat} {x : Int32} (hd : decode (yMb i) pc = .ok (.iaload, 1)) (ho : o < zn σ) (hk : zkd σ o = 1) (ht : t < 6) (hx : x = nI t) (k : yWP G i Qf sh0 (pc + 1) ls (yi (zrd σ o t) :: st) (zC σ μ) cs sl) : yWP G i Qf sh0 pc ls (yi x :: yr (kP o + 7) :: st) (zC σ μ) cs sl := by
  intro ω h
  refine yr_iald (n := 6) (j := t) hd ((h.1.2.2.2.2.2 o ho).2.2.2.2.2.2.2.1 hk) (by rw [hx]; exact nI_pos (by omega)) (by rw [hx]; exact nI_clamp (by omega)) ht ?_
  rw [((h.pl ho).2.2.2.2.2.1 hk).2.2.2.2 t ht]
  exact k ω h
theorem zr_rdst {t : Nat} {x z : Int32} (hd : decode (yMb i) pc = .ok (.iastore, 1)) (ho : o < zn σ) (hk : zkd σ o = 1) (ht : t < 6) (hx : x = nI t) (k : yWP G i Qf sh0 (pc + 1) ls st (zC (zsrd σ o t z) μ) cs sl) : yWP G i Qf sh0 pc ls (yi z :: yi x :: yr (kP o + 7) :: st) (zC σ μ) cs sl := by
  intro ω h
  exact yr_iast (n := 6) (j := t) hd ((h.1.2.2.2.2.2 o ho).2.2.2.2.2.2.2.1 hk) (by rw [hx]; exact nI_pos (by omega)) (by rw [hx]; exact nI_clamp (by omega)) ht (k _ (zC_srd h ho hk))
/-- a barrier's size -/
theorem zr_psize {ix : Nat} {ref host : String} (hd : decode (yMb i) pc = .ok (.getfield ix, 3)) (ho : o < zn σ) (hk : zkd σ o = 4) (site : ySF (yMy i).cls ix ref host 7 3 = true) (k : yWP G i Qf sh0 (pc + 3) ls (yi (nI (zcp σ o)) :: st) (zC σ μ) cs sl) : yWP G i Qf sh0 pc ls (yr (kP o) :: st) (zC σ μ) cs sl := by
  intro ω h
  refine yr_geti hd (h.sP' ho (by rw [hk])) site rfl ?_
  rw [((h.pl ho).2.2.2.2.2.2.2.2.1 hk).1]
  exact k ω h
end ZPR
