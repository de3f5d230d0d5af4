/-! contracts and rows in the words of the state: threads -/
def zP (μ : yW) (P : Option yV → zS → Prop) : Option yV → yW → Prop := fun r ω' => ∃ σ', zC σ' μ ω' ∧ P r σ'
def zCT (G : yG) (i : yM) (As : List yV) (σ : zS) (μ : yW) (P : Option yV → zS → Prop) : Prop := ∀ ω, zC σ μ ω → yCT G i As ω (zP μ P) yNX
abbrev zQ (G : yG) (i : yM) (μ : yW) (P : Option yV → zS → Prop) : yQT := yQf G i μ.1 (zP μ P) yNX
theorem zC.th {σ : zS} {μ ω : yW} (h : zC σ μ ω) {t : Nat} (ht : t < 6) : zT σ ω t := h.2.2.2.2.2.2.2.2.2.1 t ht
theorem zC.pl {σ : zS} {μ ω : yW} (h : zC σ μ ω) {o : Nat} (ho : o < zn σ) : zPl σ ω o := h.2.2.2.2.2.2.2.2.2.2.1 o ho
theorem zC.cl {σ : zS} {μ ω : yW} (h : zC σ μ ω) : yCl ω := h.2.2.2.2.2.2.2.2.2.2.2
theorem zC.sT {σ : zS} {μ ω : yW} (h : zC σ μ ω) {t : Nat} (ht : t < 6) : ω.1 (10 + t) = some (.inl 1) := (h.1.2.2.2.1 t ht).1
theorem zC.sE {σ : zS} {μ ω : yW} (h : zC σ μ ω) {t : Nat} (ht : t < 6) : ω.1 (20 + t) = some (.inr (0, 5)) := (h.1.2.2.2.1 t ht).2
theorem zC.sP {σ : zS} {μ ω : yW} (h : zC σ μ ω) {o : Nat} (ho : o < zn σ) : ω.1 (kP o) = some (.inl (3 + zkd σ o)) := (h.1.2.2.2.2.2 o ho).2.2.2.1
theorem zC.sR {σ : zS} {μ ω : yW} (h : zC σ μ ω) {o : Nat} (ho : o < zn σ) : ω.1 (kP o + 1) = some (.inl 2) := (h.1.2.2.2.2.2 o ho).2.2.2.2.1
theorem zC.sRa {σ : zS} {μ ω : yW} (h : zC σ μ ω) {o : Nat} (ho : o < zn σ) : ω.1 (kP o + 2) = some (.inr (3, 6)) := (h.1.2.2.2.2.2 o ho).2.2.2.2.2.1
section ZT
variable {G : yG} {i : yM} {Qf : yQT} {pc : Nat} {ls : List (Option yV)} {st : List yV} {σ : zS} {μ : yW} {cs sl : Nat} {P : Option yV → zS → Prop}
theorem zCT_of {As : List yV} (hpl : plainName (yMy i).cls = true) (hh : yMh i = []) (hcat : ∀ v ∈ As, ∀ ad, (ycv ad v).category = 1) (hlen : As.length ≤ yMl i) (k : yWP G i (zQ G i μ P) μ.1 0 (As.map some ++ List.replicate (yMl i - As.length) none) [] (zC σ μ) 0 0) : zCT G i As σ μ P := by
  intro ω h
  have k1 : yWW G i (yQf G i μ.1 (zP μ P) yNX) μ.1 0 (As.map some ++ List.replicate (yMl i - As.length) none) [] ω 0 0 := k ω h
  rw [← h.2.1] at k1
  exact yCT_of hpl hh hcat hlen k1
theorem zr_call {i' : yM} {stk rest As : List yV} {P' : Option yV → zS → Prop} (hr : ∀ ω, zC σ μ ω → yRun G i i' pc ls stk rest As ω cs sl (zP μ P') yNX) (kk : ∀ r σ', P' r σ' → yWP G i Qf μ.1 (pc + 3) ls (r.toList ++ rest) (zC σ' μ) (cs + (yMm i').cells) (sl + (yMm i').slots)) : yWP G i Qf μ.1 pc ls stk (zC σ μ) cs sl :=
  fun ω h => yr_call (hr ω h) (fun _ _ ⟨_, h', _⟩ => h'.2.1.trans h.2.1.symm) (fun r ω' ⟨σ', h', hp⟩ => kk r σ' hp ω' h')
theorem zr_reti {x : Int32} (hd : decode (yMb i) pc = .ok (.ireturn, 1)) (hr : yMr i = some .int) (hc : cs ≤ (yMm i).cells) (hs : sl ≤ (yMm i).slots) (hP : P (some (yi x)) σ) : yWP G i (zQ G i μ P) μ.1 pc ls [yi x] (zC σ μ) cs sl := fun ω h => yr_reti hd hr hc hs ⟨σ, h, hP⟩
theorem zr_retz {x : Int32} (hd : decode (yMb i) pc = .ok (.ireturn, 1)) (hr : yMr i = some .boolean) (hx : narrow .boolean (.int x) = .int x) (hc : cs ≤ (yMm i).cells) (hs : sl ≤ (yMm i).slots) (hP : P (some (yi x)) σ) : yWP G i (zQ G i μ P) μ.1 pc ls [yi x] (zC σ μ) cs sl := fun ω h => yr_retz hd hr hx hc hs ⟨σ, h, hP⟩
theorem zr_reta {o : Option Nat} {rt : FieldType} (hd : decode (yMb i) pc = .ok (.areturn, 1)) (hr : yMr i = some rt) (hrt : (∃ n, rt = .object n) ∨ ∃ t, rt = .array t) (hc : cs ≤ (yMm i).cells) (hs : sl ≤ (yMm i).slots) (hP : P (some (yo o)) σ) : yWP G i (zQ G i μ P) μ.1 pc ls [yo o] (zC σ μ) cs sl := fun ω h => yr_reta hd hr hrt hc hs ⟨σ, h, hP⟩
theorem zr_retv (hd : decode (yMb i) pc = .ok (.return_, 1)) (hr : yMr i = none) (hc : cs ≤ (yMm i).cells) (hs : sl ≤ (yMm i).slots) (hP : P none σ) : yWP G i (zQ G i μ P) μ.1 pc ls [] (zC σ μ) cs sl := fun ω h => yr_retv hd hr hc hs ⟨σ, h, hP⟩
variable {sh0 : Nat → Option ySh}
theorem zr_tgeti {t f ix : Nat} {ref host : String} (hd : decode (yMb i) pc = .ok (.getfield ix, 3)) (ht : t < 6) (site : ySF (yMy i).cls ix ref host 1 f = true) (hf : (decide (2 ≤ f) && decide (f < 12) && decide (f ≠ 4)) = true) (hk : yfk 1 f = false) (k : yWP G i Qf sh0 (pc + 3) ls (yi (zth σ f t) :: st) (zC σ μ) cs sl) : yWP G i Qf sh0 pc ls (yr (10 + t) :: st) (zC σ μ) cs sl := by
  intro ω h
  simp only [Bool.and_eq_true, decide_eq_true_eq] at hf
  refine yr_geti hd (h.sT ht) site hk ?_
  rw [(h.th ht).2.2.2.1 f hf.1.1 hf.1.2 hf.2]
  exact k ω h
theorem zr_tnum {t ix : Nat} {ref host : String} (hd : decode (yMb i) pc = .ok (.getfield ix, 3)) (ht : t < 6) (site : ySF (yMy i).cls ix ref host 1 0 = true) (k : yWP G i Qf sh0 (pc + 3) ls (yi (nI t) :: st) (zC σ μ) cs sl) : yWP G i Qf sh0 pc ls (yr (10 + t) :: st) (zC σ μ) cs sl := by
  intro ω h
  refine yr_geti hd (h.sT ht) site rfl ?_
  rw [(h.th ht).1]
  exact k ω h
theorem zr_tended {t ix : Nat} {ref host : String} (hd : decode (yMb i) pc = .ok (.getfield ix, 3)) (ht : t < 6) (site : ySF (yMy i).cls ix ref host 1 1 = true) (k : yWP G i Qf sh0 (pc + 3) ls (yr (20 + t) :: st) (zC σ μ) cs sl) : yWP G i Qf sh0 pc ls (yr (10 + t) :: st) (zC σ μ) cs sl := by
  intro ω h
  refine yr_getr hd (h.sT ht) site rfl ?_
  rw [(h.th ht).2.1]
  exact k ω h
theorem zr_tplace {t ix : Nat} {ref host : String} (hd : decode (yMb i) pc = .ok (.getfield ix, 3)) (ht : t < 6) (site : ySF (yMy i).cls ix ref host 1 4 = true) (k : yWP G i Qf sh0 (pc + 3) ls (yo ((zwh σ t).map kP) :: st) (zC σ μ) cs sl) : yWP G i Qf sh0 pc ls (yr (10 + t) :: st) (zC σ μ) cs sl := by
  intro ω h
  refine yr_getr hd (h.sT ht) site rfl ?_
  rw [(h.th ht).2.2.1]
  exact k ω h
theorem zr_tputi {t f ix : Nat} {ref host : String} {x : Int32} (hd : decode (yMb i) pc = .ok (.putfield ix, 3)) (ht : t < 6) (site : ySF (yMy i).cls ix ref host 1 f = true) (hf : (decide (2 ≤ f) && decide (f ≠ 4) && decide ((yT1 f).2.2.2 = false)) = true) (hk : yfk 1 f = false) (hn : narrow (yft 1 f) (.int x) = .int x ∧ fits (yft 1 f) (.int x) = true) (k : yWP G i Qf sh0 (pc + 3) ls st (zC (zsth σ f t x) μ) cs sl) : yWP G i Qf sh0 pc ls (yi x :: yr (10 + t) :: st) (zC σ μ) cs sl := by
  intro ω h
  simp only [Bool.and_eq_true, decide_eq_true_eq] at hf
  exact yr_puti hd (h.sT ht) site rfl hf.2 hk hn (k _ (zC_sth h ht hf.1.1 hf.1.2))
theorem zr_tputp {t ix : Nat} {ref host : String} {x : Option Nat} (hd : decode (yMb i) pc = .ok (.putfield ix, 3)) (ht : t < 6) (site : ySF (yMy i).cls ix ref host 1 4 = true) (hx : ∀ o, x = some o → o < zn σ) (k : yWP G i Qf sh0 (pc + 3) ls st (zC (zswh σ t x) μ) cs sl) : yWP G i Qf sh0 pc ls (yo (x.map kP) :: yr (10 + t) :: st) (zC σ μ) cs sl := by
  intro ω h
  refine yr_putr hd (h.sT ht) site rfl rfl rfl (fun ad => ?_) (k _ (zC_swh h ht hx))
  cases x with
  | none => exact ⟨rfl, rfl⟩
  | some o => exact ⟨rfl, rfl⟩
theorem zr_eld {t q : Nat} {x : Int32} (hd : decode (yMb i) pc = .ok (.iaload, 1)) (ht : t < 6) (hx : x = nI q) (hq : q < 5) (k : yWP G i Qf sh0 (pc + 1) ls (yi (zen σ t q) :: st) (zC σ μ) cs sl) : yWP G i Qf sh0 pc ls (yi x :: yr (20 + t) :: st) (zC σ μ) cs sl := by
  intro ω h
  refine yr_iald (n := 5) (j := q) hd (h.sE ht) (by rw [hx]; exact nI_pos (by omega)) (by rw [hx]; exact nI_clamp (by omega)) hq ?_
  rw [(h.th ht).2.2.2.2.1 q hq]
  exact k ω h
theorem zr_est {t q : Nat} {x z : Int32} (hd : decode (yMb i) pc = .ok (.iastore, 1)) (ht : t < 6) (hx : x = nI q) (hq : q < 5) (k : yWP G i Qf sh0 (pc + 1) ls st (zC (zsen σ t q z) μ) cs sl) : yWP G i Qf sh0 pc ls (yi z :: yi x :: yr (20 + t) :: st) (zC σ μ) cs sl := by
  intro ω h
  exact yr_iast (n := 5) (j := q) hd (h.sE ht) (by rw [hx]; exact nI_pos (by omega)) (by rw [hx]; exact nI_clamp (by omega)) hq (k _ (zC_sen h ht))
end ZT
