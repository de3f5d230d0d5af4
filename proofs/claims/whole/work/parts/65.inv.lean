/-! the state: what a setter leaves -/
theorem gs_zth_zsth {σ : zS} {f t : Nat} {x : Int32} {g u : Nat} : zth (zsth σ f t x) g u = if g = f ∧ u = t then x else zth σ g u := rfl
theorem gs_zpl_zsth {σ : zS} {f t : Nat} {x : Int32} : zpl (zsth σ f t x) = zpl σ := rfl
theorem gs_zwh_zsth {σ : zS} {f t : Nat} {x : Int32} : zwh (zsth σ f t x) = zwh σ := rfl
theorem gs_zho_zsth {σ : zS} {f t : Nat} {x : Int32} : zho (zsth σ f t x) = zho σ := rfl
theorem gs_zrw_zsth {σ : zS} {f t : Nat} {x : Int32} : zrw (zsth σ f t x) = zrw σ := rfl
theorem gs_zen_zsth {σ : zS} {f t : Nat} {x : Int32} : zen (zsth σ f t x) = zen σ := rfl
theorem gs_zrd_zsth {σ : zS} {f t : Nat} {x : Int32} : zrd (zsth σ f t x) = zrd σ := rfl
theorem gs_zqu_zsth {σ : zS} {f t : Nat} {x : Int32} : zqu (zsth σ f t x) = zqu σ := rfl
theorem gs_zn_zsth {σ : zS} {f t : Nat} {x : Int32} : zn (zsth σ f t x) = zn σ := rfl
theorem gs_zkd_zsth {σ : zS} {f t : Nat} {x : Int32} : zkd (zsth σ f t x) = zkd σ := rfl
theorem gs_zcp_zsth {σ : zS} {f t : Nat} {x : Int32} : zcp (zsth σ f t x) = zcp σ := rfl
theorem gs_ztk_zsth {σ : zS} {f t : Nat} {x : Int32} : ztk (zsth σ f t x) = ztk σ := rfl
theorem gs_zth_zspl {σ : zS} {f t : Nat} {x : Int32} : zth (zspl σ f t x) = zth σ := rfl
theorem gs_zpl_zspl {σ : zS} {f t : Nat} {x : Int32} {g u : Nat} : zpl (zspl σ f t x) g u = if g = f ∧ u = t then x else zpl σ g u := rfl
theorem gs_zwh_zspl {σ : zS} {f t : Nat} {x : Int32} : zwh (zspl σ f t x) = zwh σ := rfl
theorem gs_zho_zspl {σ : zS} {f t : Nat} {x : Int32} : zho (zspl σ f t x) = zho σ := rfl
theorem gs_zrw_zspl {σ : zS} {f t : Nat} {x : Int32} : zrw (zspl σ f t x) = zrw σ := rfl
theorem gs_zen_zspl {σ : zS} {f t : Nat} {x : Int32} : zen (zspl σ f t x) = zen σ := rfl
theorem gs_zrd_zspl {σ : zS} {f t : Nat} {x : Int32} : zrd (zspl σ f t x) = zrd σ := rfl
theorem gs_zqu_zspl {σ : zS} {f t : Nat} {x : Int32} : zqu (zspl σ f t x) = zqu σ := rfl
theorem gs_zn_zspl {σ : zS} {f t : Nat} {x : Int32} : zn (zspl σ f t x) = zn σ := rfl
theorem gs_zkd_zspl {σ : zS} {f t : Nat} {x : Int32} : zkd (zspl σ f t x) = zkd σ := rfl
theorem gs_zcp_zspl {σ : zS} {f t : Nat} {x : Int32} : zcp (zspl σ f t x) = zcp σ := rfl
theorem gs_ztk_zspl {σ : zS} {f t : Nat} {x : Int32} : ztk (zspl σ f t x) = ztk σ := rfl
theorem gs_zth_zswh {σ : zS} {t : Nat} {x : Option Nat} : zth (zswh σ t x) = zth σ := rfl
theorem gs_zpl_zswh {σ : zS} {t : Nat} {x : Option Nat} : zpl (zswh σ t x) = zpl σ := rfl
theorem gs_zwh_zswh {σ : zS} {t : Nat} {x : Option Nat} {u : Nat} : zwh (zswh σ t x) u = if u = t then x else zwh σ u := rfl
theorem gs_zho_zswh {σ : zS} {t : Nat} {x : Option Nat} : zho (zswh σ t x) = zho σ := rfl
theorem gs_zrw_zswh {σ : zS} {t : Nat} {x : Option Nat} : zrw (zswh σ t x) = zrw σ := rfl
theorem gs_zen_zswh {σ : zS} {t : Nat} {x : Option Nat} : zen (zswh σ t x) = zen σ := rfl
theorem gs_zrd_zswh {σ : zS} {t : Nat} {x : Option Nat} : zrd (zswh σ t x) = zrd σ := rfl
theorem gs_zqu_zswh {σ : zS} {t : Nat} {x : Option Nat} : zqu (zswh σ t x) = zqu σ := rfl
theorem gs_zn_zswh {σ : zS} {t : Nat} {x : Option Nat} : zn (zswh σ t x) = zn σ := rfl
theorem gs_zkd_zswh {σ : zS} {t : Nat} {x : Option Nat} : zkd (zswh σ t x) = zkd σ := rfl
theorem gs_zcp_zswh {σ : zS} {t : Nat} {x : Option Nat} : zcp (zswh σ t x) = zcp σ := rfl
theorem gs_ztk_zswh {σ : zS} {t : Nat} {x : Option Nat} : ztk (zswh σ t x) = ztk σ := rfl
theorem gs_zth_zsho {σ : zS} {t : Nat} {x : Option Nat} : zth (zsho σ t x) = zth σ := rfl
theorem gs_zpl_zsho {σ : zS} {t : Nat} {x : Option Nat} : zpl (zsho σ t x) = zpl σ := rfl
theorem gs_zwh_zsho {σ : zS} {t : Nat} {x : Option Nat} : zwh (zsho σ t x) = zwh σ := rfl
theorem gs_zho_zsho {σ : zS} {t : Nat} {x : Option Nat} {u : Nat} : zho (zsho σ t x) u = if u = t then x else zho σ u := rfl
theorem gs_zrw_zsho {σ : zS} {t : Nat} {x : Option Nat} : zrw (zsho σ t x) = zrw σ := rfl
theorem gs_zen_zsho {σ : zS} {t : Nat} {x : Option Nat} : zen (zsho σ t x) = zen σ := rfl
theorem gs_zrd_zsho {σ : zS} {t : Nat} {x : Option Nat} : zrd (zsho σ t x) = zrd σ := rfl
theorem gs_zqu_zsho {σ : zS} {t : Nat} {x : Option Nat} : zqu (zsho σ t x) = zqu σ := rfl
theorem gs_zn_zsho {σ : zS} {t : Nat} {x : Option Nat} : zn (zsho σ t x) = zn σ := rfl
theorem gs_zkd_zsho {σ : zS} {t : Nat} {x : Option Nat} : zkd (zsho σ t x) = zkd σ := rfl
theorem gs_zcp_zsho {σ : zS} {t : Nat} {x : Option Nat} : zcp (zsho σ t x) = zcp σ := rfl
theorem gs_ztk_zsho {σ : zS} {t : Nat} {x : Option Nat} : ztk (zsho σ t x) = ztk σ := rfl
theorem gs_zth_zsrw {σ : zS} {f t : Nat} {x : List Nat} : zth (zsrw σ f t x) = zth σ := rfl
theorem gs_zpl_zsrw {σ : zS} {f t : Nat} {x : List Nat} : zpl (zsrw σ f t x) = zpl σ := rfl
theorem gs_zwh_zsrw {σ : zS} {f t : Nat} {x : List Nat} : zwh (zsrw σ f t x) = zwh σ := rfl
theorem gs_zho_zsrw {σ : zS} {f t : Nat} {x : List Nat} : zho (zsrw σ f t x) = zho σ := rfl
theorem gs_zrw_zsrw {σ : zS} {f t : Nat} {x : List Nat} {g u : Nat} : zrw (zsrw σ f t x) g u = if g = f ∧ u = t then x else zrw σ g u := rfl
theorem gs_zen_zsrw {σ : zS} {f t : Nat} {x : List Nat} : zen (zsrw σ f t x) = zen σ := rfl
theorem gs_zrd_zsrw {σ : zS} {f t : Nat} {x : List Nat} : zrd (zsrw σ f t x) = zrd σ := rfl
theorem gs_zqu_zsrw {σ : zS} {f t : Nat} {x : List Nat} : zqu (zsrw σ f t x) = zqu σ := rfl
theorem gs_zn_zsrw {σ : zS} {f t : Nat} {x : List Nat} : zn (zsrw σ f t x) = zn σ := rfl
theorem gs_zkd_zsrw {σ : zS} {f t : Nat} {x : List Nat} : zkd (zsrw σ f t x) = zkd σ := rfl
theorem gs_zcp_zsrw {σ : zS} {f t : Nat} {x : List Nat} : zcp (zsrw σ f t x) = zcp σ := rfl
theorem gs_ztk_zsrw {σ : zS} {f t : Nat} {x : List Nat} : ztk (zsrw σ f t x) = ztk σ := rfl
theorem gs_zth_zsen {σ : zS} {f t : Nat} {x : Int32} : zth (zsen σ f t x) = zth σ := rfl
theorem gs_zpl_zsen {σ : zS} {f t : Nat} {x : Int32} : zpl (zsen σ f t x) = zpl σ := rfl
theorem gs_zwh_zsen {σ : zS} {f t : Nat} {x : Int32} : zwh (zsen σ f t x) = zwh σ := rfl
theorem gs_zho_zsen {σ : zS} {f t : Nat} {x : Int32} : zho (zsen σ f t x) = zho σ := rfl
theorem gs_zrw_zsen {σ : zS} {f t : Nat} {x : Int32} : zrw (zsen σ f t x) = zrw σ := rfl
theorem gs_zen_zsen {σ : zS} {f t : Nat} {x : Int32} {g u : Nat} : zen (zsen σ f t x) g u = if g = f ∧ u = t then x else zen σ g u := rfl
theorem gs_zrd_zsen {σ : zS} {f t : Nat} {x : Int32} : zrd (zsen σ f t x) = zrd σ := rfl
theorem gs_zqu_zsen {σ : zS} {f t : Nat} {x : Int32} : zqu (zsen σ f t x) = zqu σ := rfl
theorem gs_zn_zsen {σ : zS} {f t : Nat} {x : Int32} : zn (zsen σ f t x) = zn σ := rfl
theorem gs_zkd_zsen {σ : zS} {f t : Nat} {x : Int32} : zkd (zsen σ f t x) = zkd σ := rfl
theorem gs_zcp_zsen {σ : zS} {f t : Nat} {x : Int32} : zcp (zsen σ f t x) = zcp σ := rfl
theorem gs_ztk_zsen {σ : zS} {f t : Nat} {x : Int32} : ztk (zsen σ f t x) = ztk σ := rfl
theorem gs_zth_zsrd {σ : zS} {f t : Nat} {x : Int32} : zth (zsrd σ f t x) = zth σ := rfl
theorem gs_zpl_zsrd {σ : zS} {f t : Nat} {x : Int32} : zpl (zsrd σ f t x) = zpl σ := rfl
theorem gs_zwh_zsrd {σ : zS} {f t : Nat} {x : Int32} : zwh (zsrd σ f t x) = zwh σ := rfl
theorem gs_zho_zsrd {σ : zS} {f t : Nat} {x : Int32} : zho (zsrd σ f t x) = zho σ := rfl
theorem gs_zrw_zsrd {σ : zS} {f t : Nat} {x : Int32} : zrw (zsrd σ f t x) = zrw σ := rfl
theorem gs_zen_zsrd {σ : zS} {f t : Nat} {x : Int32} : zen (zsrd σ f t x) = zen σ := rfl
theorem gs_zrd_zsrd {σ : zS} {f t : Nat} {x : Int32} {g u : Nat} : zrd (zsrd σ f t x) g u = if g = f ∧ u = t then x else zrd σ g u := rfl
theorem gs_zqu_zsrd {σ : zS} {f t : Nat} {x : Int32} : zqu (zsrd σ f t x) = zqu σ := rfl
theorem gs_zn_zsrd {σ : zS} {f t : Nat} {x : Int32} : zn (zsrd σ f t x) = zn σ := rfl
theorem gs_zkd_zsrd {σ : zS} {f t : Nat} {x : Int32} : zkd (zsrd σ f t x) = zkd σ := rfl
theorem gs_zcp_zsrd {σ : zS} {f t : Nat} {x : Int32} : zcp (zsrd σ f t x) = zcp σ := rfl
theorem gs_ztk_zsrd {σ : zS} {f t : Nat} {x : Int32} : ztk (zsrd σ f t x) = ztk σ := rfl
theorem gs_zth_zsqu {σ : zS} {t : Nat} {x : List Int32} : zth (zsqu σ t x) = zth σ := rfl
theorem gs_zpl_zsqu {σ : zS} {t : Nat} {x : List Int32} : zpl (zsqu σ t x) = zpl σ := rfl
theorem gs_zwh_zsqu {σ : zS} {t : Nat} {x : List Int32} : zwh (zsqu σ t x) = zwh σ := rfl
theorem gs_zho_zsqu {σ : zS} {t : Nat} {x : List Int32} : zho (zsqu σ t x) = zho σ := rfl
theorem gs_zrw_zsqu {σ : zS} {t : Nat} {x : List Int32} : zrw (zsqu σ t x) = zrw σ := rfl
theorem gs_zen_zsqu {σ : zS} {t : Nat} {x : List Int32} : zen (zsqu σ t x) = zen σ := rfl
theorem gs_zrd_zsqu {σ : zS} {t : Nat} {x : List Int32} : zrd (zsqu σ t x) = zrd σ := rfl
theorem gs_zqu_zsqu {σ : zS} {t : Nat} {x : List Int32} {u : Nat} : zqu (zsqu σ t x) u = if u = t then x else zqu σ u := rfl
theorem gs_zn_zsqu {σ : zS} {t : Nat} {x : List Int32} : zn (zsqu σ t x) = zn σ := rfl
theorem gs_zkd_zsqu {σ : zS} {t : Nat} {x : List Int32} : zkd (zsqu σ t x) = zkd σ := rfl
theorem gs_zcp_zsqu {σ : zS} {t : Nat} {x : List Int32} : zcp (zsqu σ t x) = zcp σ := rfl
theorem gs_ztk_zsqu {σ : zS} {t : Nat} {x : List Int32} : ztk (zsqu σ t x) = ztk σ := rfl
theorem gs_zth_zstk {σ : zS} {x : Int32} : zth (zstk σ x) = zth σ := rfl
theorem gs_zpl_zstk {σ : zS} {x : Int32} : zpl (zstk σ x) = zpl σ := rfl
theorem gs_zwh_zstk {σ : zS} {x : Int32} : zwh (zstk σ x) = zwh σ := rfl
theorem gs_zho_zstk {σ : zS} {x : Int32} : zho (zstk σ x) = zho σ := rfl
theorem gs_zrw_zstk {σ : zS} {x : Int32} : zrw (zstk σ x) = zrw σ := rfl
theorem gs_zen_zstk {σ : zS} {x : Int32} : zen (zstk σ x) = zen σ := rfl
theorem gs_zrd_zstk {σ : zS} {x : Int32} : zrd (zstk σ x) = zrd σ := rfl
theorem gs_zqu_zstk {σ : zS} {x : Int32} : zqu (zstk σ x) = zqu σ := rfl
theorem gs_zn_zstk {σ : zS} {x : Int32} : zn (zstk σ x) = zn σ := rfl
theorem gs_zkd_zstk {σ : zS} {x : Int32} : zkd (zstk σ x) = zkd σ := rfl
theorem gs_zcp_zstk {σ : zS} {x : Int32} : zcp (zstk σ x) = zcp σ := rfl
theorem gs_ztk_zstk {σ : zS} {x : Int32} : ztk (zstk σ x) = x := rfl

/-! the invariant -/
abbrev xa (X : Nat → Bool) (t : Nat) : Nat → Bool := fun u => X u || decide (u = t)
abbrev xr (X : Nat → Bool) (t : Nat) : Nat → Bool := fun u => X u && !decide (u = t)
abbrev x0 : Nat → Bool := fun _ => false
def zRA (kd : Nat) (a w : Int32) : Prop := ((kd = 0 ∧ (a = 0 ∨ a = 2)) ∨ (kd = 1 ∧ (a = 5 ∨ a = 7)) ∨ (kd = 2 ∧ a = 9) ∨ (kd = 3 ∧ a = 11) ∨ (kd = 4 ∧ a = 13) ∨ (kd = 5 ∧ (a = 15 ∨ a = 16))) ∧ (a = 2 → w = 0 ∨ w = 2 ∨ w = 4) ∧ (¬ a = 2 → w = 0)
def zTI (σ : zS) (t : Nat) : Prop := (zth σ 2 t = 0 ∧ zwh σ t = none ∧ zth σ 7 t = -1) ∨ (zth σ 2 t = 1 ∧ ∃ o, zwh σ t = some o ∧ o < zn σ ∧ t ∈ zrw σ 0 o ∧ zRA (zkd σ o) (zth σ 8 t) (zth σ 11 t)) ∨ (zth σ 2 t = 2 ∧ ∃ o, zwh σ t = some o ∧ o < zn σ ∧ zkd σ o = 0 ∧ zth σ 8 t = 2 ∧ t ∈ zrw σ (zcj (zth σ 9 t)) o)
def zPt (X : Nat → Bool) (σ : zS) : Prop := ∀ t, t < 6 → X t = false → zTI σ t
def zRM (X : Nat → Bool) (σ : zS) (o j t : Nat) : Prop := t < 6 ∧ X t = false ∧ zwh σ t = some o ∧ (j = 0 → zth σ 2 t = 1) ∧ (¬ j = 0 → zth σ 2 t = 2 ∧ zcj (zth σ 9 t) = j)
def zPr (X : Nat → Bool) (σ : zS) : Prop := ∀ o j, o < zn σ → (j = 0 ∨ (zkd σ o = 0 ∧ j < 3)) → (zrw σ j o).Nodup ∧ ∀ t ∈ zrw σ j o, zRM X σ o j t
def zPh (σ : zS) : Prop := ∀ o j t, o < zn σ → (j = 0 ∨ (zkd σ o = 0 ∧ j < 3)) → t ∈ zrw σ j o → ¬ zho σ o = some t
def zBk (σ : zS) (o : Nat) : Prop := (∀ u, u < 6 → ¬ zrd σ o u < 0) ∧ zpl σ 4 o = zsum (zrd σ o) 6 ∧ (∀ w, zho σ o = some w → ∀ u, u < 6 → ¬ u = w → zrd σ o u = 0)
def zPp1 (σ : zS) (o : Nat) : Prop := zkd σ o < 6 ∧ 1 ≤ zcp σ o ∧ zcp σ o ≤ 3 ∧ (∀ t, zho σ o = some t → t < 6) ∧ (2 ≤ zkd σ o → zho σ o = none) ∧ (zho σ o = none → zpl σ 6 o = 0) ∧ (zkd σ o = 1 → zBk σ o) ∧ (zkd σ o = 4 → zpl σ 4 o = 0 ∨ zpl σ 4 o = 1) ∧ (zkd σ o = 5 → (zqu σ o).length ≤ zcp σ o)
def zPp (σ : zS) : Prop := zn σ ≤ 6 ∧ (∀ t, t < 6 → zth σ 6 t = 0 ∨ zth σ 6 t = 1) ∧ ∀ o, o < zn σ → zPp1 σ o
def zNv (X : Nat → Bool) (σ : zS) : Prop := zPt X σ ∧ zPr X σ ∧ zPh σ ∧ zPp σ
theorem xar (X : Nat → Bool) {t : Nat} (h : X t = false) : xr (xa X t) t = X := by
  funext u
  show ((X u || decide (u = t)) && !decide (u = t)) = X u
  by_cases e : u = t
  · subst e; simp [h]
  · simp [e]
theorem zNv.out {X : Nat → Bool} {σ : zS} {t o j : Nat} (h : zNv X σ) (hX : X t = true) (ho : o < zn σ) (hj : j = 0 ∨ (zkd σ o = 0 ∧ j < 3)) : t ∉ zrw σ j o := fun hm => by
  have := ((h.2.1 o j ho hj).2 t hm).2.1
  rw [hX] at this; cases this
/-- a thread in a row is in that row alone -/
theorem zNv.one {X : Nat → Bool} {σ : zS} {t o j o' j' : Nat} (h : zNv X σ) (ho : o < zn σ) (hj : j = 0 ∨ (zkd σ o = 0 ∧ j < 3)) (ho' : o' < zn σ) (hj' : j' = 0 ∨ (zkd σ o' = 0 ∧ j' < 3)) (h1 : t ∈ zrw σ j o) (h2 : t ∈ zrw σ j' o') : o = o' ∧ j = j' := by
  obtain ⟨-, -, a3, a4, a5⟩ := (h.2.1 o j ho hj).2 t h1
  obtain ⟨-, -, b3, b4, b5⟩ := (h.2.1 o' j' ho' hj').2 t h2
  have e : o = o' := Option.some.inj (a3.symm.trans b3)
  refine ⟨e, ?_⟩
  by_cases e1 : j = 0
  · by_cases e2 : j' = 0
    · omega
    · have h9 := (a4 e1).symm.trans (b5 e2).1
      exact absurd h9 (by decide)
  · by_cases e2 : j' = 0
    · have h9 := (b4 e2).symm.trans (a5 e1).1
      exact absurd h9 (by decide)
    · exact (a5 e1).2.symm.trans (b5 e2).2
/-- a thread leaves a row -/
theorem zNv_rm {X : Nat → Bool} {σ : zS} {o j t : Nat} (h : zNv X σ) (ho : o < zn σ) (hj : j = 0 ∨ (zkd σ o = 0 ∧ j < 3)) (ht : t ∈ zrw σ j o) : zNv (xa X t) (zsrw σ j o ((zrw σ j o).filter (fun u => u ≠ t))) := by
  have hrow : ∀ j' o' u, u ∈ zrw (zsrw σ j o ((zrw σ j o).filter (fun u => u ≠ t))) j' o' → u ∈ zrw σ j' o' := by
    intro j' o' u hu
    rw [gs_zrw_zsrw] at hu
    split at hu
    · rename_i e; rw [e.1, e.2]; exact (List.mem_filter.mp hu).1
    · exact hu
  have hback : ∀ j' o' u, ¬ u = t → u ∈ zrw σ j' o' → u ∈ zrw (zsrw σ j o ((zrw σ j o).filter (fun u => u ≠ t))) j' o' := by
    intro j' o' u hne hu
    rw [gs_zrw_zsrw]
    split
    · rename_i e; rw [e.1, e.2] at hu; exact List.mem_filter.mpr ⟨hu, by simpa using hne⟩
    · exact hu
  refine ⟨fun u hu hX => ?_, fun o' j' ho' hj' => ⟨?_, fun u hu => ?_⟩, fun o' j' u ho' hj' hu => h.2.2.1 o' j' u ho' hj' (hrow _ _ _ hu), h.2.2.2⟩
  · simp at hX
    rcases h.1 u hu hX.1 with h1 | ⟨h1, o1, h2, h3, h4, h5⟩ | ⟨h1, o1, h2, h3, h4, h5, h6⟩
    · exact Or.inl h1
    · exact Or.inr (Or.inl ⟨h1, o1, h2, h3, hback _ _ _ hX.2 h4, h5⟩)
    · exact Or.inr (Or.inr ⟨h1, o1, h2, h3, h4, h5, hback _ _ _ hX.2 h6⟩)
  · rw [gs_zrw_zsrw]
    split
    · exact (h.2.1 o j ho hj).1.filter _
    · exact (h.2.1 o' j' ho' hj').1
  · obtain ⟨a1, a2, a3⟩ := (h.2.1 o' j' ho' hj').2 u (hrow _ _ _ hu)
    refine ⟨a1, ?_, a3⟩
    have hne : ¬ u = t := by
      intro e
      subst e
      have h9 := h.one ho hj ho' hj' ht (hrow _ _ _ hu)
      rw [← h9.1, ← h9.2, gs_zrw_zsrw, if_pos ⟨rfl, rfl⟩] at hu
      simpa using (List.mem_filter.mp hu).2
    simp [a2, hne]
/-- a thread out of all rows ends its act -/
theorem zNv_end {X : Nat → Bool} {σ : zS} {t h : Nat} (hp : zNv X σ) (hX : X t = true) : zNv (xr X t) (zend σ t h) := by
  refine ⟨fun u hu hx => ?_, fun o j ho hj => ⟨(hp.2.1 o j ho hj).1, fun u hu => ?_⟩, hp.2.2.1, ⟨hp.2.2.2.1, ?_, hp.2.2.2.2.2⟩⟩
  · by_cases e : u = t
    · subst e
      refine Or.inl ⟨?_, ?_, ?_⟩ <;> simp [zend, gs_zth_zsth, gs_zpl_zsth, gs_zwh_zsth, gs_zho_zsth, gs_zrw_zsth, gs_zen_zsth, gs_zrd_zsth, gs_zqu_zsth, gs_zn_zsth, gs_zkd_zsth, gs_zcp_zsth, gs_ztk_zsth, gs_zth_zspl, gs_zpl_zspl, gs_zwh_zspl, gs_zho_zspl, gs_zrw_zspl, gs_zen_zspl, gs_zrd_zspl, gs_zqu_zspl, gs_zn_zspl, gs_zkd_zspl, gs_zcp_zspl, gs_ztk_zspl, gs_zth_zswh, gs_zpl_zswh, gs_zwh_zswh, gs_zho_zswh, gs_zrw_zswh, gs_zen_zswh, gs_zrd_zswh, gs_zqu_zswh, gs_zn_zswh, gs_zkd_zswh, gs_zcp_zswh, gs_ztk_zswh, gs_zth_zsho, gs_zpl_zsho, gs_zwh_zsho, gs_zho_zsho, gs_zrw_zsho, gs_zen_zsho, gs_zrd_zsho, gs_zqu_zsho, gs_zn_zsho, gs_zkd_zsho, gs_zcp_zsho, gs_ztk_zsho, gs_zth_zsrw, gs_zpl_zsrw, gs_zwh_zsrw, gs_zho_zsrw, gs_zrw_zsrw, gs_zen_zsrw, gs_zrd_zsrw, gs_zqu_zsrw, gs_zn_zsrw, gs_zkd_zsrw, gs_zcp_zsrw, gs_ztk_zsrw, gs_zth_zsen, gs_zpl_zsen, gs_zwh_zsen, gs_zho_zsen, gs_zrw_zsen, gs_zen_zsen, gs_zrd_zsen, gs_zqu_zsen, gs_zn_zsen, gs_zkd_zsen, gs_zcp_zsen, gs_ztk_zsen, gs_zth_zsrd, gs_zpl_zsrd, gs_zwh_zsrd, gs_zho_zsrd, gs_zrw_zsrd, gs_zen_zsrd, gs_zrd_zsrd, gs_zqu_zsrd, gs_zn_zsrd, gs_zkd_zsrd, gs_zcp_zsrd, gs_ztk_zsrd, gs_zth_zsqu, gs_zpl_zsqu, gs_zwh_zsqu, gs_zho_zsqu, gs_zrw_zsqu, gs_zen_zsqu, gs_zrd_zsqu, gs_zqu_zsqu, gs_zn_zsqu, gs_zkd_zsqu, gs_zcp_zsqu, gs_ztk_zsqu, gs_zth_zstk, gs_zpl_zstk, gs_zwh_zstk, gs_zho_zstk, gs_zrw_zstk, gs_zen_zstk, gs_zrd_zstk, gs_zqu_zstk, gs_zn_zstk, gs_zkd_zstk, gs_zcp_zstk, gs_ztk_zstk]
    · simp [e] at hx
      have h9 := hp.1 u hu hx
      unfold zTI at h9 ⊢
      simp [zend, e, gs_zth_zsth, gs_zpl_zsth, gs_zwh_zsth, gs_zho_zsth, gs_zrw_zsth, gs_zen_zsth, gs_zrd_zsth, gs_zqu_zsth, gs_zn_zsth, gs_zkd_zsth, gs_zcp_zsth, gs_ztk_zsth, gs_zth_zspl, gs_zpl_zspl, gs_zwh_zspl, gs_zho_zspl, gs_zrw_zspl, gs_zen_zspl, gs_zrd_zspl, gs_zqu_zspl, gs_zn_zspl, gs_zkd_zspl, gs_zcp_zspl, gs_ztk_zspl, gs_zth_zswh, gs_zpl_zswh, gs_zwh_zswh, gs_zho_zswh, gs_zrw_zswh, gs_zen_zswh, gs_zrd_zswh, gs_zqu_zswh, gs_zn_zswh, gs_zkd_zswh, gs_zcp_zswh, gs_ztk_zswh, gs_zth_zsho, gs_zpl_zsho, gs_zwh_zsho, gs_zho_zsho, gs_zrw_zsho, gs_zen_zsho, gs_zrd_zsho, gs_zqu_zsho, gs_zn_zsho, gs_zkd_zsho, gs_zcp_zsho, gs_ztk_zsho, gs_zth_zsrw, gs_zpl_zsrw, gs_zwh_zsrw, gs_zho_zsrw, gs_zrw_zsrw, gs_zen_zsrw, gs_zrd_zsrw, gs_zqu_zsrw, gs_zn_zsrw, gs_zkd_zsrw, gs_zcp_zsrw, gs_ztk_zsrw, gs_zth_zsen, gs_zpl_zsen, gs_zwh_zsen, gs_zho_zsen, gs_zrw_zsen, gs_zen_zsen, gs_zrd_zsen, gs_zqu_zsen, gs_zn_zsen, gs_zkd_zsen, gs_zcp_zsen, gs_ztk_zsen, gs_zth_zsrd, gs_zpl_zsrd, gs_zwh_zsrd, gs_zho_zsrd, gs_zrw_zsrd, gs_zen_zsrd, gs_zrd_zsrd, gs_zqu_zsrd, gs_zn_zsrd, gs_zkd_zsrd, gs_zcp_zsrd, gs_ztk_zsrd, gs_zth_zsqu, gs_zpl_zsqu, gs_zwh_zsqu, gs_zho_zsqu, gs_zrw_zsqu, gs_zen_zsqu, gs_zrd_zsqu, gs_zqu_zsqu, gs_zn_zsqu, gs_zkd_zsqu, gs_zcp_zsqu, gs_ztk_zsqu, gs_zth_zstk, gs_zpl_zstk, gs_zwh_zstk, gs_zho_zstk, gs_zrw_zstk, gs_zen_zstk, gs_zrd_zstk, gs_zqu_zstk, gs_zn_zstk, gs_zkd_zstk, gs_zcp_zstk, gs_ztk_zstk] at h9 ⊢
      exact h9
  · obtain ⟨a1, a2, a3, a4, a5⟩ := (hp.2.1 o j ho hj).2 u hu
    have e : ¬ u = t := fun e => by rw [e, hX] at a2; cases a2
    refine ⟨a1, by simp [a2], ?_, ?_, ?_⟩
    · simp [zend, e, gs_zth_zsth, gs_zpl_zsth, gs_zwh_zsth, gs_zho_zsth, gs_zrw_zsth, gs_zen_zsth, gs_zrd_zsth, gs_zqu_zsth, gs_zn_zsth, gs_zkd_zsth, gs_zcp_zsth, gs_ztk_zsth, gs_zth_zspl, gs_zpl_zspl, gs_zwh_zspl, gs_zho_zspl, gs_zrw_zspl, gs_zen_zspl, gs_zrd_zspl, gs_zqu_zspl, gs_zn_zspl, gs_zkd_zspl, gs_zcp_zspl, gs_ztk_zspl, gs_zth_zswh, gs_zpl_zswh, gs_zwh_zswh, gs_zho_zswh, gs_zrw_zswh, gs_zen_zswh, gs_zrd_zswh, gs_zqu_zswh, gs_zn_zswh, gs_zkd_zswh, gs_zcp_zswh, gs_ztk_zswh, gs_zth_zsho, gs_zpl_zsho, gs_zwh_zsho, gs_zho_zsho, gs_zrw_zsho, gs_zen_zsho, gs_zrd_zsho, gs_zqu_zsho, gs_zn_zsho, gs_zkd_zsho, gs_zcp_zsho, gs_ztk_zsho, gs_zth_zsrw, gs_zpl_zsrw, gs_zwh_zsrw, gs_zho_zsrw, gs_zrw_zsrw, gs_zen_zsrw, gs_zrd_zsrw, gs_zqu_zsrw, gs_zn_zsrw, gs_zkd_zsrw, gs_zcp_zsrw, gs_ztk_zsrw, gs_zth_zsen, gs_zpl_zsen, gs_zwh_zsen, gs_zho_zsen, gs_zrw_zsen, gs_zen_zsen, gs_zrd_zsen, gs_zqu_zsen, gs_zn_zsen, gs_zkd_zsen, gs_zcp_zsen, gs_ztk_zsen, gs_zth_zsrd, gs_zpl_zsrd, gs_zwh_zsrd, gs_zho_zsrd, gs_zrw_zsrd, gs_zen_zsrd, gs_zrd_zsrd, gs_zqu_zsrd, gs_zn_zsrd, gs_zkd_zsrd, gs_zcp_zsrd, gs_ztk_zsrd, gs_zth_zsqu, gs_zpl_zsqu, gs_zwh_zsqu, gs_zho_zsqu, gs_zrw_zsqu, gs_zen_zsqu, gs_zrd_zsqu, gs_zqu_zsqu, gs_zn_zsqu, gs_zkd_zsqu, gs_zcp_zsqu, gs_ztk_zsqu, gs_zth_zstk, gs_zpl_zstk, gs_zwh_zstk, gs_zho_zstk, gs_zrw_zstk, gs_zen_zstk, gs_zrd_zstk, gs_zqu_zstk, gs_zn_zstk, gs_zkd_zstk, gs_zcp_zstk, gs_ztk_zstk]; exact a3
    · simp [zend, e, gs_zth_zsth, gs_zpl_zsth, gs_zwh_zsth, gs_zho_zsth, gs_zrw_zsth, gs_zen_zsth, gs_zrd_zsth, gs_zqu_zsth, gs_zn_zsth, gs_zkd_zsth, gs_zcp_zsth, gs_ztk_zsth, gs_zth_zspl, gs_zpl_zspl, gs_zwh_zspl, gs_zho_zspl, gs_zrw_zspl, gs_zen_zspl, gs_zrd_zspl, gs_zqu_zspl, gs_zn_zspl, gs_zkd_zspl, gs_zcp_zspl, gs_ztk_zspl, gs_zth_zswh, gs_zpl_zswh, gs_zwh_zswh, gs_zho_zswh, gs_zrw_zswh, gs_zen_zswh, gs_zrd_zswh, gs_zqu_zswh, gs_zn_zswh, gs_zkd_zswh, gs_zcp_zswh, gs_ztk_zswh, gs_zth_zsho, gs_zpl_zsho, gs_zwh_zsho, gs_zho_zsho, gs_zrw_zsho, gs_zen_zsho, gs_zrd_zsho, gs_zqu_zsho, gs_zn_zsho, gs_zkd_zsho, gs_zcp_zsho, gs_ztk_zsho, gs_zth_zsrw, gs_zpl_zsrw, gs_zwh_zsrw, gs_zho_zsrw, gs_zrw_zsrw, gs_zen_zsrw, gs_zrd_zsrw, gs_zqu_zsrw, gs_zn_zsrw, gs_zkd_zsrw, gs_zcp_zsrw, gs_ztk_zsrw, gs_zth_zsen, gs_zpl_zsen, gs_zwh_zsen, gs_zho_zsen, gs_zrw_zsen, gs_zen_zsen, gs_zrd_zsen, gs_zqu_zsen, gs_zn_zsen, gs_zkd_zsen, gs_zcp_zsen, gs_ztk_zsen, gs_zth_zsrd, gs_zpl_zsrd, gs_zwh_zsrd, gs_zho_zsrd, gs_zrw_zsrd, gs_zen_zsrd, gs_zrd_zsrd, gs_zqu_zsrd, gs_zn_zsrd, gs_zkd_zsrd, gs_zcp_zsrd, gs_ztk_zsrd, gs_zth_zsqu, gs_zpl_zsqu, gs_zwh_zsqu, gs_zho_zsqu, gs_zrw_zsqu, gs_zen_zsqu, gs_zrd_zsqu, gs_zqu_zsqu, gs_zn_zsqu, gs_zkd_zsqu, gs_zcp_zsqu, gs_ztk_zsqu, gs_zth_zstk, gs_zpl_zstk, gs_zwh_zstk, gs_zho_zstk, gs_zrw_zstk, gs_zen_zstk, gs_zrd_zstk, gs_zqu_zstk, gs_zn_zstk, gs_zkd_zstk, gs_zcp_zstk, gs_ztk_zstk]; exact a4
    · simp [zend, e, gs_zth_zsth, gs_zpl_zsth, gs_zwh_zsth, gs_zho_zsth, gs_zrw_zsth, gs_zen_zsth, gs_zrd_zsth, gs_zqu_zsth, gs_zn_zsth, gs_zkd_zsth, gs_zcp_zsth, gs_ztk_zsth, gs_zth_zspl, gs_zpl_zspl, gs_zwh_zspl, gs_zho_zspl, gs_zrw_zspl, gs_zen_zspl, gs_zrd_zspl, gs_zqu_zspl, gs_zn_zspl, gs_zkd_zspl, gs_zcp_zspl, gs_ztk_zspl, gs_zth_zswh, gs_zpl_zswh, gs_zwh_zswh, gs_zho_zswh, gs_zrw_zswh, gs_zen_zswh, gs_zrd_zswh, gs_zqu_zswh, gs_zn_zswh, gs_zkd_zswh, gs_zcp_zswh, gs_ztk_zswh, gs_zth_zsho, gs_zpl_zsho, gs_zwh_zsho, gs_zho_zsho, gs_zrw_zsho, gs_zen_zsho, gs_zrd_zsho, gs_zqu_zsho, gs_zn_zsho, gs_zkd_zsho, gs_zcp_zsho, gs_ztk_zsho, gs_zth_zsrw, gs_zpl_zsrw, gs_zwh_zsrw, gs_zho_zsrw, gs_zrw_zsrw, gs_zen_zsrw, gs_zrd_zsrw, gs_zqu_zsrw, gs_zn_zsrw, gs_zkd_zsrw, gs_zcp_zsrw, gs_ztk_zsrw, gs_zth_zsen, gs_zpl_zsen, gs_zwh_zsen, gs_zho_zsen, gs_zrw_zsen, gs_zen_zsen, gs_zrd_zsen, gs_zqu_zsen, gs_zn_zsen, gs_zkd_zsen, gs_zcp_zsen, gs_ztk_zsen, gs_zth_zsrd, gs_zpl_zsrd, gs_zwh_zsrd, gs_zho_zsrd, gs_zrw_zsrd, gs_zen_zsrd, gs_zrd_zsrd, gs_zqu_zsrd, gs_zn_zsrd, gs_zkd_zsrd, gs_zcp_zsrd, gs_ztk_zsrd, gs_zth_zsqu, gs_zpl_zsqu, gs_zwh_zsqu, gs_zho_zsqu, gs_zrw_zsqu, gs_zen_zsqu, gs_zrd_zsqu, gs_zqu_zsqu, gs_zn_zsqu, gs_zkd_zsqu, gs_zcp_zsqu, gs_ztk_zsqu, gs_zth_zstk, gs_zpl_zstk, gs_zwh_zstk, gs_zho_zstk, gs_zrw_zstk, gs_zen_zstk, gs_zrd_zstk, gs_zqu_zstk, gs_zn_zstk, gs_zkd_zstk, gs_zcp_zstk, gs_ztk_zstk]; exact a5
  · intro u hu
    simp [zend, gs_zth_zsth, gs_zpl_zsth, gs_zwh_zsth, gs_zho_zsth, gs_zrw_zsth, gs_zen_zsth, gs_zrd_zsth, gs_zqu_zsth, gs_zn_zsth, gs_zkd_zsth, gs_zcp_zsth, gs_ztk_zsth, gs_zth_zspl, gs_zpl_zspl, gs_zwh_zspl, gs_zho_zspl, gs_zrw_zspl, gs_zen_zspl, gs_zrd_zspl, gs_zqu_zspl, gs_zn_zspl, gs_zkd_zspl, gs_zcp_zspl, gs_ztk_zspl, gs_zth_zswh, gs_zpl_zswh, gs_zwh_zswh, gs_zho_zswh, gs_zrw_zswh, gs_zen_zswh, gs_zrd_zswh, gs_zqu_zswh, gs_zn_zswh, gs_zkd_zswh, gs_zcp_zswh, gs_ztk_zswh, gs_zth_zsho, gs_zpl_zsho, gs_zwh_zsho, gs_zho_zsho, gs_zrw_zsho, gs_zen_zsho, gs_zrd_zsho, gs_zqu_zsho, gs_zn_zsho, gs_zkd_zsho, gs_zcp_zsho, gs_ztk_zsho, gs_zth_zsrw, gs_zpl_zsrw, gs_zwh_zsrw, gs_zho_zsrw, gs_zrw_zsrw, gs_zen_zsrw, gs_zrd_zsrw, gs_zqu_zsrw, gs_zn_zsrw, gs_zkd_zsrw, gs_zcp_zsrw, gs_ztk_zsrw, gs_zth_zsen, gs_zpl_zsen, gs_zwh_zsen, gs_zho_zsen, gs_zrw_zsen, gs_zen_zsen, gs_zrd_zsen, gs_zqu_zsen, gs_zn_zsen, gs_zkd_zsen, gs_zcp_zsen, gs_ztk_zsen, gs_zth_zsrd, gs_zpl_zsrd, gs_zwh_zsrd, gs_zho_zsrd, gs_zrw_zsrd, gs_zen_zsrd, gs_zrd_zsrd, gs_zqu_zsrd, gs_zn_zsrd, gs_zkd_zsrd, gs_zcp_zsrd, gs_ztk_zsrd, gs_zth_zsqu, gs_zpl_zsqu, gs_zwh_zsqu, gs_zho_zsqu, gs_zrw_zsqu, gs_zen_zsqu, gs_zrd_zsqu, gs_zqu_zsqu, gs_zn_zsqu, gs_zkd_zsqu, gs_zcp_zsqu, gs_ztk_zsqu, gs_zth_zstk, gs_zpl_zstk, gs_zwh_zstk, gs_zho_zstk, gs_zrw_zstk, gs_zen_zstk, gs_zrd_zstk, gs_zqu_zstk, gs_zn_zstk, gs_zkd_zstk, gs_zcp_zstk, gs_ztk_zstk]
    exact hp.2.2.2.2.1 u hu
