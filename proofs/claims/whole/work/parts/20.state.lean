/-! the state of the system, in words: what both sides hold -/
/-- th: a thread's ints by slot; pl: a place's ints by slot; wh: where a thread is; ho: who holds or writes; rw: rows (0 the row, 1, 2 the conditions); en: acts ended; rd: times read; qu: a queue's ints; n, kd, cp: places, their kinds and sizes; tk: ticks -/
abbrev zS : Type := (Nat → Nat → Int32) × (Nat → Nat → Int32) × (Nat → Option Nat) × (Nat → Option Nat) × (Nat → Nat → List Nat) × (Nat → Nat → Int32) × (Nat → Nat → Int32) × (Nat → List Int32) × Nat × (Nat → Nat) × (Nat → Nat) × Int32
def zth (σ : zS) : Nat → Nat → Int32 := σ.1
def zpl (σ : zS) : Nat → Nat → Int32 := σ.2.1
def zwh (σ : zS) : Nat → Option Nat := σ.2.2.1
def zho (σ : zS) : Nat → Option Nat := σ.2.2.2.1
def zrw (σ : zS) : Nat → Nat → List Nat := σ.2.2.2.2.1
def zen (σ : zS) : Nat → Nat → Int32 := σ.2.2.2.2.2.1
def zrd (σ : zS) : Nat → Nat → Int32 := σ.2.2.2.2.2.2.1
def zqu (σ : zS) : Nat → List Int32 := σ.2.2.2.2.2.2.2.1
def zn (σ : zS) : Nat := σ.2.2.2.2.2.2.2.2.1
def zkd (σ : zS) : Nat → Nat := σ.2.2.2.2.2.2.2.2.2.1
def zcp (σ : zS) : Nat → Nat := σ.2.2.2.2.2.2.2.2.2.2.1
def ztk (σ : zS) : Int32 := σ.2.2.2.2.2.2.2.2.2.2.2
def zsth (σ : zS) (f t : Nat) (x : Int32) : zS := (yu (zth σ) f t x, σ.2)
def zspl (σ : zS) (f o : Nat) (x : Int32) : zS := (zth σ, yu (zpl σ) f o x, σ.2.2)
def zswh (σ : zS) (t : Nat) (x : Option Nat) : zS := (zth σ, zpl σ, va_up (zwh σ) t x, σ.2.2.2)
def zsho (σ : zS) (o : Nat) (x : Option Nat) : zS := (zth σ, zpl σ, zwh σ, va_up (zho σ) o x, σ.2.2.2.2)
def zsrw (σ : zS) (j o : Nat) (x : List Nat) : zS := (zth σ, zpl σ, zwh σ, zho σ, yu (zrw σ) j o x, σ.2.2.2.2.2)
def zsen (σ : zS) (t h : Nat) (x : Int32) : zS := (zth σ, zpl σ, zwh σ, zho σ, zrw σ, yu (zen σ) t h x, σ.2.2.2.2.2.2)
def zsrd (σ : zS) (o t : Nat) (x : Int32) : zS := (zth σ, zpl σ, zwh σ, zho σ, zrw σ, zen σ, yu (zrd σ) o t x, σ.2.2.2.2.2.2.2)
def zsqu (σ : zS) (o : Nat) (x : List Int32) : zS := (zth σ, zpl σ, zwh σ, zho σ, zrw σ, zen σ, zrd σ, va_up (zqu σ) o x, σ.2.2.2.2.2.2.2.2)
def zstk (σ : zS) (x : Int32) : zS := (zth σ, zpl σ, zwh σ, zho σ, zrw σ, zen σ, zrd σ, zqu σ, zn σ, zkd σ, zcp σ, x)
/-- the shapes of the class's cells -/
abbrev kP (o : Nat) : Nat := 100 + 10 * o
def zShp (σ : zS) (sh : Nat → Option ySh) : Prop :=
  sh 0 = some (.inl 0) ∧ sh 1 = some (.inr (3, 6)) ∧ sh 2 = some (.inr (4, 6)) ∧ (∀ t, t < 6 → sh (10 + t) = some (.inl 1) ∧ sh (20 + t) = some (.inr (0, 5))) ∧
  zn σ ≤ 6 ∧ (∀ o, o < zn σ → zkd σ o < 6 ∧ 1 ≤ zcp σ o ∧ zcp σ o ≤ 3 ∧ sh (kP o) = some (.inl (3 + zkd σ o)) ∧ sh (kP o + 1) = some (.inl 2) ∧ sh (kP o + 2) = some (.inr (3, 6)) ∧
    (zkd σ o = 0 → sh (kP o + 3) = some (.inl 2) ∧ sh (kP o + 4) = some (.inr (3, 6)) ∧ sh (kP o + 5) = some (.inl 2) ∧ sh (kP o + 6) = some (.inr (3, 6))) ∧
    (zkd σ o = 1 → sh (kP o + 7) = some (.inr (0, 6))) ∧ (zkd σ o = 5 → sh (kP o + 7) = some (.inr (0, zcp σ o))))
/-- a row at the cells k, k + 1 -/
def zR (l : List Nat) (ω : yW) (k : Nat) : Prop := l.length ≤ 6 ∧ (∀ t ∈ l, t < 6) ∧ ω.2.1 k 1 = nI l.length ∧ ω.2.2 k 0 = some (k + 1) ∧ ∀ j (h : j < l.length), ω.2.2 (k + 1) j = some (10 + l[j])
def zT (σ : zS) (ω : yW) (t : Nat) : Prop := ω.2.1 (10 + t) 0 = nI t ∧ ω.2.2 (10 + t) 1 = some (20 + t) ∧ ω.2.2 (10 + t) 4 = (zwh σ t).map kP ∧ (∀ f, 2 ≤ f → f < 12 → f ≠ 4 → ω.2.1 (10 + t) f = zth σ f t) ∧ (∀ h, h < 5 → ω.2.1 (20 + t) h = zen σ t h) ∧ (∀ o, zwh σ t = some o → o < zn σ)
def zPl (σ : zS) (ω : yW) (o : Nat) : Prop := ω.2.1 (kP o) 0 = nI (zkd σ o) ∧ ω.2.1 (kP o) 1 = nI o ∧ ω.2.2 (kP o) 2 = some (kP o + 1) ∧ zR (zrw σ 0 o) ω (kP o + 1) ∧
  (zkd σ o = 0 → ω.2.2 (kP o) 3 = some (kP o + 3) ∧ ω.2.2 (kP o) 4 = some (kP o + 5) ∧ ω.2.2 (kP o) 5 = (zho σ o).map (10 + ·) ∧ ω.2.1 (kP o) 6 = zpl σ 6 o ∧ zR (zrw σ 1 o) ω (kP o + 3) ∧ zR (zrw σ 2 o) ω (kP o + 5)) ∧
  (zkd σ o = 1 → ω.2.2 (kP o) 3 = some (kP o + 7) ∧ ω.2.1 (kP o) 4 = zpl σ 4 o ∧ ω.2.2 (kP o) 5 = (zho σ o).map (10 + ·) ∧ ω.2.1 (kP o) 6 = zpl σ 6 o ∧ ∀ t, t < 6 → ω.2.1 (kP o + 7) t = zrd σ o t) ∧
  (zkd σ o = 2 → ω.2.1 (kP o) 3 = zpl σ 3 o) ∧ (zkd σ o = 3 → ω.2.1 (kP o) 3 = zpl σ 3 o) ∧ (zkd σ o = 4 → ω.2.1 (kP o) 3 = nI (zcp σ o) ∧ ω.2.1 (kP o) 4 = zpl σ 4 o) ∧
  (zkd σ o = 5 → ω.2.2 (kP o) 3 = some (kP o + 7) ∧ ω.2.1 (kP o) 4 = nI (zqu σ o).length ∧ (zqu σ o).length ≤ zcp σ o ∧ ∀ j (h : j < (zqu σ o).length), ω.2.1 (kP o + 7) j = (zqu σ o)[j]) ∧ (∀ t, zho σ o = some t → t < 6)
/-- what is referred to is there -/
def yCl (ω : yW) : Prop := ∀ (k : Nat) (s9 : ySh) (f j : Nat), ω.1 k = some s9 → ω.2.2 k f = some j → ω.1 j ≠ none
theorem yCl.sfo {ω : yW} {k i : Nat} {x : Option Nat} (h : yCl ω) (hj : ∀ j, x = some j → ω.1 j ≠ none) : yCl (ysf ω k i x) := by
  intro k' s9 f j' hk hf
  by_cases e : k' = k ∧ f = i
  · rw [e.1, e.2] at hf
    have : (ysf ω k i x).2.2 k i = x := yu_same _ _ _ _
    rw [this] at hf
    exact hj _ hf
  · have : (ysf ω k i x).2.2 k' f = ω.2.2 k' f := by
      show yu _ _ _ _ _ _ = _
      unfold yu
      rw [if_neg e]
    rw [this] at hf
    exact h k' s9 f j' hk hf
/-- the class's cells hold σ; the cells from 200 on are those of μ -/
def zC (σ : zS) (μ ω : yW) : Prop := zShp σ ω.1 ∧ ω.1 = μ.1 ∧ (∀ k, 200 ≤ k → ω.2.1 k = μ.2.1 k ∧ ω.2.2 k = μ.2.2 k) ∧ ω.2.2 0 0 = some 1 ∧ ω.2.2 0 1 = some 2 ∧ ω.2.1 0 2 = nI (zn σ) ∧ ω.2.1 0 3 = ztk σ ∧ (∀ t, t < 6 → ω.2.2 1 t = some (10 + t)) ∧ (∀ o, o < 6 → ω.2.2 2 o = if o < zn σ then some (kP o) else none) ∧
  (∀ t, t < 6 → zT σ ω t) ∧ (∀ o, o < zn σ → zPl σ ω o) ∧ yCl ω
