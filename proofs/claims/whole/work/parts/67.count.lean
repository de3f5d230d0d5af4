/-! counting -/
theorem nod_filter : ∀ {l : List Nat} {t : Nat}, l.Nodup → t ∈ l → (l.filter (fun u => u ≠ t)).length + 1 = l.length
  | [], t, _, h => by cases h
  | a :: l, t, hn, h => by
    obtain ⟨h1, h2⟩ := List.nodup_cons.mp hn
    by_cases e : a = t
    · subst e
      have h3 : l.filter (fun u => u ≠ a) = l := List.filter_eq_self.mpr (fun u hu => by
        have : ¬ u = a := fun z => h1 (by rw [← z]; exact hu)
        simpa using this)
      rw [List.filter_cons_of_neg (by simp), h3]
      rfl
    · rw [List.filter_cons_of_pos (by simpa using e)]
      have h3 : t ∈ l := by rcases List.mem_cons.mp h with z | z; exact absurd z.symm e; exact z
      have := nod_filter h2 h3
      simp only [List.length_cons]
      omega
theorem nod_len : ∀ (n : Nat) (l : List Nat), l.Nodup → (∀ x ∈ l, x < n) → l.length ≤ n
  | 0, l, _, h => by
    cases l with
    | nil => exact Nat.le_refl _
    | cons a l => exact absurd (h a List.mem_cons_self) (Nat.not_lt_zero _)
  | n + 1, l, hn, h => by
    by_cases hm : n ∈ l
    · have h1 := nod_filter hn hm
      have h2 := nod_len n (l.filter (fun u => u ≠ n)) (hn.filter _) (fun x hx => by
        obtain ⟨a, b⟩ := List.mem_filter.mp hx
        have := h x a
        have : ¬ x = n := by simpa using b
        omega)
      omega
    · have := nod_len n l hn (fun x hx => by
        have h1 := h x hx
        have : ¬ x = n := fun e => hm (by rw [← e]; exact hx)
        omega)
      omega
theorem nod_len5 {l : List Nat} {t : Nat} (hn : l.Nodup) (h : ∀ x ∈ l, x < 6) (ht : t < 6) (hm : t ∉ l) : l.length < 6 := by
  have := nod_len 6 (t :: l) (List.nodup_cons.mpr ⟨hm, hn⟩) (fun x hx => by rcases List.mem_cons.mp hx with z | z; omega; exact h x z)
  simp only [List.length_cons] at this
  omega
theorem nod_idx {l : List Nat} {t i : Nat} (hn : l.Nodup) (hi : l[i]? = some t) : l.filter (fun u => u ≠ t) = l.eraseIdx i := by
  induction l generalizing i with
  | nil => cases hi
  | cons a l ih =>
    obtain ⟨h1, h2⟩ := List.nodup_cons.mp hn
    cases i with
    | zero =>
      have e : a = t := Option.some.inj hi
      subst e
      rw [List.filter_cons_of_neg (by simp)]
      show _ = l
      exact List.filter_eq_self.mpr (fun u hu => by
        have : ¬ u = a := fun z => h1 (by rw [← z]; exact hu)
        simpa using this)
    | succ i =>
      have hi2 : l[i]? = some t := hi
      have hm : t ∈ l := List.mem_of_getElem? hi2
      have e : ¬ a = t := fun z => h1 (by rw [z]; exact hm)
      rw [List.filter_cons_of_pos (by simpa using e), ih h2 hi2]
      rfl
def zsN (f : Nat → Nat) : Nat → Nat
  | 0 => 0
  | n + 1 => zsN f n + f n
def zcN (f : Nat → Bool) : Nat → Nat
  | 0 => 0
  | n + 1 => zcN f n + (if f n = true then 1 else 0)
theorem zsum_ext {f g : Nat → Int32} : ∀ n, (∀ u, u < n → f u = g u) → zsum f n = zsum g n
  | 0, _ => rfl
  | n + 1, h => by
    show zsum f n + f n = zsum g n + g n
    rw [zsum_ext n (fun u hu => h u (by omega)), h n (by omega)]
theorem zsN_ext {f g : Nat → Nat} : ∀ n, (∀ u, u < n → f u = g u) → zsN f n = zsN g n
  | 0, _ => rfl
  | n + 1, h => by
    show zsN f n + f n = zsN g n + g n
    rw [zsN_ext n (fun u hu => h u (by omega)), h n (by omega)]
theorem zcN_ext {f g : Nat → Bool} : ∀ n, (∀ u, u < n → f u = g u) → zcN f n = zcN g n
  | 0, _ => rfl
  | n + 1, h => by
    show zcN f n + _ = zcN g n + _
    rw [zcN_ext n (fun u hu => h u (by omega)), h n (by omega)]
theorem zsum_upd {f : Nat → Int32} {t : Nat} {d : Int32} : ∀ n, t < n → zsum (fun u => if u = t then f u + d else f u) n = zsum f n + d
  | 0, h => absurd h (Nat.not_lt_zero _)
  | n + 1, h => by
    show zsum (fun u => if u = t then f u + d else f u) n + (if n = t then f n + d else f n) = zsum f n + f n + d
    by_cases e : n = t
    · subst e
      rw [if_pos rfl, zsum_ext (g := f) n (fun u hu => if_neg (by omega)), Int32.add_assoc]
    · rw [if_neg e, zsum_upd n (by omega), Int32.add_assoc, Int32.add_comm d, ← Int32.add_assoc]
theorem zsN_upd {f g : Nat → Nat} {t : Nat} : ∀ n, t < n → (∀ u, u < n → ¬ u = t → g u = f u) → zsN g n + f t = zsN f n + g t
  | 0, h, _ => absurd h (Nat.not_lt_zero _)
  | n + 1, h, hg => by
    show zsN g n + g n + f t = zsN f n + f n + g t
    by_cases e : n = t
    · subst e
      rw [zsN_ext (f := g) (g := f) n (fun u hu => hg u (by omega) (by omega))]
      omega
    · have := zsN_upd n (by omega) (fun u hu hne => hg u (by omega) hne) (t := t) (f := f) (g := g)
      rw [hg n (by omega) e]
      omega
theorem zcN_upd {f g : Nat → Bool} {t : Nat} : ∀ n, t < n → (∀ u, u < n → ¬ u = t → g u = f u) → zcN g n + (if f t = true then 1 else 0) = zcN f n + (if g t = true then 1 else 0)
  | 0, h, _ => absurd h (Nat.not_lt_zero _)
  | n + 1, h, hg => by
    show zcN g n + (if g n = true then 1 else 0) + _ = zcN f n + (if f n = true then 1 else 0) + _
    by_cases e : n = t
    · subst e
      rw [zcN_ext (f := g) (g := f) n (fun u hu => hg u (by omega) (by omega))]
      omega
    · have := zcN_upd n (by omega) (fun u hu hne => hg u (by omega) hne) (t := t) (f := f) (g := g)
      rw [hg n (by omega) e]
      omega
theorem clN {x : Int32} (h : ¬ x < 0) : x = nI x.toNatClampNeg := by
  obtain ⟨j, hj, rfl⟩ := nI_of h
  rw [nI_clamp hj]
theorem clN_lt {x : Int32} (h : ¬ x < 0) : x.toNatClampNeg < 2 ^ 31 := by
  obtain ⟨j, hj, rfl⟩ := nI_of h
  rw [nI_clamp hj]; exact hj
theorem zsum_nI {f : Nat → Int32} : ∀ n, (∀ u, u < n → ¬ f u < 0) → zsum f n = nI (zsN (fun u => (f u).toNatClampNeg) n)
  | 0, _ => rfl
  | n + 1, h => by
    show zsum f n + f n = nI (_ + _)
    rw [zsum_nI n (fun u hu => h u (by omega)), ← nI_add, ← clN (h n (by omega))]
theorem zsN_zero {f : Nat → Nat} : ∀ n, zsN f n = 0 → ∀ u, u < n → f u = 0
  | 0, _, u, hu => absurd hu (Nat.not_lt_zero _)
  | n + 1, h, u, hu => by
    have h : zsN f n + f n = 0 := h
    by_cases e : u = n
    · subst e; omega
    · exact zsN_zero n (by omega) u (by omega)
theorem zsN_z {f : Nat → Nat} : ∀ n, (∀ u, u < n → f u = 0) → zsN f n = 0
  | 0, _ => rfl
  | n + 1, h => by
    show zsN f n + f n = 0
    rw [zsN_z n (fun u hu => h u (by omega)), h n (by omega)]
theorem zsN_le {f : Nat → Nat} {t : Nat} : ∀ n, t < n → f t ≤ zsN f n
  | 0, h => absurd h (Nat.not_lt_zero _)
  | n + 1, h => by
    show f t ≤ zsN f n + f n
    by_cases e : t = n
    · subst e; omega
    · have := zsN_le n (f := f) (t := t) (by omega); omega
/-- the bound: all reads, and those who are not running -/
def zB (n : Nat) (X : Nat → Bool) (σ : zS) : Prop := n < 1000000 ∧ ∀ o, o < zn σ → zkd σ o = 1 → zsN (fun u => (zrd σ o u).toNatClampNeg) 6 + zcN (fun u => X u || !decide (zth σ 2 u = 0)) 6 ≤ n
/-- others' reads -/
theorem zBk_oth {n : Nat} {X : Nat → Bool} {σ : zS} {o t : Nat} (hb : zB n X σ) (hk : zBk σ o) (ho : o < zn σ) (h1 : zkd σ o = 1) (ht : t < 6) : zpl σ 4 o ≤ zrd σ o t ↔ ∀ u, u < 6 → ¬ u = t → zrd σ o u = 0 := by
  obtain ⟨hn, hb⟩ := hb
  have hb := hb o ho h1
  obtain ⟨k1, k2, k3⟩ := hk
  rw [k2, zsum_nI 6 k1, clN (k1 t ht)]
  have hle := zsN_le (f := fun u => (zrd σ o u).toNatClampNeg) 6 ht
  have hle : (zrd σ o t).toNatClampNeg ≤ zsN (fun u => (zrd σ o u).toNatClampNeg) 6 := hle
  rw [nI_leI (by omega) (by omega)]
  have hu := zsN_upd (f := fun u => (zrd σ o u).toNatClampNeg) (g := fun u => if u = t then 0 else (zrd σ o u).toNatClampNeg) 6 ht (fun u _ hne => if_neg hne)
  have hu : zsN (fun u => if u = t then 0 else (zrd σ o u).toNatClampNeg) 6 + (zrd σ o t).toNatClampNeg = zsN (fun u => (zrd σ o u).toNatClampNeg) 6 + (if t = t then 0 else (zrd σ o t).toNatClampNeg) := hu
  rw [if_pos rfl] at hu
  constructor
  · intro h u hu6 hne
    have hz := zsN_zero 6 (f := fun u => if u = t then 0 else (zrd σ o u).toNatClampNeg) (by omega) u hu6
    have hz : (if u = t then 0 else (zrd σ o u).toNatClampNeg) = 0 := hz
    rw [if_neg hne] at hz
    rw [clN (k1 u hu6), hz]; rfl
  · intro h
    have hz := zsN_z 6 (f := fun u => if u = t then 0 else (zrd σ o u).toNatClampNeg) (fun u hu6 => by
      show (if u = t then 0 else (zrd σ o u).toNatClampNeg) = 0
      by_cases e : u = t
      · rw [if_pos e]
      · rw [if_neg e, h u hu6 e]; rfl)
    omega
