/-! the model: its cells are ints under fixed numbers; worlds (s, M, F) -/
abbrev mM : Type := Nat → Nat → Int32
abbrev mw (s : Nat → Option ySh) (F : Nat → Nat → Option Nat) (M : mM) : yW := (s, M, F)
def mtc (a : Nat) : Nat := match a with
  | 9 => 1
  | 10 => 1
  | 22 => 1
  | _ => 0
def mln (a : Nat) : Nat := match a with
  | 16 => 36
  | 17 => 12
  | 18 => 72
  | 19 => 36
  | 20 => 18
  | 21 => 5
  | _ => 6
def mSh (s : Nat → Option ySh) (F : Nat → Nat → Option Nat) : Prop := s 200 = some (.inl 9) ∧ ∀ a, a < 23 → F 200 a = some (201 + a) ∧ s (201 + a) = some (.inr (mtc a, mln a))
theorem nI0 : (0 : Int32) = nI 0 := rfl
theorem nI1 : (1 : Int32) = nI 1 := rfl
theorem nI2 : (2 : Int32) = nI 2 := rfl
theorem nI3 : (3 : Int32) = nI 3 := rfl
theorem nI4 : (4 : Int32) = nI 4 := rfl
theorem nI6 : (6 : Int32) = nI 6 := rfl
theorem nI_mulN (a b : Nat) : nI a * nI b = nI (a * b) := by
  unfold nI
  rw [Int32.ofNat_mul]
section MR
variable {G : yG} {i : yM} {Qf : yQT} {sh0 : Nat → Option ySh} {pc : Nat} {ls : List (Option yV)} {st : List yV} {s : Nat → Option ySh} {F : Nat → Nat → Option Nat} {M : mM} {cs sl : Nat}
theorem mr_arr {a K ix : Nat} {ref host : String} (hS : mSh s F) (hd : decode (yMb i) pc = .ok (.getfield ix, 3)) (site : ySF (yMy i).cls ix ref host 9 a = true) (hk : yfk 9 a = true) (ha : a < 23) (hK : 201 + a = K) (kk : yWW G i Qf sh0 (pc + 3) ls (yr K :: st) (mw s F M) cs sl) : yWW G i Qf sh0 pc ls (yr 200 :: st) (mw s F M) cs sl := by
  refine yr_getr hd hS.1 site hk ?_
  show yWW G i Qf sh0 (pc + 3) ls (yo (F 200 a) :: st) (mw s F M) cs sl
  rw [(hS.2 a ha).1, hK]
  exact kk
theorem mr_geti {f ix : Nat} {ref host : String} (hS : mSh s F) (hd : decode (yMb i) pc = .ok (.getfield ix, 3)) (site : ySF (yMy i).cls ix ref host 9 f = true) (hk : yfk 9 f = false) (kk : yWW G i Qf sh0 (pc + 3) ls (yi (M 200 f) :: st) (mw s F M) cs sl) : yWW G i Qf sh0 pc ls (yr 200 :: st) (mw s F M) cs sl :=
  yr_geti hd hS.1 site hk kk
theorem mr_puti {f ix : Nat} {ref host : String} {x : Int32} (hS : mSh s F) (hd : decode (yMb i) pc = .ok (.putfield ix, 3)) (site : ySF (yMy i).cls ix ref host 9 f = true) (hfin : (yT9 f).2.2.2 = false) (hk : yfk 9 f = false) (hn : narrow (yft 9 f) (.int x) = .int x ∧ fits (yft 9 f) (.int x) = true) (kk : yWW G i Qf sh0 (pc + 3) ls st (mw s F (yu M 200 f x)) cs sl) : yWW G i Qf sh0 pc ls (yi x :: yr 200 :: st) (mw s F M) cs sl :=
  yr_puti hd hS.1 site rfl hfin hk hn kk
theorem mr_ld {K a n j : Nat} {x : Int32} (hS : mSh s F) (hd : decode (yMb i) pc = .ok (.iaload, 1)) (ha : a < 23) (hK : 201 + a = K) (ht : mtc a = 0) (hn : mln a = n) (hx : x = nI j) (hj : j < n) (kk : yWW G i Qf sh0 (pc + 1) ls (yi (M K j) :: st) (mw s F M) cs sl) : yWW G i Qf sh0 pc ls (yi x :: yr K :: st) (mw s F M) cs sl := by
  have h := (hS.2 a ha).2
  have h72 : mln a ≤ 72 := by unfold mln; split <;> omega
  rw [hK, ht, hn] at h
  exact yr_iald hd h (by rw [hx]; exact nI_pos (by omega)) (by rw [hx]; exact nI_clamp (by omega)) hj kk
theorem mr_ldz {K a n j : Nat} {x : Int32} (hS : mSh s F) (hd : decode (yMb i) pc = .ok (.baload, 1)) (ha : a < 23) (hK : 201 + a = K) (ht : mtc a = 1) (hn : mln a = n) (hx : x = nI j) (hj : j < n) (kk : yWW G i Qf sh0 (pc + 1) ls (yi (M K j) :: st) (mw s F M) cs sl) : yWW G i Qf sh0 pc ls (yi x :: yr K :: st) (mw s F M) cs sl := by
  have h := (hS.2 a ha).2
  have h72 : mln a ≤ 72 := by unfold mln; split <;> omega
  rw [hK, ht, hn] at h
  exact yr_zald hd h (by rw [hx]; exact nI_pos (by omega)) (by rw [hx]; exact nI_clamp (by omega)) hj kk
theorem mr_st {K a n j : Nat} {x z : Int32} (hS : mSh s F) (hd : decode (yMb i) pc = .ok (.iastore, 1)) (ha : a < 23) (hK : 201 + a = K) (ht : mtc a = 0) (hn : mln a = n) (hx : x = nI j) (hj : j < n) (kk : yWW G i Qf sh0 (pc + 1) ls st (mw s F (yu M K j z)) cs sl) : yWW G i Qf sh0 pc ls (yi z :: yi x :: yr K :: st) (mw s F M) cs sl := by
  have h := (hS.2 a ha).2
  have h72 : mln a ≤ 72 := by unfold mln; split <;> omega
  rw [hK, ht, hn] at h
  exact yr_iast hd h (by rw [hx]; exact nI_pos (by omega)) (by rw [hx]; exact nI_clamp (by omega)) hj kk
theorem mr_stz {K a n j : Nat} {x z : Int32} (hS : mSh s F) (hd : decode (yMb i) pc = .ok (.bastore, 1)) (ha : a < 23) (hK : 201 + a = K) (ht : mtc a = 1) (hn : mln a = n) (hx : x = nI j) (hj : j < n) (hz : narrow .boolean (.int z) = .int z) (kk : yWW G i Qf sh0 (pc + 1) ls st (mw s F (yu M K j z)) cs sl) : yWW G i Qf sh0 pc ls (yi z :: yi x :: yr K :: st) (mw s F M) cs sl := by
  have h := (hS.2 a ha).2
  have h72 : mln a ≤ 72 := by unfold mln; split <;> omega
  rw [hK, ht, hn] at h
  exact yr_zast hd h (by rw [hx]; exact nI_pos (by omega)) (by rw [hx]; exact nI_clamp (by omega)) hj hz kk
/-- a call of the model's own -/
theorem mr_call {i' : yM} {stk rest As : List yV} {P : Option yV → mM → Prop} (hr : yRun G i i' pc ls stk rest As (mw s F M) cs sl (fun r ω' => ∃ M', ω' = mw s F M' ∧ P r M') yNX) (kk : ∀ r M', P r M' → yWW G i Qf sh0 (pc + 3) ls (r.toList ++ rest) (mw s F M') (cs + (yMm i').cells) (sl + (yMm i').slots)) : yWW G i Qf sh0 pc ls stk (mw s F M) cs sl :=
  yr_call hr (fun r ω' h => by obtain ⟨M', rfl, -⟩ := h; rfl) (fun r ω' h => by obtain ⟨M', rfl, h2⟩ := h; exact kk r M' h2)
end MR
def mCT (G : yG) (i : yM) (As : List yV) (s : Nat → Option ySh) (F : Nat → Nat → Option Nat) (M : mM) (P : Option yV → mM → Prop) : Prop := yCT G i As (mw s F M) (fun r ω' => ∃ M', ω' = mw s F M' ∧ P r M') yNX
abbrev mQ (G : yG) (i : yM) (s : Nat → Option ySh) (F : Nat → Nat → Option Nat) (P : Option yV → mM → Prop) : yQT := yQf G i s (fun r ω' => ∃ M', ω' = mw s F M' ∧ P r M') yNX
theorem mCT.mono {G : yG} {i : yM} {As : List yV} {s : Nat → Option ySh} {F : Nat → Nat → Option Nat} {M : mM} {P P' : Option yV → mM → Prop} (h : mCT G i As s F M P) (hP : ∀ r M', P r M' → P' r M') : mCT G i As s F M P' := yCT.mono h (fun r ω' ⟨M', h1, h2⟩ => ⟨M', h1, hP r M' h2⟩)
