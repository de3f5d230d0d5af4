/-! what a place's kind selects, and what it answers -/
def zb (b : Bool) : Int32 := if b = true then 1 else 0
theorem zCT.mono {G : yG} {i : yM} {As : List yV} {σ : zS} {μ : yW} {P P' : Option yV → zS → Prop} (h : zCT G i As σ μ P) (hP : ∀ r σ', P r σ' → P' r σ') : zCT G i As σ μ P' := fun ω hω => (h ω hω).mono (fun r ω' ⟨σ', h1, h2⟩ => ⟨σ', h1, hP r σ' h2⟩)
theorem zb_if {p : Prop} [Decidable p] : (if p then (1 : Int32) else 0) = zb (decide p) := by unfold zb; by_cases h : p <;> simp [h]
theorem zb_nif {p : Prop} [Decidable p] : (if p then (0 : Int32) else 1) = zb (!decide p) := by unfold zb; by_cases h : p <;> simp [h]

def sel_allows (c : Nat) : yM := match c with
  | 0 => m_K_allows
  | 1 => m_B_allows
  | 2 => m_S_allows
  | _ => m_P_allows
theorem sel_allows_code : ∀ c, c < 6 → ycode (sel_allows c) ∈ lw_tbl := by
  intro c hc
  rcases (show c = 0 ∨ c = 1 ∨ c = 2 ∨ c = 3 ∨ c = 4 ∨ c = 5 by omega) with rfl | rfl | rfl | rfl | rfl | rfl
  · exact cw_K_allows
  · exact cw_B_allows
  · exact cw_S_allows
  · exact cw_P_allows
  · exact cw_P_allows
  · exact cw_P_allows
def zallowsC (c : Nat) (σ : zS) (o t : Nat) (a g : Int32) : Bool := match c with
  | 0 => decide (a = 0 ∨ zho σ o = some t)
  | 1 => if a = 6 then decide (0 < zrd σ o t) else if a = 8 then decide (zho σ o = some t) else true
  | 2 => decide (¬ a = 10 ∨ ¬ 50 < zpl σ 3 o + g)
  | _ => true
def zallows (σ : zS) (o t : Nat) (a g : Int32) : Bool := zallowsC (zkd σ o) σ o t a g

set_option maxRecDepth 20000 in
theorem v_allows {G : yG} {μ : yW} {σ : zS} {o : Nat} (ho : o < zn σ) {t : Nat} (ht : t < 6) {a g : Int32} : zCT G (sel_allows (zkd σ o)) [yr (kP o), yr (10 + t), yi a, yi g] σ μ (fun r σ' => r = some (yi (zb (zallows σ o t a g))) ∧ σ' = σ) := by
  intro ω h
  unfold zallows
  rcases zkinds h ho with e | e | e | e | e | e
  · rw [e]
    refine (c_K_allows ho e ht).mono (fun r σ' hp => ⟨?_, hp.2⟩) ω h
    rw [hp.1, zb_if]; rfl
  · rw [e]
    refine (c_B_allows ho e ht).mono (fun r σ' hp => ⟨?_, hp.2⟩) ω h
    rw [hp.1]
    by_cases h6 : a = 6
    · simp [zallowsC, h6, zb]
    · by_cases h8 : a = 8
      · simp [zallowsC, h8, zb]
      · simp [zallowsC, h6, h8, zb]
  · rw [e]
    refine (c_S_allows ho e ht).mono (fun r σ' hp => ⟨?_, hp.2⟩) ω h
    rw [hp.1, zb_if]; rfl
  · rw [e]
    refine (c_P_allows ho ht).mono (fun r σ' hp => ⟨?_, hp.2⟩) ω h
    rw [hp.1]; rfl
  · rw [e]
    refine (c_P_allows ho ht).mono (fun r σ' hp => ⟨?_, hp.2⟩) ω h
    rw [hp.1]; rfl
  · rw [e]
    refine (c_P_allows ho ht).mono (fun r σ' hp => ⟨?_, hp.2⟩) ω h
    rw [hp.1]; rfl

def sel_refuses (c : Nat) : yM := match c with
  | 4 => m_A_refuses
  | _ => m_P_refuses
theorem sel_refuses_code : ∀ c, c < 6 → ycode (sel_refuses c) ∈ lw_tbl := by
  intro c hc
  rcases (show c = 0 ∨ c = 1 ∨ c = 2 ∨ c = 3 ∨ c = 4 ∨ c = 5 by omega) with rfl | rfl | rfl | rfl | rfl | rfl
  · exact cw_P_refuses
  · exact cw_P_refuses
  · exact cw_P_refuses
  · exact cw_P_refuses
  · exact cw_A_refuses
  · exact cw_P_refuses
def zrefusesC (c : Nat) (σ : zS) (o t : Nat) : Bool := match c with
  | 4 => decide (zth σ 8 t = 13 ∧ ¬ zpl σ 4 o = 0)
  | _ => false
def zrefuses (σ : zS) (o t : Nat) : Bool := zrefusesC (zkd σ o) σ o t

set_option maxRecDepth 20000 in
theorem v_refuses {G : yG} {μ : yW} {σ : zS} {o : Nat} (ho : o < zn σ) {t : Nat} (ht : t < 6) : zCT G (sel_refuses (zkd σ o)) [yr (kP o), yr (10 + t)] σ μ (fun r σ' => r = some (yi (zb (zrefuses σ o t))) ∧ σ' = σ) := by
  intro ω h
  unfold zrefuses
  rcases zkinds h ho with e | e | e | e | e | e
  · rw [e]
    refine (c_P_refuses ho ht).mono (fun r σ' hp => ⟨?_, hp.2⟩) ω h
    rw [hp.1]; rfl
  · rw [e]
    refine (c_P_refuses ho ht).mono (fun r σ' hp => ⟨?_, hp.2⟩) ω h
    rw [hp.1]; rfl
  · rw [e]
    refine (c_P_refuses ho ht).mono (fun r σ' hp => ⟨?_, hp.2⟩) ω h
    rw [hp.1]; rfl
  · rw [e]
    refine (c_P_refuses ho ht).mono (fun r σ' hp => ⟨?_, hp.2⟩) ω h
    rw [hp.1]; rfl
  · rw [e]
    refine (c_A_refuses ho e ht).mono (fun r σ' hp => ⟨?_, hp.2⟩) ω h
    rw [hp.1, zb_if]; rfl
  · rw [e]
    refine (c_P_refuses ho ht).mono (fun r σ' hp => ⟨?_, hp.2⟩) ω h
    rw [hp.1]; rfl

def sel_canBe (c : Nat) : yM := match c with
  | 0 => m_K_canBe
  | 1 => m_B_canBe
  | 2 => m_S_canBe
  | 3 => m_L_canBe
  | 4 => m_A_canBe
  | _ => m_Q_canBe
theorem sel_canBe_code : ∀ c, c < 6 → ycode (sel_canBe c) ∈ lw_tbl := by
  intro c hc
  rcases (show c = 0 ∨ c = 1 ∨ c = 2 ∨ c = 3 ∨ c = 4 ∨ c = 5 by omega) with rfl | rfl | rfl | rfl | rfl | rfl
  · exact cw_K_canBe
  · exact cw_B_canBe
  · exact cw_S_canBe
  · exact cw_L_canBe
  · exact cw_A_canBe
  · exact cw_Q_canBe
def zcanC (c : Nat) (σ : zS) (o t : Nat) : Bool := match c with
  | 0 => decide (zho σ o = none)
  | 1 => decide (¬ (¬ zho σ o = none ∧ ¬ zho σ o = some t) ∧ (zth σ 8 t = 5 ∨ zpl σ 4 o ≤ zrd σ o t))
  | 2 => !decide (zpl σ 3 o < zth σ 9 t)
  | 3 => decide (zpl σ 3 o = 0)
  | 4 => false
  | _ => if zth σ 8 t = 15 then decide ((zqu σ o).length < zcp σ o) else decide (0 < (zqu σ o).length)
def zcan (σ : zS) (o t : Nat) : Bool := zcanC (zkd σ o) σ o t

set_option maxRecDepth 20000 in
theorem v_canBe {G : yG} {μ : yW} {σ : zS} {o : Nat} (ho : o < zn σ) {t : Nat} (ht : t < 6) : zCT G (sel_canBe (zkd σ o)) [yr (kP o), yr (10 + t)] σ μ (fun r σ' => r = some (yi (zb (zcan σ o t))) ∧ σ' = σ) := by
  intro ω h
  unfold zcan
  rcases zkinds h ho with e | e | e | e | e | e
  · rw [e]
    refine (c_K_canBe ho e ht).mono (fun r σ' hp => ⟨?_, hp.2⟩) ω h
    rw [hp.1, zb_if]; rfl
  · rw [e]
    refine (c_B_canBe ho e ht).mono (fun r σ' hp => ⟨?_, hp.2⟩) ω h
    rw [hp.1, zb_if]; rfl
  · rw [e]
    refine (c_S_canBe ho e ht).mono (fun r σ' hp => ⟨?_, hp.2⟩) ω h
    rw [hp.1, zb_nif]; rfl
  · rw [e]
    refine (c_L_canBe ho e ht).mono (fun r σ' hp => ⟨?_, hp.2⟩) ω h
    rw [hp.1, zb_if]; rfl
  · rw [e]
    refine (c_A_canBe ho e ht).mono (fun r σ' hp => ⟨?_, hp.2⟩) ω h
    rw [hp.1]; rfl
  · rw [e]
    have hQ := (h.pl ho).2.2.2.2.2.2.2.2.2.1 e
    have hcap : zcp σ o ≤ 3 := (h.1.2.2.2.2.2 o ho).2.2.1
    have hl := hQ.2.2.1
    refine (c_Q_canBe ho e ht).mono (fun r σ' hp => ⟨?_, hp.2⟩) ω h
    rw [hp.1]
    have e1 : (nI (zcp σ o) ≤ nI (zqu σ o).length) = (zcp σ o ≤ (zqu σ o).length) := propext (nI_leI (by omega) (by omega))
    have e2 : (nI (zqu σ o).length ≤ 0) = ((zqu σ o).length ≤ 0) := propext (nI_leI (b := 0) (by omega) (by omega))
    simp only [zcanC, e1, e2]
    by_cases h15 : zth σ 8 t = 15
    · simp [h15, zb]
      by_cases hc : (zqu σ o).length < zcp σ o
      · rw [if_neg (by omega), if_pos hc]
      · rw [if_pos (by omega), if_neg hc]
    · simp [h15, zb]
      by_cases hc : zqu σ o = []
      · simp [hc]
      · simp [hc, List.length_pos_iff]

def sel_passes (c : Nat) : yM := match c with
  | 0 => m_K_passesRow
  | 1 => m_B_passesRow
  | 2 => m_S_passesRow
  | 3 => m_L_passesRow
  | 4 => m_A_passesRow
  | _ => m_Q_passesRow
theorem sel_passes_code : ∀ c, c < 6 → ycode (sel_passes c) ∈ lw_tbl := by
  intro c hc
  rcases (show c = 0 ∨ c = 1 ∨ c = 2 ∨ c = 3 ∨ c = 4 ∨ c = 5 by omega) with rfl | rfl | rfl | rfl | rfl | rfl
  · exact cw_K_passesRow
  · exact cw_B_passesRow
  · exact cw_S_passesRow
  · exact cw_L_passesRow
  · exact cw_A_passesRow
  · exact cw_Q_passesRow
def zpassC (c : Nat) (σ : zS) (o t : Nat) : Bool := match c with
  | 0 => decide (zho σ o = some t ∧ ¬ zth σ 8 t = 2)
  | 1 => decide (zho σ o = some t ∨ zth σ 8 t = 6)
  | 2 => decide (zth σ 8 t = 10)
  | 3 => decide (zth σ 8 t = 12)
  | 4 => decide (zth σ 8 t = 14 ∨ ¬ (zrw σ 0 o).length + 1 < zcp σ o)
  | _ => false
def zpass (σ : zS) (o t : Nat) : Bool := zpassC (zkd σ o) σ o t

set_option maxRecDepth 20000 in
theorem v_passes {G : yG} {μ : yW} {σ : zS} {o : Nat} (ho : o < zn σ) {t : Nat} (ht : t < 6) : zCT G (sel_passes (zkd σ o)) [yr (kP o), yr (10 + t)] σ μ (fun r σ' => r = some (yi (zb (zpass σ o t))) ∧ σ' = σ) := by
  intro ω h
  unfold zpass
  rcases zkinds h ho with e | e | e | e | e | e
  · rw [e]
    refine (c_K_passesRow ho e ht).mono (fun r σ' hp => ⟨?_, hp.2⟩) ω h
    rw [hp.1, zb_if]; rfl
  · rw [e]
    refine (c_B_passesRow ho e ht).mono (fun r σ' hp => ⟨?_, hp.2⟩) ω h
    rw [hp.1, zb_if]; rfl
  · rw [e]
    refine (c_S_passesRow ho e ht).mono (fun r σ' hp => ⟨?_, hp.2⟩) ω h
    rw [hp.1, zb_if]; rfl
  · rw [e]
    refine (c_L_passesRow ho e ht).mono (fun r σ' hp => ⟨?_, hp.2⟩) ω h
    rw [hp.1, zb_if]; rfl
  · rw [e]
    have hr := (h.row (j := 0) ⟨ho, Or.inl rfl⟩).1.1
    have hcap : zcp σ o ≤ 3 := (h.1.2.2.2.2.2 o ho).2.2.1
    refine (c_A_passesRow ho e ⟨ho, Or.inl rfl⟩ ht).mono (fun r σ' hp => ⟨?_, hp.2⟩) ω h
    rw [hp.1, zb_if]
    have e1 : (nI (zrw σ 0 o).length + 1 < nI (zcp σ o)) = ((zrw σ 0 o).length + 1 < zcp σ o) := by rw [nI_1]; exact propext (nI_ltI (by omega) (by omega))
    simp only [zpassC, e1]
  · rw [e]
    refine (c_Q_passesRow ho e ht).mono (fun r σ' hp => ⟨?_, hp.2⟩) ω h
    rw [hp.1]; rfl

def sel_sort (c : Nat) : yM := match c with
  | 5 => m_Q_sortOf
  | _ => m_P_sortOf
theorem sel_sort_code : ∀ c, c < 6 → ycode (sel_sort c) ∈ lw_tbl := by
  intro c hc
  rcases (show c = 0 ∨ c = 1 ∨ c = 2 ∨ c = 3 ∨ c = 4 ∨ c = 5 by omega) with rfl | rfl | rfl | rfl | rfl | rfl
  · exact cw_P_sortOf
  · exact cw_P_sortOf
  · exact cw_P_sortOf
  · exact cw_P_sortOf
  · exact cw_P_sortOf
  · exact cw_Q_sortOf
def zsort (c : Nat) (a : Int32) : Int32 := match c with
  | 5 => if a = 16 then 1 else 0
  | _ => 0

set_option maxRecDepth 20000 in
theorem v_sort {G : yG} {μ : yW} {σ : zS} {o : Nat} (ho : o < zn σ) {x : Int32} : zCT G (sel_sort (zkd σ o)) [yr (kP o), yi x] σ μ (fun r σ' => r = some (yi (zsort (zkd σ o) x)) ∧ σ' = σ) := by
  intro ω h
  skip
  rcases zkinds h ho with e | e | e | e | e | e
  · rw [e]
    refine (c_P_sortOf ho).mono (fun r σ' hp => ⟨?_, hp.2⟩) ω h
    rw [hp.1]; rfl
  · rw [e]
    refine (c_P_sortOf ho).mono (fun r σ' hp => ⟨?_, hp.2⟩) ω h
    rw [hp.1]; rfl
  · rw [e]
    refine (c_P_sortOf ho).mono (fun r σ' hp => ⟨?_, hp.2⟩) ω h
    rw [hp.1]; rfl
  · rw [e]
    refine (c_P_sortOf ho).mono (fun r σ' hp => ⟨?_, hp.2⟩) ω h
    rw [hp.1]; rfl
  · rw [e]
    refine (c_P_sortOf ho).mono (fun r σ' hp => ⟨?_, hp.2⟩) ω h
    rw [hp.1]; rfl
  · rw [e]
    refine (c_Q_sortOf ho e).mono (fun r σ' hp => ⟨?_, hp.2⟩) ω h
    rw [hp.1]; rfl

def sel_owner (c : Nat) : yM := match c with
  | 0 => m_K_owner
  | 1 => m_B_owner
  | _ => m_P_owner
theorem sel_owner_code : ∀ c, c < 6 → ycode (sel_owner c) ∈ lw_tbl := by
  intro c hc
  rcases (show c = 0 ∨ c = 1 ∨ c = 2 ∨ c = 3 ∨ c = 4 ∨ c = 5 by omega) with rfl | rfl | rfl | rfl | rfl | rfl
  · exact cw_K_owner
  · exact cw_B_owner
  · exact cw_P_owner
  · exact cw_P_owner
  · exact cw_P_owner
  · exact cw_P_owner
def zownerC (c : Nat) (σ : zS) (o : Nat) : Int32 := match c with
  | 0 => znum (zho σ o)
  | 1 => znum (zho σ o)
  | _ => 0
def zowner (σ : zS) (o : Nat) : Int32 := zownerC (zkd σ o) σ o

set_option maxRecDepth 20000 in
theorem v_owner {G : yG} {μ : yW} {σ : zS} {o : Nat} (ho : o < zn σ)  : zCT G (sel_owner (zkd σ o)) [yr (kP o)] σ μ (fun r σ' => r = some (yi (zowner σ o)) ∧ σ' = σ) := by
  intro ω h
  unfold zowner
  rcases zkinds h ho with e | e | e | e | e | e
  · rw [e]
    refine (c_K_owner ho e (h.pl ho).2.2.2.2.2.2.2.2.2.2).mono (fun r σ' hp => ⟨?_, hp.2⟩) ω h
    rw [hp.1]; rfl
  · rw [e]
    refine (c_B_owner ho e (h.pl ho).2.2.2.2.2.2.2.2.2.2).mono (fun r σ' hp => ⟨?_, hp.2⟩) ω h
    rw [hp.1]; rfl
  · rw [e]
    refine (c_P_owner ho).mono (fun r σ' hp => ⟨?_, hp.2⟩) ω h
    rw [hp.1]; rfl
  · rw [e]
    refine (c_P_owner ho).mono (fun r σ' hp => ⟨?_, hp.2⟩) ω h
    rw [hp.1]; rfl
  · rw [e]
    refine (c_P_owner ho).mono (fun r σ' hp => ⟨?_, hp.2⟩) ω h
    rw [hp.1]; rfl
  · rw [e]
    refine (c_P_owner ho).mono (fun r σ' hp => ⟨?_, hp.2⟩) ω h
    rw [hp.1]; rfl

def sel_waiters (c : Nat) : yM := match c with
  | 0 => m_K_waitersAt
  | _ => m_P_waitersAt
theorem sel_waiters_code : ∀ c, c < 6 → ycode (sel_waiters c) ∈ lw_tbl := by
  intro c hc
  rcases (show c = 0 ∨ c = 1 ∨ c = 2 ∨ c = 3 ∨ c = 4 ∨ c = 5 by omega) with rfl | rfl | rfl | rfl | rfl | rfl
  · exact cw_K_waitersAt
  · exact cw_P_waitersAt
  · exact cw_P_waitersAt
  · exact cw_P_waitersAt
  · exact cw_P_waitersAt
  · exact cw_P_waitersAt
def zwaitersC (c : Nat) (σ : zS) (o : Nat) (x : Int32) : Int32 := match c with
  | 0 => nI (zrw σ (zcj x) o).length
  | _ => 0
def zwaiters (σ : zS) (o : Nat) (x : Int32) : Int32 := zwaitersC (zkd σ o) σ o x

set_option maxRecDepth 20000 in
theorem v_waiters {G : yG} {μ : yW} {σ : zS} {o : Nat} (ho : o < zn σ) {x : Int32} : zCT G (sel_waiters (zkd σ o)) [yr (kP o), yi x] σ μ (fun r σ' => r = some (yi (zwaiters σ o x)) ∧ σ' = σ) := by
  intro ω h
  unfold zwaiters
  rcases zkinds h ho with e | e | e | e | e | e
  · rw [e]
    refine (c_K_waitersAt ho e).mono (fun r σ' hp => ⟨?_, hp.2⟩) ω h
    rw [hp.1]; rfl
  · rw [e]
    refine (c_P_waitersAt ho).mono (fun r σ' hp => ⟨?_, hp.2⟩) ω h
    rw [hp.1]; rfl
  · rw [e]
    refine (c_P_waitersAt ho).mono (fun r σ' hp => ⟨?_, hp.2⟩) ω h
    rw [hp.1]; rfl
  · rw [e]
    refine (c_P_waitersAt ho).mono (fun r σ' hp => ⟨?_, hp.2⟩) ω h
    rw [hp.1]; rfl
  · rw [e]
    refine (c_P_waitersAt ho).mono (fun r σ' hp => ⟨?_, hp.2⟩) ω h
    rw [hp.1]; rfl
  · rw [e]
    refine (c_P_waitersAt ho).mono (fun r σ' hp => ⟨?_, hp.2⟩) ω h
    rw [hp.1]; rfl

def sel_timesRead (c : Nat) : yM := match c with
  | 1 => m_B_timesRead
  | _ => m_P_timesRead
theorem sel_timesRead_code : ∀ c, c < 6 → ycode (sel_timesRead c) ∈ lw_tbl := by
  intro c hc
  rcases (show c = 0 ∨ c = 1 ∨ c = 2 ∨ c = 3 ∨ c = 4 ∨ c = 5 by omega) with rfl | rfl | rfl | rfl | rfl | rfl
  · exact cw_P_timesRead
  · exact cw_B_timesRead
  · exact cw_P_timesRead
  · exact cw_P_timesRead
  · exact cw_P_timesRead
  · exact cw_P_timesRead
def ztimesC (c : Nat) (σ : zS) (o : Nat) : Int32 := match c with
  | 1 => zpl σ 4 o
  | _ => 0
def ztimes (σ : zS) (o : Nat) : Int32 := ztimesC (zkd σ o) σ o

set_option maxRecDepth 20000 in
theorem v_timesRead {G : yG} {μ : yW} {σ : zS} {o : Nat} (ho : o < zn σ)  : zCT G (sel_timesRead (zkd σ o)) [yr (kP o)] σ μ (fun r σ' => r = some (yi (ztimes σ o)) ∧ σ' = σ) := by
  intro ω h
  unfold ztimes
  rcases zkinds h ho with e | e | e | e | e | e
  · rw [e]
    refine (c_P_timesRead ho).mono (fun r σ' hp => ⟨?_, hp.2⟩) ω h
    rw [hp.1]; rfl
  · rw [e]
    refine (c_B_timesRead ho e).mono (fun r σ' hp => ⟨?_, hp.2⟩) ω h
    rw [hp.1]; rfl
  · rw [e]
    refine (c_P_timesRead ho).mono (fun r σ' hp => ⟨?_, hp.2⟩) ω h
    rw [hp.1]; rfl
  · rw [e]
    refine (c_P_timesRead ho).mono (fun r σ' hp => ⟨?_, hp.2⟩) ω h
    rw [hp.1]; rfl
  · rw [e]
    refine (c_P_timesRead ho).mono (fun r σ' hp => ⟨?_, hp.2⟩) ω h
    rw [hp.1]; rfl
  · rw [e]
    refine (c_P_timesRead ho).mono (fun r σ' hp => ⟨?_, hp.2⟩) ω h
    rw [hp.1]; rfl

def sel_isBroken (c : Nat) : yM := match c with
  | 4 => m_A_isBroken
  | _ => m_P_isBroken
theorem sel_isBroken_code : ∀ c, c < 6 → ycode (sel_isBroken c) ∈ lw_tbl := by
  intro c hc
  rcases (show c = 0 ∨ c = 1 ∨ c = 2 ∨ c = 3 ∨ c = 4 ∨ c = 5 by omega) with rfl | rfl | rfl | rfl | rfl | rfl
  · exact cw_P_isBroken
  · exact cw_P_isBroken
  · exact cw_P_isBroken
  · exact cw_P_isBroken
  · exact cw_A_isBroken
  · exact cw_P_isBroken
def zbrokenC (c : Nat) (σ : zS) (o : Nat) : Int32 := match c with
  | 4 => zpl σ 4 o
  | _ => 0
def zbroken (σ : zS) (o : Nat) : Int32 := zbrokenC (zkd σ o) σ o

set_option maxRecDepth 20000 in
theorem v_isBroken {G : yG} {μ : yW} {σ : zS} {o : Nat} (ho : o < zn σ) (hb : zkd σ o = 4 → narrow .boolean (.int (zpl σ 4 o)) = .int (zpl σ 4 o)) : zCT G (sel_isBroken (zkd σ o)) [yr (kP o)] σ μ (fun r σ' => r = some (yi (zbroken σ o)) ∧ σ' = σ) := by
  intro ω h
  unfold zbroken
  rcases zkinds h ho with e | e | e | e | e | e
  · rw [e]
    refine (c_P_isBroken ho).mono (fun r σ' hp => ⟨?_, hp.2⟩) ω h
    rw [hp.1]; rfl
  · rw [e]
    refine (c_P_isBroken ho).mono (fun r σ' hp => ⟨?_, hp.2⟩) ω h
    rw [hp.1]; rfl
  · rw [e]
    refine (c_P_isBroken ho).mono (fun r σ' hp => ⟨?_, hp.2⟩) ω h
    rw [hp.1]; rfl
  · rw [e]
    refine (c_P_isBroken ho).mono (fun r σ' hp => ⟨?_, hp.2⟩) ω h
    rw [hp.1]; rfl
  · rw [e]
    refine (c_A_isBroken ho e (hb e)).mono (fun r σ' hp => ⟨?_, hp.2⟩) ω h
    rw [hp.1]; rfl
  · rw [e]
    refine (c_P_isBroken ho).mono (fun r σ' hp => ⟨?_, hp.2⟩) ω h
    rw [hp.1]; rfl

def sel_leanedOn (c : Nat) : yM := match c with
  | 0 => m_K_leanedOn
  | _ => m_P_leanedOn
theorem sel_leanedOn_code : ∀ c, c < 6 → ycode (sel_leanedOn c) ∈ lw_tbl := by
  intro c hc
  rcases (show c = 0 ∨ c = 1 ∨ c = 2 ∨ c = 3 ∨ c = 4 ∨ c = 5 by omega) with rfl | rfl | rfl | rfl | rfl | rfl
  · exact cw_K_leanedOn
  · exact cw_P_leanedOn
  · exact cw_P_leanedOn
  · exact cw_P_leanedOn
  · exact cw_P_leanedOn
  · exact cw_P_leanedOn
def zleanedC (c : Nat) (σ : zS) (o : Nat) : Option Nat := match c with
  | 0 => zho σ o
  | _ => none
def zleaned (σ : zS) (o : Nat) : Option Nat := zleanedC (zkd σ o) σ o

set_option maxRecDepth 20000 in
theorem v_leanedOn {G : yG} {μ : yW} {σ : zS} {o : Nat} (ho : o < zn σ)  : zCT G (sel_leanedOn (zkd σ o)) [yr (kP o)] σ μ (fun r σ' => r = some (yo ((zleaned σ o).map (10 + ·))) ∧ σ' = σ) := by
  intro ω h
  unfold zleaned
  rcases zkinds h ho with e | e | e | e | e | e
  · rw [e]
    refine (c_K_leanedOn ho e).mono (fun r σ' hp => ⟨?_, hp.2⟩) ω h
    rw [hp.1]; rfl
  · rw [e]
    refine (c_P_leanedOn ho).mono (fun r σ' hp => ⟨?_, hp.2⟩) ω h
    rw [hp.1]; rfl
  · rw [e]
    refine (c_P_leanedOn ho).mono (fun r σ' hp => ⟨?_, hp.2⟩) ω h
    rw [hp.1]; rfl
  · rw [e]
    refine (c_P_leanedOn ho).mono (fun r σ' hp => ⟨?_, hp.2⟩) ω h
    rw [hp.1]; rfl
  · rw [e]
    refine (c_P_leanedOn ho).mono (fun r σ' hp => ⟨?_, hp.2⟩) ω h
    rw [hp.1]; rfl
  · rw [e]
    refine (c_P_leanedOn ho).mono (fun r σ' hp => ⟨?_, hp.2⟩) ω h
    rw [hp.1]; rfl

def sel_level (c : Nat) : yM := match c with
  | 0 => m_K_level
  | 1 => m_B_level
  | 2 => m_S_level
  | 3 => m_L_level
  | 4 => m_A_level
  | _ => m_Q_level
theorem sel_level_code : ∀ c, c < 6 → ycode (sel_level c) ∈ lw_tbl := by
  intro c hc
  rcases (show c = 0 ∨ c = 1 ∨ c = 2 ∨ c = 3 ∨ c = 4 ∨ c = 5 by omega) with rfl | rfl | rfl | rfl | rfl | rfl
  · exact cw_K_level
  · exact cw_B_level
  · exact cw_S_level
  · exact cw_L_level
  · exact cw_A_level
  · exact cw_Q_level
def zlevelC (c : Nat) (σ : zS) (o : Nat) : Int32 := match c with
  | 0 => zpl σ 6 o
  | 1 => zpl σ 6 o
  | 2 => zpl σ 3 o
  | 3 => zpl σ 3 o
  | 4 => nI (zrw σ 0 o).length
  | _ => nI (zqu σ o).length
def zlevel (σ : zS) (o : Nat) : Int32 := zlevelC (zkd σ o) σ o

set_option maxRecDepth 20000 in
theorem v_level {G : yG} {μ : yW} {σ : zS} {o : Nat} (ho : o < zn σ)  : zCT G (sel_level (zkd σ o)) [yr (kP o)] σ μ (fun r σ' => r = some (yi (zlevel σ o)) ∧ σ' = σ) := by
  intro ω h
  unfold zlevel
  rcases zkinds h ho with e | e | e | e | e | e
  · rw [e]
    refine (c_K_level ho e).mono (fun r σ' hp => ⟨?_, hp.2⟩) ω h
    rw [hp.1]; rfl
  · rw [e]
    refine (c_B_level ho e).mono (fun r σ' hp => ⟨?_, hp.2⟩) ω h
    rw [hp.1]; rfl
  · rw [e]
    refine (c_S_level ho e).mono (fun r σ' hp => ⟨?_, hp.2⟩) ω h
    rw [hp.1]; rfl
  · rw [e]
    refine (c_L_level ho e).mono (fun r σ' hp => ⟨?_, hp.2⟩) ω h
    rw [hp.1]; rfl
  · rw [e]
    refine (c_A_level ho e ⟨ho, Or.inl rfl⟩).mono (fun r σ' hp => ⟨?_, hp.2⟩) ω h
    rw [hp.1]; rfl
  · rw [e]
    refine (c_Q_level ho e).mono (fun r σ' hp => ⟨?_, hp.2⟩) ω h
    rw [hp.1]; rfl

def sel_grant (c : Nat) : yM := match c with
  | 0 => m_K_grant
  | 1 => m_B_grant
  | 2 => m_S_grant
  | 3 => m_L_grant
  | 4 => m_A_grant
  | _ => m_Q_grant
theorem sel_grant_code : ∀ c, c < 6 → ycode (sel_grant c) ∈ lw_tbl := by
  intro c hc
  rcases (show c = 0 ∨ c = 1 ∨ c = 2 ∨ c = 3 ∨ c = 4 ∨ c = 5 by omega) with rfl | rfl | rfl | rfl | rfl | rfl
  · exact cw_K_grant
  · exact cw_B_grant
  · exact cw_S_grant
  · exact cw_L_grant
  · exact cw_A_grant
  · exact cw_Q_grant
def zgrantC (c : Nat) (σ : zS) (o t : Nat) : zS := match c with
  | 0 => zgrantK σ o t
  | 1 => zgrantB σ o t
  | 2 => zspl σ 3 o (zpl σ 3 o + (if zth σ 8 t = 10 then zth σ 9 t else -(zth σ 9 t)))
  | 3 => if zth σ 8 t = 12 ∧ ¬ zpl σ 3 o ≤ 0 then zspl σ 3 o (zpl σ 3 o - 1) else σ
  | 4 => zgrantA σ o t
  | _ => zgrantQ σ o t
def zgrant (σ : zS) (o t : Nat) : zS := zgrantC (zkd σ o) σ o t
def zgpre (σ : zS) (o t : Nat) : Prop := (zkd σ o = 0 → (zrw σ 0 o).length + (zrw σ (zcj (zth σ 9 t)) o).length ≤ 6) ∧ (zkd σ o = 5 → ¬ zth σ 8 t = 15 → zqu σ o ≠ [])

set_option maxRecDepth 20000 in
theorem v_grant {G : yG} {μ : yW} {σ : zS} {o : Nat} (ho : o < zn σ) {t : Nat} (ht : t < 6) (hg : zgpre σ o t) : zCT G (sel_grant (zkd σ o)) [yr (kP o), yr (10 + t)] σ μ (fun r σ' => r = none ∧ σ' = zgrant σ o t) := by
  intro ω h
  unfold zgrant
  rcases zkinds h ho with e | e | e | e | e | e
  · rw [e]
    exact c_K_grant ho e ht (hg.1 e) ω h
  · rw [e]
    exact c_B_grant ho e ht ω h
  · rw [e]
    exact c_S_grant ho e ht ω h
  · rw [e]
    exact c_L_grant ho e ht ω h
  · rw [e]
    exact c_A_grant ho e ht ω h
  · rw [e]
    exact c_Q_grant ho e ht (hg.2 e) ω h

def sel_holdBack (c : Nat) : yM := match c with
  | 0 => m_K_holdBack
  | _ => m_P_holdBack
theorem sel_holdBack_code : ∀ c, c < 6 → ycode (sel_holdBack c) ∈ lw_tbl := by
  intro c hc
  rcases (show c = 0 ∨ c = 1 ∨ c = 2 ∨ c = 3 ∨ c = 4 ∨ c = 5 by omega) with rfl | rfl | rfl | rfl | rfl | rfl
  · exact cw_K_holdBack
  · exact cw_P_holdBack
  · exact cw_P_holdBack
  · exact cw_P_holdBack
  · exact cw_P_holdBack
  · exact cw_P_holdBack
def zholdC (c : Nat) (σ : zS) (o t : Nat) (p : Int32) : zS := match c with
  | 0 => if zth σ 8 t = 2 then zjoinC σ o t p else zjoin σ o t p
  | _ => zjoin σ o t p
def zhold (σ : zS) (o t : Nat) (p : Int32) : zS := zholdC (zkd σ o) σ o t p

set_option maxRecDepth 20000 in
theorem v_holdBack {G : yG} {μ : yW} {σ : zS} {o : Nat} (ho : o < zn σ) {t : Nat} (ht : t < 6) {p : Int32} (h5 : (zrw σ 0 o).length < 6) (h5c : zkd σ o = 0 → (zrw σ (zcj (zth σ 9 t)) o).length < 6) : zCT G (sel_holdBack (zkd σ o)) [yr (kP o), yr (10 + t), yi p] σ μ (fun r σ' => r = none ∧ σ' = zhold σ o t p) := by
  intro ω h
  unfold zhold
  rcases zkinds h ho with e | e | e | e | e | e
  · rw [e]
    exact c_K_holdBack ho e ht h5 (h5c e) ω h
  · rw [e]
    exact c_P_holdBack ho ht h5 ω h
  · rw [e]
    exact c_P_holdBack ho ht h5 ω h
  · rw [e]
    exact c_P_holdBack ho ht h5 ω h
  · rw [e]
    exact c_P_holdBack ho ht h5 ω h
  · rw [e]
    exact c_P_holdBack ho ht h5 ω h

def sel_giveUp (c : Nat) : yM := match c with
  | 0 => m_K_giveUp
  | _ => m_P_giveUp
theorem sel_giveUp_code : ∀ c, c < 6 → ycode (sel_giveUp c) ∈ lw_tbl := by
  intro c hc
  rcases (show c = 0 ∨ c = 1 ∨ c = 2 ∨ c = 3 ∨ c = 4 ∨ c = 5 by omega) with rfl | rfl | rfl | rfl | rfl | rfl
  · exact cw_K_giveUp
  · exact cw_P_giveUp
  · exact cw_P_giveUp
  · exact cw_P_giveUp
  · exact cw_P_giveUp
  · exact cw_P_giveUp

set_option maxRecDepth 20000 in
theorem v_giveUp {G : yG} {μ : yW} {σ : zS} {o : Nat} (ho : o < zn σ) {t : Nat} (ht : t < 6) {q : Nat} (hq : q < 5) (h5 : zkd σ o = 0 → zth σ 2 t = 2 → (zrw σ 0 o).length < 6) : zCT G (sel_giveUp (zkd σ o)) [yr (kP o), yr (10 + t), yi (nI q)] σ μ (fun r σ' => r = none ∧ σ' = zgiveUp σ o t q) := by
  intro ω h
  skip
  rcases zkinds h ho with e | e | e | e | e | e
  · rw [e]
    exact c_K_giveUp ho e ht hq (h5 e) ω h
  · rw [e]
    refine (c_P_giveUp ho ht hq).mono (fun r σ' hp => ⟨hp.1, ?_⟩) ω h
    rw [hp.2]
    unfold zgiveUp
    rw [if_neg (by rw [e]; exact fun z => absurd z.1 (by decide))]
  · rw [e]
    refine (c_P_giveUp ho ht hq).mono (fun r σ' hp => ⟨hp.1, ?_⟩) ω h
    rw [hp.2]
    unfold zgiveUp
    rw [if_neg (by rw [e]; exact fun z => absurd z.1 (by decide))]
  · rw [e]
    refine (c_P_giveUp ho ht hq).mono (fun r σ' hp => ⟨hp.1, ?_⟩) ω h
    rw [hp.2]
    unfold zgiveUp
    rw [if_neg (by rw [e]; exact fun z => absurd z.1 (by decide))]
  · rw [e]
    refine (c_P_giveUp ho ht hq).mono (fun r σ' hp => ⟨hp.1, ?_⟩) ω h
    rw [hp.2]
    unfold zgiveUp
    rw [if_neg (by rw [e]; exact fun z => absurd z.1 (by decide))]
  · rw [e]
    refine (c_P_giveUp ho ht hq).mono (fun r σ' hp => ⟨hp.1, ?_⟩) ω h
    rw [hp.2]
    unfold zgiveUp
    rw [if_neg (by rw [e]; exact fun z => absurd z.1 (by decide))]
