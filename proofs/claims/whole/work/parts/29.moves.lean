/-! places: the moves -/
theorem zdecl {i' : yM} (h1 : Cond.instanceMethod (yMy i') ∈ lw_tbl) (h2 : ycode i' ∈ lw_tbl) : ∀ s : State, yGx s → va_Decl s (yMy i') := fun s hg => va_Decl.of (args := #[]) (hg _ h1 rfl #[]) (hg _ h2 rfl #[])
theorem zdeclA {x : MethodName} (h1 : Cond.declares x ∈ lw_tbl) : ∀ s : State, yGx s → va_Decl s x := fun s hg => va_Decl.abs (hg _ h1 rfl #[])
section ZC1
variable {G : yG} {i : yM} {pc : Nat} {ls : List (Option yV)} {σ : zS} {μ : yW} {cs sl : Nat} {P : Option yV → zS → Prop}
/-- a method of a place of a known kind -/
theorem zrunC {i' : yM} {o c : Nat} {As rest : List yV} {ix : Nat} {x : MethodName} {owner : String} (hd : decode (yMb i) pc = .ok (.invokevirtual ix, 3)) (ho : o < zn σ) (hk : zkd σ o = c) (hc6 : c < 6) (hct : zCT G i' (yr (kP o) :: As) σ μ P) (n : Nat) (hn : As.length = n) (hf : zUF i i' ix n x owner (zcl c).1 false = true) (hcode : ycode i' ∈ lw_tbl) (hdecl : ∀ s : State, yGx s → va_Decl s ⟨owner, x.name, x.desc⟩) (hcell : (yMm i').cells = 0 ∧ (yMm i').slots = 0) (hrest : rest.length ≤ 8) (hcat : ∀ v ∈ rest, ∀ ad, (ycv ad v).category = 1) (hc : cs ≤ (yMm i).cells) (hs : sl ≤ (yMm i).slots) :
    ∀ ω, zC σ μ ω → yRun G i i' pc ls (As.reverse ++ yr (kP o) :: rest) rest (yr (kP o) :: As) ω cs sl (zP μ P) yNX := by
  intro ω h
  subst hn
  unfold zUF at hf
  simp only [Bool.and_eq_true, decide_eq_true_eq] at hf
  obtain ⟨⟨⟨⟨⟨⟨⟨⟨g1, g2⟩, g3⟩, g4⟩, g5⟩, g6⟩, g7⟩, g8⟩, g9⟩ := hf
  refine yrunU2 (x := x) (owner := owner) (ci := 3 + c) hd (hct ω h) (h.sP' ho (by rw [hk])) (zcl_ok _ hc6) g1 ⟨g2, g3⟩ g4 hcode g5 g6 g7 hdecl g8 ?_ hrest hcat (by rw [hcell.1]; exact hc) (by rw [hcell.2]; exact hs)
  intro s args c9 hg hfc
  simp only [Bool.false_eq_true, if_false, decide_eq_true_eq] at g9
  exact hg _ g9 rfl args
end ZC1
def zjoin (σ : zS) (o t : Nat) (p : Int32) : zS := zstay (zsrw σ 0 o (zrw σ 0 o ++ [t])) t (some o) 1 p
def ztake (σ : zS) (o t : Nat) (h : Int32) : zS := zstay (zsrw (zsth σ 11 t h) 0 o (zrw σ 0 o ++ [t])) t (some o) 1 (-1)
/-- the condition's row by its number -/
def zcj (x : Int32) : Nat := if x = 0 then 1 else 2
def zjoinC (σ : zS) (o t : Nat) (p : Int32) : zS := zstay (zsrw (zsho (zspl (zsth σ 10 t (zpl σ 6 o)) 6 o 0) o none) (zcj (zth σ 9 t)) o (zrw σ (zcj (zth σ 9 t)) o ++ [t])) t (some o) 2 p
theorem zcj_v {σ : zS} {o : Nat} {x : Int32} (ho : o < zn σ) (hk : zkd σ o = 0) : zrv σ (zcj x) o := ⟨ho, Or.inr ⟨hk, by unfold zcj; split <;> omega⟩⟩

set_option maxHeartbeats 4000000 in
set_option maxRecDepth 20000 in
theorem c_P_joinRow {G : yG} {μ : yW} {σ : zS} {o : Nat} {p : Int32} (ho : o < zn σ) {t : Nat} (ht : t < 6) (h5 : (zrw σ 0 o).length < 6)  : zCT G m_P_joinRow [yr (kP o), yr (10 + t), yi p] σ μ (fun r σ' => r = none ∧ σ' = zjoin σ o t p) := by
  have hv : zrv σ 0 o := ⟨ho, Or.inl rfl⟩
  refine zCT_of (by decide) rfl (ycat_of rfl) (Nat.le_of_ble_eq_true rfl) ?_
  refine zr_aload_n d_P_joinRow_0 rfl ?_
  refine zr_prow d_P_joinRow_1 (by first | assumption | omega) sf_P_joinRow_1 ?_
  refine zr_aload_n d_P_joinRow_4 rfl ?_
  refine zr_call (zrunV (As := [yr (10 + t)]) (rest := []) d_P_joinRow_5 (fun ω h => (h.row (by assumption)).2.1) rfl (c_R_add hv ht h5) 1 rfl (by decide +kernel) cw_R_add (Nat.le_of_ble_eq_true rfl) (ycat_of rfl) (by decide) (by decide)) (fun r σ9 hp => ?_)
  obtain ⟨rfl, rfl⟩ := hp
  refine zr_aload_n d_P_joinRow_8 rfl ?_
  refine zr_aload_n d_P_joinRow_9 rfl ?_
  refine zr_iconst (v := 1) d_P_joinRow_10 (by decide) ?_
  refine zr_iload_n d_P_joinRow_11 rfl ?_
  refine zr_call (zrunV (As := [yr (kP o), yi 1, yi p]) (rest := []) d_P_joinRow_12 (fun ω h => h.sT (by assumption)) rfl (c_T_stay ht ho) 3 rfl (by decide +kernel) cw_T_stay (Nat.le_of_ble_eq_true rfl) (ycat_of rfl) (by decide) (by decide)) (fun r σ9 hp => ?_)
  obtain ⟨rfl, rfl⟩ := hp
  exact zr_retv d_P_joinRow_15 rfl (by decide) (by decide) ⟨rfl, rfl⟩

set_option maxHeartbeats 4000000 in
set_option maxRecDepth 20000 in
theorem c_P_holdBack {G : yG} {μ : yW} {σ : zS} {o : Nat} {p : Int32} (ho : o < zn σ) {t : Nat} (ht : t < 6) (h5 : (zrw σ 0 o).length < 6)  : zCT G m_P_holdBack [yr (kP o), yr (10 + t), yi p] σ μ (fun r σ' => r = none ∧ σ' = zjoin σ o t p) := by
  refine zCT_of (by decide) rfl (ycat_of rfl) (Nat.le_of_ble_eq_true rfl) ?_
  refine zr_aload_n d_P_holdBack_0 rfl ?_
  refine zr_aload_n d_P_holdBack_1 rfl ?_
  refine zr_iload_n d_P_holdBack_2 rfl ?_
  refine zr_call (zrunP (sel := fun _ => m_P_joinRow) (o := o) (As := [yr (10 + t), yi p]) (rest := []) (x := yMy m_P_joinRow) (owner := "MonitorYard$Place") (priv := false) d_P_holdBack_3 ho (c_P_joinRow ho ht h5) 2 rfl (by decide +kernel) (fun _ _ => cw_P_joinRow) (zdecl (i' := m_P_joinRow) (by decide +kernel) cw_P_joinRow) (by decide) (Nat.le_of_ble_eq_true rfl) (ycat_of rfl) (by decide) (by decide)) (fun r σ9 hp => ?_)
  obtain ⟨rfl, rfl⟩ := hp
  exact zr_retv d_P_holdBack_6 rfl (by decide) (by decide) ⟨rfl, rfl⟩

set_option maxHeartbeats 4000000 in
set_option maxRecDepth 20000 in
theorem c_K_takeAgain {G : yG} {μ : yW} {σ : zS} {o : Nat} {x : Int32} (ho : o < zn σ) (hk : zkd σ o = 0) {t : Nat} (ht : t < 6) (h5 : (zrw σ 0 o).length < 6)  : zCT G m_K_takeAgain [yr (kP o), yr (10 + t), yi x] σ μ (fun r σ' => r = none ∧ σ' = ztake σ o t x) := by
  have hv : zrv σ 0 o := ⟨ho, Or.inl rfl⟩
  refine zCT_of (by decide) rfl (ycat_of rfl) (Nat.le_of_ble_eq_true rfl) ?_
  refine zr_aload_n d_K_takeAgain_0 rfl ?_
  refine zr_iload_n d_K_takeAgain_1 rfl ?_
  refine zr_tputi d_K_takeAgain_2 (by first | assumption | omega) sf_K_takeAgain_2 rfl rfl ⟨rfl, rfl⟩ ?_
  refine zr_aload_n d_K_takeAgain_5 rfl ?_
  refine zr_prow' (c := 0) d_K_takeAgain_6 (by first | assumption | omega) hk (by decide) sf_K_takeAgain_6 ?_
  refine zr_aload_n d_K_takeAgain_9 rfl ?_
  refine zr_call (zrunV (As := [yr (10 + t)]) (rest := []) d_K_takeAgain_10 (fun ω h => (h.row (by assumption)).2.1) rfl (c_R_add (σ := zsth σ 11 t x) hv ht h5) 1 rfl (by decide +kernel) cw_R_add (Nat.le_of_ble_eq_true rfl) (ycat_of rfl) (by decide) (by decide)) (fun r σ9 hp => ?_)
  obtain ⟨rfl, rfl⟩ := hp
  refine zr_aload_n d_K_takeAgain_13 rfl ?_
  refine zr_aload_n d_K_takeAgain_14 rfl ?_
  refine zr_iconst (v := 1) d_K_takeAgain_15 (by decide) ?_
  refine zr_iconst (v := -1) d_K_takeAgain_16 (by decide) ?_
  refine zr_call (zrunV (As := [yr (kP o), yi 1, yi (-1)]) (rest := []) d_K_takeAgain_17 (fun ω h => h.sT (by assumption)) rfl (c_T_stay ht ho) 3 rfl (by decide +kernel) cw_T_stay (Nat.le_of_ble_eq_true rfl) (ycat_of rfl) (by decide) (by decide)) (fun r σ9 hp => ?_)
  obtain ⟨rfl, rfl⟩ := hp
  exact zr_retv d_K_takeAgain_20 rfl (by decide) (by decide) ⟨rfl, rfl⟩

set_option maxHeartbeats 4000000 in
set_option maxRecDepth 20000 in
theorem c_K_waitersAt {G : yG} {μ : yW} {σ : zS} {o : Nat} {x : Int32} (ho : o < zn σ) (hk : zkd σ o = 0)  : zCT G m_K_waitersAt [yr (kP o), yi x] σ μ (fun r σ' => r = some (yi (nI (zrw σ (zcj x) o).length)) ∧ σ' = σ) := by
  have hk3 : 3 + zkd σ o = 3 := by rw [hk]
  refine zCT_of (by decide) rfl (ycat_of rfl) (Nat.le_of_ble_eq_true rfl) ?_
  refine zr_aload_n d_K_waitersAt_0 rfl ?_
  refine zr_iload_n d_K_waitersAt_1 rfl ?_
  refine zr_call (zrunV (As := [yi x]) (rest := []) d_K_waitersAt_2 (fun ω h => h.sP' ho hk3) rfl (c_K_condition ho hk) 1 rfl (by decide +kernel) cw_K_condition (Nat.le_of_ble_eq_true rfl) (ycat_of rfl) (by decide) (by decide)) (fun r σ9 hp => ?_)
  obtain ⟨rfl, rfl⟩ := hp
  have hv : zrv σ9 (zcj x) o := zcj_v ho hk
  change yWP _ _ _ _ _ _ [yr (kR (zcj x) o)] _ _ _
  refine zr_rlen d_K_waitersAt_5 (by assumption) sf_K_waitersAt_5 ?_
  exact zr_reti d_K_waitersAt_8 rfl (by decide) (by decide) ⟨rfl, rfl⟩

set_option maxHeartbeats 4000000 in
set_option maxRecDepth 20000 in
theorem c_K_joinCondition {G : yG} {μ : yW} {σ : zS} {o : Nat} {p : Int32} (ho : o < zn σ) (hk : zkd σ o = 0) {t : Nat} (ht : t < 6) (h5 : (zrw σ (zcj (zth σ 9 t)) o).length < 6)  : zCT G m_K_joinCondition [yr (kP o), yr (10 + t), yi p] σ μ (fun r σ' => r = none ∧ σ' = zjoinC σ o t p) := by
  have hk3 : 3 + zkd σ o = 3 := by rw [hk]
  have hv : zrv (zsho (zspl (zsth σ 10 t (zpl σ 6 o)) 6 o 0) o none) (zcj (zth σ 9 t)) o := zcj_v (σ := σ) ho hk
  refine zCT_of (by decide) rfl (ycat_of rfl) (Nat.le_of_ble_eq_true rfl) ?_
  refine zr_aload_n d_K_joinCondition_0 rfl ?_
  refine zr_aload_n d_K_joinCondition_1 rfl ?_
  refine zr_pgeti (c := 0) (f := 6) d_K_joinCondition_2 (by first | assumption | omega) hk sf_K_joinCondition_2 rfl rfl ?_
  refine zr_tputi d_K_joinCondition_5 (by first | assumption | omega) sf_K_joinCondition_5 rfl rfl ⟨rfl, rfl⟩ ?_
  refine zr_aload_n d_K_joinCondition_8 rfl ?_
  refine zr_iconst (v := 0) d_K_joinCondition_9 (by decide) ?_
  refine zr_pputi (c := 0) (f := 6) d_K_joinCondition_10 (by first | assumption | omega) hk sf_K_joinCondition_10 rfl rfl (by decide) rfl ⟨rfl, rfl⟩ ?_
  refine zr_aload_n d_K_joinCondition_13 rfl ?_
  refine zr_null d_K_joinCondition_14 ?_
  refine zr_pputho (c := 0) (x := none) d_K_joinCondition_15 (by assumption) hk (by decide) sf_K_joinCondition_15 (fun _ h => nomatch h) ?_
  refine zr_aload_n d_K_joinCondition_18 rfl ?_
  refine zr_aload_n d_K_joinCondition_19 rfl ?_
  refine zr_tgeti d_K_joinCondition_20 (by first | assumption | omega) sf_K_joinCondition_20 rfl rfl ?_
  refine zr_call (zrunV (As := [yi (zth σ 9 t)]) (rest := []) d_K_joinCondition_23 (fun ω h => h.sP' ho hk3) rfl (c_K_condition (σ := zsho (zspl (zsth σ 10 t (zpl σ 6 o)) 6 o 0) o none) ho hk) 1 rfl (by decide +kernel) cw_K_condition (Nat.le_of_ble_eq_true rfl) (ycat_of rfl) (by decide) (by decide)) (fun r σ9 hp => ?_)
  obtain ⟨rfl, rfl⟩ := hp
  change yWP _ _ _ _ _ _ [yr (kR (zcj (zth σ 9 t)) o)] _ _ _
  refine zr_aload_n d_K_joinCondition_26 rfl ?_
  refine zr_call (zrunV (As := [yr (10 + t)]) (rest := []) d_K_joinCondition_27 (fun ω h => (h.row hv).2.1) rfl (c_R_add (σ := zsho (zspl (zsth σ 10 t (zpl σ 6 o)) 6 o 0) o none) hv ht h5) 1 rfl (by decide +kernel) cw_R_add (Nat.le_of_ble_eq_true rfl) (ycat_of rfl) (by decide) (by decide)) (fun r σ9 hp => ?_)
  obtain ⟨rfl, rfl⟩ := hp
  refine zr_aload_n d_K_joinCondition_30 rfl ?_
  refine zr_aload_n d_K_joinCondition_31 rfl ?_
  refine zr_iconst (v := 2) d_K_joinCondition_32 (by decide) ?_
  refine zr_iload_n d_K_joinCondition_33 rfl ?_
  refine zr_call (zrunV (As := [yr (kP o), yi 2, yi p]) (rest := []) d_K_joinCondition_34 (fun ω h => h.sT (by assumption)) rfl (c_T_stay ht ho) 3 rfl (by decide +kernel) cw_T_stay (Nat.le_of_ble_eq_true rfl) (ycat_of rfl) (by decide) (by decide)) (fun r σ9 hp => ?_)
  obtain ⟨rfl, rfl⟩ := hp
  exact zr_retv d_K_joinCondition_37 rfl (by decide) (by decide) ⟨rfl, rfl⟩

set_option maxHeartbeats 4000000 in
set_option maxRecDepth 20000 in
theorem c_K_holdBack {G : yG} {μ : yW} {σ : zS} {o : Nat} {p : Int32} (ho : o < zn σ) (hk : zkd σ o = 0) {t : Nat} (ht : t < 6) (h5 : (zrw σ 0 o).length < 6) (h5c : (zrw σ (zcj (zth σ 9 t)) o).length < 6)  : zCT G m_K_holdBack [yr (kP o), yr (10 + t), yi p] σ μ (fun r σ' => r = none ∧ σ' = (if zth σ 8 t = 2 then zjoinC σ o t p else zjoin σ o t p)) := by
  have hk3 : 3 + zkd σ o = 3 := by rw [hk]
  refine zCT_of (by decide) rfl (ycat_of rfl) (Nat.le_of_ble_eq_true rfl) ?_
  refine zr_aload_n d_K_holdBack_0 rfl ?_
  refine zr_tgeti d_K_holdBack_1 (by first | assumption | omega) sf_K_holdBack_1 rfl rfl ?_
  refine zr_iconst (v := 2) d_K_holdBack_4 (by decide) ?_
  refine zr_icmp_ne (tgt := 17) d_K_holdBack_5 (by decide) (fun c5 => ?_) (fun c5 => ?_)
  · skip
    refine zr_aload_n d_K_holdBack_17 rfl ?_
    refine zr_aload_n d_K_holdBack_18 rfl ?_
    refine zr_iload_n d_K_holdBack_19 rfl ?_
    refine zr_call (zrunC (c := 0) (As := [yr (10 + t), yi p]) (rest := []) (x := ⟨"MonitorYard$Lock", "joinRow", "(LMonitorYard$YardThread;I)V"⟩) (owner := "MonitorYard$Place") d_K_holdBack_20 (by assumption) hk (by decide) (c_P_joinRow ho ht h5) 2 rfl (by decide +kernel) cw_P_joinRow (zdecl (i' := m_P_joinRow) (by decide +kernel) cw_P_joinRow) (by decide) (Nat.le_of_ble_eq_true rfl) (ycat_of rfl) (by decide) (by decide)) (fun r σ9 hp => ?_)
    obtain ⟨rfl, rfl⟩ := hp
    refine zr_retv d_K_holdBack_23 rfl (by decide) (by decide) ?_
    simp [c5]
  · skip
    refine zr_aload_n d_K_holdBack_8 rfl ?_
    refine zr_aload_n d_K_holdBack_9 rfl ?_
    refine zr_iload_n d_K_holdBack_10 rfl ?_
    refine zr_call (zrunV (As := [yr (10 + t), yi p]) (rest := []) d_K_holdBack_11 (fun ω h => h.sP' ho hk3) rfl (c_K_joinCondition ho hk ht h5c) 2 rfl (by decide +kernel) cw_K_joinCondition (Nat.le_of_ble_eq_true rfl) (ycat_of rfl) (by decide) (by decide)) (fun r σ9 hp => ?_)
    obtain ⟨rfl, rfl⟩ := hp
    refine zr_goto (tgt := 23) d_K_holdBack_14 (by decide) ?_
    refine zr_retv d_K_holdBack_23 rfl (by decide) (by decide) ?_
    simp [c5]

set_option maxHeartbeats 4000000 in
set_option maxRecDepth 20000 in
theorem c_K_owner {G : yG} {μ : yW} {σ : zS} {o : Nat} (ho : o < zn σ) (hk : zkd σ o = 0) (hx : ∀ t, zho σ o = some t → t < 6)  : zCT G m_K_owner [yr (kP o)] σ μ (fun r σ' => r = some (yi (znum (zho σ o))) ∧ σ' = σ) := by
  refine zCT_of (by decide) rfl (ycat_of rfl) (Nat.le_of_ble_eq_true rfl) ?_
  refine zr_aload_n d_K_owner_0 rfl ?_
  refine zr_pho (c := 0) d_K_owner_1 (by first | assumption | omega) hk (by decide) sf_K_owner_1 ?_
  refine zr_call (zrunSN (host := "MonitorYard") (As := [yo ((zho σ o).map (10 + ·))]) (rest := []) d_K_owner_4 (c_Y_numberOf hx) 1 rfl (by decide +kernel) cw_Y_numberOf (Nat.le_of_ble_eq_true rfl) (ycat_of rfl) (by decide) (by decide)) (fun r σ9 hp => ?_)
  obtain ⟨rfl, rfl⟩ := hp
  exact zr_reti d_K_owner_7 rfl (by decide) (by decide) ⟨rfl, rfl⟩

set_option maxHeartbeats 4000000 in
set_option maxRecDepth 20000 in
theorem c_B_owner {G : yG} {μ : yW} {σ : zS} {o : Nat} (ho : o < zn σ) (hk : zkd σ o = 1) (hx : ∀ t, zho σ o = some t → t < 6)  : zCT G m_B_owner [yr (kP o)] σ μ (fun r σ' => r = some (yi (znum (zho σ o))) ∧ σ' = σ) := by
  refine zCT_of (by decide) rfl (ycat_of rfl) (Nat.le_of_ble_eq_true rfl) ?_
  refine zr_aload_n d_B_owner_0 rfl ?_
  refine zr_pho (c := 1) d_B_owner_1 (by first | assumption | omega) hk (by decide) sf_B_owner_1 ?_
  refine zr_call (zrunSN (host := "MonitorYard") (As := [yo ((zho σ o).map (10 + ·))]) (rest := []) d_B_owner_4 (c_Y_numberOf hx) 1 rfl (by decide +kernel) cw_Y_numberOf (Nat.le_of_ble_eq_true rfl) (ycat_of rfl) (by decide) (by decide)) (fun r σ9 hp => ?_)
  obtain ⟨rfl, rfl⟩ := hp
  exact zr_reti d_B_owner_7 rfl (by decide) (by decide) ⟨rfl, rfl⟩

set_option maxHeartbeats 4000000 in
set_option maxRecDepth 20000 in
theorem c_B_canBe {G : yG} {μ : yW} {σ : zS} {o : Nat} (ho : o < zn σ) (hk : zkd σ o = 1) {t : Nat} (ht : t < 6)  : zCT G m_B_canBe [yr (kP o), yr (10 + t)] σ μ (fun r σ' => r = some (yi (if ¬ (¬ zho σ o = none ∧ ¬ zho σ o = some t) ∧ (zth σ 8 t = 5 ∨ zpl σ 4 o ≤ zrd σ o t) then 1 else 0)) ∧ σ' = σ) := by
  refine zCT_of (by decide) rfl (ycat_of rfl) (Nat.le_of_ble_eq_true rfl) ?_
  refine zr_aload_n d_B_canBe_0 rfl ?_
  refine zr_pho (c := 1) d_B_canBe_1 (by first | assumption | omega) hk (by decide) sf_B_canBe_1 ?_
  refine zr_ifnull (tgt := 19) d_B_canBe_4 (by decide) (fun c4 => ?_) (fun a4 c4 => ?_)
  · skip
    refine zr_iconst (v := 0) d_B_canBe_19 (by decide) ?_
    refine zr_istore_n d_B_canBe_20 (by decide) rfl ?_
    refine zr_aload_n d_B_canBe_21 rfl ?_
    refine zr_pgeti (c := 1) (f := 4) d_B_canBe_22 (by first | assumption | omega) hk sf_B_canBe_22 rfl rfl ?_
    refine zr_aload_n d_B_canBe_25 rfl ?_
    refine zr_prds d_B_canBe_26 (by first | assumption | omega) hk sf_B_canBe_26 ?_
    refine zr_aload_n d_B_canBe_29 rfl ?_
    refine zr_tnum d_B_canBe_30 (by first | assumption | omega) sf_B_canBe_30 ?_
    refine zr_rdld d_B_canBe_33 (by assumption) hk ht rfl ?_
    refine zr_icmp_le (tgt := 41) d_B_canBe_34 (by decide) (fun c34 => ?_) (fun c34 => ?_)
    · skip
      refine zr_iconst (v := 0) d_B_canBe_41 (by decide) ?_
      refine zr_istore_n d_B_canBe_42 (by decide) rfl ?_
      refine zr_iload_n d_B_canBe_43 rfl ?_
      refine zr_if_ne (tgt := 63) d_B_canBe_44 (by decide) (fun c44 => ?_) (fun c44 => ?_)
      · skip
        refine zr_iconst (v := 0) d_B_canBe_63 (by decide) ?_
        refine zr_retz d_B_canBe_64 rfl rfl (by decide) (by decide) ?_
        first
          | exact absurd c44 (by decide)
          | exact absurd c56 (by decide)
          | (have e9 := zmap_some c4; rw [zmap_eq] at c12; simp [*]; done)
          | (rw [zmap_none] at c4; simp [*]; done)
      · skip
        refine zr_aload_n d_B_canBe_47 rfl ?_
        refine zr_tgeti d_B_canBe_48 (by first | assumption | omega) sf_B_canBe_48 rfl rfl ?_
        refine zr_iconst (v := 5) d_B_canBe_51 (by decide) ?_
        refine zr_icmp_eq (tgt := 59) d_B_canBe_52 (by decide) (fun c52 => ?_) (fun c52 => ?_)
        · skip
          refine zr_iconst (v := 1) d_B_canBe_59 (by decide) ?_
          refine zr_goto (tgt := 64) d_B_canBe_60 (by decide) ?_
          refine zr_retz d_B_canBe_64 rfl rfl (by decide) (by decide) ?_
          first
            | exact absurd c44 (by decide)
            | exact absurd c56 (by decide)
            | (have e9 := zmap_some c4; rw [zmap_eq] at c12; simp [*]; done)
            | (rw [zmap_none] at c4; simp [*]; done)
        · skip
          refine zr_iload_n d_B_canBe_55 rfl ?_
          refine zr_if_ne (tgt := 63) d_B_canBe_56 (by decide) (fun c56 => ?_) (fun c56 => ?_)
          · skip
            refine zr_iconst (v := 0) d_B_canBe_63 (by decide) ?_
            refine zr_retz d_B_canBe_64 rfl rfl (by decide) (by decide) ?_
            first
              | exact absurd c44 (by decide)
              | exact absurd c56 (by decide)
              | (have e9 := zmap_some c4; rw [zmap_eq] at c12; simp [*]; done)
              | (rw [zmap_none] at c4; simp [*]; done)
          · skip
            refine zr_iconst (v := 1) d_B_canBe_59 (by decide) ?_
            refine zr_goto (tgt := 64) d_B_canBe_60 (by decide) ?_
            refine zr_retz d_B_canBe_64 rfl rfl (by decide) (by decide) ?_
            first
              | exact absurd c44 (by decide)
              | exact absurd c56 (by decide)
              | (have e9 := zmap_some c4; rw [zmap_eq] at c12; simp [*]; done)
              | (rw [zmap_none] at c4; simp [*]; done)
    · skip
      refine zr_iconst (v := 1) d_B_canBe_37 (by decide) ?_
      refine zr_goto (tgt := 42) d_B_canBe_38 (by decide) ?_
      refine zr_istore_n d_B_canBe_42 (by decide) rfl ?_
      refine zr_iload_n d_B_canBe_43 rfl ?_
      refine zr_if_ne (tgt := 63) d_B_canBe_44 (by decide) (fun c44 => ?_) (fun c44 => ?_)
      · skip
        refine zr_iconst (v := 0) d_B_canBe_63 (by decide) ?_
        refine zr_retz d_B_canBe_64 rfl rfl (by decide) (by decide) ?_
        first
          | exact absurd c44 (by decide)
          | exact absurd c56 (by decide)
          | (have e9 := zmap_some c4; rw [zmap_eq] at c12; simp [*]; done)
          | (rw [zmap_none] at c4; simp [*]; done)
      · skip
        refine zr_aload_n d_B_canBe_47 rfl ?_
        refine zr_tgeti d_B_canBe_48 (by first | assumption | omega) sf_B_canBe_48 rfl rfl ?_
        refine zr_iconst (v := 5) d_B_canBe_51 (by decide) ?_
        refine zr_icmp_eq (tgt := 59) d_B_canBe_52 (by decide) (fun c52 => ?_) (fun c52 => ?_)
        · skip
          refine zr_iconst (v := 1) d_B_canBe_59 (by decide) ?_
          refine zr_goto (tgt := 64) d_B_canBe_60 (by decide) ?_
          refine zr_retz d_B_canBe_64 rfl rfl (by decide) (by decide) ?_
          first
            | exact absurd c44 (by decide)
            | exact absurd c56 (by decide)
            | (have e9 := zmap_some c4; rw [zmap_eq] at c12; simp [*]; done)
            | (rw [zmap_none] at c4; simp [*]; done)
        · skip
          refine zr_iload_n d_B_canBe_55 rfl ?_
          refine zr_if_ne (tgt := 63) d_B_canBe_56 (by decide) (fun c56 => ?_) (fun c56 => ?_)
          · skip
            refine zr_iconst (v := 0) d_B_canBe_63 (by decide) ?_
            refine zr_retz d_B_canBe_64 rfl rfl (by decide) (by decide) ?_
            first
              | exact absurd c44 (by decide)
              | exact absurd c56 (by decide)
              | (have e9 := zmap_some c4; rw [zmap_eq] at c12; simp [*]; done)
              | (rw [zmap_none] at c4; simp [*]; done)
          · skip
            refine zr_iconst (v := 1) d_B_canBe_59 (by decide) ?_
            refine zr_goto (tgt := 64) d_B_canBe_60 (by decide) ?_
            refine zr_retz d_B_canBe_64 rfl rfl (by decide) (by decide) ?_
            first
              | exact absurd c44 (by decide)
              | exact absurd c56 (by decide)
              | (have e9 := zmap_some c4; rw [zmap_eq] at c12; simp [*]; done)
              | (rw [zmap_none] at c4; simp [*]; done)
  · skip
    refine zr_aload_n d_B_canBe_7 rfl ?_
    refine zr_pho (c := 1) d_B_canBe_8 (by first | assumption | omega) hk (by decide) sf_B_canBe_8 ?_
    refine zr_aload_n d_B_canBe_11 rfl ?_
    refine zr_acmp_eq (tgt := 19) d_B_canBe_12 (by decide) (fun ω h => zlive_ho h (by assumption) (by assumption)) (fun c12 => ?_) (fun c12 => ?_)
    · skip
      refine zr_iconst (v := 0) d_B_canBe_19 (by decide) ?_
      refine zr_istore_n d_B_canBe_20 (by decide) rfl ?_
      refine zr_aload_n d_B_canBe_21 rfl ?_
      refine zr_pgeti (c := 1) (f := 4) d_B_canBe_22 (by first | assumption | omega) hk sf_B_canBe_22 rfl rfl ?_
      refine zr_aload_n d_B_canBe_25 rfl ?_
      refine zr_prds d_B_canBe_26 (by first | assumption | omega) hk sf_B_canBe_26 ?_
      refine zr_aload_n d_B_canBe_29 rfl ?_
      refine zr_tnum d_B_canBe_30 (by first | assumption | omega) sf_B_canBe_30 ?_
      refine zr_rdld d_B_canBe_33 (by assumption) hk ht rfl ?_
      refine zr_icmp_le (tgt := 41) d_B_canBe_34 (by decide) (fun c34 => ?_) (fun c34 => ?_)
      · skip
        refine zr_iconst (v := 0) d_B_canBe_41 (by decide) ?_
        refine zr_istore_n d_B_canBe_42 (by decide) rfl ?_
        refine zr_iload_n d_B_canBe_43 rfl ?_
        refine zr_if_ne (tgt := 63) d_B_canBe_44 (by decide) (fun c44 => ?_) (fun c44 => ?_)
        · skip
          refine zr_iconst (v := 0) d_B_canBe_63 (by decide) ?_
          refine zr_retz d_B_canBe_64 rfl rfl (by decide) (by decide) ?_
          first
            | exact absurd c44 (by decide)
            | exact absurd c56 (by decide)
            | (have e9 := zmap_some c4; rw [zmap_eq] at c12; simp [*]; done)
            | (rw [zmap_none] at c4; simp [*]; done)
        · skip
          refine zr_aload_n d_B_canBe_47 rfl ?_
          refine zr_tgeti d_B_canBe_48 (by first | assumption | omega) sf_B_canBe_48 rfl rfl ?_
          refine zr_iconst (v := 5) d_B_canBe_51 (by decide) ?_
          refine zr_icmp_eq (tgt := 59) d_B_canBe_52 (by decide) (fun c52 => ?_) (fun c52 => ?_)
          · skip
            refine zr_iconst (v := 1) d_B_canBe_59 (by decide) ?_
            refine zr_goto (tgt := 64) d_B_canBe_60 (by decide) ?_
            refine zr_retz d_B_canBe_64 rfl rfl (by decide) (by decide) ?_
            first
              | exact absurd c44 (by decide)
              | exact absurd c56 (by decide)
              | (have e9 := zmap_some c4; rw [zmap_eq] at c12; simp [*]; done)
              | (rw [zmap_none] at c4; simp [*]; done)
          · skip
            refine zr_iload_n d_B_canBe_55 rfl ?_
            refine zr_if_ne (tgt := 63) d_B_canBe_56 (by decide) (fun c56 => ?_) (fun c56 => ?_)
            · skip
              refine zr_iconst (v := 0) d_B_canBe_63 (by decide) ?_
              refine zr_retz d_B_canBe_64 rfl rfl (by decide) (by decide) ?_
              first
                | exact absurd c44 (by decide)
                | exact absurd c56 (by decide)
                | (have e9 := zmap_some c4; rw [zmap_eq] at c12; simp [*]; done)
                | (rw [zmap_none] at c4; simp [*]; done)
            · skip
              refine zr_iconst (v := 1) d_B_canBe_59 (by decide) ?_
              refine zr_goto (tgt := 64) d_B_canBe_60 (by decide) ?_
              refine zr_retz d_B_canBe_64 rfl rfl (by decide) (by decide) ?_
              first
                | exact absurd c44 (by decide)
                | exact absurd c56 (by decide)
                | (have e9 := zmap_some c4; rw [zmap_eq] at c12; simp [*]; done)
                | (rw [zmap_none] at c4; simp [*]; done)
      · skip
        refine zr_iconst (v := 1) d_B_canBe_37 (by decide) ?_
        refine zr_goto (tgt := 42) d_B_canBe_38 (by decide) ?_
        refine zr_istore_n d_B_canBe_42 (by decide) rfl ?_
        refine zr_iload_n d_B_canBe_43 rfl ?_
        refine zr_if_ne (tgt := 63) d_B_canBe_44 (by decide) (fun c44 => ?_) (fun c44 => ?_)
        · skip
          refine zr_iconst (v := 0) d_B_canBe_63 (by decide) ?_
          refine zr_retz d_B_canBe_64 rfl rfl (by decide) (by decide) ?_
          first
            | exact absurd c44 (by decide)
            | exact absurd c56 (by decide)
            | (have e9 := zmap_some c4; rw [zmap_eq] at c12; simp [*]; done)
            | (rw [zmap_none] at c4; simp [*]; done)
        · skip
          refine zr_aload_n d_B_canBe_47 rfl ?_
          refine zr_tgeti d_B_canBe_48 (by first | assumption | omega) sf_B_canBe_48 rfl rfl ?_
          refine zr_iconst (v := 5) d_B_canBe_51 (by decide) ?_
          refine zr_icmp_eq (tgt := 59) d_B_canBe_52 (by decide) (fun c52 => ?_) (fun c52 => ?_)
          · skip
            refine zr_iconst (v := 1) d_B_canBe_59 (by decide) ?_
            refine zr_goto (tgt := 64) d_B_canBe_60 (by decide) ?_
            refine zr_retz d_B_canBe_64 rfl rfl (by decide) (by decide) ?_
            first
              | exact absurd c44 (by decide)
              | exact absurd c56 (by decide)
              | (have e9 := zmap_some c4; rw [zmap_eq] at c12; simp [*]; done)
              | (rw [zmap_none] at c4; simp [*]; done)
          · skip
            refine zr_iload_n d_B_canBe_55 rfl ?_
            refine zr_if_ne (tgt := 63) d_B_canBe_56 (by decide) (fun c56 => ?_) (fun c56 => ?_)
            · skip
              refine zr_iconst (v := 0) d_B_canBe_63 (by decide) ?_
              refine zr_retz d_B_canBe_64 rfl rfl (by decide) (by decide) ?_
              first
                | exact absurd c44 (by decide)
                | exact absurd c56 (by decide)
                | (have e9 := zmap_some c4; rw [zmap_eq] at c12; simp [*]; done)
                | (rw [zmap_none] at c4; simp [*]; done)
            · skip
              refine zr_iconst (v := 1) d_B_canBe_59 (by decide) ?_
              refine zr_goto (tgt := 64) d_B_canBe_60 (by decide) ?_
              refine zr_retz d_B_canBe_64 rfl rfl (by decide) (by decide) ?_
              first
                | exact absurd c44 (by decide)
                | exact absurd c56 (by decide)
                | (have e9 := zmap_some c4; rw [zmap_eq] at c12; simp [*]; done)
                | (rw [zmap_none] at c4; simp [*]; done)
    · skip
      refine zr_iconst (v := 1) d_B_canBe_15 (by decide) ?_
      refine zr_goto (tgt := 20) d_B_canBe_16 (by decide) ?_
      refine zr_istore_n d_B_canBe_20 (by decide) rfl ?_
      refine zr_aload_n d_B_canBe_21 rfl ?_
      refine zr_pgeti (c := 1) (f := 4) d_B_canBe_22 (by first | assumption | omega) hk sf_B_canBe_22 rfl rfl ?_
      refine zr_aload_n d_B_canBe_25 rfl ?_
      refine zr_prds d_B_canBe_26 (by first | assumption | omega) hk sf_B_canBe_26 ?_
      refine zr_aload_n d_B_canBe_29 rfl ?_
      refine zr_tnum d_B_canBe_30 (by first | assumption | omega) sf_B_canBe_30 ?_
      refine zr_rdld d_B_canBe_33 (by assumption) hk ht rfl ?_
      refine zr_icmp_le (tgt := 41) d_B_canBe_34 (by decide) (fun c34 => ?_) (fun c34 => ?_)
      · skip
        refine zr_iconst (v := 0) d_B_canBe_41 (by decide) ?_
        refine zr_istore_n d_B_canBe_42 (by decide) rfl ?_
        refine zr_iload_n d_B_canBe_43 rfl ?_
        refine zr_if_ne (tgt := 63) d_B_canBe_44 (by decide) (fun c44 => ?_) (fun c44 => ?_)
        · skip
          refine zr_iconst (v := 0) d_B_canBe_63 (by decide) ?_
          refine zr_retz d_B_canBe_64 rfl rfl (by decide) (by decide) ?_
          first
            | exact absurd c44 (by decide)
            | exact absurd c56 (by decide)
            | (have e9 := zmap_some c4; rw [zmap_eq] at c12; simp [*]; done)
            | (rw [zmap_none] at c4; simp [*]; done)
        · skip
          refine zr_aload_n d_B_canBe_47 rfl ?_
          refine zr_tgeti d_B_canBe_48 (by first | assumption | omega) sf_B_canBe_48 rfl rfl ?_
          refine zr_iconst (v := 5) d_B_canBe_51 (by decide) ?_
          refine zr_icmp_eq (tgt := 59) d_B_canBe_52 (by decide) (fun c52 => ?_) (fun c52 => ?_)
          · skip
            refine zr_iconst (v := 1) d_B_canBe_59 (by decide) ?_
            refine zr_goto (tgt := 64) d_B_canBe_60 (by decide) ?_
            refine zr_retz d_B_canBe_64 rfl rfl (by decide) (by decide) ?_
            first
              | exact absurd c44 (by decide)
              | exact absurd c56 (by decide)
              | (have e9 := zmap_some c4; rw [zmap_eq] at c12; simp [*]; done)
              | (rw [zmap_none] at c4; simp [*]; done)
          · skip
            refine zr_iload_n d_B_canBe_55 rfl ?_
            refine zr_if_ne (tgt := 63) d_B_canBe_56 (by decide) (fun c56 => ?_) (fun c56 => ?_)
            · skip
              refine zr_iconst (v := 0) d_B_canBe_63 (by decide) ?_
              refine zr_retz d_B_canBe_64 rfl rfl (by decide) (by decide) ?_
              first
                | exact absurd c44 (by decide)
                | exact absurd c56 (by decide)
                | (have e9 := zmap_some c4; rw [zmap_eq] at c12; simp [*]; done)
                | (rw [zmap_none] at c4; simp [*]; done)
            · skip
              refine zr_iconst (v := 1) d_B_canBe_59 (by decide) ?_
              refine zr_goto (tgt := 64) d_B_canBe_60 (by decide) ?_
              refine zr_retz d_B_canBe_64 rfl rfl (by decide) (by decide) ?_
              first
                | exact absurd c44 (by decide)
                | exact absurd c56 (by decide)
                | (have e9 := zmap_some c4; rw [zmap_eq] at c12; simp [*]; done)
                | (rw [zmap_none] at c4; simp [*]; done)
      · skip
        refine zr_iconst (v := 1) d_B_canBe_37 (by decide) ?_
        refine zr_goto (tgt := 42) d_B_canBe_38 (by decide) ?_
        refine zr_istore_n d_B_canBe_42 (by decide) rfl ?_
        refine zr_iload_n d_B_canBe_43 rfl ?_
        refine zr_if_ne (tgt := 63) d_B_canBe_44 (by decide) (fun c44 => ?_) (fun c44 => ?_)
        · skip
          refine zr_iconst (v := 0) d_B_canBe_63 (by decide) ?_
          refine zr_retz d_B_canBe_64 rfl rfl (by decide) (by decide) ?_
          first
            | exact absurd c44 (by decide)
            | exact absurd c56 (by decide)
            | (have e9 := zmap_some c4; rw [zmap_eq] at c12; simp [*]; done)
            | (rw [zmap_none] at c4; simp [*]; done)
        · skip
          refine zr_aload_n d_B_canBe_47 rfl ?_
          refine zr_tgeti d_B_canBe_48 (by first | assumption | omega) sf_B_canBe_48 rfl rfl ?_
          refine zr_iconst (v := 5) d_B_canBe_51 (by decide) ?_
          refine zr_icmp_eq (tgt := 59) d_B_canBe_52 (by decide) (fun c52 => ?_) (fun c52 => ?_)
          · skip
            refine zr_iconst (v := 1) d_B_canBe_59 (by decide) ?_
            refine zr_goto (tgt := 64) d_B_canBe_60 (by decide) ?_
            refine zr_retz d_B_canBe_64 rfl rfl (by decide) (by decide) ?_
            first
              | exact absurd c44 (by decide)
              | exact absurd c56 (by decide)
              | (have e9 := zmap_some c4; rw [zmap_eq] at c12; simp [*]; done)
              | (rw [zmap_none] at c4; simp [*]; done)
          · skip
            refine zr_iload_n d_B_canBe_55 rfl ?_
            refine zr_if_ne (tgt := 63) d_B_canBe_56 (by decide) (fun c56 => ?_) (fun c56 => ?_)
            · skip
              refine zr_iconst (v := 0) d_B_canBe_63 (by decide) ?_
              refine zr_retz d_B_canBe_64 rfl rfl (by decide) (by decide) ?_
              first
                | exact absurd c44 (by decide)
                | exact absurd c56 (by decide)
                | (have e9 := zmap_some c4; rw [zmap_eq] at c12; simp [*]; done)
                | (rw [zmap_none] at c4; simp [*]; done)
            · skip
              refine zr_iconst (v := 1) d_B_canBe_59 (by decide) ?_
              refine zr_goto (tgt := 64) d_B_canBe_60 (by decide) ?_
              refine zr_retz d_B_canBe_64 rfl rfl (by decide) (by decide) ?_
              first
                | exact absurd c44 (by decide)
                | exact absurd c56 (by decide)
                | (have e9 := zmap_some c4; rw [zmap_eq] at c12; simp [*]; done)
                | (rw [zmap_none] at c4; simp [*]; done)

def zgrantB (σ : zS) (o t : Nat) : zS := if zth σ 8 t = 5 then zspl (zsrd σ o t (zrd σ o t + 1)) 4 o (zpl σ 4 o + 1) else if zth σ 8 t = 6 then zspl (zsrd σ o t (zrd σ o t + -1)) 4 o (zpl σ 4 o + -1) else if zth σ 8 t = 7 then zspl (zsho σ o (some t)) 6 o (zpl σ 6 o + 1) else zleave σ o

set_option maxHeartbeats 4000000 in
set_option maxRecDepth 20000 in
theorem c_B_grant {G : yG} {μ : yW} {σ : zS} {o : Nat} (ho : o < zn σ) (hk : zkd σ o = 1) {t : Nat} (ht : t < 6)  : zCT G m_B_grant [yr (kP o), yr (10 + t)] σ μ (fun r σ' => r = none ∧ σ' = zgrantB σ o t) := by
  have hk3 : 3 + zkd σ o = 4 := by rw [hk]
  refine zCT_of (by decide) rfl (ycat_of rfl) (Nat.le_of_ble_eq_true rfl) ?_
  refine zr_aload_n d_B_grant_0 rfl ?_
  refine zr_tgeti d_B_grant_1 (by first | assumption | omega) sf_B_grant_1 rfl rfl ?_
  by_cases s5 : zth σ 8 t = 5
  · refine zr_tcase d_B_grant_4 5 s5 (by decide) (by decide) rfl (tgt := 32) (by decide) ?_
    refine zr_aload_n d_B_grant_32 rfl ?_
    refine zr_aload_n d_B_grant_33 rfl ?_
    refine zr_iconst (v := 1) d_B_grant_34 (by decide) ?_
    refine zr_call (zrunV (As := [yr (10 + t), yi 1]) (rest := []) d_B_grant_35 (fun ω h => h.sP' ho hk3) rfl (c_B_countReads ho hk ht) 2 rfl (by decide +kernel) cw_B_countReads (Nat.le_of_ble_eq_true rfl) (ycat_of rfl) (by decide) (by decide)) (fun r σ9 hp => ?_)
    obtain ⟨rfl, rfl⟩ := hp
    refine zr_goto (tgt := 72) d_B_grant_38 (by decide) ?_
    refine zr_retv d_B_grant_72 rfl (by decide) (by decide) ?_
    refine ⟨rfl, ?_⟩
    simp only [zgrantB, *]
    first | rfl | (simp; done) | (simp; rfl)
  · skip
    by_cases s6 : zth σ 8 t = 6
    · refine zr_tcase d_B_grant_4 6 s6 (by decide) (by decide) rfl (tgt := 41) (by decide) ?_
      refine zr_aload_n d_B_grant_41 rfl ?_
      refine zr_aload_n d_B_grant_42 rfl ?_
      refine zr_iconst (v := -1) d_B_grant_43 (by decide) ?_
      refine zr_call (zrunV (As := [yr (10 + t), yi (-1)]) (rest := []) d_B_grant_44 (fun ω h => h.sP' ho hk3) rfl (c_B_countReads ho hk ht) 2 rfl (by decide +kernel) cw_B_countReads (Nat.le_of_ble_eq_true rfl) (ycat_of rfl) (by decide) (by decide)) (fun r σ9 hp => ?_)
      obtain ⟨rfl, rfl⟩ := hp
      refine zr_goto (tgt := 72) d_B_grant_47 (by decide) ?_
      refine zr_retv d_B_grant_72 rfl (by decide) (by decide) ?_
      refine ⟨rfl, ?_⟩
      simp only [zgrantB, *]
      first | rfl | (simp; done) | (simp; rfl)
    · skip
      by_cases s7 : zth σ 8 t = 7
      · refine zr_tcase d_B_grant_4 7 s7 (by decide) (by decide) rfl (tgt := 50) (by decide) ?_
        refine zr_aload_n d_B_grant_50 rfl ?_
        refine zr_aload_n d_B_grant_51 rfl ?_
        refine zr_pputho (c := 1) (x := some t) d_B_grant_52 (by assumption) hk (by decide) sf_B_grant_52 (fun _ h => by cases h; exact ht) ?_
        refine zr_aload_n d_B_grant_55 rfl ?_
        refine zr_dup d_B_grant_56 (fun _ => rfl) ?_
        refine zr_pgeti (c := 1) (f := 6) d_B_grant_57 (by first | assumption | omega) hk sf_B_grant_57 rfl rfl ?_
        refine zr_iconst (v := 1) d_B_grant_60 (by decide) ?_
        refine zr_iadd d_B_grant_61 ?_
        refine zr_pputi (c := 1) (f := 6) d_B_grant_62 (by first | assumption | omega) hk sf_B_grant_62 rfl rfl (by decide) rfl ⟨rfl, rfl⟩ ?_
        refine zr_goto (tgt := 72) d_B_grant_65 (by decide) ?_
        refine zr_retv d_B_grant_72 rfl (by decide) (by decide) ?_
        refine ⟨rfl, ?_⟩
        simp only [zgrantB, *]
        first | rfl | (simp; done) | (simp; rfl)
      · skip
        refine zr_tdef d_B_grant_4 (by have q5 := lv_neT s5 (a := 5) (by decide); have q6 := lv_neT s6 (a := 6) (by decide); have q7 := lv_neT s7 (a := 7) (by decide); omega) (tgt := 68) (by decide) ?_
        refine zr_aload_n d_B_grant_68 rfl ?_
        refine zr_call (zrunV (As := []) (rest := []) d_B_grant_69 (fun ω h => h.sP' ho hk3) rfl (c_B_closeWritingOnce ho hk) 0 rfl (by decide +kernel) cw_B_closeWritingOnce (Nat.le_of_ble_eq_true rfl) (ycat_of rfl) (by decide) (by decide)) (fun r σ9 hp => ?_)
        obtain ⟨rfl, rfl⟩ := hp
        refine zr_retv d_B_grant_72 rfl (by decide) (by decide) ?_
        refine ⟨rfl, ?_⟩
        simp only [zgrantB, *]
        first | rfl | (simp; done) | (simp; rfl)
