/-! the law's loop: its rows, its invariant -/
def R_law : String := "MonitorYardLaw"
def lw_P (b : Addr) (xs : List Int32) (args : Array Value) (s : State) : Prop := args = #[.ref b] ∧ s.IntsAt b xs ∧ xs.length ≤ 3072 ∧ (Jvm.Cond.and given_1 narrow_1).before args s = true
def lw_Q (_ : Array Value) (s : State) (o : Outcome) (t : State) : Prop := o = .returned (some (.int 1)) ∧ Framed s o t [] 718118 6941751
def lw_Z (below : List Frame) (a : Array Value) (s : State) : State → Prop := fun t => ∃ o, t.status = .running ∧ Ended t below o ∧ lw_Q a s o t
theorem lw_retA {p : Program} {l : Launch} {e : Env} {s : State} {m : MethodId} {below : List Frame} {meth : Method} {c : Code} {args : Array Value} (hx : p.tables.exec = Jvm.exec) (hb : c.code = code) (hr : meth.sig.returnType = ret) (hlocks : meth.locks = false) {pc : Nat} {H : Heap} {ls : Array Slot} (hdg : decode code pc = .ok (.ireturn, 1)) : W p l e room_1 s m args below meth c H [] 718118 6941751 (lw_Z below args s) (F0 m pc ls [.int 1]) := by
  intro T hT X
  obtain ⟨fs, hret, hrun, hended, hW, hframe⟩ := X.leave (v := some (.int 1)) (hlocks := hlocks) (fun h => by rw [hr] at h; cases h)
  have hmeth' : T.vm.method? m = some meth := X.method'
  refine ⟨T.setFrames fs, ?_, .returned (some (.int 1)), hrun, hended, rfl, ⟨_, rfl⟩, hW, hframe⟩
  jvm_step X.here [X.here.top, hx, hb, hdg, hmeth', hr, ret, narrow_b1]
  (try refine ⟨rfl, ?_⟩); (try refine ⟨rfl, ?_⟩)
  first | (intro acts; rw [hret _ acts rfl rfl rfl]) | rw [hret _ _ rfl rfl rfl]
  exact Steps.refl _

abbrev lwQ : yQT := fun below args s _ => lw_Z below args s
def lwG (G : yG) (b L : Nat) (xs : Nat → Int32) : State → (Nat → Nat) → Prop := fun s ad0 => yNC s ∧ ad0 400 = b ∧ va_X b L xs s s.heap ∧ yGb G = s.heap.size
section LW
variable {G : yG} {b L : Nat} {xs : Nat → Int32} {sh0 : Nat → Option ySh} {pc : Nat} {ls : List (Option yV)} {st : List yV} {ω : yW} {cs sl : Nat} {Qf : yQT} {i : yM}
theorem yr_slen (hb : b < yGb G) (h4 : ω.1 400 = none) (hd : decode (yMb i) pc = .ok (.arraylength, 1)) (kk : yWW G i (yQN (lwG G b L xs) Qf) sh0 (pc + 1) ls (yi (nI L) :: st) ω cs sl) : yWW G i (yQN (lwG G b L xs) Qf) sh0 pc ls (yr 400 :: st) ω cs sl := by
  refine yWN_use (fun p e s m args below meth c ad0 ad H locs lsA hG C hE hS hH hL => ?_)
  obtain ⟨-, e1, hX, e3⟩ := hG
  have h9 := kk p e s m args below meth c ad0 ad H locs lsA C hE hS hH hL
  have e2 : ad 400 = b := (hE 400 (Or.inr h4)).trans e1
  show W p (yGl G) e (yMm i) s m args below meth c H locs cs sl _ (F0 m pc lsA (.ref (ad 400) :: st.map (ycv ad)))
  rw [e2]
  exact va_slen C.1 C.2.1 hX (by rw [← e3]; exact hb) (Nat.not_le.mpr hb) hS hd h9
theorem yr_sld {x : Int32} {j : Nat} (hb : b < yGb G) (h4 : ω.1 400 = none) (hd : decode (yMb i) pc = .ok (.iaload, 1)) (hx : x = nI j) (hj : j < L) (hL9 : L ≤ 3072) (kk : yWW G i (yQN (lwG G b L xs) Qf) sh0 (pc + 1) ls (yi (xs j) :: st) ω cs sl) : yWW G i (yQN (lwG G b L xs) Qf) sh0 pc ls (yi x :: yr 400 :: st) ω cs sl := by
  subst hx
  refine yWN_use (fun p e s m args below meth c ad0 ad H locs lsA hG C hE hS hH hL => ?_)
  obtain ⟨-, e1, hX, e3⟩ := hG
  have h9 := kk p e s m args below meth c ad0 ad H locs lsA C hE hS hH hL
  have e2 : ad 400 = b := (hE 400 (Or.inr h4)).trans e1
  show W p (yGl G) e (yMm i) s m args below meth c H locs cs sl _ (F0 m pc lsA (.int (nI j) :: .ref (ad 400) :: st.map (ycv ad)))
  rw [e2]
  have ec : (nI j).toNatClampNeg = j := nI_clamp (by omega)
  have h8 : W p (yGl G) e (yMm i) s m args below meth c H locs cs sl (yQN (lwG G b L xs) Qf below args s ad0) (F0 m (pc + 1) lsA (.int (xs (nI j).toNatClampNeg) :: st.map (ycv ad))) := by
    rw [ec]
    exact h9
  refine va_sld C.1 C.2.1 hX (by rw [← e3]; exact hb) (Nat.not_le.mpr hb) hS ?_ hd h8
  intro z
  rcases z with z | z
  · exact absurd z (nI_pos (by omega))
  · rw [ec] at z
    omega
theorem yr_lawend (hd : decode (yMb m_W_law) pc = .ok (.ireturn, 1)) (hc : cs ≤ 718118) (hs : sl ≤ 6941751) : yWW G m_W_law (yQN (lwG G b L xs) lwQ) sh0 pc ls [yi 1] ω cs sl := by
  refine yWN_use (fun p e s m args below meth c ad0 ad H locs lsA hG C hE hS hH hL => ?_)
  obtain ⟨-, -, -, e3⟩ := hG
  refine W.widen hc hs (va_forget (fun q hq => ?_) ?_)
  · rw [← e3]
    exact hS.2.2 q hq
  · have h9 := lw_retA (l := yGl G) (e := e) (s := s) (m := m) (args := args) (below := below) (H := H) (ls := lsA) C.1 C.2.1 C.2.2.1 C.2.2.2.2.2.1 hd
    intro T hT X
    obtain ⟨t, a1, a2⟩ := h9 T hT X
    exact ⟨t, a1, fun _ => a2⟩
end LW
theorem mRS_cells {n : Nat} {σ : zS} {M M' : mM} (h : mRS n σ M) (hm : ∀ K, 200 ≤ K → K < 224 → M' K = M K) : mRS n σ M' :=
  ⟨h.1, ⟨mRT_same h.2.1.1 rfl rfl (fun K a b => hm K (by omega) (by omega)), mRP_same h.2.1.2.1 rfl (fun o => zSp.rf σ o) (mSm_all (fun K a b c => hm K (by omega) (by omega))), mRG_same h.2.1.2.2 rfl rfl rfl (fun j => by rw [hm 222 (by omega) (by omega)]) (by rw [hm 200 (by omega) (by omega)]) (by rw [hm 200 (by omega) (by omega)])⟩, h.2.2⟩
theorem mSh_of {s s' : Nat → Option ySh} {F F' : Nat → Nat → Option Nat} (h : mSh s F) (hs : ∀ k, 200 ≤ k → k < 224 → s' k = s k) (hF : F' 200 = F 200) : mSh s' F' := ⟨(hs 200 (by omega) (by omega)).trans h.1, fun a ha => ⟨by rw [hF]; exact (h.2 a ha).1, (hs _ (by omega) (by omega)).trans (h.2 a ha).2⟩⟩
/-- between the calls -/
def lwI (n : Nat) (σ : zS) (ω : yW) : Prop := zC σ ω ω ∧ mSh ω.1 ω.2.2 ∧ mRS n σ ω.2.1 ∧ ω.1 300 = some (.inr (2, 1)) ∧ (∀ o j, zn σ ≤ o → o < 6 → j < 8 → ω.1 (kP o + j) = none) ∧ ω.1 400 = none ∧ 6 ≤ n
/-- .. when the class has moved and the model not yet -/
def lwK (n : Nat) (σ σ' : zS) (ω : yW) : Prop := zC σ' ω ω ∧ mSh ω.1 ω.2.2 ∧ mRS n σ ω.2.1 ∧ ω.1 300 = some (.inr (2, 1)) ∧ (∀ o j, zn σ' ≤ o → o < 6 → j < 8 → ω.1 (kP o + j) = none) ∧ ω.1 400 = none
theorem lw_out {n : Nat} {σ σ' : zS} {ω : yW} {v : Int32} (h : lwK n σ σ' ω) : lwK n σ σ' (ysi ω 300 0 v) := by
  obtain ⟨h1, h2, h3, h4, h5, h6⟩ := h
  refine ⟨zC_ext h1 (fun _ _ => rfl) (fun k hk => ⟨?_, rfl⟩) h1.cl, h2, mRS_cells h3 (fun K a b => ?_), h4, h5, h6⟩
  · funext j
    exact yu_ne _ _ (by omega)
  · funext j
    exact yu_ne _ _ (by omega)
theorem lw_after {n : Nat} {σ σ' : zS} {ω ω1 : yW} (hI : lwI n σ ω) (hz : zC σ' ω ω1) (hn : zn σ' = zn σ) : lwK n σ σ' ω1 := by
  obtain ⟨h1, h2, h3, h4, h5, h6, -⟩ := hI
  have e : ω1.1 = ω.1 := hz.2.1
  refine ⟨zC_ext hz (fun _ _ => rfl) (fun k hk => ⟨rfl, rfl⟩) hz.cl, mSh_of h2 (fun k _ _ => by rw [e]) (hz.2.2.1 200 (by omega)).2, mRS_cells h3 (fun K a b => (hz.2.2.1 K a).1), by rw [e]; exact h4, fun o j a b c => by rw [e]; exact h5 o j (by omega) b c, by rw [e]; exact h6⟩
theorem lw_back {n n' : Nat} {σ σ' : zS} {ω : yW} {M' : mM} (h : lwK n σ σ' ω) (hR : mRS n' σ' M') (hf : ∀ K j, (K < 200 ∨ 224 ≤ K) → M' K j = ω.2.1 K j) (h6 : 6 ≤ n') : lwI n' σ' (mw ω.1 ω.2.2 M') := by
  obtain ⟨h1, h2, h3, h4, h5, h7⟩ := h
  exact ⟨zC_ext h1 (fun _ _ => rfl) (fun k hk => ⟨funext (fun j => hf k j (Or.inl hk)), rfl⟩) h1.cl, h2, hR, h4, h5, h7, h6⟩
theorem lw_back0 {n n' : Nat} {σ σ' : zS} {ω : yW} {M' : mM} (h : lwK n σ σ' ω) (hR : mR0 n' (yu ω.2.1 200 26 0) σ' M') (h6 : 6 ≤ n') : lwI n' σ' (mw ω.1 ω.2.2 M') ∧ M' 200 26 = 0 ∧ M' 300 0 = ω.2.1 300 0 := by
  refine ⟨lw_back h hR.1 (fun K j hK => ?_) h6, ?_, ?_⟩
  · rw [hR.2 K j (by unfold mOut; omega), yu_ne _ _ (by omega)]
  · rw [hR.2 200 26 (by unfold mOut; omega), yu_same]
  · rw [hR.2 300 0 (by unfold mOut; omega), yu_ne _ _ (by omega)]
theorem lw_backT {n : Nat} {σ : zS} {ω : yW} {x : Int32} (h : lwK n σ σ ω) (h6 : 6 ≤ n) : lwI n σ (mw ω.1 ω.2.2 (yu ω.2.1 200 26 x)) := lw_back h (mRS_200 h.2.2.1 (by decide)) (fun K j hK => yu_ne _ _ (by omega)) h6
theorem yu_26 {M : mM} {x y : Int32} : yu (yu M 200 26 x) 200 26 y = yu M 200 26 y := yu_yu _ _ _ _ _
theorem wHq_sh {ω ω9 : yW} {P : Option yV → zS → Prop} {X : String → zS → Prop} {r : Option yV} (h : wHq ω P X r ω9) : ω9.1 = ω.1 := by
  rcases h with ⟨v, σ', ω1, hz, -, -, rfl⟩ | ⟨E, σ', ω1, hz, -, -, rfl⟩
  · exact hz.2.1
  · exact hz.2.1
theorem wHv_sh {ω ω9 : yW} {P : Option yV → zS → Prop} {X : String → zS → Prop} {r : Option yV} (h : wHv ω P X r ω9) : ω9.1 = ω.1 := by
  rcases h with ⟨σ', ω1, hz, -, -, rfl⟩ | ⟨E, σ', ω1, hz, -, -, rfl⟩
  · exact hz.2.1
  · exact hz.2.1
theorem wsh {ω ω1 : yW} {ls : List (Option yV)} {rest : List yV} (e : ω1.1 = ω.1) : (∀ k, ω1.1 k = none → ω.1 k = none) ∧ (∀ k, (yr k ∈ rest ∨ some (yr k) ∈ ls) → ω.1 k ≠ none ∨ ω1.1 k = none) := by
  refine ⟨fun k z => by rw [← e]; exact z, fun k _ => ?_⟩
  rw [e]
  by_cases z : ω.1 k = none
  · exact Or.inr z
  · exact Or.inl z
theorem zset_zn {o m : Nat} {σ : zS} : zn (zset o m σ) = zn σ := (zset_n m σ).1
theorem zact_zn {σ : zS} {o t : Nat} {a g p : Int32} : zn (zact σ o t a g p) = zn σ := by
  unfold zact
  rw [zset_zn, zperf_n.1]
  rfl
theorem zint_zn {σ : zS} {t : Nat} : zn (zint σ t) = zn σ := by
  unfold zint
  split
  · rfl
  · split
    · rfl
    · rw [zset_zn, (zFr_giveUp (o := _)).2.2]
theorem ztk1_zn {σ : zS} {t : Nat} : zn (ztk1 σ t).1 = zn σ := by
  unfold ztk1
  split
  · rfl
  · split
    · split
      · show zn (zset _ 7 _) = _
        rw [zset_zn, (zFr_giveUp (o := _)).2.2]
        rfl
      · rfl
    · rfl
theorem ztkL_zn : ∀ (m q : Nat) (c : Int32) (σ : zS), zn (ztkL m q c σ).1 = zn σ
  | 0, _, _, _ => rfl
  | m + 1, q, c, σ => by
    show zn (ztkL m (q + 1) _ (ztk1 σ q).1).1 = _
    rw [ztkL_zn m, ztk1_zn]
theorem ztickL_zn : ∀ (m : Nat) (c : Int32) (σ : zS), zn (ztickL m c σ).1 = zn σ
  | 0, _, _ => rfl
  | m + 1, c, σ => by
    show zn (ztickL m _ (ztickOne σ).1).1 = _
    rw [ztickL_zn m]
    exact ztkL_zn 6 0 0 _

theorem lw_tail_make {G : yG} {b L q : Nat} {xs : Nat → Int32} {cs sl : Nat} {s : Nat → Option ySh} {F : Nat → Nat → Option Nat} {M : mM} {k rv : Int32} {u6 : Option Int32} (hS : mSh s F) (h300 : s 300 = some (.inr (2, 1))) (hth : M 200 26 = k) (hv : k = 0 → M 300 0 = rv) (hcs : cs ≤ 718118) (hsl : sl ≤ 6941751) (kk : ∀ u6 : Option Int32, yWW G m_W_law (yQN (lwG G b L xs) lwQ) (fun _ => none) 598 [some (yr 400), some (yr 0), some (yr 200), some (yr 300), some (yi (nI q)), some (yi k), (u6.map yi)] [] (mw s F M) cs sl) : yWW G m_W_law (yQN (lwG G b L xs) lwQ) (fun _ => none) 127 [some (yr 400), some (yr 0), some (yr 200), some (yr 300), some (yi (nI q)), some (yi k), (u6.map yi)] [yi rv] (mw s F M) cs sl := by
  refine yr_istore (ls' := [some (yr 400), some (yr 0), some (yr 200), some (yr 300), some (yi (nI q)), some (yi k), some (yi rv)]) d_W_law_127 (by decide) rfl ?_
  refine yr_aload_n d_W_law_129 rfl ?_
  refine mr_call (yrunV (X := yNX) (k := 200) (As := []) (rest := []) d_W_law_130 (c_M_thrown hS) hS.1 rfl (show yck (yMm m_W_law) m_M_thrown 0 = true by decide +kernel) cw_M_thrown (by decide +kernel) (by decide +kernel) (by decide +kernel) (by decide +kernel) (Nat.le_of_ble_eq_true rfl) (ycat_of rfl) (by show cs + 0 ≤ 718118; omega) (by show sl + 0 ≤ 6941751; omega)) (fun r9 M9 hp9 => ?_)
  obtain ⟨rfl, rfl⟩ := hp9
  refine yr_iload d_W_law_133 rfl ?_
  refine yr_icmp_eq (tgt := 140) d_W_law_135 (by decide) (fun _ => ?_) (fun z => absurd hth z)
  refine yr_iload d_W_law_140 rfl ?_
  refine yr_if_ne (tgt := 157) d_W_law_142 (by decide) (fun _ => ?_) (fun h0 => ?_)
  · refine yr_goto (tgt := 598) d_W_law_157 (by decide) ?_
    exact kk (some rv)
  · refine yr_aload_n d_W_law_145 rfl ?_
    refine yr_iconst (v := 0) d_W_law_146 (by decide) ?_
    refine yr_lald (k := 300) (n := 1) (j := 0) d_W_law_147 h300 (by decide) rfl (by decide) ?_
    refine yr_iload d_W_law_148 rfl ?_
    refine yr_i2l d_W_law_150 ?_
    have e9 : (mw s F M9).2.1 300 0 = rv := hv h0
    rw [e9]
    refine yr_lcmp_eq d_W_law_151 ?_
    refine yr_if_eq (tgt := 157) d_W_law_152 (by decide) (fun _ => ?_) (fun z => absurd rfl z)
    refine yr_goto (tgt := 598) d_W_law_157 (by decide) ?_
    exact kk (some rv)
theorem lw_tail_act {G : yG} {b L q : Nat} {xs : Nat → Int32} {cs sl : Nat} {s : Nat → Option ySh} {F : Nat → Nat → Option Nat} {M : mM} {k rv : Int32} {u6 : Option Int32} (hS : mSh s F) (h300 : s 300 = some (.inr (2, 1))) (hth : M 200 26 = k) (hv : k = 0 → M 300 0 = rv) (hcs : cs ≤ 718118) (hsl : sl ≤ 6941751) (kk : ∀ u6 : Option Int32, yWW G m_W_law (yQN (lwG G b L xs) lwQ) (fun _ => none) 598 [some (yr 400), some (yr 0), some (yr 200), some (yr 300), some (yi (nI q)), some (yi k), (u6.map yi)] [] (mw s F M) cs sl) : yWW G m_W_law (yQN (lwG G b L xs) lwQ) (fun _ => none) 231 [some (yr 400), some (yr 0), some (yr 200), some (yr 300), some (yi (nI q)), some (yi k), (u6.map yi)] [yi rv] (mw s F M) cs sl := by
  refine yr_istore (ls' := [some (yr 400), some (yr 0), some (yr 200), some (yr 300), some (yi (nI q)), some (yi k), some (yi rv)]) d_W_law_231 (by decide) rfl ?_
  refine yr_aload_n d_W_law_233 rfl ?_
  refine mr_call (yrunV (X := yNX) (k := 200) (As := []) (rest := []) d_W_law_234 (c_M_thrown hS) hS.1 rfl (show yck (yMm m_W_law) m_M_thrown 0 = true by decide +kernel) cw_M_thrown (by decide +kernel) (by decide +kernel) (by decide +kernel) (by decide +kernel) (Nat.le_of_ble_eq_true rfl) (ycat_of rfl) (by show cs + 0 ≤ 718118; omega) (by show sl + 0 ≤ 6941751; omega)) (fun r9 M9 hp9 => ?_)
  obtain ⟨rfl, rfl⟩ := hp9
  refine yr_iload d_W_law_237 rfl ?_
  refine yr_icmp_eq (tgt := 244) d_W_law_239 (by decide) (fun _ => ?_) (fun z => absurd hth z)
  refine yr_iload d_W_law_244 rfl ?_
  refine yr_if_ne (tgt := 261) d_W_law_246 (by decide) (fun _ => ?_) (fun h0 => ?_)
  · refine yr_goto (tgt := 598) d_W_law_261 (by decide) ?_
    exact kk (some rv)
  · refine yr_aload_n d_W_law_249 rfl ?_
    refine yr_iconst (v := 0) d_W_law_250 (by decide) ?_
    refine yr_lald (k := 300) (n := 1) (j := 0) d_W_law_251 h300 (by decide) rfl (by decide) ?_
    refine yr_iload d_W_law_252 rfl ?_
    refine yr_i2l d_W_law_254 ?_
    have e9 : (mw s F M9).2.1 300 0 = rv := hv h0
    rw [e9]
    refine yr_lcmp_eq d_W_law_255 ?_
    refine yr_if_eq (tgt := 261) d_W_law_256 (by decide) (fun _ => ?_) (fun z => absurd rfl z)
    refine yr_goto (tgt := 598) d_W_law_261 (by decide) ?_
    exact kk (some rv)
theorem lw_tail_tick {G : yG} {b L q : Nat} {xs : Nat → Int32} {cs sl : Nat} {s : Nat → Option ySh} {F : Nat → Nat → Option Nat} {M : mM} {k rv : Int32} {u6 : Option Int32} (hS : mSh s F) (h300 : s 300 = some (.inr (2, 1))) (hth : M 200 26 = k) (hv : k = 0 → M 300 0 = rv) (hcs : cs ≤ 718118) (hsl : sl ≤ 6941751) (kk : ∀ u6 : Option Int32, yWW G m_W_law (yQN (lwG G b L xs) lwQ) (fun _ => none) 598 [some (yr 400), some (yr 0), some (yr 200), some (yr 300), some (yi (nI q)), some (yi k), (u6.map yi)] [] (mw s F M) cs sl) : yWW G m_W_law (yQN (lwG G b L xs) lwQ) (fun _ => none) 287 [some (yr 400), some (yr 0), some (yr 200), some (yr 300), some (yi (nI q)), some (yi k), (u6.map yi)] [yi rv] (mw s F M) cs sl := by
  refine yr_istore (ls' := [some (yr 400), some (yr 0), some (yr 200), some (yr 300), some (yi (nI q)), some (yi k), some (yi rv)]) d_W_law_287 (by decide) rfl ?_
  refine yr_aload_n d_W_law_289 rfl ?_
  refine mr_call (yrunV (X := yNX) (k := 200) (As := []) (rest := []) d_W_law_290 (c_M_thrown hS) hS.1 rfl (show yck (yMm m_W_law) m_M_thrown 0 = true by decide +kernel) cw_M_thrown (by decide +kernel) (by decide +kernel) (by decide +kernel) (by decide +kernel) (Nat.le_of_ble_eq_true rfl) (ycat_of rfl) (by show cs + 0 ≤ 718118; omega) (by show sl + 0 ≤ 6941751; omega)) (fun r9 M9 hp9 => ?_)
  obtain ⟨rfl, rfl⟩ := hp9
  refine yr_iload d_W_law_293 rfl ?_
  refine yr_icmp_eq (tgt := 300) d_W_law_295 (by decide) (fun _ => ?_) (fun z => absurd hth z)
  refine yr_iload d_W_law_300 rfl ?_
  refine yr_if_ne (tgt := 317) d_W_law_302 (by decide) (fun _ => ?_) (fun h0 => ?_)
  · refine yr_goto (tgt := 598) d_W_law_317 (by decide) ?_
    exact kk (some rv)
  · refine yr_aload_n d_W_law_305 rfl ?_
    refine yr_iconst (v := 0) d_W_law_306 (by decide) ?_
    refine yr_lald (k := 300) (n := 1) (j := 0) d_W_law_307 h300 (by decide) rfl (by decide) ?_
    refine yr_iload d_W_law_308 rfl ?_
    refine yr_i2l d_W_law_310 ?_
    have e9 : (mw s F M9).2.1 300 0 = rv := hv h0
    rw [e9]
    refine yr_lcmp_eq d_W_law_311 ?_
    refine yr_if_eq (tgt := 317) d_W_law_312 (by decide) (fun _ => ?_) (fun z => absurd rfl z)
    refine yr_goto (tgt := 598) d_W_law_317 (by decide) ?_
    exact kk (some rv)
theorem lw_tail_told {G : yG} {b L q : Nat} {xs : Nat → Int32} {cs sl : Nat} {s : Nat → Option ySh} {F : Nat → Nat → Option Nat} {M : mM} {k rv : Int32} {u6 : Option Int32} (hS : mSh s F) (h300 : s 300 = some (.inr (2, 1))) (hth : M 200 26 = k) (hv : k = 0 → M 300 0 = rv) (hcs : cs ≤ 718118) (hsl : sl ≤ 6941751) (kk : ∀ u6 : Option Int32, yWW G m_W_law (yQN (lwG G b L xs) lwQ) (fun _ => none) 598 [some (yr 400), some (yr 0), some (yr 200), some (yr 300), some (yi (nI q)), some (yi k), (u6.map yi)] [] (mw s F M) cs sl) : yWW G m_W_law (yQN (lwG G b L xs) lwQ) (fun _ => none) 391 [some (yr 400), some (yr 0), some (yr 200), some (yr 300), some (yi (nI q)), some (yi k), (u6.map yi)] [yi rv] (mw s F M) cs sl := by
  refine yr_istore (ls' := [some (yr 400), some (yr 0), some (yr 200), some (yr 300), some (yi (nI q)), some (yi k), some (yi rv)]) d_W_law_391 (by decide) rfl ?_
  refine yr_aload_n d_W_law_393 rfl ?_
  refine mr_call (yrunV (X := yNX) (k := 200) (As := []) (rest := []) d_W_law_394 (c_M_thrown hS) hS.1 rfl (show yck (yMm m_W_law) m_M_thrown 0 = true by decide +kernel) cw_M_thrown (by decide +kernel) (by decide +kernel) (by decide +kernel) (by decide +kernel) (Nat.le_of_ble_eq_true rfl) (ycat_of rfl) (by show cs + 0 ≤ 718118; omega) (by show sl + 0 ≤ 6941751; omega)) (fun r9 M9 hp9 => ?_)
  obtain ⟨rfl, rfl⟩ := hp9
  refine yr_iload d_W_law_397 rfl ?_
  refine yr_icmp_eq (tgt := 404) d_W_law_399 (by decide) (fun _ => ?_) (fun z => absurd hth z)
  refine yr_iload d_W_law_404 rfl ?_
  refine yr_if_ne (tgt := 421) d_W_law_406 (by decide) (fun _ => ?_) (fun h0 => ?_)
  · refine yr_goto (tgt := 598) d_W_law_421 (by decide) ?_
    exact kk (some rv)
  · refine yr_aload_n d_W_law_409 rfl ?_
    refine yr_iconst (v := 0) d_W_law_410 (by decide) ?_
    refine yr_lald (k := 300) (n := 1) (j := 0) d_W_law_411 h300 (by decide) rfl (by decide) ?_
    refine yr_iload d_W_law_412 rfl ?_
    refine yr_i2l d_W_law_414 ?_
    have e9 : (mw s F M9).2.1 300 0 = rv := hv h0
    rw [e9]
    refine yr_lcmp_eq d_W_law_415 ?_
    refine yr_if_eq (tgt := 421) d_W_law_416 (by decide) (fun _ => ?_) (fun z => absurd rfl z)
    refine yr_goto (tgt := 598) d_W_law_421 (by decide) ?_
    exact kk (some rv)
theorem lw_tail_object {G : yG} {b L q : Nat} {xs : Nat → Int32} {cs sl : Nat} {s : Nat → Option ySh} {F : Nat → Nat → Option Nat} {M : mM} {k rv : Int32} {u6 : Option Int32} (hS : mSh s F) (h300 : s 300 = some (.inr (2, 1))) (hth : M 200 26 = k) (hv : k = 0 → M 300 0 = rv) (hcs : cs ≤ 718118) (hsl : sl ≤ 6941751) (kk : ∀ u6 : Option Int32, yWW G m_W_law (yQN (lwG G b L xs) lwQ) (fun _ => none) 598 [some (yr 400), some (yr 0), some (yr 200), some (yr 300), some (yi (nI q)), some (yi k), (u6.map yi)] [] (mw s F M) cs sl) : yWW G m_W_law (yQN (lwG G b L xs) lwQ) (fun _ => none) 459 [some (yr 400), some (yr 0), some (yr 200), some (yr 300), some (yi (nI q)), some (yi k), (u6.map yi)] [yi rv] (mw s F M) cs sl := by
  refine yr_istore (ls' := [some (yr 400), some (yr 0), some (yr 200), some (yr 300), some (yi (nI q)), some (yi k), some (yi rv)]) d_W_law_459 (by decide) rfl ?_
  refine yr_aload_n d_W_law_461 rfl ?_
  refine mr_call (yrunV (X := yNX) (k := 200) (As := []) (rest := []) d_W_law_462 (c_M_thrown hS) hS.1 rfl (show yck (yMm m_W_law) m_M_thrown 0 = true by decide +kernel) cw_M_thrown (by decide +kernel) (by decide +kernel) (by decide +kernel) (by decide +kernel) (Nat.le_of_ble_eq_true rfl) (ycat_of rfl) (by show cs + 0 ≤ 718118; omega) (by show sl + 0 ≤ 6941751; omega)) (fun r9 M9 hp9 => ?_)
  obtain ⟨rfl, rfl⟩ := hp9
  refine yr_iload d_W_law_465 rfl ?_
  refine yr_icmp_eq (tgt := 472) d_W_law_467 (by decide) (fun _ => ?_) (fun z => absurd hth z)
  refine yr_iload d_W_law_472 rfl ?_
  refine yr_if_ne (tgt := 489) d_W_law_474 (by decide) (fun _ => ?_) (fun h0 => ?_)
  · refine yr_goto (tgt := 598) d_W_law_489 (by decide) ?_
    exact kk (some rv)
  · refine yr_aload_n d_W_law_477 rfl ?_
    refine yr_iconst (v := 0) d_W_law_478 (by decide) ?_
    refine yr_lald (k := 300) (n := 1) (j := 0) d_W_law_479 h300 (by decide) rfl (by decide) ?_
    refine yr_iload d_W_law_480 rfl ?_
    refine yr_i2l d_W_law_482 ?_
    have e9 : (mw s F M9).2.1 300 0 = rv := hv h0
    rw [e9]
    refine yr_lcmp_eq d_W_law_483 ?_
    refine yr_if_eq (tgt := 489) d_W_law_484 (by decide) (fun _ => ?_) (fun z => absurd rfl z)
    refine yr_goto (tgt := 598) d_W_law_489 (by decide) ?_
    exact kk (some rv)
theorem lw_tail_waiter {G : yG} {b L q : Nat} {xs : Nat → Int32} {cs sl : Nat} {s : Nat → Option ySh} {F : Nat → Nat → Option Nat} {M : mM} {k rv : Int32} {u6 : Option Int32} (hS : mSh s F) (h300 : s 300 = some (.inr (2, 1))) (hth : M 200 26 = k) (hv : k = 0 → M 300 0 = rv) (hcs : cs ≤ 718118) (hsl : sl ≤ 6941751) (kk : ∀ u6 : Option Int32, yWW G m_W_law (yQN (lwG G b L xs) lwQ) (fun _ => none) 598 [some (yr 400), some (yr 0), some (yr 200), some (yr 300), some (yi (nI q)), some (yi k), (u6.map yi)] [] (mw s F M) cs sl) : yWW G m_W_law (yQN (lwG G b L xs) lwQ) (fun _ => none) 527 [some (yr 400), some (yr 0), some (yr 200), some (yr 300), some (yi (nI q)), some (yi k), (u6.map yi)] [yi rv] (mw s F M) cs sl := by
  refine yr_istore (ls' := [some (yr 400), some (yr 0), some (yr 200), some (yr 300), some (yi (nI q)), some (yi k), some (yi rv)]) d_W_law_527 (by decide) rfl ?_
  refine yr_aload_n d_W_law_529 rfl ?_
  refine mr_call (yrunV (X := yNX) (k := 200) (As := []) (rest := []) d_W_law_530 (c_M_thrown hS) hS.1 rfl (show yck (yMm m_W_law) m_M_thrown 0 = true by decide +kernel) cw_M_thrown (by decide +kernel) (by decide +kernel) (by decide +kernel) (by decide +kernel) (Nat.le_of_ble_eq_true rfl) (ycat_of rfl) (by show cs + 0 ≤ 718118; omega) (by show sl + 0 ≤ 6941751; omega)) (fun r9 M9 hp9 => ?_)
  obtain ⟨rfl, rfl⟩ := hp9
  refine yr_iload d_W_law_533 rfl ?_
  refine yr_icmp_eq (tgt := 540) d_W_law_535 (by decide) (fun _ => ?_) (fun z => absurd hth z)
  refine yr_iload d_W_law_540 rfl ?_
  refine yr_if_ne (tgt := 557) d_W_law_542 (by decide) (fun _ => ?_) (fun h0 => ?_)
  · refine yr_goto (tgt := 598) d_W_law_557 (by decide) ?_
    exact kk (some rv)
  · refine yr_aload_n d_W_law_545 rfl ?_
    refine yr_iconst (v := 0) d_W_law_546 (by decide) ?_
    refine yr_lald (k := 300) (n := 1) (j := 0) d_W_law_547 h300 (by decide) rfl (by decide) ?_
    refine yr_iload d_W_law_548 rfl ?_
    refine yr_i2l d_W_law_550 ?_
    have e9 : (mw s F M9).2.1 300 0 = rv := hv h0
    rw [e9]
    refine yr_lcmp_eq d_W_law_551 ?_
    refine yr_if_eq (tgt := 557) d_W_law_552 (by decide) (fun _ => ?_) (fun z => absurd rfl z)
    refine yr_goto (tgt := 598) d_W_law_557 (by decide) ?_
    exact kk (some rv)