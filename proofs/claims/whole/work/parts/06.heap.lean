/-! the small logic: fields, arrays, new cells, calls, ends -/
/-- a field's place in the code: pool number ix of class own names field f of class number ci (spelled through ref; by the nest's host where it is private) -/
def ySF (own : String) (ix : Nat) (ref host : String) (ci f : Nat) : Bool := match ycl[ci]? with
  | none => false
  | some r => decide (f < r.2.2) && (if host = "" then decide (Cond.fieldLink own ix ref (r.2.1 f).2.1 (r.2.1 f).2.2.1 ∈ lw_tbl) else decide (Cond.fieldLinkNest own ix ref (r.2.1 f).2.1 (r.2.1 f).2.2.1 host ∈ lw_tbl)) && (decide (ref = (r.2.1 f).1) || decide (Cond.sameField ref (r.2.1 f).1 (r.2.1 f).2.1 (r.2.1 f).2.2.1 ∈ lw_tbl))
theorem yGx.hts {s : State} (h : yGx s) (a : Array Value) : ∀ w ∈ yTs, w.before a s = true := fun w hw => h w (List.mem_filter.mp hw).1 (List.mem_filter.mp hw).2 a
/-- what a field's place gives in a method -/
theorem ySF_use {G : yG} {s : State} {own ref host : String} {ix ci f : Nat} (hs : ySF own ix ref host ci f = true) (hg : yGx s) (hk : yK G s) (args : Array Value) : ∃ (r : vw_C) (cf : ClassId) (kf : Class) (fi : Nat) (fd : Field), ycl[ci]? = some r ∧ f < r.2.2 ∧ s.fieldFound? (r.2.1 f).1 (r.2.1 f).2.1 (r.2.1 f).2.2.1 = some (cf, kf, fi, fd) ∧ s.fieldFound? ref (r.2.1 f).2.1 (r.2.1 f).2.2.1 = some (cf, kf, fi, fd) ∧ fd.isStatic = false ∧ fd.slot = (yD G).2 ci f ∧
    ((host = "" ∧ (Cond.fieldLink own ix ref (r.2.1 f).2.1 (r.2.1 f).2.2.1).before args s = true) ∨ (¬ host = "" ∧ (Cond.fieldLinkNest own ix ref (r.2.1 f).2.1 (r.2.1 f).2.2.1 host).before args s = true)) := by
  unfold ySF at hs
  split at hs
  · cases hs
  · rename_i r hc
    simp only [Bool.and_eq_true, Bool.or_eq_true, decide_eq_true_eq] at hs
    obtain ⟨⟨hf, hl⟩, hsm⟩ := hs
    obtain ⟨hSl, hfc, kC, hkC, hkind⟩ := hk.1 ci _ hc
    obtain ⟨cf, kf, fi, fd, hi, hsl⟩ := hSl f hf
    refine ⟨r, cf, kf, fi, fd, hc, hf, hi, ?_, (u_facts hfc hkC (u_lays (hg.hts args) (fun w hw => yIn r (List.mem_of_getElem? hc) w hw) hf) hi).1, hsl, ?_⟩
    · rcases hsm with e | e
      · rw [e]; exact hi
      · exact u_same (hg _ e rfl args) _ hi
    · by_cases hh : host = ""
      · rw [if_pos hh, decide_eq_true_eq] at hl
        exact Or.inl ⟨hh, hg _ hl rfl args⟩
      · rw [if_neg hh, decide_eq_true_eq] at hl
        exact Or.inr ⟨hh, hg _ hl rfl args⟩
def yval (ω : yW) (k ci f : Nat) : yV := if yfk ci f = true then yo (ω.2.2 k f) else yi (ω.2.1 k f)
theorem yval_cv (ad : Nat → Nat) (ω : yW) (k ci f : Nat) : ycv ad (yval ω k ci f) = yfv ad ci f (ω.2.1 k f) (ω.2.2 k f) := by
  unfold yval yfv
  split <;> rfl
section YH
variable {G : yG} {i : yM} {Qf : yQT} {sh0 : Nat → Option ySh} {pc : Nat} {ls : List (Option yV)} {st : List yV} {ω : yW} {cs sl : Nat}
theorem yr_get0 {k ci f ix : Nat} {ref host : String} (hd : decode (yMb i) pc = .ok (.getfield ix, 3)) (hsh : ω.1 k = some (.inl ci)) (site : ySF (yMy i).cls ix ref host ci f = true) (kk : yWW G i Qf sh0 (pc + 3) ls (yval ω k ci f :: st) ω cs sl) : yWW G i Qf sh0 pc ls (yr k :: st) ω cs sl := by
  intro p e s m args below meth c ad0 ad H locs lsA C hE hS hH hL
  obtain ⟨-, r0, hc0, cell, q1, q2, q3, q4⟩ := hH.2 k _ hsh
  obtain ⟨r, cf, kf, fi, fd, hc, hf, hi, hi2, hst, hsl, hlk⟩ := ySF_use (G := G) site C.2.2.2.2.2.2.2.1 C.2.2.2.2.2.2.2.2.1 args
  cases hc0.symm.trans hc
  have kk' := kk p e s m args below meth c ad0 ad H locs lsA C hE hS hH hL
  rw [List.map_cons, yval_cv] at kk'
  have hv : cell.slots[fd.slot]? = some (yfv ad ci f (ω.2.1 k f) (ω.2.2 k f)) := by rw [hsl]; exact q4 f hf
  have hkn : cell.vm ≠ .unknown := by rw [q3]; exact fun h => by cases h
  rcases hlk with ⟨-, hlk⟩ | ⟨hne, hlk⟩
  · exact W.getf C.1 C.2.1 C.2.2.2.2.1 hlk hi2 hst q1 hkn hv rfl rfl hd kk'
  · exact va_Wgetf C.1 C.2.1 C.2.2.2.2.1 hlk hi2 hst q1 hkn hv rfl rfl hd kk'
theorem yr_geti {k ci f ix : Nat} {ref host : String} (hd : decode (yMb i) pc = .ok (.getfield ix, 3)) (hsh : ω.1 k = some (.inl ci)) (site : ySF (yMy i).cls ix ref host ci f = true) (hk : yfk ci f = false) (kk : yWW G i Qf sh0 (pc + 3) ls (yi (ω.2.1 k f) :: st) ω cs sl) : yWW G i Qf sh0 pc ls (yr k :: st) ω cs sl := by
  refine yr_get0 hd hsh site ?_
  unfold yval
  rw [if_neg (by rw [hk]; decide)]
  exact kk
theorem yr_getr {k ci f ix : Nat} {ref host : String} (hd : decode (yMb i) pc = .ok (.getfield ix, 3)) (hsh : ω.1 k = some (.inl ci)) (site : ySF (yMy i).cls ix ref host ci f = true) (hk : yfk ci f = true) (kk : yWW G i Qf sh0 (pc + 3) ls (yo (ω.2.2 k f) :: st) ω cs sl) : yWW G i Qf sh0 pc ls (yr k :: st) ω cs sl := by
  refine yr_get0 hd hsh site ?_
  unfold yval
  rw [if_pos hk]
  exact kk
/-- the stored cell, seen in the world -/
theorem yput_ok {ad : Nat → Nat} {H H1 : Heap} {s : State} {k ci f : Nat} {r : vw_C} {cell : Cell} {v : yV} {ω' : yW} (hg : yGx s) (hK : yK G s) (args : Array Value) (own : String) (hc : ycl[ci]? = some r) (hf : f < r.2.2) (hH : yH G ad ω H) (hsh : ω.1 k = some (.inl ci)) (q1 : H[ad k]? = some cell) (q2 : cell.cls = (yD G).1 ci) (q3 : cell.vm = .none) (q4 : ∀ j, j < r.2.2 → cell.slots[(yD G).2 ci j]? = some (yfv ad ci j (ω.2.1 k j) (ω.2.2 k j)))
    (hv : v = if yfk ci f = true then yo (ω'.2.2 k f) else yi (ω'.2.1 k f)) (hs : ω'.1 = ω.1) (ho : ∀ j, j ≠ k → ω'.2.1 j = ω.2.1 j ∧ ω'.2.2 j = ω.2.2 j) (hj : ∀ j, j ≠ f → ω'.2.1 k j = ω.2.1 k j ∧ ω'.2.2 k j = ω.2.2 k j)
    (e1 : H1[ad k]? = some (cell.setSlot ((yD G).2 ci f) (ycv ad v))) (e3 : ∀ q, q ≠ ad k → H1[q]? = H[q]?) : yH G ad ω' H1 := by
  refine yH_set hH hsh hs ho ?_ e3
  have hap := va_apart (own := own) (hg.hts args) (fun w hw => yIn r (List.mem_of_getElem? hc) w hw) (yft ci) (fun j hj => yftok ci r hc j hj) (yfnm r (List.mem_of_getElem? hc)) hK hc
  refine ⟨r, hc, _, e1, q2, q3, fun j hjl => ?_⟩
  have h9 := t_set q4 hap hf (ycv ad v) j hjl
  rw [h9]
  unfold updV
  by_cases e : j = f
  · subst e
    rw [if_pos rfl, hv]
    show _ = some (yfv ad ci j (ω'.2.1 k j) (ω'.2.2 k j))
    unfold yfv
    by_cases e9 : yfk ci j = true
    · rw [if_pos e9, if_pos e9]
    · rw [if_neg e9, if_neg e9]; rfl
  · rw [if_neg e]
    show some (yfv ad ci j (ω.2.1 k j) (ω.2.2 k j)) = some (yfv ad ci j (ω'.2.1 k j) (ω'.2.2 k j))
    rw [(hj j e).1, (hj j e).2]
theorem yr_put0 {k ci f ix : Nat} {ref host : String} {v : yV} {ω' : yW} {r : vw_C} (hd : decode (yMb i) pc = .ok (.putfield ix, 3)) (hsh : ω.1 k = some (.inl ci)) (site : ySF (yMy i).cls ix ref host ci f = true) (hr : ycl[ci]? = some r) (hfin : (r.2.1 f).2.2.2 = false)
    (hn : ∀ ad, narrow (yft ci f) (ycv ad v) = ycv ad v ∧ fits (yft ci f) (ycv ad v) = true) (hv : v = if yfk ci f = true then yo (ω'.2.2 k f) else yi (ω'.2.1 k f)) (hs : ω'.1 = ω.1) (ho : ∀ j, j ≠ k → ω'.2.1 j = ω.2.1 j ∧ ω'.2.2 j = ω.2.2 j) (hj : ∀ j, j ≠ f → ω'.2.1 k j = ω.2.1 k j ∧ ω'.2.2 k j = ω.2.2 k j)
    (kk : yWW G i Qf sh0 (pc + 3) ls st ω' cs sl) : yWW G i Qf sh0 pc ls (v :: yr k :: st) ω cs sl := by
  intro p e s m args below meth c ad0 ad H locs lsA C hE hS hH hL
  obtain ⟨hAk, r0, hc0, cell, q1, q2, q3, q4⟩ := hH.2 k _ hsh
  have hg := C.2.2.2.2.2.2.2.1
  have hK := C.2.2.2.2.2.2.2.2.1
  obtain ⟨r1, cf, kf, fi, fd, hc, hf, hi, hi2, hst, hsl, hlk⟩ := ySF_use (G := G) site hg hK args
  cases hc0.symm.trans hc
  cases hr.symm.trans hc
  obtain ⟨-, hfc, kC, hkC, hkind⟩ := hK.1 ci _ hc
  have hlay := hg.hts args _ (yIn r (List.mem_of_getElem? hc) _ (u_in_lay hf))
  unfold u_lay at hlay
  rw [if_neg (by rw [hfin]; decide)] at hlay
  have h6 := u_store hfc hkC hkind hlay hi (yftok ci r hc f hf) (hn ad).1 (hn ad).2
  have hlt : fd.slot < cell.slots.size := by rw [hsl]; exact k2_hasslot (q4 f hf)
  have key : ∀ H' : Heap, H'[ad k]? = some (cell.setSlot fd.slot (ycv ad v)) → H'.size = H.size → (∀ q, q ≠ ad k → H'[q]? = H[q]?) → W p (yGl G) e (yMm i) s m args below meth c H' (locs ++ [⟨ad k, fd.slot⟩]) cs sl (Qf below args s ad0) (F0 m (pc + 3) lsA (st.map (ycv ad))) := by
    intro H' e1 e2 e3
    rw [hsl] at e1
    exact kk p e s m args below meth c ad0 ad H' _ lsA C (fun j hj' => hE j (by rw [hs] at hj'; exact hj')) (hS.put e2 e3 hAk) (yput_ok hg hK args (yMy i).cls hc hf hH hsh q1 q2 q3 q4 hv hs ho hj e1 e3) hL
  rcases hlk with ⟨-, hlk⟩ | ⟨hne, hlk⟩
  · exact W.putK C.1 C.2.1 (f := fd) ⟨C.2.2.2.2.1, hlk, ⟨_, _, _, hi2⟩, hst⟩ (by rw [q2]; exact h6) q1 q3 hlt rfl rfl hd key
  · exact va_WputK C.1 C.2.1 (f := fd) C.2.2.2.2.1 hlk hi2 hst (by rw [q2]; exact h6) q1 q3 hlt rfl rfl hd key
/-- a final field, in the constructor of its class -/
theorem yr_putF0 {k ci f ix : Nat} {ref : String} {v : yV} {ω' : yW} {r : vw_C} (hd : decode (yMb i) pc = .ok (.putfield ix, 3)) (hsh : ω.1 k = some (.inl ci)) (site : ySF (yMy i).cls ix ref "" ci f = true) (hr : ycl[ci]? = some r) (hfin : (r.2.1 f).2.2.2 = true) (hin : (yMy i).name = "<init>") (hdecl : (r.2.1 f).1 = (yMy i).cls)
    (hn : ∀ ad, narrow (yft ci f) (ycv ad v) = ycv ad v ∧ fits (yft ci f) (ycv ad v) = true) (hv : v = if yfk ci f = true then yo (ω'.2.2 k f) else yi (ω'.2.1 k f)) (hs : ω'.1 = ω.1) (ho : ∀ j, j ≠ k → ω'.2.1 j = ω.2.1 j ∧ ω'.2.2 j = ω.2.2 j) (hj : ∀ j, j ≠ f → ω'.2.1 k j = ω.2.1 k j ∧ ω'.2.2 k j = ω.2.2 k j)
    (kk : yWW G i Qf sh0 (pc + 3) ls st ω' cs sl) : yWW G i Qf sh0 pc ls (v :: yr k :: st) ω cs sl := by
  intro p e s m args below meth c ad0 ad H locs lsA C hE hS hH hL
  obtain ⟨hAk, r0, hc0, cell, q1, q2, q3, q4⟩ := hH.2 k _ hsh
  have hg := C.2.2.2.2.2.2.2.1
  have hK := C.2.2.2.2.2.2.2.2.1
  have hown := C.2.2.2.2.1
  obtain ⟨r1, cf, kf, fi, fd, hc, hf, hi, hi2, hst, hsl, hlk⟩ := ySF_use (G := G) site hg hK args
  cases hc0.symm.trans hc
  cases hr.symm.trans hc
  obtain ⟨-, hfc, kC, hkC, hkind⟩ := hK.1 ci _ hc
  have hlay := hg.hts args _ (yIn r (List.mem_of_getElem? hc) _ (u_in_lay hf))
  unfold u_lay at hlay
  rw [if_pos hfin] at hlay
  have hcf : m.cls = cf := by
    obtain ⟨_, _, c', _, _, _, -, -, hf', -, -, -, hown2, -⟩ := Cond.laysFinal_spec hlay
    have e1 : c' = cf := by have := hi.symm.trans hf'; simp at this; exact this.1.symm
    rw [hdecl] at hown2
    rw [← e1]; exact Option.some.inj (hown.symm.trans hown2)
  have h6 := u_fits hfc hkC hkind (Or.inr hlay) hi (yftok ci r hc f hf) (hn ad).1 (hn ad).2
  have hlt : fd.slot < cell.slots.size := by rw [hsl]; exact k2_hasslot (q4 f hf)
  rcases hlk with ⟨-, hlk⟩ | ⟨hne, hlk⟩
  · refine W.putFinK C.1 C.2.1 hown hlk hi2 hst hcf (C.2.2.2.2.2.2.1.trans hin) (by rw [q2]; exact h6) q1 q3 hlt rfl rfl hd fun H' e1 e2 e3 => ?_
    rw [hsl] at e1
    exact kk p e s m args below meth c ad0 ad H' _ lsA C (fun j hj' => hE j (by rw [hs] at hj'; exact hj')) (hS.put e2 e3 hAk) (yput_ok hg hK args (yMy i).cls hc hf hH hsh q1 q2 q3 q4 hv hs ho hj e1 e3) hL
  · exact absurd rfl hne
end YH
