section YN
variable {G : yG} {i : yM} {Qf : yQT} {sh0 : Nat → Option ySh} {pc : Nat} {ls : List (Option yV)} {st : List yV} {ω : yW} {cs sl : Nat}
/-- a reference into an array of references: by the tables the class may stand there -/
theorem yr_aast {k n j kv ci tc : Nat} {x : Int32} {r : vw_C} {C : String} (hd : decode (yMb i) pc = .ok (.aastore, 1)) (htc : tc = 3 ∨ tc = 4) (hty : yty tc = .object C) (hsh : ω.1 k = some (.inr (tc, n))) (hv : ω.1 kv = some (.inl ci)) (hr : ycl[ci]? = some r) (hcast : r.1 = C ∨ Cond.castable r.1 C ∈ lw_tbl) (h0 : ¬ x < 0) (hj : x.toNatClampNeg = j) (hn : j < n)
    (kk : yWW G i Qf sh0 (pc + 1) ls st (ysf ω k j (some kv)) cs sl) : yWW G i Qf sh0 pc ls (yr kv :: yi x :: yr k :: st) ω cs sl := by
  intro p e s m args below meth c ad0 ad H locs lsA C0 hE hS hH hL
  subst hj
  have hg := C0.2.2.2.2.2.2.2.1
  have hK := C0.2.2.2.2.2.2.2.2.1
  have hRA : va_RA s (ycA G tc) (.object C) := by
    rcases htc with rfl | rfl
    · have h9 := (hK.2 3 _ rfl).2; rw [hty] at h9; exact h9
    · have h9 := (hK.2 4 _ rfl).2; rw [hty] at h9; exact h9
  obtain ⟨kA, comp, k1, k2, k3, -⟩ := hRA
  obtain ⟨-, r0, hc0, cellV, g1, g2, g3, -⟩ := hH.2 kv _ hv
  cases hc0.symm.trans hr
  have hcls := (hK.1 ci r hr).2
  obtain ⟨kC, hkC, -⟩ := hcls.2
  obtain ⟨kcomp, hkcomp, -⟩ := Vm.findClass_spec k3
  have hasg : s.vm.assignable cellV.cls comp = true := by
    rw [g2]
    rcases hcast with hcast | hcast
    · rw [hcast] at hcls
      cases Option.some.inj (k3.symm.trans hcls.1)
      exact va_assign hcls
    · obtain ⟨c3, c4, f1, f2, f3⟩ := Cond.castable_spec (hg _ hcast rfl args)
      cases Option.some.inj (f1.symm.trans hcls.1)
      cases Option.some.inj (f2.symm.trans k3)
      exact f3
  have hev : ∀ (y : Int32) (o : Option Nat), yev ad tc y o = ycv ad (yo o) := by
    rcases htc with rfl | rfl <;> exact fun _ _ => rfl
  refine W.aast C0.1 C0.2.1 (hH.2 k _ hsh).2 (fun q h => by cases h) (fun h => by cases h) k1 k2 rfl hkcomp ⟨h0, by rw [arrV_size]; exact hn⟩ g1 (fun q h => by rw [g3] at h; cases h) (by rw [g2]; exact hkC) hasg rfl rfl hd fun H' e1 e2 e3 => ?_
  exact kk p e s m args below meth c ad0 ad H' _ lsA C0 hE (hS.put e2 e3 (hH.2 k _ hsh).1) (yast_ok hH hsh (by rw [hev, show (ysf ω k x.toNatClampNeg (some kv)).2.2 k x.toNatClampNeg = some kv from yu_same _ _ _ _]; rfl) rfl (ysf_ho ω k _ _) (ysf_hj ω k _ _) e1 e3) hL
theorem ycv_up {ad : Nat → Nat} {kn q : Nat} {v : yV} (h : v ≠ yr kn) : ycv (va_up ad kn q) v = ycv ad v := by
  rcases v with x | (o | z)
  · rfl
  · cases o with
    | none => rfl
    | some a =>
      show Value.ref (va_up ad kn q a) = Value.ref (ad a)
      rw [va_up_ne _ _ (fun e => h (by rw [e]))]
  · rfl
theorem yst_up {ad : Nat → Nat} {kn q : Nat} (l : List yV) (h : ∀ v ∈ l, v ≠ yr kn) : l.map (ycv (va_up ad kn q)) = l.map (ycv ad) := List.map_congr_left fun v hv => ycv_up (h v hv)
/-- a new cell in the heap, under a number that nobody has -/
theorem yH_new {ad : Nat → Nat} {H H' : Heap} {kn : Nat} {sp : ySh} (hH : yH G ad ω H) (hb : yGb G ≤ H.size) (f1 : ω.1 kn = none) (f2 : ∀ (k : Nat) (s9 : ySh) (f : Nat), ω.1 k = some s9 → ω.2.2 k f ≠ some kn) (h1 : ∀ q, q < H.size → H'[q]? = H[q]?) (hn : yOK G (va_up ad kn H.size) sp H.size (fun _ => 0) (fun _ => none) H') : yH G (va_up ad kn H.size) (yadd ω kn sp) H' := by
  have hlt : ∀ k, ω.1 k ≠ none → ad k < H.size := by
    intro k hk
    cases h9 : ω.1 k with
    | none => exact absurd h9 hk
    | some s9 => exact (hH.2 k s9 h9).2.lt
  have hsh : ∀ k, k ≠ kn → (yadd ω kn sp).1 k = ω.1 k := fun k hk => va_up_ne _ _ hk
  refine ⟨fun k k' hk hk' he => ?_, fun k s9 hk => ?_⟩
  · by_cases e1 : k = kn
    · by_cases e2 : k' = kn
      · rw [e1, e2]
      · rw [hsh k' e2] at hk'
        rw [e1, va_up_self, va_up_ne _ _ e2] at he
        have := hlt k' hk'
        omega
    · rw [hsh k e1] at hk
      by_cases e2 : k' = kn
      · rw [e2, va_up_self, va_up_ne _ _ e1] at he
        have := hlt k hk
        omega
      · rw [hsh k' e2] at hk'
        rw [va_up_ne _ _ e1, va_up_ne _ _ e2] at he
        exact hH.1 k k' hk hk' he
  · by_cases e1 : k = kn
    · subst e1
      have hk2 : some sp = some s9 := by
        have : (yadd ω k sp).1 k = some sp := va_up_self _ _ _
        rw [← this]; exact hk
      cases hk2
      rw [va_up_self]
      refine ⟨hb, ?_⟩
      have a1 : (yadd ω k sp).2.1 k = fun _ => 0 := va_up_self _ _ _
      have a2 : (yadd ω k sp).2.2 k = fun _ => none := va_up_self _ _ _
      rw [a1, a2]
      exact hn
    · rw [hsh k e1] at hk
      rw [va_up_ne _ _ e1]
      obtain ⟨b1, b2⟩ := hH.2 k s9 hk
      refine ⟨b1, ?_⟩
      have a1 : (yadd ω kn sp).2.1 k = ω.2.1 k := va_up_ne _ _ e1
      have a2 : (yadd ω kn sp).2.2 k = ω.2.2 k := va_up_ne _ _ e1
      rw [a1, a2]
      have b3 := b2.kept (h1 _ b2.lt)
      cases s9 with
      | inl ci =>
        obtain ⟨r, hr, ho⟩ := b3
        refine ⟨r, hr, ho.to fun j hj => ?_⟩
        show yfv ad ci j _ _ = yfv _ ci j _ _
        unfold yfv
        split
        · exact (ycv_up (v := yo (ω.2.2 k j)) (fun z => f2 k _ j hk (Sum.inl.inj (Sum.inr.inj z)))).symm
        · rfl
      | inr q9 =>
        refine Eq.trans b3 ?_
        congr 2
        funext j
        unfold yev
        split
        · rfl
        · rfl
        · rfl
        · exact (ycv_up (v := yo (ω.2.2 k j)) (fun z => f2 k _ j hk (Sum.inl.inj (Sum.inr.inj z)))).symm
theorem yr_new {ci ix n kn : Nat} {r : vw_C} (hd : decode (yMb i) pc = .ok (.new ix, 3)) (hr : ycl[ci]? = some r) (hl : Cond.classLink (yMy i).cls ix r.1 ∈ lw_tbl) (hi : Cond.instantiable r.1 n ∈ lw_tbl) (hini : Cond.initialized r.1 ∈ lw_tbl) (f0 : sh0 kn = none) (f1 : ω.1 kn = none) (f2 : ∀ (k : Nat) (s9 : ySh) (f : Nat), ω.1 k = some s9 → ω.2.2 k f ≠ some kn) (f3 : ∀ v ∈ st, v ≠ yr kn) (f4 : ∀ v, some v ∈ ls → v ≠ yr kn)
    (hcs : cs + 1 ≤ (yMm i).cells) (hsl : sl + n ≤ (yMm i).slots) (kk : yWW G i Qf sh0 (pc + 3) ls (yr kn :: st) (yadd ω kn (.inl ci)) (cs + 1) (sl + n)) : yWW G i Qf sh0 pc ls st ω cs sl := by
  intro p e s m args below meth c ad0 ad H locs lsA C hE hS hH hL
  have hg := C.2.2.2.2.2.2.2.1
  have hK := C.2.2.2.2.2.2.2.2.1
  have hb : yGb G ≤ H.size := Nat.le_trans C.2.2.2.2.2.2.2.2.2.2.1 hS.1
  have hKn := hK.1 ci r hr
  refine W.newcK C.1 C.2.1 C.2.2.2.2.1 (hg _ hl rfl args) (hg _ hi rfl args) (hg _ hini rfl args) rfl hd hcs hsl hKn.2.1 rfl fun H' kC h1 h2 h3 h4 => ?_
  have hnew : yOK G (va_up ad kn H.size) (.inl ci) H.size (fun _ => 0) (fun _ => none) H' := by
    refine ⟨r, hr, (u_born (yft ci) (hg.hts args) (fun w hw => yIn r (List.mem_of_getElem? hr) w hw) hKn h1 h2 (fun j hj => yftok ci r hr j hj)).to fun j hj => ?_⟩
    show defaultValue (yft ci j) = yfv _ ci j 0 none
    rw [yfdef ci r hr j hj]
    rfl
  have k1 := kk p e s m args below meth c ad0 (va_up ad kn H.size) H' locs lsA C (fun k hk => by
      by_cases e1 : k = kn
      · subst e1
        rcases hk with hk | hk
        · exact absurd f0 hk
        · have : (yadd ω k (.inl ci)).1 k = some (.inl ci) := va_up_self _ _ _
          rw [this] at hk; cases hk
      · rw [va_up_ne _ _ e1]
        have : (yadd ω kn (.inl ci)).1 k = ω.1 k := va_up_ne _ _ e1
        rw [this] at hk
        exact hE k hk) ⟨Nat.le_trans hS.1 (by omega), fun q a1 a2 => (h4 q (Nat.lt_of_lt_of_le a1 hS.1)).trans (hS.2.1 q a1 a2), hS.2.2⟩ (yH_new hH hb f1 f2 h4 hnew) (hL.ext fun j v hj => ycv_up (f4 v (List.mem_of_getElem? hj)))
  rw [List.map_cons, yst_up st f3] at k1
  have k2 : ycv (va_up ad kn H.size) (yr kn) = .ref H.size := by
    show Value.ref (va_up ad kn H.size kn) = _
    rw [va_up_self]
  rw [k2] at k1
  exact k1
theorem yr_newa {tc kn N : Nat} {x : Int32} {ty : ArrayType} (hd : decode (yMb i) pc = .ok (.newarray ty, 2)) (hty : newarray.typeOf ty = yty tc) (htc : tc < 3) (hw : Cond.arrayClass (yty tc) ∈ lw_tbl) (h0 : ¬ x < 0) (hN : x.toNatClampNeg = N) (hb8 : N * 8 ≤ 536870912) (f0 : sh0 kn = none) (f1 : ω.1 kn = none) (f2 : ∀ (k : Nat) (s9 : ySh) (f : Nat), ω.1 k = some s9 → ω.2.2 k f ≠ some kn) (f3 : ∀ v ∈ st, v ≠ yr kn) (f4 : ∀ v, some v ∈ ls → v ≠ yr kn)
    (hcs : cs + 1 ≤ (yMm i).cells) (hsl : sl + N ≤ (yMm i).slots) (kk : yWW G i Qf sh0 (pc + 2) ls (yr kn :: st) (yadd ω kn (.inr (tc, N))) (cs + 1) (sl + N)) : yWW G i Qf sh0 pc ls (yi x :: st) ω cs sl := by
  intro p e s m args below meth c ad0 ad H locs lsA C hE hS hH hL
  subst hN
  have hg := C.2.2.2.2.2.2.2.1
  have hK := C.2.2.2.2.2.2.2.2.1
  have hb : yGb G ≤ H.size := Nat.le_trans C.2.2.2.2.2.2.2.2.2.2.1 hS.1
  have hcb : componentBytes (newarray.typeOf ty) ≤ 8 := by
    rw [hty]
    rcases (show tc = 0 ∨ tc = 1 ∨ tc = 2 by omega) with rfl | rfl | rfl <;> decide
  refine W.newa C.1 C.2.1 (by rw [hty]; exact hg _ hw (by rcases (show tc = 0 ∨ tc = 1 ∨ tc = 2 by omega) with rfl | rfl | rfl <;> rfl) args) rfl hd rfl h0 (Nat.le_trans (Nat.mul_le_mul_left _ hcb) hb8) hcs hsl fun cA kA comp h1 h2 h3 => ?_
  have hcA : cA = ycA G tc := by
    rw [hty] at h1
    rcases (show tc = 0 ∨ tc = 1 ∨ tc = 2 by omega) with rfl | rfl | rfl
    · exact Option.some.inj (h1.symm.trans (hK.2 0 _ rfl).2)
    · exact Option.some.inj (h1.symm.trans (hK.2 1 _ rfl).2)
    · exact Option.some.inj (h1.symm.trans (hK.2 2 _ rfl).2)
  subst hcA
  generalize hH' : H.push ({ cls := ycA G tc, slots := Array.replicate x.toNatClampNeg (defaultValue (newarray.typeOf ty)), vm := .none } : Cell) = H'
  have h4 : ∀ q : Nat, q < H.size → H'[q]? = H[q]? := fun q hq => by rw [← hH', Array.getElem?_push, if_neg (Nat.ne_of_lt hq)]
  have h5 : H'.size = H.size + 1 := by rw [← hH', Array.size_push]
  have hnew : yOK G (va_up ad kn H.size) (.inr (tc, x.toNatClampNeg)) H.size (fun _ => 0) (fun _ => none) H' := by
    show H'[H.size]? = some (arrV _ _ _)
    rw [← hH', Array.getElem?_push_size, arrV_new]
    congr 2
    funext j
    rw [hty]
    rcases (show tc = 0 ∨ tc = 1 ∨ tc = 2 by omega) with rfl | rfl | rfl <;> rfl
  have k1 := kk p e s m args below meth c ad0 (va_up ad kn H.size) H' locs lsA C (fun k hk => by
      by_cases e1 : k = kn
      · subst e1
        rcases hk with hk | hk
        · exact absurd f0 hk
        · have : (yadd ω k (.inr (tc, x.toNatClampNeg))).1 k = some (.inr (tc, x.toNatClampNeg)) := va_up_self _ _ _
          rw [this] at hk; cases hk
      · rw [va_up_ne _ _ e1]
        have : (yadd ω kn (.inr (tc, x.toNatClampNeg))).1 k = ω.1 k := va_up_ne _ _ e1
        rw [this] at hk
        exact hE k hk) ⟨Nat.le_trans hS.1 (by omega), fun q a1 a2 => (h4 q (Nat.lt_of_lt_of_le a1 hS.1)).trans (hS.2.1 q a1 a2), hS.2.2⟩ (yH_new hH hb f1 f2 h4 hnew) (hL.ext fun j v hj => ycv_up (f4 v (List.mem_of_getElem? hj)))
  rw [List.map_cons, yst_up st f3] at k1
  have k2 : ycv (va_up ad kn H.size) (yr kn) = .ref H.size := by
    show Value.ref (va_up ad kn H.size kn) = _
    rw [va_up_self]
  rw [k2] at k1
  exact k1
theorem yr_newq {tc kn N ix : Nat} {x : Int32} {C0 : String} (hd : decode (yMb i) pc = .ok (.anewarray ix, 3)) (htc : tc = 3 ∨ tc = 4) (hty : yty tc = .object C0) (hl : Cond.classLink (yMy i).cls ix C0 ∈ lw_tbl) (hw : Cond.arrayOver (.object C0) ∈ lw_tbl) (h0 : ¬ x < 0) (hN : x.toNatClampNeg = N) (hb8 : N * 8 ≤ 536870912) (f0 : sh0 kn = none) (f1 : ω.1 kn = none) (f2 : ∀ (k : Nat) (s9 : ySh) (f : Nat), ω.1 k = some s9 → ω.2.2 k f ≠ some kn) (f3 : ∀ v ∈ st, v ≠ yr kn) (f4 : ∀ v, some v ∈ ls → v ≠ yr kn)
    (hcs : cs + 1 ≤ (yMm i).cells) (hsl : sl + N ≤ (yMm i).slots) (kk : yWW G i Qf sh0 (pc + 3) ls (yr kn :: st) (yadd ω kn (.inr (tc, N))) (cs + 1) (sl + N)) : yWW G i Qf sh0 pc ls (yi x :: st) ω cs sl := by
  intro p e s m args below meth c ad0 ad H locs lsA C hE hS hH hL
  subst hN
  have hg := C.2.2.2.2.2.2.2.1
  have hK := C.2.2.2.2.2.2.2.2.1
  have hb : yGb G ≤ H.size := Nat.le_trans C.2.2.2.2.2.2.2.2.2.2.1 hS.1
  refine W.anew C.1 C.2.1 C.2.2.2.2.1 (hg _ hl rfl args) (hg _ hw rfl args) rfl hd rfl h0 (by omega) hcs hsl fun cA kA comp h1 h2 h3 h3b => ?_
  have hcA : cA = ycA G tc := by
    rcases htc with rfl | rfl
    · have h9 := (hK.2 3 _ rfl).2
      rw [hty] at h9
      obtain ⟨_, _, -, -, -, h10⟩ := h9
      exact Option.some.inj (h1.symm.trans h10)
    · have h9 := (hK.2 4 _ rfl).2
      rw [hty] at h9
      obtain ⟨_, _, -, -, -, h10⟩ := h9
      exact Option.some.inj (h1.symm.trans h10)
  subst hcA
  generalize hH' : H.push ({ cls := ycA G tc, slots := Array.replicate x.toNatClampNeg .null, vm := .none } : Cell) = H'
  have h4 : ∀ q : Nat, q < H.size → H'[q]? = H[q]? := fun q hq => by rw [← hH', Array.getElem?_push, if_neg (Nat.ne_of_lt hq)]
  have h5 : H'.size = H.size + 1 := by rw [← hH', Array.size_push]
  have hnew : yOK G (va_up ad kn H.size) (.inr (tc, x.toNatClampNeg)) H.size (fun _ => 0) (fun _ => none) H' := by
    show H'[H.size]? = some (arrV _ _ _)
    rw [← hH', Array.getElem?_push_size, arrV_new]
    congr 2
    funext j
    rcases htc with rfl | rfl <;> rfl
  have k1 := kk p e s m args below meth c ad0 (va_up ad kn H.size) H' locs lsA C (fun k hk => by
      by_cases e1 : k = kn
      · subst e1
        rcases hk with hk | hk
        · exact absurd f0 hk
        · have : (yadd ω k (.inr (tc, x.toNatClampNeg))).1 k = some (.inr (tc, x.toNatClampNeg)) := va_up_self _ _ _
          rw [this] at hk; cases hk
      · rw [va_up_ne _ _ e1]
        have : (yadd ω kn (.inr (tc, x.toNatClampNeg))).1 k = ω.1 k := va_up_ne _ _ e1
        rw [this] at hk
        exact hE k hk) ⟨Nat.le_trans hS.1 (by omega), fun q a1 a2 => (h4 q (Nat.lt_of_lt_of_le a1 hS.1)).trans (hS.2.1 q a1 a2), hS.2.2⟩ (yH_new hH hb f1 f2 h4 hnew) (hL.ext fun j v hj => ycv_up (f4 v (List.mem_of_getElem? hj)))
  rw [List.map_cons, yst_up st f3] at k1
  have k2 : ycv (va_up ad kn H.size) (yr kn) = .ref H.size := by
    show Value.ref (va_up ad kn H.size kn) = _
    rw [va_up_self]
  rw [k2] at k1
  exact k1
end YN
