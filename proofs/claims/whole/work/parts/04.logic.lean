/-! the small logic: abstract values; a world of numbered cells (shape, ints, references); one judgement yWW; a row an instruction -/
abbrev yV : Type := Int32 ⊕ (Option Nat ⊕ Int64)
abbrev yi (x : Int32) : yV := Sum.inl x
abbrev yo (o : Option Nat) : yV := Sum.inr (Sum.inl o)
abbrev yr (k : Nat) : yV := Sum.inr (Sum.inl (some k))
abbrev yn : yV := Sum.inr (Sum.inl none)
abbrev yl (z : Int64) : yV := Sum.inr (Sum.inr z)
def ycv (ad : Nat → Nat) (v : yV) : Value := match v with
  | .inl x => .int x
  | .inr (.inl o) => va_rf (o.map ad)
  | .inr (.inr z) => .long z
/-- a shape: an object of a class by its number, or an array (type code, length) -/
abbrev ySh : Type := Nat ⊕ (Nat × Nat)
abbrev yW : Type := (Nat → Option ySh) × (Nat → Nat → Int32) × (Nat → Nat → Option Nat)
/-- what is fixed: the launch, the heap's size at the law's start, the classes' numbers and slots, the array classes, the address of the static table -/
abbrev yG : Type := Launch × Nat × va_G × (Nat → ClassId) × Nat
abbrev yGl (G : yG) : Launch := G.1
abbrev yGb (G : yG) : Nat := G.2.1
abbrev yD (G : yG) : va_G := G.2.2.1
abbrev ycA (G : yG) : Nat → ClassId := G.2.2.2.1
abbrev ytK (G : yG) : Nat := G.2.2.2.2
def yA (G : yG) : Nat → Prop := fun q => yGb G ≤ q
def yfv (ad : Nat → Nat) (ci i : Nat) (x : Int32) (f : Option Nat) : Value := if yfk ci i = true then ycv ad (yo f) else .int x
def yev (ad : Nat → Nat) (tc : Nat) (x : Int32) (f : Option Nat) : Value := match tc with
  | 0 => .int x
  | 1 => .int x
  | 2 => .long x.toInt64
  | _ => ycv ad (yo f)
def yOK (G : yG) (ad : Nat → Nat) (sp : ySh) (a : Nat) (S : Nat → Int32) (F : Nat → Option Nat) (H : Heap) : Prop := match sp with
  | .inl ci => ∃ r : vw_C, ycl[ci]? = some r ∧ t_OB a ((yD G).1 ci) r.2.2 ((yD G).2 ci) H (fun i => yfv ad ci i (S i) (F i))
  | .inr q => H[a]? = some (arrV (ycA G q.1) q.2 (fun i => yev ad q.1 (S i) (F i)))
def yH (G : yG) (ad : Nat → Nat) (ω : yW) (H : Heap) : Prop := (∀ k k' : Nat, ω.1 k ≠ none → ω.1 k' ≠ none → ad k = ad k' → k = k') ∧ ∀ (k : Nat) (sp : ySh), ω.1 k = some sp → yA G (ad k) ∧ yOK G ad sp (ad k) (ω.2.1 k) (ω.2.2 k) H
def yu {α : Type} (S : Nat → Nat → α) (k i : Nat) (v : α) : Nat → Nat → α := fun k' i' => if k' = k ∧ i' = i then v else S k' i'
def ysi (ω : yW) (k i : Nat) (x : Int32) : yW := (ω.1, yu ω.2.1 k i x, ω.2.2)
def ysf (ω : yW) (k i : Nat) (o : Option Nat) : yW := (ω.1, ω.2.1, yu ω.2.2 k i o)
/-- a new cell under the number k -/
def yadd (ω : yW) (k : Nat) (sp : ySh) : yW := (va_up ω.1 k (some sp), va_up ω.2.1 k (fun _ => 0), va_up ω.2.2 k (fun _ => none))
theorem yu_same {α : Type} (S : Nat → Nat → α) (k i : Nat) (v : α) : yu S k i v k i = v := by simp [yu]
theorem yu_ne {α : Type} (S : Nat → Nat → α) {k i k' i' : Nat} (v : α) (h : k' ≠ k ∨ i' ≠ i) : yu S k i v k' i' = S k' i' := by
  unfold yu
  rw [if_neg]
  rintro ⟨a, b⟩
  rcases h with h | h
  · exact h a
  · exact h b
theorem yOK.kept {G : yG} {ad : Nat → Nat} {sp : ySh} {a : Nat} {S : Nat → Int32} {F : Nat → Option Nat} {H H1 : Heap} (h : yOK G ad sp a S F H) (hq : H1[a]? = H[a]?) : yOK G ad sp a S F H1 := by
  cases sp with
  | inl ci =>
    obtain ⟨r, h1, h2⟩ := h
    exact ⟨r, h1, h2.kept hq⟩
  | inr q => exact hq.trans h
theorem yOK.lt {G : yG} {ad : Nat → Nat} {sp : ySh} {a : Nat} {S : Nat → Int32} {F : Nat → Option Nat} {H : Heap} (h : yOK G ad sp a S F H) : a < H.size := by
  cases sp with
  | inl ci =>
    obtain ⟨r, h1, cell, h2, -⟩ := h
    exact (Array.getElem?_eq_some_iff.mp h2).1
  | inr q => exact (Array.getElem?_eq_some_iff.mp h).1
theorem yH_set {G : yG} {ad : Nat → Nat} {ω ω' : yW} {H H1 : Heap} {k : Nat} {sp : ySh} (h : yH G ad ω H) (hk : ω.1 k = some sp) (hs : ω'.1 = ω.1) (ho : ∀ j, j ≠ k → ω'.2.1 j = ω.2.1 j ∧ ω'.2.2 j = ω.2.2 j)
    (hc : yOK G ad sp (ad k) (ω'.2.1 k) (ω'.2.2 k) H1) (oq : ∀ q : Nat, q ≠ ad k → H1[q]? = H[q]?) : yH G ad ω' H1 := by
  refine ⟨by rw [hs]; exact h.1, fun j sj hj => ?_⟩
  rw [hs] at hj
  refine ⟨(h.2 j sj hj).1, ?_⟩
  by_cases e : j = k
  · subst e
    cases hk.symm.trans hj
    exact hc
  · rw [(ho j e).1, (ho j e).2]
    exact (h.2 j sj hj).2.kept (oq _ (fun z => e (h.1 j k (by rw [hj]; exact fun q => nomatch q) (by rw [hk]; exact fun q => nomatch q) z)))
/-- words that stand through a method: good ones, and those of nest mates -/
def yNs : Cond → Bool
  | .fieldLinkNest .. => true
  | .methodLinkNest .. => true
  | .declares _ => true
  | .castable .. => true
  | .privateMethod _ => true
  | .arrayOver (.object _) => true
  | _ => false
def ynw (w : Cond) : Bool := goodWord w || yNs w
def yGx (U : State) : Prop := ∀ w ∈ lw_tbl, ynw w = true → ∀ a : Array Value, w.before a U = true
theorem yGx.warm {U U' : State} (h : yGx U) (hW : U.WarmedH U'.vm) : yGx U' := by
  intro w hw hn a
  have h1 := h w hw hn
  by_cases hg : goodWord w = true
  · exact word_at hW (good_of_word hg) (h1 #[])
  · have h2 : yNs w = true := by
      unfold ynw at hn
      rw [Bool.or_eq_true] at hn
      exact hn.resolve_left hg
    unfold yNs at h2
    split at h2
    · exact va_Nw.use rfl (va_Nw.warmF hW (h1 #[]))
    · exact va_Nw.use rfl (va_Nw.warmM hW (h1 #[]))
    · exact va_Nw.use rfl (va_Nw.warmD hW (h1 #[]))
    · exact va_Nw.use rfl (va_Nw.warmC hW (h1 #[]))
    · exact va_Nw.use rfl (va_tabs (A := #[]) (A' := #[]) rfl (rfl : (U.setVm U'.vm).vm = U'.vm) (by rw [Cond.privateMethod_setVm hW.alike]; exact h1 #[]))
    · exact va_AO.use (va_AO.moved hW.alike (h1 #[]))
    · cases h2
def yK (G : yG) (U : State) : Prop := va_K (yD G) ycl [(ycA G 0, yty 0), (ycA G 1, yty 1), (ycA G 2, yty 2), (ycA G 3, yty 3), (ycA G 4, yty 4)] U
/-- the statics that are read: the table of kinds; what a throw reads -/
def ySt (G : yG) (U : State) (H : Heap) : Prop := vx_Zq Bundle.tN "UNASSIGNED_STACK" Bundle.steD (yA G) U H ∧ vx_Zq Bundle.tN "SUPPRESSED_SENTINEL" Bundle.listD (yA G) U H ∧ va_Z ysC ysn "[I" (.ref (ytK G)) (yA G) U H ∧ va_T .int (ytK G) ysN (fun j => .int (yst j)) (yA G) U H
theorem ySt.moved {G : yG} {u U : State} {H : Heap} (hvm : u.vm.Alike U.vm) (h : ySt G u H) : ySt G U H := ⟨h.1.moved hvm, h.2.1.moved hvm, h.2.2.1.moved hvm, h.2.2.2.moved hvm⟩
theorem ySt.kept {G : yG} {U : State} {H H1 : Heap} (h : ySt G U H) (hq : ∀ a : Nat, a < H.size → ¬ yA G a → H1[a]? = H[a]?) : ySt G U H1 := ⟨h.1.kept hq, h.2.1.kept hq, h.2.2.1.kept hq, h.2.2.2.kept hq⟩
/-- a method: name, code, locals, answer, room, handlers -/
abbrev yM : Type := MethodName × ByteArray × Nat × Option FieldType × Room × List (Nat × Nat × Nat × Nat)
abbrev yMy (i : yM) : MethodName := i.1
abbrev yMb (i : yM) : ByteArray := i.2.1
abbrev yMl (i : yM) : Nat := i.2.2.1
abbrev yMr (i : yM) : Option FieldType := i.2.2.2.1
abbrev yMm (i : yM) : Room := i.2.2.2.2.1
abbrev yMh (i : yM) : List (Nat × Nat × Nat × Nat) := i.2.2.2.2.2
/-- what a method's body may use of the machine -/
def yCx (G : yG) (i : yM) (p : Program) (s : State) (m : MethodId) (meth : Method) (c : Code) : Prop :=
  p.tables.exec = Jvm.exec ∧ c.code = yMb i ∧ meth.sig.returnType = yMr i ∧ c.maxLocals = yMl i ∧ s.vm.findClass (yMy i).cls = some m.cls ∧ meth.locks = false ∧ meth.name = (yMy i).name ∧ yGx s ∧ yK G s ∧ ySt G s s.heap ∧ yGb G ≤ s.heap.size ∧ c.exceptionTable.toList = tableOf (yMh i)
/-- the locals: what is known of them -/
def yLv (ad : Nat → Nat) (n : Nat) (lsA : Array Slot) (ls : List (Option yV)) : Prop := ∃ l : List (Nat × Value), lv_has lsA n l ∧ ls.length = n ∧ ∀ (j : Nat) (v : yV), ls[j]? = some (some v) → (j, ycv ad v) ∈ l ∧ (ycv ad v).category = 1
theorem yLv.get {ad : Nat → Nat} {n : Nat} {lsA : Array Slot} {ls : List (Option yV)} (h : yLv ad n lsA ls) {j : Nat} {v : yV} (hj : ls[j]? = some (some v)) : lsA[j]? = some (.val (ycv ad v)) := by
  obtain ⟨l, h1, -, h3⟩ := h
  exact h1.2.2 _ (h3 j v hj).1
theorem yLv.size {ad : Nat → Nat} {n : Nat} {lsA : Array Slot} {ls : List (Option yV)} (h : yLv ad n lsA ls) : lsA.size = n := by
  obtain ⟨l, h1, -⟩ := h
  exact h1.1
theorem yLv.put {ad : Nat → Nat} {n : Nat} {ls : List (Option yV)} {l : List (Nat × Value)} (h2 : ls.length = n) (h3 : ∀ (j : Nat) (v : yV), ls[j]? = some (some v) → (j, ycv ad v) ∈ l ∧ (ycv ad v).category = 1) {j : Nat} {v : yV} (hv : (ycv ad v).category = 1) {lsA' : Array Slot}
    (h' : lv_has lsA' n ((j, ycv ad v) :: l.filter (fun q => !(q.1 == j) && !(q.1 + 1 == j && q.2.category == 2)))) : yLv ad n lsA' (ls.set j (some v)) := by
  refine ⟨_, h', by rw [List.length_set]; exact h2, fun q w hq => ?_⟩
  by_cases e : q = j
  · subst e
    have hl : q < ls.length := by
      have := (List.getElem?_eq_some_iff.mp hq).1
      rwa [List.length_set] at this
    rw [List.getElem?_set_self hl] at hq
    cases hq
    exact ⟨List.mem_cons_self, hv⟩
  · rw [List.getElem?_set_ne (Ne.symm e)] at hq
    obtain ⟨a1, a2⟩ := h3 q w hq
    refine ⟨List.mem_cons_of_mem _ (List.mem_filter.mpr ⟨a1, ?_⟩), a2⟩
    simp [e, a2]
theorem yLv.ext {ad ad' : Nat → Nat} {n : Nat} {lsA : Array Slot} {ls : List (Option yV)} (h : yLv ad n lsA ls) (he : ∀ (j : Nat) (v : yV), ls[j]? = some (some v) → ycv ad' v = ycv ad v) : yLv ad' n lsA ls := by
  obtain ⟨l, h1, h2, h3⟩ := h
  exact ⟨l, h1, h2, fun j v hj => by rw [he j v hj]; exact h3 j v hj⟩
abbrev yQT : Type := List Frame → Array Value → State → (Nat → Nat) → State → Prop
def yWW (G : yG) (i : yM) (Qf : yQT) (sh0 : Nat → Option ySh) (pc : Nat) (ls : List (Option yV)) (st : List yV) (ω : yW) (cs sl : Nat) : Prop :=
  ∀ (p : Program) (e : Env) (s : State) (m : MethodId) (args : Array Value) (below : List Frame) (meth : Method) (c : Code) (ad0 ad : Nat → Nat) (H : Heap) (locs : List Loc) (lsA : Array Slot),
    yCx G i p s m meth c → (∀ k, (sh0 k ≠ none ∨ ω.1 k = none) → ad k = ad0 k) → va_S (yA G) s.heap H locs → yH G ad ω H → yLv ad (yMl i) lsA ls →
    W p (yGl G) e (yMm i) s m args below meth c H locs cs sl (Qf below args s ad0) (F0 m pc lsA (st.map (ycv ad)))
def yPc (G : yG) (ad0 : Nat → Nat) (As : List yV) (ω : yW) : Array Value → State → Prop := fun v U => v = (As.map (ycv ad0)).toArray ∧ yGx U ∧ yK G U ∧ ySt G U U.heap ∧ yGb G ≤ U.heap.size ∧ yH G ad0 ω U.heap
def yQc (G : yG) (ad0 : Nat → Nat) (sh0 : Nat → Option ySh) (P : Option yV → yW → Prop) : Array Value → State → Outcome → State → Prop := fun _ st o t =>
  ∃ (r : Option yV) (ad : Nat → Nat) (ω : yW), o = .returned (r.map (ycv ad)) ∧ P r ω ∧ (∀ k, (sh0 k ≠ none ∨ ω.1 k = none) → ad k = ad0 k) ∧ yH G ad ω t.heap ∧ va_F (yA G) st t
def yXc (G : yG) (ad0 : Nat → Nat) (sh0 : Nat → Option ySh) (X : String → yW → Prop) : String → State → State → Prop := fun E st t =>
  ∃ (ad : Nat → Nat) (ω : yW), X E ω ∧ (∀ k, (sh0 k ≠ none ∨ ω.1 k = none) → ad k = ad0 k) ∧ yH G ad ω t.heap ∧ va_F (yA G) st t
def yQf (G : yG) (i : yM) (sh0 : Nat → Option ySh) (P : Option yV → yW → Prop) (X : String → yW → Prop) : yQT := fun below args s ad0 => vx_MQ below (yQc G ad0 sh0 P) (yXc G ad0 sh0 X) args s (yMm i).cells (yMm i).slots (yA G)
/-- a method's contract at these arguments and this world -/
def yCT (G : yG) (i : yM) (As : List yV) (ω : yW) (P : Option yV → yW → Prop) (X : String → yW → Prop) : Prop := ∀ ad0 : Nat → Nat,
  vx_Met (yGl G) (yMy i) [.code (yMy i) (yMb i) (yMl i) (yMr i)] (yMm i) (yPc G ad0 As ω) (yQc G ad0 ω.1 P) (yXc G ad0 ω.1 X) (yMm i).cells (yMm i).slots (yA G)
abbrev yNX : String → yW → Prop := fun _ _ => False

section YROWS
variable {G : yG} {i : yM} {Qf : yQT} {sh0 : Nat → Option ySh} {pc : Nat} {ls : List (Option yV)} {st : List yV} {ω : yW} {cs sl : Nat}

theorem yr_iconst {n : Int} {v : Int32} (hd : decode (yMb i) pc = .ok (.iconst n, 1)) (hv : Int32.ofInt n = v) (k : yWW G i Qf sh0 (pc + 1) ls (yi v :: st) ω cs sl) : yWW G i Qf sh0 pc ls (st) ω cs sl := by
  intro p e s m args below meth c ad0 ad H locs lsA C hE hS hH hL
  exact lv_iconst C.1 C.2.1 hd hv (k p e s m args below meth c ad0 ad H locs lsA C hE hS hH hL)

theorem yr_bipush {n : Int} {v : Int32} (hd : decode (yMb i) pc = .ok (.bipush n, 2)) (hv : (Int8.ofInt n).toInt32 = v) (k : yWW G i Qf sh0 (pc + 2) ls (yi v :: st) ω cs sl) : yWW G i Qf sh0 pc ls (st) ω cs sl := by
  intro p e s m args below meth c ad0 ad H locs lsA C hE hS hH hL
  exact lv_bipush C.1 C.2.1 hd hv (k p e s m args below meth c ad0 ad H locs lsA C hE hS hH hL)

theorem yr_null (hd : decode (yMb i) pc = .ok (.aconst_null, 1)) (k : yWW G i Qf sh0 (pc + 1) ls (yn :: st) ω cs sl) : yWW G i Qf sh0 pc ls (st) ω cs sl := by
  intro p e s m args below meth c ad0 ad H locs lsA C hE hS hH hL
  exact lv_null C.1 C.2.1 hd (k p e s m args below meth c ad0 ad H locs lsA C hE hS hH hL)

theorem yr_iload_n {j : Fin 4} {x : Int32} (hd : decode (yMb i) pc = .ok (.iload_n j, 1)) (hl : ls[j.val]? = some (some (yi x))) (k : yWW G i Qf sh0 (pc + 1) ls (yi x :: st) ω cs sl) : yWW G i Qf sh0 pc ls (st) ω cs sl := by
  intro p e s m args below meth c ad0 ad H locs lsA C hE hS hH hL
  exact lv_iload_n C.1 C.2.1 hd rfl (hL.get hl) (k p e s m args below meth c ad0 ad H locs lsA C hE hS hH hL)

theorem yr_iload {j : Nat} {x : Int32} (hd : decode (yMb i) pc = .ok (.iload j, 2)) (hl : ls[j]? = some (some (yi x))) (k : yWW G i Qf sh0 (pc + 2) ls (yi x :: st) ω cs sl) : yWW G i Qf sh0 pc ls (st) ω cs sl := by
  intro p e s m args below meth c ad0 ad H locs lsA C hE hS hH hL
  exact lv_iload C.1 C.2.1 hd (hL.get hl) (k p e s m args below meth c ad0 ad H locs lsA C hE hS hH hL)

theorem yr_aload_n {j : Fin 4} {o : Option Nat} (hd : decode (yMb i) pc = .ok (.aload_n j, 1)) (hl : ls[j.val]? = some (some (yo o))) (k : yWW G i Qf sh0 (pc + 1) ls (yo o :: st) ω cs sl) : yWW G i Qf sh0 pc ls st ω cs sl := by
  intro p e s m args below meth c ad0 ad H locs lsA C hE hS hH hL
  have kk := (k p e s m args below meth c ad0 ad H locs lsA C hE hS hH hL)
  have hg := hL.get hl
  cases o with
  | none => exact lv_aload_nN C.1 C.2.1 hd rfl hg kk
  | some a => exact lv_aload_n C.1 C.2.1 hd rfl hg kk

theorem yr_aload {j : Nat} {o : Option Nat} (hd : decode (yMb i) pc = .ok (.aload j, 2)) (hl : ls[j]? = some (some (yo o))) (k : yWW G i Qf sh0 (pc + 2) ls (yo o :: st) ω cs sl) : yWW G i Qf sh0 pc ls st ω cs sl := by
  intro p e s m args below meth c ad0 ad H locs lsA C hE hS hH hL
  have kk := (k p e s m args below meth c ad0 ad H locs lsA C hE hS hH hL)
  have hg := hL.get hl
  cases o with
  | none => exact lv_aloadN C.1 C.2.1 hd hg kk
  | some a => exact lv_aload C.1 C.2.1 hd hg kk

theorem yr_istore_n {j : Fin 4} {x : Int32} {ls' : List (Option yV)} (hd : decode (yMb i) pc = .ok (.istore_n j, 1)) (hj : j.val < yMl i) (hs : ls.set j.val (some (yi x)) = ls') (k : yWW G i Qf sh0 (pc + 1) ls' st ω cs sl) : yWW G i Qf sh0 pc ls (yi x :: st) ω cs sl := by
  intro p e s m args below meth c ad0 ad H locs lsA C hE hS hH hL
  subst hs
  obtain ⟨l, h1, h2, h3⟩ := hL
  exact lv_istore_n C.1 C.2.1 hd rfl h1 hj rfl (fun lsA h => k p e s m args below meth c ad0 ad H locs lsA C hE hS hH (yLv.put h2 h3 (v := yi x) rfl h))

theorem yr_istore {j : Nat} {x : Int32} {ls' : List (Option yV)} (hd : decode (yMb i) pc = .ok (.istore j, 2)) (hj : j < yMl i) (hs : ls.set j (some (yi x)) = ls') (k : yWW G i Qf sh0 (pc + 2) ls' st ω cs sl) : yWW G i Qf sh0 pc ls (yi x :: st) ω cs sl := by
  intro p e s m args below meth c ad0 ad H locs lsA C hE hS hH hL
  subst hs
  obtain ⟨l, h1, h2, h3⟩ := hL
  exact lv_istore C.1 C.2.1 hd h1 hj rfl (fun lsA h => k p e s m args below meth c ad0 ad H locs lsA C hE hS hH (yLv.put h2 h3 (v := yi x) rfl h))

theorem yr_astore_n {j : Fin 4} {o : Option Nat} {ls' : List (Option yV)} (hd : decode (yMb i) pc = .ok (.astore_n j, 1)) (hj : j.val < yMl i) (hs : ls.set j.val (some (yo o)) = ls') (k : yWW G i Qf sh0 (pc + 1) ls' st ω cs sl) : yWW G i Qf sh0 pc ls (yo o :: st) ω cs sl := by
  intro p e s m args below meth c ad0 ad H locs lsA C hE hS hH hL
  subst hs
  obtain ⟨l, h1, h2, h3⟩ := hL
  cases o with
  | none => exact lv_astore_nN C.1 C.2.1 hd rfl h1 hj rfl (fun lsA h => k p e s m args below meth c ad0 ad H locs lsA C hE hS hH (yLv.put h2 h3 (v := yn) rfl h))
  | some a => exact lv_astore_n C.1 C.2.1 hd rfl h1 hj rfl (fun lsA h => k p e s m args below meth c ad0 ad H locs lsA C hE hS hH (yLv.put h2 h3 (v := yr a) rfl h))

theorem yr_astore {j : Nat} {o : Option Nat} {ls' : List (Option yV)} (hd : decode (yMb i) pc = .ok (.astore j, 2)) (hj : j < yMl i) (hs : ls.set j (some (yo o)) = ls') (k : yWW G i Qf sh0 (pc + 2) ls' st ω cs sl) : yWW G i Qf sh0 pc ls (yo o :: st) ω cs sl := by
  intro p e s m args below meth c ad0 ad H locs lsA C hE hS hH hL
  subst hs
  obtain ⟨l, h1, h2, h3⟩ := hL
  cases o with
  | none => exact lv_astoreN C.1 C.2.1 hd h1 hj rfl (fun lsA h => k p e s m args below meth c ad0 ad H locs lsA C hE hS hH (yLv.put h2 h3 (v := yn) rfl h))
  | some a => exact lv_astore C.1 C.2.1 hd h1 hj rfl (fun lsA h => k p e s m args below meth c ad0 ad H locs lsA C hE hS hH (yLv.put h2 h3 (v := yr a) rfl h))

theorem yr_iinc {j : Nat} {n : Int} {x v : Int32} {ls' : List (Option yV)} (hd : decode (yMb i) pc = .ok (.iinc j n, 3)) (hl : ls[j]? = some (some (yi x))) (hv : x + Int32.ofInt n = v) (hj : j < yMl i) (hs : ls.set j (some (yi v)) = ls') (k : yWW G i Qf sh0 (pc + 3) ls' st ω cs sl) : yWW G i Qf sh0 pc ls st ω cs sl := by
  intro p e s m args below meth c ad0 ad H locs lsA C hE hS hH hL
  subst hs
  obtain ⟨l, h1, h2, h3⟩ := hL
  obtain ⟨q, hq⟩ := List.getElem?_of_mem (h3 j _ hl).1
  exact lv_iinc C.1 C.2.1 hd h1 hq hv hj rfl (fun lsA h => k p e s m args below meth c ad0 ad H locs lsA C hE hS hH (yLv.put h2 h3 (v := yi v) rfl h))

theorem yr_iadd {x y : Int32} (hd : decode (yMb i) pc = .ok (.iadd, 1)) (k : yWW G i Qf sh0 (pc + 1) ls (yi (x + y) :: st) ω cs sl) : yWW G i Qf sh0 pc ls (yi y :: yi x :: st) ω cs sl := by
  intro p e s m args below meth c ad0 ad H locs lsA C hE hS hH hL
  exact lv_iadd C.1 C.2.1 hd (k p e s m args below meth c ad0 ad H locs lsA C hE hS hH hL)

theorem yr_isub {x y : Int32} (hd : decode (yMb i) pc = .ok (.isub, 1)) (k : yWW G i Qf sh0 (pc + 1) ls (yi (x - y) :: st) ω cs sl) : yWW G i Qf sh0 pc ls (yi y :: yi x :: st) ω cs sl := by
  intro p e s m args below meth c ad0 ad H locs lsA C hE hS hH hL
  exact lv_isub C.1 C.2.1 hd (k p e s m args below meth c ad0 ad H locs lsA C hE hS hH hL)

theorem yr_imul {x y : Int32} (hd : decode (yMb i) pc = .ok (.imul, 1)) (k : yWW G i Qf sh0 (pc + 1) ls (yi (x * y) :: st) ω cs sl) : yWW G i Qf sh0 pc ls (yi y :: yi x :: st) ω cs sl := by
  intro p e s m args below meth c ad0 ad H locs lsA C hE hS hH hL
  exact lv_imul C.1 C.2.1 hd (k p e s m args below meth c ad0 ad H locs lsA C hE hS hH hL)

theorem yr_iand {x y : Int32} (hd : decode (yMb i) pc = .ok (.iand, 1)) (k : yWW G i Qf sh0 (pc + 1) ls (yi (x &&& y) :: st) ω cs sl) : yWW G i Qf sh0 pc ls (yi y :: yi x :: st) ω cs sl := by
  intro p e s m args below meth c ad0 ad H locs lsA C hE hS hH hL
  exact lv_iand C.1 C.2.1 hd (k p e s m args below meth c ad0 ad H locs lsA C hE hS hH hL)

theorem yr_ior {x y : Int32} (hd : decode (yMb i) pc = .ok (.ior, 1)) (k : yWW G i Qf sh0 (pc + 1) ls (yi (x ||| y) :: st) ω cs sl) : yWW G i Qf sh0 pc ls (yi y :: yi x :: st) ω cs sl := by
  intro p e s m args below meth c ad0 ad H locs lsA C hE hS hH hL
  exact lv_ior C.1 C.2.1 hd (k p e s m args below meth c ad0 ad H locs lsA C hE hS hH hL)

theorem yr_ishl {x y : Int32} (hd : decode (yMb i) pc = .ok (.ishl, 1)) (k : yWW G i Qf sh0 (pc + 1) ls (yi (x <<< (y &&& 31)) :: st) ω cs sl) : yWW G i Qf sh0 pc ls (yi y :: yi x :: st) ω cs sl := by
  intro p e s m args below meth c ad0 ad H locs lsA C hE hS hH hL
  exact lv_ishl C.1 C.2.1 hd (k p e s m args below meth c ad0 ad H locs lsA C hE hS hH hL)

theorem yr_ineg {x : Int32} (hd : decode (yMb i) pc = .ok (.ineg, 1)) (k : yWW G i Qf sh0 (pc + 1) ls (yi (-x) :: st) ω cs sl) : yWW G i Qf sh0 pc ls (yi x :: st) ω cs sl := by
  intro p e s m args below meth c ad0 ad H locs lsA C hE hS hH hL
  exact lv_ineg C.1 C.2.1 hd (k p e s m args below meth c ad0 ad H locs lsA C hE hS hH hL)

theorem yr_i2l {x : Int32} (hd : decode (yMb i) pc = .ok (.i2l, 1)) (k : yWW G i Qf sh0 (pc + 1) ls (yl x.toInt64 :: st) ω cs sl) : yWW G i Qf sh0 pc ls (yi x :: st) ω cs sl := by
  intro p e s m args below meth c ad0 ad H locs lsA C hE hS hH hL
  exact lv_i2l C.1 C.2.1 hd rfl (k p e s m args below meth c ad0 ad H locs lsA C hE hS hH hL)

theorem yr_dup {v : yV} (hd : decode (yMb i) pc = .ok (.dup, 1)) (hv : ∀ ad, (ycv ad v).category = 1) (k : yWW G i Qf sh0 (pc + 1) ls (v :: v :: st) ω cs sl) : yWW G i Qf sh0 pc ls (v :: st) ω cs sl := by
  intro p e s m args below meth c ad0 ad H locs lsA C hE hS hH hL
  exact lv_dup C.1 C.2.1 hd (hv ad) (k p e s m args below meth c ad0 ad H locs lsA C hE hS hH hL)

theorem yr_pop {v : yV} (hd : decode (yMb i) pc = .ok (.pop, 1)) (hv : ∀ ad, (ycv ad v).category = 1) (k : yWW G i Qf sh0 (pc + 1) ls (st) ω cs sl) : yWW G i Qf sh0 pc ls (v :: st) ω cs sl := by
  intro p e s m args below meth c ad0 ad H locs lsA C hE hS hH hL
  exact lv_pop C.1 C.2.1 hd (hv ad) (k p e s m args below meth c ad0 ad H locs lsA C hE hS hH hL)

theorem yr_dup_x1 {v u : yV} (hd : decode (yMb i) pc = .ok (.dup_x1, 1)) (hv : ∀ ad, (ycv ad v).category = 1) (hu : ∀ ad, (ycv ad u).category = 1) (k : yWW G i Qf sh0 (pc + 1) ls (v :: u :: v :: st) ω cs sl) : yWW G i Qf sh0 pc ls (v :: u :: st) ω cs sl := by
  intro p e s m args below meth c ad0 ad H locs lsA C hE hS hH hL
  exact lv_dup_x1 C.1 C.2.1 hd (hv ad) (hu ad) (k p e s m args below meth c ad0 ad H locs lsA C hE hS hH hL)

theorem yr_dup2 {v u : yV} (hd : decode (yMb i) pc = .ok (.dup2, 1)) (hv : ∀ ad, (ycv ad v).category = 1) (hu : ∀ ad, (ycv ad u).category = 1) (k : yWW G i Qf sh0 (pc + 1) ls (v :: u :: v :: u :: st) ω cs sl) : yWW G i Qf sh0 pc ls (v :: u :: st) ω cs sl := by
  intro p e s m args below meth c ad0 ad H locs lsA C hE hS hH hL
  exact lv_dup2_11 C.1 C.2.1 hd (hv ad) (hu ad) (k p e s m args below meth c ad0 ad H locs lsA C hE hS hH hL)

-- branches: see the shape that the kit gives each condition

theorem yr_if_eq {x : Int32} {off : Int} {tgt : Nat} (hd : decode (yMb i) pc = .ok (.ifCond .eq off, 3)) (ht : (pc : Int) + off = (tgt : Int)) (kt : x = 0 → yWW G i Qf sh0 tgt ls st ω cs sl) (kf : ¬ x = 0 → yWW G i Qf sh0 (pc + 3) ls st ω cs sl) : yWW G i Qf sh0 pc ls (yi x :: st) ω cs sl := by
  intro p e s m args below meth c ad0 ad H locs lsA C hE hS hH hL
  exact lv_if_eq C.1 C.2.1 hd ht (fun q => kt q p e s m args below meth c ad0 ad H locs lsA C hE hS hH hL) (fun q => kf q p e s m args below meth c ad0 ad H locs lsA C hE hS hH hL)
theorem yr_icmp_eq {x y : Int32} {off : Int} {tgt : Nat} (hd : decode (yMb i) pc = .ok (.if_icmp .eq off, 3)) (ht : (pc : Int) + off = (tgt : Int)) (kt : x = y → yWW G i Qf sh0 tgt ls st ω cs sl) (kf : ¬ x = y → yWW G i Qf sh0 (pc + 3) ls st ω cs sl) : yWW G i Qf sh0 pc ls (yi y :: yi x :: st) ω cs sl := by
  intro p e s m args below meth c ad0 ad H locs lsA C hE hS hH hL
  exact lv_icmp_eq C.1 C.2.1 hd ht (fun q => kt q p e s m args below meth c ad0 ad H locs lsA C hE hS hH hL) (fun q => kf q p e s m args below meth c ad0 ad H locs lsA C hE hS hH hL)

theorem yr_if_ne {x : Int32} {off : Int} {tgt : Nat} (hd : decode (yMb i) pc = .ok (.ifCond .ne off, 3)) (ht : (pc : Int) + off = (tgt : Int)) (kt : ¬ x = 0 → yWW G i Qf sh0 tgt ls st ω cs sl) (kf : x = 0 → yWW G i Qf sh0 (pc + 3) ls st ω cs sl) : yWW G i Qf sh0 pc ls (yi x :: st) ω cs sl := by
  intro p e s m args below meth c ad0 ad H locs lsA C hE hS hH hL
  exact lv_if_ne C.1 C.2.1 hd ht (fun q => kt q p e s m args below meth c ad0 ad H locs lsA C hE hS hH hL) (fun q => kf q p e s m args below meth c ad0 ad H locs lsA C hE hS hH hL)
theorem yr_icmp_ne {x y : Int32} {off : Int} {tgt : Nat} (hd : decode (yMb i) pc = .ok (.if_icmp .ne off, 3)) (ht : (pc : Int) + off = (tgt : Int)) (kt : ¬ x = y → yWW G i Qf sh0 tgt ls st ω cs sl) (kf : x = y → yWW G i Qf sh0 (pc + 3) ls st ω cs sl) : yWW G i Qf sh0 pc ls (yi y :: yi x :: st) ω cs sl := by
  intro p e s m args below meth c ad0 ad H locs lsA C hE hS hH hL
  exact lv_icmp_ne C.1 C.2.1 hd ht (fun q => kt q p e s m args below meth c ad0 ad H locs lsA C hE hS hH hL) (fun q => kf q p e s m args below meth c ad0 ad H locs lsA C hE hS hH hL)

theorem yr_if_lt {x : Int32} {off : Int} {tgt : Nat} (hd : decode (yMb i) pc = .ok (.ifCond .lt off, 3)) (ht : (pc : Int) + off = (tgt : Int)) (kt : x < 0 → yWW G i Qf sh0 tgt ls st ω cs sl) (kf : ¬ x < 0 → yWW G i Qf sh0 (pc + 3) ls st ω cs sl) : yWW G i Qf sh0 pc ls (yi x :: st) ω cs sl := by
  intro p e s m args below meth c ad0 ad H locs lsA C hE hS hH hL
  exact lv_if_lt C.1 C.2.1 hd ht (fun q => kt q p e s m args below meth c ad0 ad H locs lsA C hE hS hH hL) (fun q => kf q p e s m args below meth c ad0 ad H locs lsA C hE hS hH hL)
theorem yr_icmp_lt {x y : Int32} {off : Int} {tgt : Nat} (hd : decode (yMb i) pc = .ok (.if_icmp .lt off, 3)) (ht : (pc : Int) + off = (tgt : Int)) (kt : x < y → yWW G i Qf sh0 tgt ls st ω cs sl) (kf : ¬ x < y → yWW G i Qf sh0 (pc + 3) ls st ω cs sl) : yWW G i Qf sh0 pc ls (yi y :: yi x :: st) ω cs sl := by
  intro p e s m args below meth c ad0 ad H locs lsA C hE hS hH hL
  exact lv_icmp_lt C.1 C.2.1 hd ht (fun q => kt q p e s m args below meth c ad0 ad H locs lsA C hE hS hH hL) (fun q => kf q p e s m args below meth c ad0 ad H locs lsA C hE hS hH hL)

theorem yr_if_ge {x : Int32} {off : Int} {tgt : Nat} (hd : decode (yMb i) pc = .ok (.ifCond .ge off, 3)) (ht : (pc : Int) + off = (tgt : Int)) (kt : 0 ≤ x → yWW G i Qf sh0 tgt ls st ω cs sl) (kf : ¬ 0 ≤ x → yWW G i Qf sh0 (pc + 3) ls st ω cs sl) : yWW G i Qf sh0 pc ls (yi x :: st) ω cs sl := by
  intro p e s m args below meth c ad0 ad H locs lsA C hE hS hH hL
  exact lv_if_ge C.1 C.2.1 hd ht (fun q => kt q p e s m args below meth c ad0 ad H locs lsA C hE hS hH hL) (fun q => kf q p e s m args below meth c ad0 ad H locs lsA C hE hS hH hL)
theorem yr_icmp_ge {x y : Int32} {off : Int} {tgt : Nat} (hd : decode (yMb i) pc = .ok (.if_icmp .ge off, 3)) (ht : (pc : Int) + off = (tgt : Int)) (kt : y ≤ x → yWW G i Qf sh0 tgt ls st ω cs sl) (kf : ¬ y ≤ x → yWW G i Qf sh0 (pc + 3) ls st ω cs sl) : yWW G i Qf sh0 pc ls (yi y :: yi x :: st) ω cs sl := by
  intro p e s m args below meth c ad0 ad H locs lsA C hE hS hH hL
  exact lv_icmp_ge C.1 C.2.1 hd ht (fun q => kt q p e s m args below meth c ad0 ad H locs lsA C hE hS hH hL) (fun q => kf q p e s m args below meth c ad0 ad H locs lsA C hE hS hH hL)

theorem yr_if_gt {x : Int32} {off : Int} {tgt : Nat} (hd : decode (yMb i) pc = .ok (.ifCond .gt off, 3)) (ht : (pc : Int) + off = (tgt : Int)) (kt : 0 < x → yWW G i Qf sh0 tgt ls st ω cs sl) (kf : ¬ 0 < x → yWW G i Qf sh0 (pc + 3) ls st ω cs sl) : yWW G i Qf sh0 pc ls (yi x :: st) ω cs sl := by
  intro p e s m args below meth c ad0 ad H locs lsA C hE hS hH hL
  exact lv_if_gt C.1 C.2.1 hd ht (fun q => kt q p e s m args below meth c ad0 ad H locs lsA C hE hS hH hL) (fun q => kf q p e s m args below meth c ad0 ad H locs lsA C hE hS hH hL)
theorem yr_icmp_gt {x y : Int32} {off : Int} {tgt : Nat} (hd : decode (yMb i) pc = .ok (.if_icmp .gt off, 3)) (ht : (pc : Int) + off = (tgt : Int)) (kt : y < x → yWW G i Qf sh0 tgt ls st ω cs sl) (kf : ¬ y < x → yWW G i Qf sh0 (pc + 3) ls st ω cs sl) : yWW G i Qf sh0 pc ls (yi y :: yi x :: st) ω cs sl := by
  intro p e s m args below meth c ad0 ad H locs lsA C hE hS hH hL
  exact lv_icmp_gt C.1 C.2.1 hd ht (fun q => kt q p e s m args below meth c ad0 ad H locs lsA C hE hS hH hL) (fun q => kf q p e s m args below meth c ad0 ad H locs lsA C hE hS hH hL)

theorem yr_if_le {x : Int32} {off : Int} {tgt : Nat} (hd : decode (yMb i) pc = .ok (.ifCond .le off, 3)) (ht : (pc : Int) + off = (tgt : Int)) (kt : x ≤ 0 → yWW G i Qf sh0 tgt ls st ω cs sl) (kf : ¬ x ≤ 0 → yWW G i Qf sh0 (pc + 3) ls st ω cs sl) : yWW G i Qf sh0 pc ls (yi x :: st) ω cs sl := by
  intro p e s m args below meth c ad0 ad H locs lsA C hE hS hH hL
  exact lv_if_le C.1 C.2.1 hd ht (fun q => kt q p e s m args below meth c ad0 ad H locs lsA C hE hS hH hL) (fun q => kf q p e s m args below meth c ad0 ad H locs lsA C hE hS hH hL)
theorem yr_icmp_le {x y : Int32} {off : Int} {tgt : Nat} (hd : decode (yMb i) pc = .ok (.if_icmp .le off, 3)) (ht : (pc : Int) + off = (tgt : Int)) (kt : x ≤ y → yWW G i Qf sh0 tgt ls st ω cs sl) (kf : ¬ x ≤ y → yWW G i Qf sh0 (pc + 3) ls st ω cs sl) : yWW G i Qf sh0 pc ls (yi y :: yi x :: st) ω cs sl := by
  intro p e s m args below meth c ad0 ad H locs lsA C hE hS hH hL
  exact lv_icmp_le C.1 C.2.1 hd ht (fun q => kt q p e s m args below meth c ad0 ad H locs lsA C hE hS hH hL) (fun q => kf q p e s m args below meth c ad0 ad H locs lsA C hE hS hH hL)

theorem yr_goto {off : Int} {tgt : Nat} (hd : decode (yMb i) pc = .ok (.goto off, 3)) (ht : (pc : Int) + off = (tgt : Int)) (k : yWW G i Qf sh0 tgt ls st ω cs sl) : yWW G i Qf sh0 pc ls st ω cs sl := by
  intro p e s m args below meth c ad0 ad H locs lsA C hE hS hH hL
  exact lv_goto C.1 C.2.1 hd ht (k p e s m args below meth c ad0 ad H locs lsA C hE hS hH hL)
theorem yr_ifnull {o : Option Nat} {off : Int} {tgt : Nat} (hd : decode (yMb i) pc = .ok (.ifnull off, 3)) (ht : (pc : Int) + off = (tgt : Int)) (kt : o = none → yWW G i Qf sh0 tgt ls st ω cs sl) (kf : ∀ a, o = some a → yWW G i Qf sh0 (pc + 3) ls st ω cs sl) : yWW G i Qf sh0 pc ls (yo o :: st) ω cs sl := by
  intro p e s m args below meth c ad0 ad H locs lsA C hE hS hH hL
  cases o with
  | none => exact lv_ifnullN C.1 C.2.1 hd ht (kt rfl p e s m args below meth c ad0 ad H locs lsA C hE hS hH hL)
  | some a => exact lv_ifnull C.1 C.2.1 hd (kf a rfl p e s m args below meth c ad0 ad H locs lsA C hE hS hH hL)
theorem yr_ifnonnull {o : Option Nat} {off : Int} {tgt : Nat} (hd : decode (yMb i) pc = .ok (.ifnonnull off, 3)) (ht : (pc : Int) + off = (tgt : Int)) (kt : ∀ a, o = some a → yWW G i Qf sh0 tgt ls st ω cs sl) (kf : o = none → yWW G i Qf sh0 (pc + 3) ls st ω cs sl) : yWW G i Qf sh0 pc ls (yo o :: st) ω cs sl := by
  intro p e s m args below meth c ad0 ad H locs lsA C hE hS hH hL
  cases o with
  | none => exact lv_ifnonnullN C.1 C.2.1 hd (kf rfl p e s m args below meth c ad0 ad H locs lsA C hE hS hH hL)
  | some a => exact lv_ifnonnull C.1 C.2.1 hd ht (kt a rfl p e s m args below meth c ad0 ad H locs lsA C hE hS hH hL)
theorem yr_inj {ad : Nat → Nat} {H : Heap} (hH : yH G ad ω H) {o o' : Option Nat} (hl : ∀ a, o = some a ∨ o' = some a → ω.1 a ≠ none) : o.map ad = o'.map ad ↔ o = o' := by
  refine ⟨fun h => ?_, fun h => by rw [h]⟩
  cases o with
  | none => cases o' with
    | none => rfl
    | some b => cases h
  | some a => cases o' with
    | none => cases h
    | some b => rw [hH.1 a b (hl a (Or.inl rfl)) (hl b (Or.inr rfl)) (Option.some.inj h)]
theorem yr_acmp_eq {o o' : Option Nat} {off : Int} {tgt : Nat} (hd : decode (yMb i) pc = .ok (.if_acmp .eq off, 3)) (ht : (pc : Int) + off = (tgt : Int)) (hl : ∀ a, o = some a ∨ o' = some a → ω.1 a ≠ none) (kt : o = o' → yWW G i Qf sh0 tgt ls st ω cs sl) (kf : ¬ o = o' → yWW G i Qf sh0 (pc + 3) ls st ω cs sl) : yWW G i Qf sh0 pc ls (yo o' :: yo o :: st) ω cs sl := by
  intro p e s m args below meth c ad0 ad H locs lsA C hE hS hH hL
  exact lv_acmp_eq (rx := o.map ad) (ry := o'.map ad) C.1 C.2.1 hd ht (fun q => kt ((yr_inj hH hl).mp q) p e s m args below meth c ad0 ad H locs lsA C hE hS hH hL) (fun q => kf (fun z => q ((yr_inj hH hl).mpr z)) p e s m args below meth c ad0 ad H locs lsA C hE hS hH hL)
theorem yr_acmp_ne {o o' : Option Nat} {off : Int} {tgt : Nat} (hd : decode (yMb i) pc = .ok (.if_acmp .ne off, 3)) (ht : (pc : Int) + off = (tgt : Int)) (hl : ∀ a, o = some a ∨ o' = some a → ω.1 a ≠ none) (kt : ¬ o = o' → yWW G i Qf sh0 tgt ls st ω cs sl) (kf : o = o' → yWW G i Qf sh0 (pc + 3) ls st ω cs sl) : yWW G i Qf sh0 pc ls (yo o' :: yo o :: st) ω cs sl := by
  intro p e s m args below meth c ad0 ad H locs lsA C hE hS hH hL
  exact lv_acmp_ne (rx := o.map ad) (ry := o'.map ad) C.1 C.2.1 hd ht (fun q => kt (fun z => q ((yr_inj hH hl).mpr z)) p e s m args below meth c ad0 ad H locs lsA C hE hS hH hL) (fun q => kf ((yr_inj hH hl).mp q) p e s m args below meth c ad0 ad H locs lsA C hE hS hH hL)

end YROWS
