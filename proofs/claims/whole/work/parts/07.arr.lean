section YA
variable {G : yG} {i : yM} {Qf : yQT} {sh0 : Nat → Option ySh} {pc : Nat} {ls : List (Option yV)} {st : List yV} {ω : yW} {cs sl : Nat}
theorem yin_of {x : Int32} {j n : Nat} (h0 : ¬ x < 0) (hj : x.toNatClampNeg = j) (hn : j < n) (cA : ClassId) (V : Nat → Value) : ¬ (x < 0 ∨ (arrV cA n V).slots.size ≤ x.toNatClampNeg) := by
  rintro (h | h)
  · exact h0 h
  · rw [arrV_size, hj] at h
    omega
theorem yr_iald {k n j : Nat} {x : Int32} (hd : decode (yMb i) pc = .ok (.iaload, 1)) (hsh : ω.1 k = some (.inr (0, n))) (h0 : ¬ x < 0) (hj : x.toNatClampNeg = j) (hn : j < n) (kk : yWW G i Qf sh0 (pc + 1) ls (yi (ω.2.1 k j) :: st) ω cs sl) : yWW G i Qf sh0 pc ls (yi x :: yr k :: st) ω cs sl := by
  intro p e s m args below meth c ad0 ad H locs lsA C hE hS hH hL
  have hcell := (hH.2 k _ hsh).2
  exact W.iald (v := .int (ω.2.1 k j)) C.1 C.2.1 hcell ((C.2.2.2.2.2.2.2.2.1.2 0 _ rfl).1 n _) (fun h => by cases h) (yin_of h0 hj hn _ _) (by rw [hj, arrV_read _ _ hn]; rfl) rfl rfl hd (kk p e s m args below meth c ad0 ad H locs lsA C hE hS hH hL)
theorem yr_zald {k n j : Nat} {x : Int32} (hd : decode (yMb i) pc = .ok (.baload, 1)) (hsh : ω.1 k = some (.inr (1, n))) (h0 : ¬ x < 0) (hj : x.toNatClampNeg = j) (hn : j < n) (kk : yWW G i Qf sh0 (pc + 1) ls (yi (ω.2.1 k j) :: st) ω cs sl) : yWW G i Qf sh0 pc ls (yi x :: yr k :: st) ω cs sl := by
  intro p e s m args below meth c ad0 ad H locs lsA C hE hS hH hL
  have hcell := (hH.2 k _ hsh).2
  exact W.zald (v := .int (ω.2.1 k j)) C.1 C.2.1 hcell ((C.2.2.2.2.2.2.2.2.1.2 1 _ rfl).1 n _) (fun h => by cases h) (yin_of h0 hj hn _ _) (by rw [hj, arrV_read _ _ hn]; rfl) rfl rfl hd (kk p e s m args below meth c ad0 ad H locs lsA C hE hS hH hL)
theorem yr_lald {k n j : Nat} {x : Int32} (hd : decode (yMb i) pc = .ok (.laload, 1)) (hsh : ω.1 k = some (.inr (2, n))) (h0 : ¬ x < 0) (hj : x.toNatClampNeg = j) (hn : j < n) (kk : yWW G i Qf sh0 (pc + 1) ls (yl (ω.2.1 k j).toInt64 :: st) ω cs sl) : yWW G i Qf sh0 pc ls (yi x :: yr k :: st) ω cs sl := by
  intro p e s m args below meth c ad0 ad H locs lsA C hE hS hH hL
  have hcell := (hH.2 k _ hsh).2
  exact W.lald (v := .long (ω.2.1 k j).toInt64) C.1 C.2.1 hcell ((C.2.2.2.2.2.2.2.2.1.2 2 _ rfl).1 n _) (fun h => by cases h) (yin_of h0 hj hn _ _) (by rw [hj, arrV_read _ _ hn]; rfl) rfl rfl hd (kk p e s m args below meth c ad0 ad H locs lsA C hE hS hH hL)
theorem yr_aald3 {k n j : Nat} {x : Int32} (hd : decode (yMb i) pc = .ok (.aaload, 1)) (hsh : ω.1 k = some (.inr (3, n))) (h0 : ¬ x < 0) (hj : x.toNatClampNeg = j) (hn : j < n) (kk : yWW G i Qf sh0 (pc + 1) ls (yo (ω.2.2 k j) :: st) ω cs sl) : yWW G i Qf sh0 pc ls (yi x :: yr k :: st) ω cs sl := by
  intro p e s m args below meth c ad0 ad H locs lsA C hE hS hH hL
  have hcell := (hH.2 k _ hsh).2
  exact W.aald (v := ycv ad (yo (ω.2.2 k j))) (ty := yty 3) C.1 C.2.1 hcell ((C.2.2.2.2.2.2.2.2.1.2 3 _ rfl).1 n _) rfl (fun h => by cases h) (yin_of h0 hj hn _ _) (by rw [hj, arrV_read _ _ hn]; rfl) rfl rfl hd (kk p e s m args below meth c ad0 ad H locs lsA C hE hS hH hL)
theorem yr_aald4 {k n j : Nat} {x : Int32} (hd : decode (yMb i) pc = .ok (.aaload, 1)) (hsh : ω.1 k = some (.inr (4, n))) (h0 : ¬ x < 0) (hj : x.toNatClampNeg = j) (hn : j < n) (kk : yWW G i Qf sh0 (pc + 1) ls (yo (ω.2.2 k j) :: st) ω cs sl) : yWW G i Qf sh0 pc ls (yi x :: yr k :: st) ω cs sl := by
  intro p e s m args below meth c ad0 ad H locs lsA C hE hS hH hL
  have hcell := (hH.2 k _ hsh).2
  exact W.aald (v := ycv ad (yo (ω.2.2 k j))) (ty := yty 4) C.1 C.2.1 hcell ((C.2.2.2.2.2.2.2.2.1.2 4 _ rfl).1 n _) rfl (fun h => by cases h) (yin_of h0 hj hn _ _) (by rw [hj, arrV_read _ _ hn]; rfl) rfl rfl hd (kk p e s m args below meth c ad0 ad H locs lsA C hE hS hH hL)
/-- an array's length, of any of the five types -/
theorem yr_alen {k n tc : Nat} (hd : decode (yMb i) pc = .ok (.arraylength, 1)) (htc : tc < 5) (hsh : ω.1 k = some (.inr (tc, n))) (kk : yWW G i Qf sh0 (pc + 1) ls (yi (nI n) :: st) ω cs sl) : yWW G i Qf sh0 pc ls (yr k :: st) ω cs sl := by
  intro p e s m args below meth c ad0 ad H locs lsA C hE hS hH hL
  have hcell := (hH.2 k _ hsh).2
  have hA : ArrOfT s (ycA G tc) (yty tc) := by
    have hK := C.2.2.2.2.2.2.2.2.1.2
    rcases (show tc = 0 ∨ tc = 1 ∨ tc = 2 ∨ tc = 3 ∨ tc = 4 by omega) with rfl | rfl | rfl | rfl | rfl
    · exact (hK 0 _ rfl).1
    · exact (hK 1 _ rfl).1
    · exact (hK 2 _ rfl).1
    · exact (hK 3 _ rfl).1
    · exact (hK 4 _ rfl).1
  exact W.alen (n := nI n) (ty := yty tc) C.1 C.2.1 hcell (hA n _) (by rw [arrV_size]; rfl) rfl rfl hd (kk p e s m args below meth c ad0 ad H locs lsA C hE hS hH hL)
theorem yast_ok {ad : Nat → Nat} {H H1 : Heap} {k n j tc : Nat} {w : Value} {ω' : yW} (hH : yH G ad ω H) (hsh : ω.1 k = some (.inr (tc, n))) (hw : w = yev ad tc (ω'.2.1 k j) (ω'.2.2 k j)) (hs : ω'.1 = ω.1) (ho : ∀ q, q ≠ k → ω'.2.1 q = ω.2.1 q ∧ ω'.2.2 q = ω.2.2 q) (hj : ∀ q, q ≠ j → ω'.2.1 k q = ω.2.1 k q ∧ ω'.2.2 k q = ω.2.2 k q)
    (e1 : H1[ad k]? = some ((arrV (ycA G tc) n (fun q => yev ad tc (ω.2.1 k q) (ω.2.2 k q))).setSlot j w)) (e3 : ∀ q, q ≠ ad k → H1[q]? = H[q]?) : yH G ad ω' H1 := by
  refine yH_set hH hsh hs ho ?_ e3
  show H1[ad k]? = some (arrV _ _ _)
  rw [e1, arrV_store]
  congr 2
  funext q
  unfold updV
  by_cases e : q = j
  · rw [if_pos e, e, hw]
  · rw [if_neg e, (hj q e).1, (hj q e).2]
theorem ysi_ho (ω : yW) (k j : Nat) (x : Int32) : ∀ q, q ≠ k → (ysi ω k j x).2.1 q = ω.2.1 q ∧ (ysi ω k j x).2.2 q = ω.2.2 q := fun q hq => ⟨funext fun z => yu_ne _ _ (Or.inl hq), rfl⟩
theorem ysi_hj (ω : yW) (k j : Nat) (x : Int32) : ∀ q, q ≠ j → (ysi ω k j x).2.1 k q = ω.2.1 k q ∧ (ysi ω k j x).2.2 k q = ω.2.2 k q := fun q hq => ⟨yu_ne _ _ (Or.inr hq), rfl⟩
theorem ysf_ho (ω : yW) (k j : Nat) (x : Option Nat) : ∀ q, q ≠ k → (ysf ω k j x).2.1 q = ω.2.1 q ∧ (ysf ω k j x).2.2 q = ω.2.2 q := fun q hq => ⟨rfl, funext fun z => yu_ne _ _ (Or.inl hq)⟩
theorem ysf_hj (ω : yW) (k j : Nat) (x : Option Nat) : ∀ q, q ≠ j → (ysf ω k j x).2.1 k q = ω.2.1 k q ∧ (ysf ω k j x).2.2 k q = ω.2.2 k q := fun q hq => ⟨rfl, yu_ne _ _ (Or.inr hq)⟩
theorem yr_puti {k ci f ix : Nat} {ref host : String} {x : Int32} {r : vw_C} (hd : decode (yMb i) pc = .ok (.putfield ix, 3)) (hsh : ω.1 k = some (.inl ci)) (site : ySF (yMy i).cls ix ref host ci f = true) (hr : ycl[ci]? = some r) (hfin : (r.2.1 f).2.2.2 = false) (hk : yfk ci f = false)
    (hn : narrow (yft ci f) (.int x) = .int x ∧ fits (yft ci f) (.int x) = true) (kk : yWW G i Qf sh0 (pc + 3) ls st (ysi ω k f x) cs sl) : yWW G i Qf sh0 pc ls (yi x :: yr k :: st) ω cs sl :=
  yr_put0 (ω' := ysi ω k f x) hd hsh site hr hfin (fun _ => hn) (by rw [if_neg (by rw [hk]; decide)]; exact congrArg yi (yu_same _ _ _ _).symm) rfl (ysi_ho ω k f x) (ysi_hj ω k f x) kk
theorem yr_putr {k ci f ix : Nat} {ref host : String} {o : Option Nat} {r : vw_C} (hd : decode (yMb i) pc = .ok (.putfield ix, 3)) (hsh : ω.1 k = some (.inl ci)) (site : ySF (yMy i).cls ix ref host ci f = true) (hr : ycl[ci]? = some r) (hfin : (r.2.1 f).2.2.2 = false) (hk : yfk ci f = true)
    (hn : ∀ ad, narrow (yft ci f) (ycv ad (yo o)) = ycv ad (yo o) ∧ fits (yft ci f) (ycv ad (yo o)) = true) (kk : yWW G i Qf sh0 (pc + 3) ls st (ysf ω k f o) cs sl) : yWW G i Qf sh0 pc ls (yo o :: yr k :: st) ω cs sl :=
  yr_put0 (ω' := ysf ω k f o) hd hsh site hr hfin hn (by rw [if_pos hk]; exact congrArg yo (yu_same _ _ _ _).symm) rfl (ysf_ho ω k f o) (ysf_hj ω k f o) kk
theorem yr_putiF {k ci f ix : Nat} {ref : String} {x : Int32} {r : vw_C} (hd : decode (yMb i) pc = .ok (.putfield ix, 3)) (hsh : ω.1 k = some (.inl ci)) (site : ySF (yMy i).cls ix ref "" ci f = true) (hr : ycl[ci]? = some r) (hfin : (r.2.1 f).2.2.2 = true) (hin : (yMy i).name = "<init>") (hdecl : (r.2.1 f).1 = (yMy i).cls) (hk : yfk ci f = false)
    (hn : narrow (yft ci f) (.int x) = .int x ∧ fits (yft ci f) (.int x) = true) (kk : yWW G i Qf sh0 (pc + 3) ls st (ysi ω k f x) cs sl) : yWW G i Qf sh0 pc ls (yi x :: yr k :: st) ω cs sl :=
  yr_putF0 (ω' := ysi ω k f x) hd hsh site hr hfin hin hdecl (fun _ => hn) (by rw [if_neg (by rw [hk]; decide)]; exact congrArg yi (yu_same _ _ _ _).symm) rfl (ysi_ho ω k f x) (ysi_hj ω k f x) kk
theorem yr_putrF {k ci f ix : Nat} {ref : String} {o : Option Nat} {r : vw_C} (hd : decode (yMb i) pc = .ok (.putfield ix, 3)) (hsh : ω.1 k = some (.inl ci)) (site : ySF (yMy i).cls ix ref "" ci f = true) (hr : ycl[ci]? = some r) (hfin : (r.2.1 f).2.2.2 = true) (hin : (yMy i).name = "<init>") (hdecl : (r.2.1 f).1 = (yMy i).cls) (hk : yfk ci f = true)
    (hn : ∀ ad, narrow (yft ci f) (ycv ad (yo o)) = ycv ad (yo o) ∧ fits (yft ci f) (ycv ad (yo o)) = true) (kk : yWW G i Qf sh0 (pc + 3) ls st (ysf ω k f o) cs sl) : yWW G i Qf sh0 pc ls (yo o :: yr k :: st) ω cs sl :=
  yr_putF0 (ω' := ysf ω k f o) hd hsh site hr hfin hin hdecl hn (by rw [if_pos hk]; exact congrArg yo (yu_same _ _ _ _).symm) rfl (ysf_ho ω k f o) (ysf_hj ω k f o) kk
theorem yr_iast {k n j : Nat} {x z : Int32} (hd : decode (yMb i) pc = .ok (.iastore, 1)) (hsh : ω.1 k = some (.inr (0, n))) (h0 : ¬ x < 0) (hj : x.toNatClampNeg = j) (hn : j < n) (kk : yWW G i Qf sh0 (pc + 1) ls st (ysi ω k j z) cs sl) : yWW G i Qf sh0 pc ls (yi z :: yi x :: yr k :: st) ω cs sl := by
  intro p e s m args below meth c ad0 ad H locs lsA C hE hS hH hL
  subst hj
  refine W.iast C.1 C.2.1 (hH.2 k _ hsh).2 ((C.2.2.2.2.2.2.2.2.1.2 0 _ rfl).1 n _) (fun h => by cases h) (yin_of h0 rfl hn _ _) rfl rfl hd fun H' e1 e2 e3 => ?_
  exact kk p e s m args below meth c ad0 ad H' _ lsA C hE (hS.put e2 e3 (hH.2 k _ hsh).1) (yast_ok hH hsh (by rw [show (ysi ω k x.toNatClampNeg z).2.1 k x.toNatClampNeg = z from yu_same _ _ _ _]; rfl) rfl (ysi_ho ω k _ z) (ysi_hj ω k _ z) e1 e3) hL
theorem yr_zast {k n j : Nat} {x z : Int32} (hd : decode (yMb i) pc = .ok (.bastore, 1)) (hsh : ω.1 k = some (.inr (1, n))) (h0 : ¬ x < 0) (hj : x.toNatClampNeg = j) (hn : j < n) (hz : narrow .boolean (.int z) = .int z) (kk : yWW G i Qf sh0 (pc + 1) ls st (ysi ω k j z) cs sl) : yWW G i Qf sh0 pc ls (yi z :: yi x :: yr k :: st) ω cs sl := by
  intro p e s m args below meth c ad0 ad H locs lsA C hE hS hH hL
  subst hj
  refine W.zast C.1 C.2.1 (hH.2 k _ hsh).2 ((C.2.2.2.2.2.2.2.2.1.2 1 _ rfl).1 n _) (fun h => by cases h) (yin_of h0 rfl hn _ _) rfl rfl hd fun H' e1 e2 e3 => ?_
  rw [hz] at e1
  exact kk p e s m args below meth c ad0 ad H' _ lsA C hE (hS.put e2 e3 (hH.2 k _ hsh).1) (yast_ok hH hsh (by rw [show (ysi ω k x.toNatClampNeg z).2.1 k x.toNatClampNeg = z from yu_same _ _ _ _]; rfl) rfl (ysi_ho ω k _ z) (ysi_hj ω k _ z) e1 e3) hL
theorem yr_last {k n j : Nat} {x z : Int32} (hd : decode (yMb i) pc = .ok (.lastore, 1)) (hsh : ω.1 k = some (.inr (2, n))) (h0 : ¬ x < 0) (hj : x.toNatClampNeg = j) (hn : j < n) (kk : yWW G i Qf sh0 (pc + 1) ls st (ysi ω k j z) cs sl) : yWW G i Qf sh0 pc ls (yl z.toInt64 :: yi x :: yr k :: st) ω cs sl := by
  intro p e s m args below meth c ad0 ad H locs lsA C hE hS hH hL
  subst hj
  refine W.last C.1 C.2.1 (hH.2 k _ hsh).2 ((C.2.2.2.2.2.2.2.2.1.2 2 _ rfl).1 n _) (fun h => by cases h) (yin_of h0 rfl hn _ _) rfl rfl hd fun H' e1 e2 e3 => ?_
  exact kk p e s m args below meth c ad0 ad H' _ lsA C hE (hS.put e2 e3 (hH.2 k _ hsh).1) (yast_ok hH hsh (by rw [show (ysi ω k x.toNatClampNeg z).2.1 k x.toNatClampNeg = z from yu_same _ _ _ _]; rfl) rfl (ysi_ho ω k _ z) (ysi_hj ω k _ z) e1 e3) hL
end YA
