def ySup : List String := ["java/lang/RuntimeException", "java/lang/Exception"]
section YX
variable {G : yG} {i : yM} {Qf : yQT} {sh0 : Nat → Option ySh} {pc : Nat} {ls : List (Option yV)} {st : List yV} {ω : yW} {cs sl : Nat} {P : Option yV → yW → Prop} {X : String → yW → Prop}
theorem yH_kept {ad : Nat → Nat} {H H1 : Heap} (h : yH G ad ω H) (hq : ∀ q : Nat, q < H.size → H1[q]? = H[q]?) : yH G ad ω H1 := ⟨h.1, fun k sp hk => ⟨(h.2 k sp hk).1, (h.2 k sp hk).2.kept (hq _ (h.2 k sp hk).2.lt)⟩⟩
/-- 'throw new E()' -/
theorem yr_throw {E : String} {ik ic : Nat} (hT : (yGl G).stackTraces = false) (hh : yMh i = []) (d0 : decode (yMb i) pc = .ok (.new ik, 3)) (d3 : decode (yMb i) (pc + 3) = .ok (.dup, 1)) (d4 : decode (yMb i) (pc + 4) = .ok (.invokespecial ic, 3)) (d7 : decode (yMb i) (pc + 7) = .ok (.athrow, 1)) (hcls : Bundle.fit E = true)
    (hk : Cond.classLink (yMy i).cls ik E ∈ lw_tbl) (hini : Cond.initialized E ∈ lw_tbl) (hat : ∀ w ∈ vx_at0 (yMy i).cls ic E ySup, w ∈ lw_tbl ∧ ynw w = true ∧ vx_ot w = true) (hf : 6 ≤ (yMm i).frames) (hlo : st.length + 81 ≤ (yMm i).locals) (hcat : ∀ v ∈ st, ∀ ad, (ycv ad v).category = 1) (hc : cs + 1 ≤ (yMm i).cells) (hs : sl + 6 ≤ (yMm i).slots) (hX : X E ω) :
    yWW G i (yQf G i sh0 P X) sh0 pc ls st ω cs sl := by
  intro p e s m args below meth c ad0 ad H locs lsA C hE hS hH hL
  have hg := C.2.2.2.2.2.2.2.1
  have hst := C.2.2.2.2.2.2.2.2.2.1
  have hex := C.2.2.2.2.2.2.2.2.2.2.2
  rw [hh] at hex
  refine vx_throw0 (names := ySup) C.1 C.2.1 hT C.2.2.2.2.1 hcls (by decide +kernel) (hg _ hk rfl args) (hg _ hini rfl args) (fun w hw => hg w (hat w hw).1 (hat w hw).2.1 args) ?_ hst.1 hst.2.1 hS (by rw [C.2.2.2.1]; exact hL.size) d0 d3 d4 d7 (fun x hx => by rw [hex] at hx; cases hx) (show 2 + 3 < _ by omega) ?_ hc hs C.2.2.2.2.2.1 ?_ hS.2.2 hc hs
  · intro w hw
    rcases List.mem_cons.mp hw with rfl | hw
    · rfl
    · rcases List.mem_cons.mp hw with rfl | hw
      · rfl
      · exact (hat w hw).2.2
  · have := ycat_le (ad := ad) st (Nat.le_refl _) hcat
    show _ + (13 * (2 + 1) + 42) ≤ _
    omega
  · intro t h1 h2 h3
    exact ⟨ad, ω, hX, hE, yH_kept hH h3, Nat.le_trans hS.1 h2, fun q a1 a2 => (h3 q (Nat.lt_of_lt_of_le a1 hS.1)).trans (hS.2.1 q a1 a2)⟩
/-- the static table of kinds: a place of it; its length -/
theorem yr_gsld {ix : Nat} {j : Fin 4} {x : Int32} (d0 : decode (yMb i) pc = .ok (.getstatic ix, 3)) (d3 : decode (yMb i) (pc + 3) = .ok (.iload_n j, 1)) (d4 : decode (yMb i) (pc + 3 + 1) = .ok (.iaload, 1)) (hl : ls[j.val]? = some (some (yi x))) (hlk : Cond.fieldLink (yMy i).cls ix ysC ysn "[I" ∈ lw_tbl) (hin : vp_in x ysN) (kk : yWW G i Qf sh0 (pc + 3 + 1 + 1) ls (yi (yst x.toNatClampNeg) :: st) ω cs sl) : yWW G i Qf sh0 pc ls st ω cs sl := by
  intro p e s m args below meth c ad0 ad H locs lsA C hE hS hH hL
  have hg := C.2.2.2.2.2.2.2.1
  have hst := C.2.2.2.2.2.2.2.2.2.1
  refine va_gets C.1 C.2.1 hst.2.2.1 hS C.2.2.2.2.1 (hg _ hlk rfl args) (fun _ h => h) d0 ?_
  refine lv_iload_n C.1 C.2.1 d3 rfl (hL.get hl) ?_
  exact va_ti C.1 C.2.1 hst.2.2.2 hS hin rfl d4 (kk p e s m args below meth c ad0 ad H locs lsA C hE hS hH hL)
theorem yr_gslen {ix : Nat} (d0 : decode (yMb i) pc = .ok (.getstatic ix, 3)) (d3 : decode (yMb i) (pc + 3) = .ok (.arraylength, 1)) (hlk : Cond.fieldLink (yMy i).cls ix ysC ysn "[I" ∈ lw_tbl) (kk : yWW G i Qf sh0 (pc + 3 + 1) ls (yi 17 :: st) ω cs sl) : yWW G i Qf sh0 pc ls st ω cs sl := by
  intro p e s m args below meth c ad0 ad H locs lsA C hE hS hH hL
  have hg := C.2.2.2.2.2.2.2.1
  have hst := C.2.2.2.2.2.2.2.2.2.1
  refine va_gets C.1 C.2.1 hst.2.2.1 hS C.2.2.2.2.1 (hg _ hlk rfl args) (fun _ h => h) d0 ?_
  exact va_tlen C.1 C.2.1 hst.2.2.2 hS (v := 17) (by decide) d3 (kk p e s m args below meth c ad0 ad H locs lsA C hE hS hH hL)
/-- switches -/
theorem yr_tcase {dflt lo hi : Int} {offs : Array Int} {len : Nat} {x : Int32} {off : Int} {tgt : Nat} (hd : decode (yMb i) pc = .ok (.tableswitch dflt lo hi offs, len)) (v : Int32) (hx : x = v) (h1 : ¬ v.toInt < lo) (h2 : ¬ hi < v.toInt) (ho : offs[(v.toInt - lo).toNat]? = some off) (ht : (pc : Int) + off = (tgt : Int)) (kk : yWW G i Qf sh0 tgt ls st ω cs sl) : yWW G i Qf sh0 pc ls (yi x :: st) ω cs sl := by
  intro p e s m args below meth c ad0 ad H locs lsA C hE hS hH hL
  subst hx
  exact lv_tableIn C.1 C.2.1 hd h1 h2 ho ht (kk p e s m args below meth c ad0 ad H locs lsA C hE hS hH hL)
theorem yr_tdef {dflt lo hi : Int} {offs : Array Int} {len : Nat} {x : Int32} {tgt : Nat} (hd : decode (yMb i) pc = .ok (.tableswitch dflt lo hi offs, len)) (h : x.toInt < lo ∨ hi < x.toInt) (ht : (pc : Int) + dflt = (tgt : Int)) (kk : yWW G i Qf sh0 tgt ls st ω cs sl) : yWW G i Qf sh0 pc ls (yi x :: st) ω cs sl := by
  intro p e s m args below meth c ad0 ad H locs lsA C hE hS hH hL
  exact lv_tableOut C.1 C.2.1 hd h ht (kk p e s m args below meth c ad0 ad H locs lsA C hE hS hH hL)
theorem yr_look {dflt : Int} {ps : Array (Int × Int)} {len : Nat} {x : Int32} {off : Int} {tgt : Nat} (hd : decode (yMb i) pc = .ok (.lookupswitch dflt ps, len)) (hp : (ps.toList.zip (ps.toList.drop 1)).all (fun (a, next) => a.1 < next.1) = true) (ho : Op.lookupswitch.offset ps.toList dflt x.toInt = off) (ht : (pc : Int) + off = (tgt : Int)) (kk : yWW G i Qf sh0 tgt ls st ω cs sl) : yWW G i Qf sh0 pc ls (yi x :: st) ω cs sl := by
  intro p e s m args below meth c ad0 ad H locs lsA C hE hS hH hL
  exact lv_lookup C.1 C.2.1 hd hp ho ht (kk p e s m args below meth c ad0 ad H locs lsA C hE hS hH hL)
/-- fewer promises -/
theorem yCT.mono {As : List yV} {P' : Option yV → yW → Prop} (h : yCT G i As ω P yNX) (hP : ∀ r ω', P r ω' → P' r ω') : yCT G i As ω P' yNX := by
  intro ad0
  intro p e a1 a2 a3 s m args below b1 b2 b3 b4
  obtain ⟨n, o, c1, c2, c3, c4⟩ := h ad0 p e a1 a2 a3 s m args below b1 b2 b3 b4
  refine ⟨n, o, c1, c2, c3, ?_⟩
  rcases c4 with ⟨⟨r, ad, ω', q1, q2, q3⟩, c5⟩ | ⟨q, -, E, ce, L, ⟨_, _, hx, _⟩, -⟩
  · exact Or.inl ⟨⟨r, ad, ω', q1, hP r ω' q2, q3⟩, c5⟩
  · exact absurd hx id
end YX
