def yTs : List Cond := lw_tbl.filter ynw
theorem yIn : ∀ r ∈ ycl, ∀ w ∈ u_ws r.1 r.2.1 r.2.2, w ∈ yTs := by decide +kernel
theorem yfnm : ∀ r ∈ ycl, ∀ a, a < r.2.2 → ∀ b, b < r.2.2 → a ≠ b → (r.2.1 a).2.1 ≠ (r.2.1 b).2.1 := by decide +kernel
theorem yftok (ci : Nat) (r : vw_C) (hc : ycl[ci]? = some r) : ∀ j, j < r.2.2 → parseFieldDescriptor (r.2.1 j).2.2.1 = some (yft ci j) := by
  match ci, hc with
  | 0, hc => cases hc; decide +kernel
  | 1, hc => cases hc; decide +kernel
  | 2, hc => cases hc; decide +kernel
  | 3, hc => cases hc; decide +kernel
  | 4, hc => cases hc; decide +kernel
  | 5, hc => cases hc; decide +kernel
  | 6, hc => cases hc; decide +kernel
  | 7, hc => cases hc; decide +kernel
  | 8, hc => cases hc; decide +kernel
  | 9, hc => cases hc; decide +kernel
  | k + 10, hc => simp [ycl] at hc
theorem yfdef (ci : Nat) (r : vw_C) (hc : ycl[ci]? = some r) : ∀ j, j < r.2.2 → defaultValue (yft ci j) = if yfk ci j = true then .null else .int 0 := by
  match ci, hc with
  | 0, hc => cases hc; decide +kernel
  | 1, hc => cases hc; decide +kernel
  | 2, hc => cases hc; decide +kernel
  | 3, hc => cases hc; decide +kernel
  | 4, hc => cases hc; decide +kernel
  | 5, hc => cases hc; decide +kernel
  | 6, hc => cases hc; decide +kernel
  | 7, hc => cases hc; decide +kernel
  | 8, hc => cases hc; decide +kernel
  | 9, hc => cases hc; decide +kernel
  | k + 10, hc => simp [ycl] at hc
