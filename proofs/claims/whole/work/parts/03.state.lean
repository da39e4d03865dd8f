/-! machine words as names -/
abbrev j_lushr (x : Int64) (y : Int32) : Int64 := (x.toUInt64 >>> (y.toInt64.toUInt64 &&& Int64.toUInt64 63)).toInt64
abbrev j_lshl (x : Int64) (y : Int32) : Int64 := x <<< (y.toInt64 &&& 63)
abbrev j_iushr (x y : Int32) : Int32 := (x.toUInt32 >>> (y.toUInt32 &&& Int32.toUInt32 31)).toInt32
def j_b (b : Bool) : Int32 := if b then 1 else 0
theorem j_in {k n : Nat} {i : Int32} (h : i = nI k) (hk : k < n ∧ n < 2 ^ 31) : vp_in i n := by
  rw [h]; exact vp_in_nI hk.1 hk.2
theorem j_in2 {k N : Int32} {n : Nat} (hN : N.toInt = n) (h0 : ¬ k < 0) (h1 : ¬ N ≤ k) : vp_in k n := by
  rw [vp_in_iff]
  rw [Int32.lt_iff_toInt_lt, Int32.toInt_zero] at h0
  rw [Int32.le_iff_toInt_le] at h1
  omega
theorem j_in3 {k N : Int32} {n : Nat} (hN : N.toInt = n) (h0 : ¬ k < 0) (h1 : k < N) : vp_in k n := by
  rw [vp_in_iff]
  rw [Int32.lt_iff_toInt_lt, Int32.toInt_zero] at h0
  rw [Int32.lt_iff_toInt_lt] at h1
  omega
theorem j_inc (k d : Nat) : nI k + Int32.ofInt (d : Int) = nI (k + d) := by
  rw [← nI_add]; rfl
theorem j_sub1 (x : Int32) : x - 1 = x + (-1) := Int32.sub_eq_add_neg x 1
theorem j_take {a : Int32} (h1 : ¬ a < 1) (h2 : a ≤ 64) : a = nI a.toNatClampNeg ∧ a.toNatClampNeg ≤ 64 := by
  rw [Int32.lt_iff_toInt_lt] at h1
  rw [Int32.le_iff_toInt_le] at h2
  have e1 : (1 : Int32).toInt = 1 := by decide
  have e2 : (64 : Int32).toInt = 64 := by decide
  rw [e1] at h1
  rw [e2] at h2
  obtain ⟨j, hj, ej⟩ := nI_of (x := a) (by rw [Int32.lt_iff_toInt_lt, Int32.toInt_zero]; omega)
  rw [ej, nI_clamp hj]
  refine ⟨rfl, ?_⟩
  rw [ej, nI_toInt hj] at h2
  omega
abbrev x_S : Type := Int32 × Int32 × Int64 × Int32 × Nat × Int32 × Nat × Int32 × Int32 × Int32 × (Nat → Int32) × (Nat → Int32) × (Nat → Int32) × (Nat → Int32) × (Nat → Int32)
abbrev x_st (u : x_S) : Int32 := u.1
abbrev x_md (u : x_S) : Int32 := u.2.1
abbrev x_bt (u : x_S) : Int64 := u.2.2.1
abbrev x_cm (u : x_S) : Int32 := u.2.2.2.1
abbrev x_hr (u : x_S) : Nat := u.2.2.2.2.1
abbrev x_rs (u : x_S) : Int32 := u.2.2.2.2.2.1
abbrev x_hv (u : x_S) : Nat := u.2.2.2.2.2.2.1
abbrev x_vs (u : x_S) : Int32 := u.2.2.2.2.2.2.2.1
abbrev x_wz (u : x_S) : Int32 := u.2.2.2.2.2.2.2.2.1
abbrev x_sz (u : x_S) : Int32 := u.2.2.2.2.2.2.2.2.2.1
abbrev x_ro (u : x_S) : Nat → Int32 := u.2.2.2.2.2.2.2.2.2.2.1
abbrev x_rc (u : x_S) : Nat → Int32 := u.2.2.2.2.2.2.2.2.2.2.2.1
abbrev x_cn (u : x_S) : Nat → Int32 := u.2.2.2.2.2.2.2.2.2.2.2.2.1
abbrev x_wt (u : x_S) : Nat → Int32 := u.2.2.2.2.2.2.2.2.2.2.2.2.2.1
abbrev x_sn (u : x_S) : Nat → Int32 := u.2.2.2.2.2.2.2.2.2.2.2.2.2.2
abbrev x_W (qx qc qw qs : Nat) (cI : ClassId) (u : x_S) : va_W := [(qx, .inr (0, [.int (x_st u), .int (x_md u), .long (x_bt u), .int (x_cm u), .ref (x_hr u), .int (x_rs u), .ref (x_hv u), .int (x_vs u), .ref qc, .ref qw, .int (x_wz u), .ref qs, .int (x_sz u)])), (x_hr u, .inl (cI, 259, .inl (x_ro u))), (x_hv u, .inl (cI, 259, .inl (x_rc u))), (qc, .inl (cI, 5, .inl (x_cn u))), (qw, .inl (cI, 259, .inl (x_wt u))), (qs, .inl (cI, 306, .inl (x_sn u)))]
abbrev x_At (dC : Nat → ClassId) (dI : Nat → Nat → Nat) (A : Nat → Prop) (qx qc qw qs : Nat) (cI : ClassId) (u : x_S) (t : State) : Prop := va_P (dC, dI) vwCl (x_W qx qc qw qs cI u) t.heap ∧ va_K (dC, dI) vwCl [(cI, .int)] t ∧ va_D A (x_W qx qc qw qs cI u)
