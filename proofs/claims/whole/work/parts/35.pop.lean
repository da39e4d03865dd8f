/-! Integer.bitCount at 16 bits -/
def bc1 (z : Nat) : Nat := z - ((z / 2 ^ 1) &&& 1431655765)
def bc2 (a : Nat) : Nat := (a &&& 858993459) + ((a / 2 ^ 2) &&& 858993459)
def bc3 (a : Nat) : Nat := (a + a / 2 ^ 4) &&& 252645135
def bc4 (a : Nat) : Nat := a + a / 2 ^ 8
def bc5 (a : Nat) : Nat := a + a / 2 ^ 16
def bcN (z : Nat) : Nat := bc5 (bc4 (bc3 (bc2 (bc1 z)))) &&& 63
def lkN (z : Nat) : Nat → Nat → Nat → Nat
  | 0, _, d => d
  | n + 1, k, d => lkN z n (k + 1) (d + z / 2 ^ (15 - k) % 2)
theorem bc_s1 {z : Nat} (h : z < 2 ^ 31) : nI z - ((j_iushr (nI z) 1) &&& 1431655765) = nI (bc1 z) := by
  rw [show j_iushr (nI z) 1 = nI (z / 2 ^ 1) from pk_ushrN (by omega) 1 1 (by decide), show nI (z / 2 ^ 1) &&& 1431655765 = nI ((z / 2 ^ 1) &&& 1431655765) from nx_and _ 1431655765, pk_sub]
  · rfl
  · exact Nat.le_trans Nat.and_le_left (Nat.div_le_self _ _)
theorem bc_s2 {a : Nat} (h : a < 2 ^ 31) : (nI a &&& 858993459) + ((j_iushr (nI a) 2) &&& 858993459) = nI (bc2 a) := by
  rw [show j_iushr (nI a) 2 = nI (a / 2 ^ 2) from pk_ushrN (by omega) 2 2 (by decide), show nI (a / 2 ^ 2) &&& 858993459 = nI ((a / 2 ^ 2) &&& 858993459) from nx_and _ 858993459, show nI a &&& 858993459 = nI (a &&& 858993459) from nx_and _ 858993459, nI_add]
  rfl
theorem bc_s3 {a : Nat} (h : a < 2 ^ 31) : (nI a + (j_iushr (nI a) 4)) &&& 252645135 = nI (bc3 a) := by
  rw [show j_iushr (nI a) 4 = nI (a / 2 ^ 4) from pk_ushrN (by omega) 4 4 (by decide), nI_add, show nI (a + a / 2 ^ 4) &&& 252645135 = nI ((a + a / 2 ^ 4) &&& 252645135) from nx_and _ 252645135]
  rfl
theorem bc_s4 {a : Nat} (h : a < 2 ^ 31) : nI a + (j_iushr (nI a) 8) = nI (bc4 a) := by
  rw [show j_iushr (nI a) 8 = nI (a / 2 ^ 8) from pk_ushrN (by omega) 8 8 (by decide), nI_add]
  rfl
theorem bc_s5 {a : Nat} (h : a < 2 ^ 31) : nI a + (j_iushr (nI a) 16) = nI (bc5 a) := by
  rw [show j_iushr (nI a) 16 = nI (a / 2 ^ 16) from pk_ushrN (by omega) 16 16 (by decide), nI_add]
  rfl
theorem bc_eq {z : Nat} (h : z < 65536) : x_bitCount (nI z) = nI (bcN z) := by
  have h1 : bc1 z < 65536 := by unfold bc1; omega
  have h2 : bc2 (bc1 z) < 200000 := by
    have a1 : bc1 z &&& 858993459 ≤ bc1 z := Nat.and_le_left
    have a2 : (bc1 z / 2 ^ 2) &&& 858993459 ≤ bc1 z / 2 ^ 2 := Nat.and_le_left
    unfold bc2; omega
  have h3 : bc3 (bc2 (bc1 z)) < 400000 := by
    have a1 : (bc2 (bc1 z) + bc2 (bc1 z) / 2 ^ 4) &&& 252645135 ≤ bc2 (bc1 z) + bc2 (bc1 z) / 2 ^ 4 := Nat.and_le_left
    unfold bc3; omega
  have h4 : bc4 (bc3 (bc2 (bc1 z))) < 800000 := by unfold bc4; omega
  unfold x_bitCount
  rw [bc_s1 (by omega), bc_s2 (by omega), bc_s3 (by omega), bc_s4 (by omega), bc_s5 (by omega)]
  exact nx_and _ 63
theorem bc_t0 : ∀ h, h < 4 → ∀ l, l < 256 → bcN (256 * (4 * 0 + h) + l) = lkN (256 * (4 * 0 + h) + l) 16 0 0 := by decide +kernel
theorem bc_t1 : ∀ h, h < 4 → ∀ l, l < 256 → bcN (256 * (4 * 1 + h) + l) = lkN (256 * (4 * 1 + h) + l) 16 0 0 := by decide +kernel
theorem bc_t2 : ∀ h, h < 4 → ∀ l, l < 256 → bcN (256 * (4 * 2 + h) + l) = lkN (256 * (4 * 2 + h) + l) 16 0 0 := by decide +kernel
theorem bc_t3 : ∀ h, h < 4 → ∀ l, l < 256 → bcN (256 * (4 * 3 + h) + l) = lkN (256 * (4 * 3 + h) + l) 16 0 0 := by decide +kernel
theorem bc_t4 : ∀ h, h < 4 → ∀ l, l < 256 → bcN (256 * (4 * 4 + h) + l) = lkN (256 * (4 * 4 + h) + l) 16 0 0 := by decide +kernel
theorem bc_t5 : ∀ h, h < 4 → ∀ l, l < 256 → bcN (256 * (4 * 5 + h) + l) = lkN (256 * (4 * 5 + h) + l) 16 0 0 := by decide +kernel
theorem bc_t6 : ∀ h, h < 4 → ∀ l, l < 256 → bcN (256 * (4 * 6 + h) + l) = lkN (256 * (4 * 6 + h) + l) 16 0 0 := by decide +kernel
theorem bc_t7 : ∀ h, h < 4 → ∀ l, l < 256 → bcN (256 * (4 * 7 + h) + l) = lkN (256 * (4 * 7 + h) + l) 16 0 0 := by decide +kernel
theorem bc_t8 : ∀ h, h < 4 → ∀ l, l < 256 → bcN (256 * (4 * 8 + h) + l) = lkN (256 * (4 * 8 + h) + l) 16 0 0 := by decide +kernel
theorem bc_t9 : ∀ h, h < 4 → ∀ l, l < 256 → bcN (256 * (4 * 9 + h) + l) = lkN (256 * (4 * 9 + h) + l) 16 0 0 := by decide +kernel
theorem bc_t10 : ∀ h, h < 4 → ∀ l, l < 256 → bcN (256 * (4 * 10 + h) + l) = lkN (256 * (4 * 10 + h) + l) 16 0 0 := by decide +kernel
theorem bc_t11 : ∀ h, h < 4 → ∀ l, l < 256 → bcN (256 * (4 * 11 + h) + l) = lkN (256 * (4 * 11 + h) + l) 16 0 0 := by decide +kernel
theorem bc_t12 : ∀ h, h < 4 → ∀ l, l < 256 → bcN (256 * (4 * 12 + h) + l) = lkN (256 * (4 * 12 + h) + l) 16 0 0 := by decide +kernel
theorem bc_t13 : ∀ h, h < 4 → ∀ l, l < 256 → bcN (256 * (4 * 13 + h) + l) = lkN (256 * (4 * 13 + h) + l) 16 0 0 := by decide +kernel
theorem bc_t14 : ∀ h, h < 4 → ∀ l, l < 256 → bcN (256 * (4 * 14 + h) + l) = lkN (256 * (4 * 14 + h) + l) 16 0 0 := by decide +kernel
theorem bc_t15 : ∀ h, h < 4 → ∀ l, l < 256 → bcN (256 * (4 * 15 + h) + l) = lkN (256 * (4 * 15 + h) + l) 16 0 0 := by decide +kernel
theorem bc_t16 : ∀ h, h < 4 → ∀ l, l < 256 → bcN (256 * (4 * 16 + h) + l) = lkN (256 * (4 * 16 + h) + l) 16 0 0 := by decide +kernel
theorem bc_t17 : ∀ h, h < 4 → ∀ l, l < 256 → bcN (256 * (4 * 17 + h) + l) = lkN (256 * (4 * 17 + h) + l) 16 0 0 := by decide +kernel
theorem bc_t18 : ∀ h, h < 4 → ∀ l, l < 256 → bcN (256 * (4 * 18 + h) + l) = lkN (256 * (4 * 18 + h) + l) 16 0 0 := by decide +kernel
theorem bc_t19 : ∀ h, h < 4 → ∀ l, l < 256 → bcN (256 * (4 * 19 + h) + l) = lkN (256 * (4 * 19 + h) + l) 16 0 0 := by decide +kernel
theorem bc_t20 : ∀ h, h < 4 → ∀ l, l < 256 → bcN (256 * (4 * 20 + h) + l) = lkN (256 * (4 * 20 + h) + l) 16 0 0 := by decide +kernel
theorem bc_t21 : ∀ h, h < 4 → ∀ l, l < 256 → bcN (256 * (4 * 21 + h) + l) = lkN (256 * (4 * 21 + h) + l) 16 0 0 := by decide +kernel
theorem bc_t22 : ∀ h, h < 4 → ∀ l, l < 256 → bcN (256 * (4 * 22 + h) + l) = lkN (256 * (4 * 22 + h) + l) 16 0 0 := by decide +kernel
theorem bc_t23 : ∀ h, h < 4 → ∀ l, l < 256 → bcN (256 * (4 * 23 + h) + l) = lkN (256 * (4 * 23 + h) + l) 16 0 0 := by decide +kernel
theorem bc_t24 : ∀ h, h < 4 → ∀ l, l < 256 → bcN (256 * (4 * 24 + h) + l) = lkN (256 * (4 * 24 + h) + l) 16 0 0 := by decide +kernel
theorem bc_t25 : ∀ h, h < 4 → ∀ l, l < 256 → bcN (256 * (4 * 25 + h) + l) = lkN (256 * (4 * 25 + h) + l) 16 0 0 := by decide +kernel
theorem bc_t26 : ∀ h, h < 4 → ∀ l, l < 256 → bcN (256 * (4 * 26 + h) + l) = lkN (256 * (4 * 26 + h) + l) 16 0 0 := by decide +kernel
theorem bc_t27 : ∀ h, h < 4 → ∀ l, l < 256 → bcN (256 * (4 * 27 + h) + l) = lkN (256 * (4 * 27 + h) + l) 16 0 0 := by decide +kernel
theorem bc_t28 : ∀ h, h < 4 → ∀ l, l < 256 → bcN (256 * (4 * 28 + h) + l) = lkN (256 * (4 * 28 + h) + l) 16 0 0 := by decide +kernel
theorem bc_t29 : ∀ h, h < 4 → ∀ l, l < 256 → bcN (256 * (4 * 29 + h) + l) = lkN (256 * (4 * 29 + h) + l) 16 0 0 := by decide +kernel
theorem bc_t30 : ∀ h, h < 4 → ∀ l, l < 256 → bcN (256 * (4 * 30 + h) + l) = lkN (256 * (4 * 30 + h) + l) 16 0 0 := by decide +kernel
theorem bc_t31 : ∀ h, h < 4 → ∀ l, l < 256 → bcN (256 * (4 * 31 + h) + l) = lkN (256 * (4 * 31 + h) + l) 16 0 0 := by decide +kernel
theorem bc_t32 : ∀ h, h < 4 → ∀ l, l < 256 → bcN (256 * (4 * 32 + h) + l) = lkN (256 * (4 * 32 + h) + l) 16 0 0 := by decide +kernel
theorem bc_t33 : ∀ h, h < 4 → ∀ l, l < 256 → bcN (256 * (4 * 33 + h) + l) = lkN (256 * (4 * 33 + h) + l) 16 0 0 := by decide +kernel
theorem bc_t34 : ∀ h, h < 4 → ∀ l, l < 256 → bcN (256 * (4 * 34 + h) + l) = lkN (256 * (4 * 34 + h) + l) 16 0 0 := by decide +kernel
theorem bc_t35 : ∀ h, h < 4 → ∀ l, l < 256 → bcN (256 * (4 * 35 + h) + l) = lkN (256 * (4 * 35 + h) + l) 16 0 0 := by decide +kernel
theorem bc_t36 : ∀ h, h < 4 → ∀ l, l < 256 → bcN (256 * (4 * 36 + h) + l) = lkN (256 * (4 * 36 + h) + l) 16 0 0 := by decide +kernel
theorem bc_t37 : ∀ h, h < 4 → ∀ l, l < 256 → bcN (256 * (4 * 37 + h) + l) = lkN (256 * (4 * 37 + h) + l) 16 0 0 := by decide +kernel
theorem bc_t38 : ∀ h, h < 4 → ∀ l, l < 256 → bcN (256 * (4 * 38 + h) + l) = lkN (256 * (4 * 38 + h) + l) 16 0 0 := by decide +kernel
theorem bc_t39 : ∀ h, h < 4 → ∀ l, l < 256 → bcN (256 * (4 * 39 + h) + l) = lkN (256 * (4 * 39 + h) + l) 16 0 0 := by decide +kernel
theorem bc_t40 : ∀ h, h < 4 → ∀ l, l < 256 → bcN (256 * (4 * 40 + h) + l) = lkN (256 * (4 * 40 + h) + l) 16 0 0 := by decide +kernel
theorem bc_t41 : ∀ h, h < 4 → ∀ l, l < 256 → bcN (256 * (4 * 41 + h) + l) = lkN (256 * (4 * 41 + h) + l) 16 0 0 := by decide +kernel
theorem bc_t42 : ∀ h, h < 4 → ∀ l, l < 256 → bcN (256 * (4 * 42 + h) + l) = lkN (256 * (4 * 42 + h) + l) 16 0 0 := by decide +kernel
theorem bc_t43 : ∀ h, h < 4 → ∀ l, l < 256 → bcN (256 * (4 * 43 + h) + l) = lkN (256 * (4 * 43 + h) + l) 16 0 0 := by decide +kernel
theorem bc_t44 : ∀ h, h < 4 → ∀ l, l < 256 → bcN (256 * (4 * 44 + h) + l) = lkN (256 * (4 * 44 + h) + l) 16 0 0 := by decide +kernel
theorem bc_t45 : ∀ h, h < 4 → ∀ l, l < 256 → bcN (256 * (4 * 45 + h) + l) = lkN (256 * (4 * 45 + h) + l) 16 0 0 := by decide +kernel
theorem bc_t46 : ∀ h, h < 4 → ∀ l, l < 256 → bcN (256 * (4 * 46 + h) + l) = lkN (256 * (4 * 46 + h) + l) 16 0 0 := by decide +kernel
theorem bc_t47 : ∀ h, h < 4 → ∀ l, l < 256 → bcN (256 * (4 * 47 + h) + l) = lkN (256 * (4 * 47 + h) + l) 16 0 0 := by decide +kernel
theorem bc_t48 : ∀ h, h < 4 → ∀ l, l < 256 → bcN (256 * (4 * 48 + h) + l) = lkN (256 * (4 * 48 + h) + l) 16 0 0 := by decide +kernel
theorem bc_t49 : ∀ h, h < 4 → ∀ l, l < 256 → bcN (256 * (4 * 49 + h) + l) = lkN (256 * (4 * 49 + h) + l) 16 0 0 := by decide +kernel
theorem bc_t50 : ∀ h, h < 4 → ∀ l, l < 256 → bcN (256 * (4 * 50 + h) + l) = lkN (256 * (4 * 50 + h) + l) 16 0 0 := by decide +kernel
theorem bc_t51 : ∀ h, h < 4 → ∀ l, l < 256 → bcN (256 * (4 * 51 + h) + l) = lkN (256 * (4 * 51 + h) + l) 16 0 0 := by decide +kernel
theorem bc_t52 : ∀ h, h < 4 → ∀ l, l < 256 → bcN (256 * (4 * 52 + h) + l) = lkN (256 * (4 * 52 + h) + l) 16 0 0 := by decide +kernel
theorem bc_t53 : ∀ h, h < 4 → ∀ l, l < 256 → bcN (256 * (4 * 53 + h) + l) = lkN (256 * (4 * 53 + h) + l) 16 0 0 := by decide +kernel
theorem bc_t54 : ∀ h, h < 4 → ∀ l, l < 256 → bcN (256 * (4 * 54 + h) + l) = lkN (256 * (4 * 54 + h) + l) 16 0 0 := by decide +kernel
theorem bc_t55 : ∀ h, h < 4 → ∀ l, l < 256 → bcN (256 * (4 * 55 + h) + l) = lkN (256 * (4 * 55 + h) + l) 16 0 0 := by decide +kernel
theorem bc_t56 : ∀ h, h < 4 → ∀ l, l < 256 → bcN (256 * (4 * 56 + h) + l) = lkN (256 * (4 * 56 + h) + l) 16 0 0 := by decide +kernel
theorem bc_t57 : ∀ h, h < 4 → ∀ l, l < 256 → bcN (256 * (4 * 57 + h) + l) = lkN (256 * (4 * 57 + h) + l) 16 0 0 := by decide +kernel
theorem bc_t58 : ∀ h, h < 4 → ∀ l, l < 256 → bcN (256 * (4 * 58 + h) + l) = lkN (256 * (4 * 58 + h) + l) 16 0 0 := by decide +kernel
theorem bc_t59 : ∀ h, h < 4 → ∀ l, l < 256 → bcN (256 * (4 * 59 + h) + l) = lkN (256 * (4 * 59 + h) + l) 16 0 0 := by decide +kernel
theorem bc_t60 : ∀ h, h < 4 → ∀ l, l < 256 → bcN (256 * (4 * 60 + h) + l) = lkN (256 * (4 * 60 + h) + l) 16 0 0 := by decide +kernel
theorem bc_t61 : ∀ h, h < 4 → ∀ l, l < 256 → bcN (256 * (4 * 61 + h) + l) = lkN (256 * (4 * 61 + h) + l) 16 0 0 := by decide +kernel
theorem bc_t62 : ∀ h, h < 4 → ∀ l, l < 256 → bcN (256 * (4 * 62 + h) + l) = lkN (256 * (4 * 62 + h) + l) 16 0 0 := by decide +kernel
theorem bc_t63 : ∀ h, h < 4 → ∀ l, l < 256 → bcN (256 * (4 * 63 + h) + l) = lkN (256 * (4 * 63 + h) + l) 16 0 0 := by decide +kernel
theorem bc_t : ∀ i, i < 64 → ∀ h, h < 4 → ∀ l, l < 256 → bcN (256 * (4 * i + h) + l) = lkN (256 * (4 * i + h) + l) 16 0 0 := by
  intro i hi
  match i, hi with
  | 0, _ => exact bc_t0
  | 1, _ => exact bc_t1
  | 2, _ => exact bc_t2
  | 3, _ => exact bc_t3
  | 4, _ => exact bc_t4
  | 5, _ => exact bc_t5
  | 6, _ => exact bc_t6
  | 7, _ => exact bc_t7
  | 8, _ => exact bc_t8
  | 9, _ => exact bc_t9
  | 10, _ => exact bc_t10
  | 11, _ => exact bc_t11
  | 12, _ => exact bc_t12
  | 13, _ => exact bc_t13
  | 14, _ => exact bc_t14
  | 15, _ => exact bc_t15
  | 16, _ => exact bc_t16
  | 17, _ => exact bc_t17
  | 18, _ => exact bc_t18
  | 19, _ => exact bc_t19
  | 20, _ => exact bc_t20
  | 21, _ => exact bc_t21
  | 22, _ => exact bc_t22
  | 23, _ => exact bc_t23
  | 24, _ => exact bc_t24
  | 25, _ => exact bc_t25
  | 26, _ => exact bc_t26
  | 27, _ => exact bc_t27
  | 28, _ => exact bc_t28
  | 29, _ => exact bc_t29
  | 30, _ => exact bc_t30
  | 31, _ => exact bc_t31
  | 32, _ => exact bc_t32
  | 33, _ => exact bc_t33
  | 34, _ => exact bc_t34
  | 35, _ => exact bc_t35
  | 36, _ => exact bc_t36
  | 37, _ => exact bc_t37
  | 38, _ => exact bc_t38
  | 39, _ => exact bc_t39
  | 40, _ => exact bc_t40
  | 41, _ => exact bc_t41
  | 42, _ => exact bc_t42
  | 43, _ => exact bc_t43
  | 44, _ => exact bc_t44
  | 45, _ => exact bc_t45
  | 46, _ => exact bc_t46
  | 47, _ => exact bc_t47
  | 48, _ => exact bc_t48
  | 49, _ => exact bc_t49
  | 50, _ => exact bc_t50
  | 51, _ => exact bc_t51
  | 52, _ => exact bc_t52
  | 53, _ => exact bc_t53
  | 54, _ => exact bc_t54
  | 55, _ => exact bc_t55
  | 56, _ => exact bc_t56
  | 57, _ => exact bc_t57
  | 58, _ => exact bc_t58
  | 59, _ => exact bc_t59
  | 60, _ => exact bc_t60
  | 61, _ => exact bc_t61
  | 62, _ => exact bc_t62
  | 63, _ => exact bc_t63
  | n + 64, h => exact absurd h (by omega)
theorem bc_lk {z : Nat} (h : z < 65536) : bcN z = lkN z 16 0 0 := by
  have := bc_t (z / 1024) (by omega) (z / 256 % 4) (by omega) (z % 256) (by omega)
  rw [show 256 * (4 * (z / 1024) + z / 256 % 4) + z % 256 = z by omega] at this
  exact this
