theorem uN_lN {n : Nat} (h : n < 2 ^ 64) : uN (lN n) = n := wb_tn h
theorem lN_uN (x : Int64) : lN (uN x) = x := by
  obtain ⟨n, hn, rfl⟩ := wb_of x
  rw [uN_lN hn]
theorem cr_tb (X n : Nat) : X / 2 ^ n % 2 = (X.testBit n).toNat := by
  rw [Nat.testBit_eq_decide_div_mod_eq]
  rcases Nat.mod_two_eq_zero_or_one (X / 2 ^ n) with e | e <;> rw [e] <;> rfl
theorem cr_tb2 (X n : Nat) : X / 2 ^ n % 2 < 2 := Nat.mod_lt _ (by decide)
/-- the bits behind one more -/
theorem bq_uN (x : Int64) {b : Nat} (hb : b < 2) : uN ((j_lshl x 1) ||| lN b) = (2 * uN x) % 18446744073709551616 + b := by
  have e : uN (lN b) = b := uN_lN (by omega)
  have h := uN_or (x := x) (y := lN b) (by omega)
  rw [e] at h
  exact h
theorem bq_0 (x : Int64) {b : Nat} (hb : b < 2) : bq ((j_lshl x 1) ||| lN b) 0 = b := by
  unfold bq
  rw [bq_uN x hb]
  omega
theorem bq_s (x : Int64) {b j : Nat} (hb : b < 2) (hj : j < 63) : bq ((j_lshl x 1) ||| lN b) (j + 1) = bq x j := by
  unfold bq
  rw [bq_uN x hb]
  have e : ((2 * uN x) % 18446744073709551616 + b) / 2 ^ (j + 1) = (uN x % 2 ^ 63) / 2 ^ j := by
    rw [show 2 ^ (j + 1) = 2 * 2 ^ j from by rw [Nat.pow_succ, Nat.mul_comm], ← Nat.div_div_eq_div_mul]
    congr 1
    omega
  rw [e, cr_tb, cr_tb, Nat.testBit_mod_two_pow, decide_eq_true hj, Bool.true_and]
theorem bq_lt (x : Int64) (j : Nat) : bq x j < 2 := Nat.mod_lt _ (by decide)
/-- the reference's bit: the same as the class's -/
theorem m_tb_eq (w : Int64) {n : Nat} (hn : n < 64) : m_tb w n = nI (uN w / 2 ^ n % 2) := by
  have h1 : ((j_lshr w (nI n)).toInt32 &&& 1) = nI ((j_lshr w (nI n)).toInt32.toBitVec.toNat % 2 ^ 1) := pk_and _ 1 (by decide)
  have hb : (j_lshr w (nI n)).toInt32.toBitVec.getLsbD 0 = w.toBitVec.getLsbD n := by
    show ((w >>> ((nI n).toInt64 &&& 63)).toBitVec.signExtend 32).getLsbD 0 = _
    rw [BitVec.getLsbD_signExtend, wb_c n hn, Int64.toBitVec_shiftRight, wb_tb, wb_sm n hn]
    show (decide (0 < 32) && if 0 < 64 then (w.toBitVec.sshiftRight (BitVec.ofNat 64 n).toNat).getLsbD 0 else _) = _
    rw [BitVec.toNat_ofNat, Nat.mod_eq_of_lt (show n < 2 ^ 64 by omega), BitVec.getLsbD_sshiftRight]
    simp [hn]
  show ((j_lshr w (nI n)).toInt32 &&& 1) = _
  rw [h1]
  congr 1
  have e0 : ∀ z : Nat, z % 2 ^ 1 = (z.testBit 0).toNat := fun z => by
    have := cr_tb z 0
    rw [Nat.pow_zero, Nat.div_one] at this
    exact this
  rw [e0, cr_tb]
  exact congrArg Bool.toNat hb
theorem x_bit_eq (w : Int64) {n : Nat} (hn : n < 64) : (j_lushr w (nI n)) &&& 1 = lN (uN w / 2 ^ n % 2) := by
  have h := wb_bit (n := uN w) (k := n) (by have := uN_lt w; omega) hn
  rw [lN_uN] at h
  exact h
theorem nI_tn (n : Nat) : (nI n).toBitVec.toNat = n % 2 ^ 32 := by
  show (BitVec.ofNat 32 n).toNat = _
  rw [BitVec.toNat_ofNat]
theorem x_byte_eq {D t : Nat} (hD : D < 2 ^ 64) (ht : t < 8) : x_byteOf (lN D) (nI t) = nI (D / 2 ^ (8 * t) % 256) := by
  unfold x_byteOf
  rw [show (8 : Int32) * nI t = nI (8 * t) from pk_mul 8 t, show j_lushr (lN D) (nI (8 * t)) = lN (D / 2 ^ (8 * t)) from wb_shr hD (by omega), lN_i, pk_and _ (m := 255) 8 (by decide), nI_tn]
  congr 1
  omega
