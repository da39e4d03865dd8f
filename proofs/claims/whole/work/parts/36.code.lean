theorem xor0 {a b : Nat} (h : a ^^^ b = 0) : a = b := by
  apply Nat.eq_of_testBit_eq
  intro i
  have h5 := congrArg (fun z => z.testBit i) h
  simp only [Nat.testBit_xor, Nat.zero_testBit] at h5
  revert h5
  cases a.testBit i <;> cases b.testBit i <;> simp
theorem cr_rd : ∀ r, r < 128 → ∀ e, e < 2 → m_rd ((2 * nI r) + nI e) = nI (cr_st r e) := by decide +kernel
theorem m_dv_rem {v : m_S} {a0 : Int32} {E : Nat} (hE : ∀ k, k < 63 → ((m_bi v k) ^^^ (if nI k ≤ 55 then 0 else 1)) ^^^ (if nI k = a0 then 1 else 0) = nI (E / 2 ^ (62 - k) % 2)) : ∀ n k r, k + n = 63 → r < 128 → m_dvF v a0 n k (nI r) = nI (cr_rem E n r) := by
  intro n
  induction n with
  | zero => intro k r _ _; rfl
  | succ n ih =>
    intro k r h hr
    have e : 62 - k = n := by omega
    rw [m_dvF, hE k (by omega), e, cr_rd r hr _ (cr_tb2 _ _), ih (k + 1) _ (by omega) (cr_st_x r hr _ (cr_tb2 _ _)).2]
    rfl
/-- the 63 bits with the check bits turned round -/
def cA (x : Int64) : Nat := (uN x / 2) ^^^ 127
theorem cA_lt (x : Int64) : cA x < 2 ^ 63 := by
  have := uN_lt x
  exact Nat.xor_lt_two_pow (n := 63) (by omega) (by decide)
theorem half_bit (X : Nat) {k : Nat} (hk : k < 63) : X / 2 / 2 ^ (62 - k) % 2 = X / 2 ^ (63 - k) % 2 := by
  rw [Nat.div_div_eq_div_mul, show 2 * 2 ^ (62 - k) = 2 ^ (63 - k) from by rw [show 63 - k = 62 - k + 1 by omega, Nat.pow_succ, Nat.mul_comm]]
theorem cA_bit (x : Int64) {k : Nat} (hk : k < 63) : cA x / 2 ^ (62 - k) % 2 = (bq x (63 - k)) ^^^ (127 / 2 ^ (62 - k) % 2) := by
  unfold cA bq
  rw [cr_bit, half_bit _ hk]
theorem t127 : ∀ k, k < 63 → (if nI k ≤ 55 then (0 : Int32) else 1) = nI (127 / 2 ^ (62 - k) % 2) := by decide +kernel
theorem tm1 : ∀ k, k < 63 → ¬ nI k = (-1) := by decide +kernel
theorem pw_bit (a b : Nat) : 2 ^ a / 2 ^ b % 2 = if a = b then 1 else 0 := by
  rw [cr_tb, Nat.testBit_two_pow]
  by_cases h : a = b
  · simp [h]
  · simp [h]
theorem i_bit {k t : Nat} (hk : k < 63) (ht : t < 63) : (if nI k = nI t then (1 : Int32) else 0) = nI (2 ^ (62 - t) / 2 ^ (62 - k) % 2) := by
  rw [pw_bit]
  by_cases h : k = t
  · subst h; rw [if_pos rfl, if_pos rfl]; rfl
  · rw [if_neg (fun e => h ((nI_eq (by omega) (by omega)).mp e)), if_neg (by omega)]; rfl
theorem e_none {v : m_S} {x : Int64} (hB : ∀ j, j < 64 → m_bi v j = nI (bq x (63 - j))) (k : Nat) (hk : k < 63) : ((m_bi v k) ^^^ (if nI k ≤ 55 then 0 else 1)) ^^^ (if nI k = (-1) then 1 else 0) = nI (cA x / 2 ^ (62 - k) % 2) := by
  rw [hB k (by omega), t127 k hk, if_neg (tm1 k hk), nx_xor, ← cA_bit x hk]
  exact Int32.xor_zero
theorem e_at {v : m_S} {x : Int64} {t : Nat} (ht : t < 63) (hB : ∀ j, j < 64 → m_bi v j = nI (bq x (63 - j))) (k : Nat) (hk : k < 63) : ((m_bi v k) ^^^ (if nI k ≤ 55 then 0 else 1)) ^^^ (if nI k = nI t then 1 else 0) = nI ((cA x ^^^ 2 ^ (62 - t)) / 2 ^ (62 - k) % 2) := by
  rw [hB k (by omega), t127 k hk, i_bit hk ht, nx_xor, nx_xor, ← cA_bit x hk, cr_bit]
theorem dv_none {v : m_S} {x : Int64} (hB : ∀ j, j < 64 → m_bi v j = nI (bq x (63 - j))) : m_divided v (-1) = if cr_rem (cA x) 63 0 = 0 then 1 else 0 := by
  have e : m_dvF v (-1) 63 0 0 = nI (cr_rem (cA x) 63 0) := m_dv_rem (e_none hB) 63 0 0 rfl (by decide)
  have hl := cr_rem_lt (cA x) 63 0 (by decide)
  unfold m_divided
  rw [e]
  by_cases h : cr_rem (cA x) 63 0 = 0
  · rw [h, if_pos nI_0, if_pos rfl]
  · rw [if_neg (nI_ne0 (by omega) (by omega)), if_neg h]
theorem dv_at {v : m_S} {x : Int64} {t : Nat} (ht : t < 63) (hB : ∀ j, j < 64 → m_bi v j = nI (bq x (63 - j))) : m_divided v (nI t) = if cr_rem (cA x) 63 0 = cr_rem (2 ^ (62 - t)) 63 0 then 1 else 0 := by
  have e : m_dvF v (nI t) 63 0 0 = nI (cr_rem (cA x ^^^ 2 ^ (62 - t)) 63 0) := m_dv_rem (e_at ht hB) 63 0 0 rfl (by decide)
  have hl := cr_rem_lt (cA x ^^^ 2 ^ (62 - t)) 63 0 (by decide)
  have hx : cr_rem (cA x ^^^ 2 ^ (62 - t)) 63 0 = cr_rem (cA x) 63 0 ^^^ cr_rem (2 ^ (62 - t)) 63 0 := cr_rem_lin (cA x) (2 ^ (62 - t)) 63 0 0 (by decide) (by decide)
  unfold m_divided
  rw [e]
  by_cases h : cr_rem (cA x) 63 0 = cr_rem (2 ^ (62 - t)) 63 0
  · rw [if_pos h, if_pos (by rw [hx, h, Nat.xor_self]; rfl)]
  · have h2 : cr_rem (cA x ^^^ 2 ^ (62 - t)) 63 0 ≠ 0 := by
      rw [hx]
      intro q
      exact h (xor0 q)
    rw [if_neg (nI_ne0 (by omega) (by omega)), if_neg h]
def wrN (r : Nat) : Nat → Nat → Int32 → Int32
  | 0, _, f => f
  | n + 1, k, f => wrN r n (k + 1) (if r = cr_rem (2 ^ (62 - k)) 63 0 then nI k else f)
theorem m_wr_N {v : m_S} {r : Nat} (hmd : ¬ m_md v = 0) (hD : ∀ t, t < 63 → m_divided v (nI t) = if r = cr_rem (2 ^ (62 - t)) 63 0 then 1 else 0) : ∀ n k f, k + n = 63 → m_wrF v n k f = wrN r n k f := by
  intro n
  induction n with
  | zero => intro k f _; rfl
  | succ n ih =>
    intro k f h
    rw [m_wrF, if_neg hmd, hD k (by omega), ih _ _ (by omega), wrN]
    by_cases c : r = cr_rem (2 ^ (62 - k)) 63 0
    · rw [if_pos c, if_neg (by decide), if_pos c]
    · rw [if_neg c, if_pos rfl, if_neg c]
theorem pw_tab : ∀ r, r < 128 → r = 0 ∨ (x_powerWithRemainder (nI r) = (-1) ∧ wrN r 63 0 (-2) = (-2)) ∨ ((x_powerWithRemainder (nI r)).toNatClampNeg < 63 ∧ x_powerWithRemainder (nI r) = nI (x_powerWithRemainder (nI r)).toNatClampNeg ∧ wrN r 63 0 (-2) = nI (62 - (x_powerWithRemainder (nI r)).toNatClampNeg)) := by decide +kernel
/-- a byte of the data, as the reference puts it together -/
theorem bi_byte {f : Nat → Int32} {w : Int32} {E k : Nat} (hk : k < 7) (hE : ∀ j, j < 56 → (f j) ^^^ (if nI j = w then 1 else 0) = nI (E / 2 ^ (62 - j) % 2)) : ∀ n i b, i + n = 8 → biF f w k n i (nI b) = nI (b * 2 ^ n + (E / 2 ^ (55 - 8 * k)) % 2 ^ n) := by
  intro n
  induction n with
  | zero => intro i b _; rw [biF, Nat.pow_zero, Nat.mod_one, Nat.mul_one, Nat.add_zero]
  | succ n ih =>
    intro i b h
    have e : E / 2 ^ (62 - (8 * k + i)) % 2 = (E / 2 ^ (55 - 8 * k)) / 2 ^ n % 2 := by
      rw [Nat.div_div_eq_div_mul, ← Nat.pow_add]
      congr 3
      omega
    rw [biF, hE (8 * k + i) (by omega), e, show (2 : Int32) * nI b = nI (2 * b) from pk_mul 2 b, nI_add, ih (i + 1) _ (by omega)]
    congr 1
    generalize E / 2 ^ (55 - 8 * k) = X
    rw [Nat.mod_pow_succ, Nat.pow_succ]
    generalize 2 ^ n = P
    generalize X / P % 2 = c
    generalize X % P = y
    rw [Nat.add_mul, Nat.mul_comm P c, Nat.mul_assoc, Nat.mul_comm 2 (b * P), Nat.mul_assoc]
    omega
theorem byte_eq {f : Nat → Int32} {w : Int32} {E k : Nat} (hk : k < 7) (hEl : E < 2 ^ 63) (hE : ∀ j, j < 56 → (f j) ^^^ (if nI j = w then 1 else 0) = nI (E / 2 ^ (62 - j) % 2)) : biF f w k 8 0 0 = x_byteOf (lN (E / 128)) (nI (6 - k)) := by
  have h1 : biF f w k 8 0 0 = nI (0 * 2 ^ 8 + (E / 2 ^ (55 - 8 * k)) % 2 ^ 8) := bi_byte hk hE 8 0 0 rfl
  rw [h1, x_byte_eq (by omega) (by omega), Nat.div_div_eq_div_mul, show 128 * 2 ^ (8 * (6 - k)) = 2 ^ (55 - 8 * k) from by rw [show (128 : Nat) = 2 ^ 7 from rfl, ← Nat.pow_add]; congr 1; omega]
  congr 1
  omega
