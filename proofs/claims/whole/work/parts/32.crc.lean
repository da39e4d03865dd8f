/-! the division by x^7 + x^6 + x^2 + 1, in natural numbers -/
def cr_st (r b : Nat) : Nat := if 2 * r + b < 128 then 2 * r + b else (2 * r + b) ^^^ 197
def cr_rem (A : Nat) : Nat → Nat → Nat
  | 0, r => r
  | n + 1, r => cr_rem A n (cr_st r (A / 2 ^ n % 2))
theorem cr_st_x : ∀ r, r < 128 → ∀ b, b < 2 → x_reduced (((nI r) <<< (1 &&& 31)) ||| nI b) = nI (cr_st r b) ∧ cr_st r b < 128 := by decide +kernel
theorem cr_st_lin : ∀ r, r < 128 → ∀ s, s < 128 → ∀ b, b < 2 → ∀ c, c < 2 → cr_st (r ^^^ s) (b ^^^ c) = cr_st r b ^^^ cr_st s c := by decide +kernel
theorem cr_x128 {r s : Nat} (hr : r < 128) (hs : s < 128) : r ^^^ s < 128 := Nat.xor_lt_two_pow (n := 7) hr hs
theorem cr_bit (A B n : Nat) : (A ^^^ B) / 2 ^ n % 2 = (A / 2 ^ n % 2) ^^^ (B / 2 ^ n % 2) := by
  have h : ∀ X : Nat, X / 2 ^ n % 2 = (X.testBit n).toNat := fun X => by
    rw [Nat.testBit_eq_decide_div_mod_eq]
    rcases Nat.mod_two_eq_zero_or_one (X / 2 ^ n) with e | e <;> rw [e] <;> rfl
  rw [h, h, h, Nat.testBit_xor]
  cases A.testBit n <;> cases B.testBit n <;> rfl
theorem cr_rem_lt (A : Nat) : ∀ n r, r < 128 → cr_rem A n r < 128 := by
  intro n
  induction n with
  | zero => intro r h; exact h
  | succ n ih => intro r h; exact ih _ (cr_st_x r h _ (Nat.mod_lt _ (by decide))).2
theorem cr_rem_lin (A B : Nat) : ∀ n r s, r < 128 → s < 128 → cr_rem (A ^^^ B) n (r ^^^ s) = cr_rem A n r ^^^ cr_rem B n s := by
  intro n
  induction n with
  | zero => intro r s _ _; rfl
  | succ n ih =>
    intro r s hr hs
    have ha : A / 2 ^ n % 2 < 2 := Nat.mod_lt _ (by decide)
    have hb : B / 2 ^ n % 2 < 2 := Nat.mod_lt _ (by decide)
    show cr_rem (A ^^^ B) n (cr_st (r ^^^ s) ((A ^^^ B) / 2 ^ n % 2)) = cr_rem A n (cr_st r (A / 2 ^ n % 2)) ^^^ cr_rem B n (cr_st s (B / 2 ^ n % 2))
    rw [cr_bit, cr_st_lin r hr s hs _ ha _ hb]
    exact ih _ _ (cr_st_x r hr _ ha).2 (cr_st_x s hs _ hb).2
theorem cr_remF {A : Nat} (hA : A < 2 ^ 64) : ∀ n, n ≤ 63 → ∀ r, r < 128 → x_remF (lN A) n (nI r) = nI (cr_rem A n r) := by
  intro n
  induction n with
  | zero => intro _ r _; rfl
  | succ n ih =>
    intro hn r hr
    have hb : A / 2 ^ n % 2 < 2 := Nat.mod_lt _ (by decide)
    have e := cr_st_x r hr _ hb
    rw [x_remF, show (j_lushr (lN A) (nI n) &&& 1) = lN (A / 2 ^ n % 2) from wb_bit hA (by omega), lN_i, e.1]
    exact ih (by omega) _ e.2
theorem cr_remainder {A : Nat} (hA : A < 2 ^ 64) : x_remainderOf (lN A) = nI (cr_rem A 63 0) := cr_remF hA 63 (Nat.le_refl _) 0 (by decide)
