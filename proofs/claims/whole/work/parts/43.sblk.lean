/-! one code block of the senders -/
def wdN (g : Nat → Nat) : Nat → Nat → Nat → Nat
  | 0, _, d => d
  | n + 1, j, d => wdN g n (j + 1) (d * 256 + g j)
theorem x_wd_N {u : x_S} {g : Nat → Nat} {J : Nat} (hg : ∀ j, j < J → x_wt u j = nI (g j) ∧ g j < 256) : ∀ (n j d : Nat), j + n ≤ J → n ≤ 7 → d < 2 ^ (8 * (7 - n)) → x_wdF u n j (lN d) = lN (wdN g n j d) := by
  intro n
  induction n with
  | zero => intro j d _ _ _; rfl
  | succ n ih =>
    intro j d h h7 hd
    obtain ⟨e1, e2⟩ := hg j (by omega)
    have hp : 2 ^ (8 * (7 - (n + 1))) ≤ 2 ^ 48 := Nat.pow_le_pow_right (by decide) (by omega)
    have e3 : j_lshl (lN d) 8 = lN (d * 256) := wb_shl d (k := 8) (by decide)
    have hn : d * 256 + g j < 2 ^ (8 * (7 - n)) := by
      have : 2 ^ (8 * (7 - n)) = 2 ^ (8 * (7 - (n + 1))) * 256 := by
        rw [show 8 * (7 - n) = 8 * (7 - (n + 1)) + 8 by omega, Nat.pow_add]
      rw [this]
      generalize 2 ^ (8 * (7 - (n + 1))) = P at *
      omega
    rw [x_wdF, e1, nI_l (by omega), e3, g_or (k := 8) (p := 256) rfl e2 (by omega), ih (j + 1) _ (by omega) (by omega) hn]
    rfl
/-- the data of block i -/
def dN (g : Nat → Nat) (i : Nat) : Nat := wdN g 7 (7 * i) 0
theorem dN_eq (g : Nat → Nat) (i : Nat) : dN g i = ((((((g (7 * i)) * 256 + g (7 * i + 1)) * 256 + g (7 * i + 2)) * 256 + g (7 * i + 3)) * 256 + g (7 * i + 4)) * 256 + g (7 * i + 5)) * 256 + g (7 * i + 6) := by
  show wdN g 7 (7 * i) 0 = _
  simp only [wdN, Nat.zero_mul, Nat.zero_add]
theorem dN_b {g : Nat → Nat} {i : Nat} (hg : ∀ t, t < 7 → g (7 * i + t) < 256) : dN g i < 2 ^ 56 ∧ ∀ t, t < 7 → dN g i / 2 ^ (8 * (6 - t)) % 256 = g (7 * i + t) := by
  have h0 : g (7 * i) < 256 := hg 0 (by decide)
  have h1 := hg 1 (by decide)
  have h2 := hg 2 (by decide)
  have h3 := hg 3 (by decide)
  have h4 := hg 4 (by decide)
  have h5 := hg 5 (by decide)
  have h6 := hg 6 (by decide)
  rw [dN_eq]
  refine ⟨by omega, ?_⟩
  intro t ht
  rcases (show t = 0 ∨ t = 1 ∨ t = 2 ∨ t = 3 ∨ t = 4 ∨ t = 5 ∨ t = 6 by omega) with rfl | rfl | rfl | rfl | rfl | rfl | rfl
  · show _ / 2 ^ 48 % 256 = g (7 * i)
    omega
  · show _ / 2 ^ 40 % 256 = _
    omega
  · show _ / 2 ^ 32 % 256 = _
    omega
  · show _ / 2 ^ 24 % 256 = _
    omega
  · show _ / 2 ^ 16 % 256 = _
    omega
  · show _ / 2 ^ 8 % 256 = _
    omega
  · show _ / 2 ^ 0 % 256 = _
    omega
/-- the check bits of data D, turned round -/
def yN (D : Nat) : Nat := (cr_rem (D * 128) 63 0) ^^^ 127
theorem yN_lt (D : Nat) : yN D < 128 := cr_x128 (cr_rem_lt _ 63 0 (by decide)) (by decide)
theorem x_blk {D : Nat} (h : D < 2 ^ 56) : x_blockOf (lN D) = lN ((D * 128 + yN D) * 2) := by
  have hr : cr_rem (D * 128) 63 0 < 128 := cr_rem_lt _ 63 0 (by decide)
  have hy := yN_lt D
  unfold x_blockOf
  rw [show j_lshl (lN D) 7 = lN (D * 128) from wb_shl D (k := 7) (by decide), cr_remainder (by omega), show nI (cr_rem (D * 128) 63 0) ^^^ 127 = nI (yN D) from nx_xor _ 127, nI_l (by omega), g_or (k := 7) (p := 128) rfl hy (by omega)]
  exact wb_shl (D * 128 + yN D) (k := 1) (by decide)
theorem x_blk_b {D : Nat} (h : D < 2 ^ 56) : (∀ t, t < 7 → x_byteOf (x_blockOf (lN D)) (nI (7 - t)) = nI (D / 2 ^ (8 * (6 - t)) % 256)) ∧ x_byteOf (x_blockOf (lN D)) (nI 0) = nI (2 * yN D) := by
  have hy := yN_lt D
  rw [x_blk h]
  refine ⟨?_, ?_⟩
  · intro t ht
    rw [x_byte_eq (by omega) (by omega)]
    congr 1
    rw [show 8 * (7 - t) = 8 + 8 * (6 - t) by omega, Nat.pow_add, ← Nat.div_div_eq_div_mul]
    congr 2
    omega
  · rw [x_byte_eq (by omega) (by decide)]
    congr 1
    show (D * 128 + yN D) * 2 / 2 ^ 0 % 256 = _
    omega
/-! the reference's search for the check bits -/
theorem ck_lo : ∀ b, b < 256 → ∀ s, s < 8 → ((nI b) >>> ((7 - (nI s)) &&& 31)) &&& 1 = nI (b / 2 ^ (7 - s) % 2) := by decide +kernel
theorem ck_hi : ∀ c, c < 128 → ∀ s, s < 7 → 1 - (((nI c) >>> ((62 - (nI (56 + s))) &&& 31)) &&& 1) = nI ((c ^^^ 127) / 2 ^ (6 - s) % 2) := by decide +kernel
theorem bit_mod (X s n : Nat) (h : s < n) : (X % 2 ^ n) / 2 ^ s % 2 = X / 2 ^ s % 2 := by
  rw [cr_tb, cr_tb, Nat.testBit_mod_two_pow, decide_eq_true h, Bool.true_and]
theorem m_ck_bit {u : m_S} {g : Nat → Nat} {i c : Nat} (hc : c < 128) (hg : ∀ t, t < 7 → m_wt u (7 * i + t) = nI (g (7 * i + t)) ∧ g (7 * i + t) < 256) (k : Nat) (hk : k < 63) : m_ckB u (7 * i) c k = nI ((dN g i * 128 + (c ^^^ 127)) / 2 ^ (62 - k) % 2) := by
  have hy : c ^^^ 127 < 128 := cr_x128 hc (by decide)
  unfold m_ckB
  by_cases h : 56 ≤ k
  · obtain ⟨s, rfl⟩ : ∃ s, k = 56 + s := ⟨k - 56, by omega⟩
    rw [if_pos (show (56 : Int32) ≤ nI (56 + s) from (show nI 56 ≤ nI (56 + s) from nI_le h (by omega))), ck_hi c hc s (by omega)]
    congr 1
    rw [show 62 - (56 + s) = 6 - s by omega, ← bit_mod (dN g i * 128 + (c ^^^ 127)) (6 - s) 7 (by omega)]
    congr 2
    omega
  · rw [if_neg (show ¬ (56 : Int32) ≤ nI k from (show ¬ nI 56 ≤ nI k from nI_ge (by omega) (by decide)))]
    obtain ⟨e1, e2⟩ := hg (k / 8) (by omega)
    obtain ⟨-, hb⟩ := dN_b (i := i) (fun t ht => (hg t ht).2)
    rw [e1, ck_lo _ e2 (k % 8) (by omega), ← hb (k / 8) (by omega)]
    congr 1
    rw [show (256 : Nat) = 2 ^ 8 from rfl, bit_mod _ _ 8 (by omega), Nat.div_div_eq_div_mul, ← Nat.pow_add, show 62 - k = 7 + (8 * (6 - k / 8) + (7 - k % 8)) by omega, Nat.pow_add 2 7, ← Nat.div_div_eq_div_mul]
    congr 2
    omega
theorem m_ci_rem {u : m_S} {fr c E : Nat} (hE : ∀ k, k < 63 → m_ckB u fr c k = nI (E / 2 ^ (62 - k) % 2)) : ∀ n k r, k + n = 63 → r < 128 → m_ciF u fr c n k (nI r) = nI (cr_rem E n r) := by
  intro n
  induction n with
  | zero => intro k r _ _; rfl
  | succ n ih =>
    intro k r h hr
    have e : 62 - k = n := by omega
    rw [m_ciF, hE k (by omega), e, cr_rd r hr _ (cr_tb2 _ _), ih (k + 1) _ (by omega) (cr_st_x r hr _ (cr_tb2 _ _)).2]
    rfl
theorem cr_small : ∀ y, y < 128 → cr_rem y 63 0 = y := by decide +kernel
theorem add_xor {D y : Nat} (hy : y < 128) : D * 128 + y = (D * 128) ^^^ y := by
  have h1 : ((D * 128) ^^^ y) / 2 ^ 7 = D := by
    rw [Nat.xor_div_two_pow, show D * 128 / 2 ^ 7 = D by omega, show y / 2 ^ 7 = 0 by omega, Nat.xor_zero]
  have h2 : ((D * 128) ^^^ y) % 2 ^ 7 = y := by
    rw [Nat.xor_mod_two_pow, show D * 128 % 2 ^ 7 = 0 by omega, show y % 2 ^ 7 = y by omega, Nat.zero_xor]
  generalize (D * 128) ^^^ y = z at *
  omega
theorem xor_back {a b : Nat} (h : a = b ^^^ 127) : b = a ^^^ 127 := by
  rw [h, Nat.xor_assoc, Nat.xor_self, Nat.xor_zero]
theorem m_ck_at {u : m_S} {g : Nat → Nat} {i c : Nat} (hc : c < 128) (hg : ∀ t, t < 7 → m_wt u (7 * i + t) = nI (g (7 * i + t)) ∧ g (7 * i + t) < 256) : m_ciF u (7 * i) c 63 0 0 = 0 ↔ c = yN (dN g i) := by
  have hy : c ^^^ 127 < 128 := cr_x128 hc (by decide)
  have e : m_ciF u (7 * i) c 63 0 0 = nI (cr_rem (dN g i * 128 + (c ^^^ 127)) 63 0) := m_ci_rem (m_ck_bit hc hg) 63 0 0 rfl (by decide)
  have hx : cr_rem (dN g i * 128 + (c ^^^ 127)) 63 0 = cr_rem (dN g i * 128) 63 0 ^^^ (c ^^^ 127) := by
    rw [add_xor hy]
    have := cr_rem_lin (dN g i * 128) (c ^^^ 127) 63 0 0 (by decide) (by decide)
    rw [cr_small _ hy] at this
    exact this
  have hl := cr_rem_lt (dN g i * 128 + (c ^^^ 127)) 63 0 (by decide)
  rw [e]
  constructor
  · intro h
    have h0 : cr_rem (dN g i * 128 + (c ^^^ 127)) 63 0 = 0 := (nI_eq (by omega) (by decide)).mp (show nI _ = nI 0 from h)
    rw [hx] at h0
    exact xor_back (xor0 h0)
  · intro h
    have h5 : cr_rem (dN g i * 128) 63 0 = c ^^^ 127 := xor_back (show c = cr_rem (dN g i * 128) 63 0 ^^^ 127 from h)
    rw [hx, h5, Nat.xor_self]
    rfl
theorem m_co_N {u : m_S} {fr y : Nat} (hy : ∀ c, c < 128 → (m_ciF u fr c 63 0 0 = 0 ↔ c = y)) : ∀ n c f, c + n = 128 → m_coF u fr n c f = if c ≤ y ∧ y < c + n then nI (2 * y) else f := by
  intro n
  induction n with
  | zero => intro c f _; rw [if_neg (by omega)]; rfl
  | succ n ih =>
    intro c f h
    rw [m_coF, ih _ _ (by omega)]
    by_cases e : c = y
    · rw [if_pos ((hy c (by omega)).mpr e), if_neg (by omega), if_pos (by omega), e]
    · rw [if_neg (fun q => e ((hy c (by omega)).mp q))]
      by_cases c2 : c ≤ y ∧ y < c + (n + 1)
      · rw [if_pos c2, if_pos (by omega)]
      · rw [if_neg c2, if_neg (by omega)]
theorem m_check_eq {u : m_S} {g : Nat → Nat} {i : Nat} (hg : ∀ t, t < 7 → m_wt u (7 * i + t) = nI (g (7 * i + t)) ∧ g (7 * i + t) < 256) : m_check u (7 * i) = nI (2 * yN (dN g i)) := by
  have hy := yN_lt (dN g i)
  unfold m_check
  rw [m_co_N (y := yN (dN g i)) (fun c hc => m_ck_at hc hg) 128 0 0 rfl, if_pos (by omega)]
