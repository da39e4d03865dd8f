/-! the arrays behind the loops -/
def cpF (g : Nat → Int32) : Nat → Nat → (Nat → Int32) → (Nat → Int32)
  | 0, _, f => f
  | n + 1, k, f => cpF g n (k + 1) (upd f k (g k))
theorem cpF_at (g : Nat → Int32) : ∀ (n k : Nat) (f : Nat → Int32) (j : Nat), cpF g n k f j = if k ≤ j ∧ j < k + n then g j else f j := by
  intro n
  induction n with
  | zero => intro k f j; rw [if_neg (by omega)]; rfl
  | succ n ih =>
    intro k f j
    rw [cpF, ih]
    by_cases h : j = k
    · subst h
      rw [if_neg (by omega), if_pos (by omega), pk_us]
    · rw [pk_un h]
      by_cases h2 : k ≤ j ∧ j < k + (n + 1)
      · rw [if_pos h2, if_pos (by omega)]
      · rw [if_neg h2, if_neg (by omega)]
theorem m_en_full : ∀ (n k : Nat) (u : m_S), m_enF n k u = (m_th u, m_st u, m_md u, m_mn u, m_rw u, m_sz u, m_wn u, m_sn u, m_bi u, m_ro u, cpF (m_ro u) n k (m_rc u), m_wt u, m_se u, m_cn u) := by
  intro n
  induction n with
  | zero => intro k u; rfl
  | succ n ih => intro k u; rw [m_enF, ih]; rfl
def shF : Nat → Nat → (Nat → Int32) → (Nat → Int32)
  | 0, _, f => f
  | n + 1, k, f => shF n (k + 1) (upd f k (f (k + 1)))
theorem shF_at : ∀ (n k : Nat) (f : Nat → Int32) (j : Nat), shF n k f j = if k ≤ j ∧ j < k + n then f (j + 1) else f j := by
  intro n
  induction n with
  | zero => intro k f j; rw [if_neg (by omega)]; rfl
  | succ n ih =>
    intro k f j
    rw [shF, ih]
    by_cases h : j = k
    · subst h
      rw [if_neg (by omega), if_pos (by omega), pk_us]
    · rw [pk_un h]
      by_cases h2 : k ≤ j ∧ j < k + (n + 1)
      · rw [if_pos h2, if_pos (by omega), pk_un (by omega)]
      · rw [if_neg h2, if_neg (by omega)]
theorem m_sh_full : ∀ (n k : Nat) (u : m_S), m_shF n k u = (m_th u, m_st u, m_md u, m_mn u, m_rw u, m_sz u, m_wn u, m_sn u, shF n k (m_bi u), m_ro u, m_rc u, m_wt u, m_se u, m_cn u) := by
  intro n
  induction n with
  | zero => intro k u; rfl
  | succ n ih => intro k u; rw [m_shF, ih]; rfl
def biF (f : Nat → Int32) (w : Int32) (k : Nat) : Nat → Nat → Int32 → Int32
  | 0, _, b => b
  | n + 1, i, b => biF f w k n (i + 1) ((2 * b) + ((f (8 * k + i)) ^^^ (if nI (8 * k + i) = w then 1 else 0)))
theorem m_bi_full (u : m_S) (w : Int32) (k : Nat) : ∀ (n i : Nat) (b : Int32), m_biF u w k n i b = biF (m_bi u) w k n i b := by
  intro n
  induction n with
  | zero => intro i b; rfl
  | succ n ih => intro i b; rw [m_biF, ih]; rfl
def blF (f : Nat → Int32) (w : Int32) : Nat → Nat → Nat → (Nat → Int32) → (Nat → Int32)
  | 0, _, _, g => g
  | n + 1, k, r, g => blF f w n (k + 1) (r + 1) (upd g r (biF f w k 8 0 0))
theorem blF_at (f : Nat → Int32) (w : Int32) : ∀ (n k r : Nat) (g : Nat → Int32) (j : Nat), blF f w n k r g j = if r ≤ j ∧ j < r + n then biF f w (k + (j - r)) 8 0 0 else g j := by
  intro n
  induction n with
  | zero => intro k r g j; rw [if_neg (by omega)]; rfl
  | succ n ih =>
    intro k r g j
    rw [blF, ih]
    by_cases h : j = r
    · subst h
      rw [if_neg (by omega), if_pos (by omega), pk_us, Nat.sub_self]
      rfl
    · rw [pk_un h]
      by_cases h2 : r ≤ j ∧ j < r + (n + 1)
      · rw [if_pos h2, if_pos (by omega), show k + 1 + (j - (r + 1)) = k + (j - r) by omega]
      · rw [if_neg h2, if_neg (by omega)]
theorem m_bl_full (w : Int32) : ∀ (n k : Nat) (u : m_S), m_blF w n k u = (m_th u, m_st u, m_md u, m_mn u, m_rw u + n, m_sz u, m_wn u, m_sn u, m_bi u, blF (m_bi u) w n k (m_rw u) (m_ro u), m_rc u, m_wt u, m_se u, m_cn u) := by
  intro n
  induction n with
  | zero => intro k u; rfl
  | succ n ih =>
    intro k u
    rw [m_blF, ih, m_bi_full]
    show (m_th u, m_st u, m_md u, m_mn u, m_rw u + 1 + n, m_sz u, m_wn u, m_sn u, m_bi u, blF (m_bi u) w n (k + 1) (m_rw u + 1) (upd (m_ro u) (m_rw u) (biF (m_bi u) w k 8 0 0)), m_rc u, m_wt u, m_se u, m_cn u) = _
    rw [show m_rw u + 1 + n = m_rw u + (n + 1) by omega]
    rfl
def kdF (d : Int64) : Nat → Nat → (Nat → Int32) → (Nat → Int32)
  | 0, _, g => g
  | n + 1, r, g => kdF d n (r + 1) (upd g r (x_byteOf d (nI n)))
theorem kdF_at (d : Int64) : ∀ (n r : Nat) (g : Nat → Int32) (j : Nat), kdF d n r g j = if r ≤ j ∧ j < r + n then x_byteOf d (nI (n - 1 - (j - r))) else g j := by
  intro n
  induction n with
  | zero => intro r g j; rw [if_neg (by omega)]; rfl
  | succ n ih =>
    intro r g j
    rw [kdF, ih]
    by_cases h : j = r
    · subst h
      rw [if_neg (by omega), if_pos (by omega), pk_us, Nat.sub_self]
      rfl
    · rw [pk_un h]
      by_cases h2 : r ≤ j ∧ j < r + (n + 1)
      · rw [if_pos h2, if_pos (by omega), show n - 1 - (j - (r + 1)) = n + 1 - 1 - (j - r) by omega]
      · rw [if_neg h2, if_neg (by omega)]
theorem x_kd_full (d : Int64) : ∀ (n : Nat) (u : x_S) (r : Nat), x_rs u = nI r → r + n ≤ 259 → x_kdF d n u = (x_st u, x_md u, x_bt u, x_cm u, x_hr u, nI (r + n), x_hv u, x_vs u, x_wz u, x_sz u, kdF d n r (x_ro u), x_rc u, x_cn u, x_wt u, x_sn u) := by
  intro n
  induction n with
  | zero => intro u r e h; rw [Nat.add_zero, ← e]; rfl
  | succ n ih =>
    intro u r e h
    rw [x_kdF, e, if_neg (nI_pos (by omega)), if_neg (show ¬ (259 : Int32) ≤ nI r from (show ¬ nI 259 ≤ nI r from nI_ge (by omega) (by decide))), nI_clamp (by omega), nI_1, ih _ (r + 1) rfl (by omega)]
    show (x_st u, x_md u, x_bt u, x_cm u, x_hr u, nI (r + 1 + n), x_hv u, x_vs u, x_wz u, x_sz u, kdF d n (r + 1) (upd (x_ro u) r (x_byteOf d (nI n))), x_rc u, x_cn u, x_wt u, x_sn u) = _
    rw [show r + 1 + n = r + (n + 1) by omega]
    rfl
theorem m_ends_full (u : m_S) : m_ends u = (m_th u, 1, m_md u, 0, 0, if nI (m_rw u) ≤ 0 then m_sz u else m_rw u, m_wn u, m_sn u, m_bi u, m_ro u, cpF (m_ro u) (m_rw u) 0 (m_rc u), m_wt u, m_se u, upd (m_cn u) 1 (m_cn u 1 + 1)) := by
  unfold m_ends
  rw [m_en_full]
  by_cases h : nI (m_rw u) ≤ 0
  · rw [if_pos h, if_pos h]; rfl
  · rw [if_neg h, if_neg h]; rfl
