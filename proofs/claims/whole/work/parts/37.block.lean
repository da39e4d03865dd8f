/-! the end of a transmission, and what a block does, on both sides -/
theorem x_end_full (u : x_S) (r : Nat) (hr : r < 2 ^ 31) (e : x_rs u = nI r) : x_endTransmission u = if r = 0 then x_beginSearch (x_st u, x_md u, x_bt u, x_cm u, x_hr u, x_rs u, x_hv u, x_vs u, x_wz u, x_sz u, x_ro u, x_rc u, upd (x_cn u) 1 (x_cn u 1 + 1), x_wt u, x_sn u) else x_beginSearch (x_st u, x_md u, x_bt u, x_cm u, x_hv u, nI r, x_hr u, nI r, x_wz u, x_sz u, x_rc u, x_ro u, upd (x_cn u) 1 (x_cn u 1 + 1), x_wt u, x_sn u) := by
  unfold x_endTransmission
  rw [e]
  by_cases h : r = 0
  · rw [if_pos h, if_pos (by rw [h]; exact Int32.le_refl 0)]
  · rw [if_neg h, if_neg (nI_nle (by omega) hr)]
/-- an end: both are related in the search that begins -/
theorem r_end {C : Nat} {u : x_S} {v : m_S} (h2 : x_md u = m_md v) (h3 : ∀ j, j < 5 → x_cn u j = m_cn v j) (h4 : m_sz v ≤ 259 ∧ x_vs u = nI (m_sz v) ∧ ∀ j, j < m_sz v → x_rc u j = m_rc v j) (hr : m_rw v ≤ 259) (hrs : x_rs u = nI (m_rw v)) (hro : ∀ j, j < m_rw v → x_ro u j = m_ro v j) : R_rx C (x_endTransmission u) (m_ends v) ∧ x_cn (x_endTransmission u) 1 = x_cn u 1 + 1 := by
  have h3' : ∀ j, j < 5 → upd (x_cn u) 1 (x_cn u 1 + 1) j = upd (m_cn v) 1 (m_cn v 1 + 1) j := by
    intro j hj
    by_cases e : j = 1
    · subst e; rw [pk_us, pk_us, h3 1 (by decide)]
    · rw [pk_un e, pk_un e]; exact h3 j hj
  rw [x_end_full u (m_rw v) (by omega) hrs, m_ends_full]
  by_cases h : m_rw v = 0
  · rw [if_pos h]
    have e0 : nI (m_rw v) ≤ 0 := by rw [h]; exact Int32.le_refl 0
    rw [if_pos e0]
    refine ⟨⟨rfl, h2, h3', ⟨h4.1, h4.2.1, ?_⟩, Or.inr (Or.inl ⟨rfl, rfl, 0, Nat.zero_le _, rfl, rfl, fun j hj => absurd hj (Nat.not_lt_zero j)⟩)⟩, (show upd (x_cn u) 1 (x_cn u 1 + 1) 1 = x_cn u 1 + 1 from pk_us)⟩
    intro j hj
    show x_rc u j = cpF (m_ro v) (m_rw v) 0 (m_rc v) j
    rw [cpF_at, if_neg (by omega)]
    exact h4.2.2 j hj
  · rw [if_neg h]
    have e0 : ¬ nI (m_rw v) ≤ 0 := nI_nle (by omega) (by omega)
    rw [if_neg e0]
    refine ⟨⟨rfl, h2, h3', ⟨hr, rfl, ?_⟩, Or.inr (Or.inl ⟨rfl, rfl, 0, Nat.zero_le _, rfl, rfl, fun j hj => absurd hj (Nat.not_lt_zero j)⟩)⟩, (show upd (x_cn u) 1 (x_cn u 1 + 1) 1 = x_cn u 1 + 1 from pk_us)⟩
    intro j hj
    have hj : j < m_rw v := hj
    show x_ro u j = cpF (m_ro v) (m_rw v) 0 (m_rc v) j
    rw [cpF_at, if_pos (by omega)]
    exact hro j hj
/-- the reference's block that is kept -/
theorem m_keep_full (v : m_S) (w : Int32) (hw : m_wrong v = w) (hne : ¬ w = (-2)) : m_block v = (if nI (m_rw v + 7) = 259 then m_ends (m_th v, m_st v, m_md v, 0, m_rw v + 7, m_sz v, m_wn v, m_sn v, m_bi v, blF (m_bi v) w 7 0 (m_rw v) (m_ro v), m_rc v, m_wt v, m_se v, upd (upd (m_cn v) 2 (m_cn v 2 + 1)) 3 ((upd (m_cn v) 2 (m_cn v 2 + 1)) 3 + (if w < 0 then 0 else 1))) else (m_th v, m_st v, m_md v, 0, m_rw v + 7, m_sz v, m_wn v, m_sn v, m_bi v, blF (m_bi v) w 7 0 (m_rw v) (m_ro v), m_rc v, m_wt v, m_se v, upd (upd (m_cn v) 2 (m_cn v 2 + 1)) 3 ((upd (m_cn v) 2 (m_cn v 2 + 1)) 3 + (if w < 0 then 0 else 1)))) ∧ m_block_r v = (if nI (m_rw v + 7) = 259 then 1 else 0) := by
  unfold m_block m_block_r
  rw [hw, if_neg hne, if_neg hne, m_bl_full]
  by_cases h : w < 0
  · rw [if_pos h, if_pos h, if_pos h]
    exact ⟨rfl, rfl⟩
  · rw [if_neg h, if_neg h, if_neg h]
    exact ⟨rfl, rfl⟩
theorem m_end_block (v : m_S) (hw : m_wrong v = (-2)) : m_block v = m_ends v ∧ m_block_r v = 1 := by
  unfold m_block m_block_r
  rw [if_pos hw, if_pos hw]
  exact ⟨rfl, rfl⟩
