def x_setst (u : x_S) (a : Int32) : x_S := (a, x_md u, x_bt u, x_cm u, x_hr u, x_rs u, x_hv u, x_vs u, x_wz u, x_sz u, x_ro u, x_rc u, x_cn u, x_wt u, x_sn u)
def m_setst (u : m_S) (a : Int32) : m_S := (0, a, m_md u, 0, 0, m_sz u, m_wn u, m_sn u, m_bi u, m_ro u, m_rc u, m_wt u, m_se u, m_cn u)
theorem Rel.th0 {k : Nat} {u : x_S} {v : m_S} (h : Rel k u v) : Rel (k + 1) u (m_th0 v) := h.next
theorem r_state {k : Nat} {u : x_S} {v : m_S} (h : Rel k u v) : x_state u = m_state_r v ∧ Rel (k + 1) u (m_state v) := ⟨h.1.1, h.th0⟩
theorem r_size {k : Nat} {u : x_S} {v : m_S} (h : Rel k u v) : x_size u = m_size_r v ∧ Rel (k + 1) u (m_size v) := ⟨h.1.2.2.2.1.2.1, h.th0⟩
theorem r_count {k : Nat} {u : x_S} {v : m_S} (h : Rel k u v) (a0 : Int32) : x_count u a0 = m_count_r v a0 ∧ Rel (k + 1) u (m_count v a0) := by
  have hs : m_count v a0 = m_th0 v := by
    unfold m_count
    split
    · rfl
    · split <;> rfl
  rw [hs]
  refine ⟨?_, h.th0⟩
  unfold x_count m_count_r
  rcases pk_ix a0 (n := 5) (by decide) with h0 | h0 | ⟨j, hj, rfl⟩
  · rw [if_pos h0, if_pos h0]
  · have h1 : ¬ a0 < 0 := fun q => absurd (Int32.lt_of_le_of_lt h0 q) (by decide)
    have h2 : ¬ a0 ≤ 4 := fun q => absurd (Int32.le_trans h0 q) (by decide)
    rw [if_neg h1, if_neg h1, if_pos (show (5 : Int32) ≤ a0 from h0), if_neg h2]
  · rw [if_neg (nI_pos (by omega)), if_neg (nI_pos (by omega)), if_neg (show ¬ (5 : Int32) ≤ nI j from (show ¬ nI 5 ≤ nI j from nI_ge hj (by decide))), if_pos (show nI j ≤ 4 from (show nI j ≤ nI 4 from nI_le (by omega) (by decide))), nI_clamp (by omega)]
    exact h.1.2.2.1 j hj
theorem r_byteAt {k : Nat} {u : x_S} {v : m_S} (h : Rel k u v) (a0 : Int32) : x_byteAt u a0 = m_byteAt_r v a0 ∧ Rel (k + 1) u (m_byteAt v a0) := by
  have hs : m_byteAt v a0 = m_th0 v := by
    unfold m_byteAt
    split
    · rfl
    · split <;> rfl
  rw [hs]
  refine ⟨?_, h.th0⟩
  obtain ⟨h1, h2, h3⟩ := h.1.2.2.2.1
  unfold x_byteAt m_byteAt_r
  rw [h2]
  rcases pk_ix a0 (n := m_sz v) (by omega) with h0 | h0 | ⟨j, hj, rfl⟩
  · rw [if_pos h0, if_pos h0]
  · have h5 : ¬ a0 < nI (m_sz v) := fun q => Int32.lt_irrefl (Int32.lt_of_le_of_lt h0 q)
    rw [if_pos h0, if_neg h5]
  · rw [if_neg (nI_pos (by omega)), if_neg (nI_pos (by omega)), if_neg (nI_ge hj (by omega)), if_neg (show ¬ (259 : Int32) ≤ nI j from (show ¬ nI 259 ≤ nI j from nI_ge (by omega) (by decide))), if_pos (nI_lt hj (by omega)), nI_clamp (by omega)]
    exact h3 j hj
theorem r_sent {k : Nat} {u : x_S} {v : m_S} (h : Rel k u v) (a0 : Int32) : x_sent u a0 = m_sent_r v a0 ∧ Rel (k + 1) u (m_sent v a0) := by
  have hs : m_sent v a0 = m_th0 v := by
    unfold m_sent
    split
    · rfl
    · split <;> rfl
  rw [hs]
  refine ⟨?_, h.th0⟩
  obtain ⟨h1, h2, h3⟩ := h.2.2
  unfold x_sent m_sent_r
  rw [h2]
  rcases pk_ix a0 (n := m_sn v) (by omega) with h0 | h0 | ⟨j, hj, rfl⟩
  · rw [if_pos h0, if_pos h0]
  · have h5 : ¬ a0 < nI (m_sn v) := fun q => Int32.lt_irrefl (Int32.lt_of_le_of_lt h0 q)
    rw [if_pos h0, if_neg h5]
  · rw [if_neg (nI_pos (by omega)), if_neg (nI_pos (by omega)), if_neg (nI_ge hj (by omega)), if_neg (show ¬ (306 : Int32) ≤ nI j from (show ¬ nI 306 ≤ nI j from nI_ge (by omega) (by decide))), if_pos (nI_lt hj (by omega)), nI_clamp (by omega)]
    exact h3 j hj
theorem r_mending {k : Nat} {u : x_S} {v : m_S} (h : Rel k u v) (b : Bool) : Rel (k + 1) (x_mending u b) (m_mending v b) := by
  obtain ⟨⟨h1, h2, h3⟩, h4⟩ := h.next
  exact ⟨⟨h1, rfl, h3⟩, h4⟩
theorem r_off {C : Nat} {u : x_S} {v : m_S} (h : R_rx C u v) : R_rx C (x_setst u 0) (m_setst v 0) := by
  obtain ⟨h1, h2, h3, h4, h5⟩ := h
  exact ⟨rfl, h2, h3, h4, Or.inl ⟨rfl, rfl, rfl⟩⟩
theorem r_on {C : Nat} {u : x_S} {v : m_S} (h : R_rx C u v) : R_rx C (x_beginSearch u) (m_setst v 1) := by
  obtain ⟨h1, h2, h3, h4, h5⟩ := h
  exact ⟨rfl, h2, h3, h4, Or.inr (Or.inl ⟨rfl, rfl, 0, Nat.zero_le _, rfl, rfl, fun j hj => absurd hj (Nat.not_lt_zero j)⟩)⟩
theorem r_turn {k : Nat} {u : x_S} {v : m_S} (h : Rel k u v) (b : Bool) : x_turn_r u b = m_turn_r v b ∧ Rel (k + 1) (x_turn u b) (m_turn v b) := by
  have e1 := h.1.1
  have ht := h.th0
  have ho : Rel (k + 1) (x_setst u 0) (m_setst v 0) := ⟨r_off h.next.1, h.2⟩
  have hn : Rel (k + 1) (x_beginSearch u) (m_setst v 1) := ⟨r_on h.next.1, h.2⟩
  refine ⟨?_, ?_⟩
  · unfold x_turn_r m_turn_r
    rw [e1]
  · unfold x_turn m_turn
    rw [e1]
    split
    · split
      · exact ht
      · exact hn
    · split
      · exact ht
      · split
        · exact ho
        · exact hn
theorem r_put {k : Nat} {u : x_S} {v : m_S} (h : Rel k u v) (a0 : Int32) : x_put_r u a0 = m_put_r v a0 ∧ Rel (k + 1) (x_put u a0) (m_put v a0) := by
  obtain ⟨⟨h1, h2, h3⟩, h4⟩ := h.2
  by_cases hw : m_wn v = 259
  · unfold x_put x_put_r m_put m_put_r
    rw [h2, hw, if_neg (nI_pos (by decide)), if_neg (nI_pos (by decide)), if_neg (show ¬ nI 259 < 259 by decide), if_neg (show ¬ nI 259 < 259 by decide), if_pos (show nI 259 = 259 from rfl), if_pos (show nI 259 = 259 from rfl)]
    have ht := h.th0
    unfold m_th0 at ht
    rw [hw] at ht
    exact ⟨rfl, ht⟩
  · have hlt : m_wn v < 259 := by omega
    have hne : ¬ nI (m_wn v) = 259 := fun e => hw ((nI_eq (by omega) (by decide)).mp (show nI (m_wn v) = nI 259 from e))
    have em : m_put v a0 = (0, m_st v, m_md v, m_mn v, m_rw v, m_sz v, m_wn v + 1, m_sn v, m_bi v, m_ro v, m_rc v, upd (m_wt v) (m_wn v) (a0 &&& 255), m_se v, m_cn v) := by
      unfold m_put
      rw [if_neg hne]
    rw [x_put_at a0 h2 hlt, em]
    refine ⟨?_, h.next.1, ⟨?_, rfl, ?_⟩, h4⟩
    · unfold x_put_r m_put_r
      rw [h2, if_neg (nI_pos (by omega)), if_pos (show nI (m_wn v) < 259 from (show nI (m_wn v) < nI 259 from nI_lt hlt (by decide))), if_neg hne, nI_1]
    · show m_wn v + 1 ≤ 259
      omega
    · intro j hj
      have hj : j < m_wn v + 1 := hj
      show upd (x_wt u) (m_wn v) (a0 &&& 255) j = upd (m_wt v) (m_wn v) (a0 &&& 255) j ∧ ∃ b, b < 256 ∧ upd (m_wt v) (m_wn v) (a0 &&& 255) j = nI b
      by_cases e : j = m_wn v
      · subst e
        rw [pk_us, pk_us]
        exact ⟨rfl, pk_andE a0 8 (by decide)⟩
      · rw [pk_un e, pk_un e]
        exact h3 j (by omega)
