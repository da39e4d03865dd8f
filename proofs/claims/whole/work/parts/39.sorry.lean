theorem r_turn {k : Nat} {u : x_S} {v : m_S} (h : Rel k u v) (b : Bool) : x_turn_r u b = m_turn_r v b ∧ Rel (k + 1) (x_turn u b) (m_turn v b) := sorry
theorem r_mending {k : Nat} {u : x_S} {v : m_S} (h : Rel k u v) (b : Bool) : Rel (k + 1) (x_mending u b) (m_mending v b) := sorry
theorem r_take {k : Nat} {u : x_S} {v : m_S} (hk : k < 512) (h : Rel k u v) (a0 : Int32) (a1 : Int64) : x_take_r u a0 a1 = m_take_r v a0 a1 ∧ Rel (k + 1) (x_take u a0 a1) (m_take v a0 a1) := sorry
theorem r_state {k : Nat} {u : x_S} {v : m_S} (h : Rel k u v) : x_state u = m_state_r v ∧ Rel (k + 1) u (m_state v) := sorry
theorem r_count {k : Nat} {u : x_S} {v : m_S} (h : Rel k u v) (a0 : Int32) : x_count u a0 = m_count_r v a0 ∧ Rel (k + 1) u (m_count v a0) := sorry
theorem r_size {k : Nat} {u : x_S} {v : m_S} (h : Rel k u v) : x_size u = m_size_r v ∧ Rel (k + 1) u (m_size v) := sorry
theorem r_byteAt {k : Nat} {u : x_S} {v : m_S} (h : Rel k u v) (a0 : Int32) : x_byteAt u a0 = m_byteAt_r v a0 ∧ Rel (k + 1) u (m_byteAt v a0) := sorry
theorem r_put {k : Nat} {u : x_S} {v : m_S} (h : Rel k u v) (a0 : Int32) : x_put_r u a0 = m_put_r v a0 ∧ Rel (k + 1) (x_put u a0) (m_put v a0) := sorry
theorem r_send {k : Nat} {u : x_S} {v : m_S} (h : Rel k u v) : x_send_r u ((m_wn v + 6) / 7) = m_send_r v ∧ Rel (k + 1) (x_send u ((m_wn v + 6) / 7)) (m_send v) := sorry
theorem r_sent {k : Nat} {u : x_S} {v : m_S} (h : Rel k u v) (a0 : Int32) : x_sent u a0 = m_sent_r v a0 ∧ Rel (k + 1) u (m_sent v a0) := sorry
