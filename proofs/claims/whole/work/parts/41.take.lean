def x_tx (u : x_S) : Int32 × (Nat → Int32) × Int32 × (Nat → Int32) := (x_wz u, x_wt u, x_sz u, x_sn u)
def m_tx (v : m_S) : Nat × (Nat → Int32) × Nat × (Nat → Int32) := (m_wn v, m_wt v, m_sn v, m_se v)
theorem R_tx_eq {u u' : x_S} {v v' : m_S} (hu : x_tx u' = x_tx u) (hv : m_tx v' = m_tx v) (h : R_tx u v) : R_tx u' v' := by
  unfold x_tx at hu
  unfold m_tx at hv
  rw [Prod.mk.injEq, Prod.mk.injEq, Prod.mk.injEq] at hu hv
  obtain ⟨a1, a2, a3, a4⟩ := hu
  obtain ⟨b1, b2, b3, b4⟩ := hv
  unfold R_tx
  rw [a1, a2, a3, a4, b1, b2, b3, b4]
  exact h
theorem x_tx_et (u : x_S) : x_tx (x_endTransmission u) = x_tx u := by
  unfold x_endTransmission
  split <;> rfl
theorem x_tx_kd (d : Int64) : ∀ (n : Nat) (u : x_S), x_tx (x_kdF d n u) = x_tx u := by
  intro n
  induction n with
  | zero => intro u; rfl
  | succ n ih =>
    intro u
    rw [x_kdF]
    split
    · rfl
    · split
      · rfl
      · rw [ih]; rfl
theorem x_tx_keep (u : x_S) (a : Int64) : x_tx (x_keepData u a) = x_tx u := by
  unfold x_keepData
  split
  · rw [x_tx_et, x_tx_kd]; rfl
  · rw [x_tx_kd]; rfl
theorem x_tx_lab (u : x_S) : x_tx (x_lookAtBlock u) = x_tx u := by
  rw [x_lab_eq]
  split
  · exact x_tx_keep _ _
  · split
    · exact x_tx_et _
    · split
      · exact x_tx_et _
      · rw [x_tx_keep]; rfl
theorem x_tx_lfs (u : x_S) : x_tx (x_lookForStart u) = x_tx u := by
  unfold x_lookForStart
  split
  · split
    · rfl
    · split
      · split <;> rfl
      · rfl
  · rfl
theorem x_tx_tb (u : x_S) (a : Int64) : x_tx (x_takeBit u a) = x_tx u := by
  unfold x_takeBit
  split
  · rw [x_tx_lfs]; rfl
  · split
    · rw [x_tx_lab]; rfl
    · rfl
theorem x_tx_tk (w : Int64) : ∀ (n : Nat) (u : x_S), x_tx (x_tkF w n u) = x_tx u := by
  intro n
  induction n with
  | zero => intro u; rfl
  | succ n ih => intro u; rw [x_tkF, ih, x_tx_tb]
theorem m_tx_ends (v : m_S) : m_tx (m_ends v) = m_tx v := by rw [m_ends_full]; rfl
theorem m_tx_block (v : m_S) : m_tx (m_block v) = m_tx v := by
  by_cases h : m_wrong v = (-2)
  · rw [(m_end_block v h).1]; exact m_tx_ends v
  · rw [(m_keep_full v _ rfl h).1]
    split
    · rw [m_tx_ends]; rfl
    · rfl
theorem m_tx_look (v : m_S) : m_tx (m_look v) = m_tx v := by
  unfold m_look
  split
  · rfl
  · split
    · split <;> rfl
    · rfl
theorem m_tx_bit (v : m_S) (b : Int32) : m_tx (m_bit v b) = m_tx v := by
  unfold m_bit
  split
  · split
    · rw [m_tx_block]; rfl
    · rfl
  · split
    · rw [m_sh_full, m_tx_look]; rfl
    · split
      · rw [m_tx_look]; rfl
      · rfl
theorem m_tx_tk (w : Int64) : ∀ (n : Nat) (v : m_S), m_tx (m_tkF w n v) = m_tx v := by
  intro n
  induction n with
  | zero => intro v; rfl
  | succ n ih => intro v; rw [m_tkF, ih, m_tx_bit]
theorem i_sum (z r a c : Int32) : (z + r) + (a - (c + r)) = z + (a - c) := by grind
theorem r_tk (w : Int64) : ∀ (n C : Nat) (u : x_S) (v : m_S) (z : Int32), n ≤ 64 → C + n < 2 ^ 31 → R_rx C u v → ¬ m_st v = 0 → R_rx (C + n) (x_tkF w n u) (m_tkF w n v) ∧ m_tkE w n v z = z + (x_cn (x_tkF w n u) 1 - x_cn u 1) := by
  intro n
  induction n with
  | zero =>
    intro C u v z _ _ h _
    refine ⟨h, ?_⟩
    show z = z + (x_cn u 1 - x_cn u 1)
    rw [Int32.sub_self, Int32.add_zero]
  | succ n ih =>
    intro C u v z hn hC h hs
    have hb : uN w / 2 ^ n % 2 < 2 := cr_tb2 _ _
    obtain ⟨s1, s2⟩ := r_step h (by omega) hs hb
    obtain ⟨i1, i2⟩ := ih (C + 1) _ _ (z + m_bit_r v (nI (uN w / 2 ^ n % 2))) (by omega) (by omega) s1 (m_bit_st hs)
    rw [x_tkF, m_tkF, m_tkE, x_bit_eq w (by omega), m_tb_eq w (by omega), i2, s2, i_sum]
    rw [show C + (n + 1) = C + 1 + n by omega]
    exact ⟨i1, rfl⟩
theorem r_take {k : Nat} {u : x_S} {v : m_S} (hk : k < 512) (h : Rel k u v) (a0 : Int32) (a1 : Int64) : x_take_r u a0 a1 = m_take_r v a0 a1 ∧ Rel (k + 1) (x_take u a0 a1) (m_take v a0 a1) := by
  have ht := h.th0
  have e1 := h.1.1
  unfold x_take_r m_take_r x_take m_take
  rw [e1]
  by_cases h0 : m_st v = 0
  · rw [if_pos h0, if_pos h0, if_pos h0, if_pos h0]; exact ⟨rfl, ht⟩
  · rw [if_neg h0, if_neg h0, if_neg h0, if_neg h0]
    by_cases h1 : a0 < 1
    · rw [if_pos h1, if_pos h1, if_pos h1, if_pos h1]; exact ⟨rfl, ht⟩
    · rw [if_neg h1, if_neg h1, if_neg h1, if_neg h1]
      by_cases h2 : a0 ≤ 64
      · rw [if_pos h2, if_pos h2, if_pos h2, if_pos h2]
        obtain ⟨-, hn⟩ := j_take h1 h2
        generalize a0.toNatClampNeg = n at hn
        have hx : R_rx (64 * k) u (m_th0 v) := h.1
        obtain ⟨i1, i2⟩ := r_tk a1 n (64 * k) u (m_th0 v) 0 hn (by omega) hx h0
        refine ⟨?_, i1.mono (by omega), R_tx_eq (x_tx_tk a1 n u) (m_tx_tk a1 n (m_th0 v)) h.2⟩
        refine Eq.trans ?_ i2.symm
        rw [Int32.zero_add]
      · rw [if_neg h2, if_neg h2, if_neg h2, if_neg h2]; exact ⟨rfl, ht⟩
