/-! the relation between the class's state and the reference's behind k calls -/
def bq (x : Int64) (j : Nat) : Nat := uN x / 2 ^ j % 2
/-- the receivers: C bounds the bits since a search began -/
def R_rx (C : Nat) (u : x_S) (v : m_S) : Prop :=
  x_st u = m_st v ∧ x_md u = m_md v ∧ (∀ j, j < 5 → x_cn u j = m_cn v j) ∧
  (m_sz v ≤ 259 ∧ x_vs u = nI (m_sz v) ∧ ∀ j, j < m_sz v → x_rc u j = m_rc v j) ∧
  ((m_st v = 0 ∧ m_mn v = 0 ∧ m_rw v = 0) ∨
   (m_st v = 1 ∧ m_rw v = 0 ∧ ∃ c, c ≤ C ∧ x_cm u = nI c ∧ m_mn v = min c 16 ∧ ∀ j, j < m_mn v → m_bi v j = nI (bq (x_bt u) (m_mn v - 1 - j))) ∨
   (m_st v = 2 ∧ m_mn v < 64 ∧ x_cm u = nI (m_mn v) ∧ (∀ j, j < m_mn v → m_bi v j = nI (bq (x_bt u) (m_mn v - 1 - j))) ∧ (∃ q, q ≤ 36 ∧ m_rw v = 7 * q) ∧ x_rs u = nI (m_rw v) ∧ ∀ j, j < m_rw v → x_ro u j = m_ro v j))
/-- the senders -/
def R_tx (u : x_S) (v : m_S) : Prop :=
  (m_wn v ≤ 259 ∧ x_wz u = nI (m_wn v) ∧ ∀ j, j < m_wn v → x_wt u j = m_wt v j ∧ ∃ b, b < 256 ∧ m_wt v j = nI b) ∧
  (m_sn v ≤ 306 ∧ x_sz u = nI (m_sn v) ∧ ∀ j, j < m_sn v → x_sn u j = m_se v j)
def Rel (k : Nat) (u : x_S) (v : m_S) : Prop := R_rx (64 * k) u v ∧ R_tx u v
theorem R_rx.mono {C D : Nat} {u : x_S} {v : m_S} (h : R_rx C u v) (hD : C ≤ D) : R_rx D u v := by
  obtain ⟨h1, h2, h3, h4, h5⟩ := h
  refine ⟨h1, h2, h3, h4, ?_⟩
  rcases h5 with h5 | ⟨a1, a2, c, a3, a4⟩ | h5
  · exact Or.inl h5
  · exact Or.inr (Or.inl ⟨a1, a2, c, Nat.le_trans a3 hD, a4⟩)
  · exact Or.inr (Or.inr h5)
theorem Rel.next {k : Nat} {u : x_S} {v : m_S} (h : Rel k u v) : Rel (k + 1) u v := ⟨h.1.mono (by omega), h.2⟩
theorem R_rx.mI {C : Nat} {u : x_S} {v : m_S} (h : R_rx C u v) : m_I v := by
  obtain ⟨-, -, -, -, h5⟩ := h
  rcases h5 with ⟨a1, a2, a3⟩ | ⟨a1, a2, c, -, -, a3, -⟩ | ⟨a1, a2, -, -, ⟨q, a3, a4⟩, -⟩
  · exact ⟨by omega, fun _ => by omega, 0, by decide, a3⟩
  · exact ⟨by omega, fun _ => by omega, 0, by decide, a2⟩
  · exact ⟨a2, fun q => absurd a1 q, q, a3, a4⟩
theorem Rel.safe {k : Nat} {u : x_S} {v : m_S} (h : Rel k u v) : m_I v ∧ m_sz v ≤ 259 ∧ m_sn v ≤ 306 ∧ m_wn v ≤ 259 ∧ x_wz u = nI (m_wn v) :=
  ⟨h.1.mI, h.1.2.2.2.1.1, h.2.2.1, h.2.1.1, h.2.1.2.1⟩
theorem Rel.init (hr hv : Nat) : Rel 0 (x_init hr hv) m_init := by
  refine ⟨⟨rfl, rfl, fun _ _ => rfl, ⟨by decide, rfl, fun j h => absurd h (Nat.not_lt_zero j)⟩, Or.inl ⟨rfl, rfl, rfl⟩⟩, ⟨by decide, rfl, fun j h => absurd h (Nat.not_lt_zero j)⟩, ⟨by decide, rfl, fun j h => absurd h (Nat.not_lt_zero j)⟩⟩
theorem j_law4 {k L : Nat} (hk : 4 * k < 2 ^ 30) (hL : L < 2 ^ 30) (h : ¬ nI L - 4 < nI (4 * k)) : 4 * k + 4 ≤ L := by
  rw [Int32.lt_iff_toInt_lt, nI_toInt (by omega), show (nI L - 4).toInt = (L : Int) - 4 from pk_sub_toInt (b := 4) hL (by decide)] at h
  omega
