theorem m_en_eq : ∀ (n k : Nat) (u : m_S), m_st (m_enF n k u) = m_st u ∧ m_mn (m_enF n k u) = m_mn u ∧ m_rw (m_enF n k u) = m_rw u := by
  intro n
  induction n with
  | zero => intro k u; exact ⟨rfl, rfl, rfl⟩
  | succ n ih => intro k u; rw [m_enF]; exact ih _ _
theorem m_bl_st (w : Int32) : ∀ (n k : Nat) (u : m_S), m_st (m_blF w n k u) = m_st u := by
  intro n
  induction n with
  | zero => intro k u; rfl
  | succ n ih => intro k u; rw [m_blF, ih]
theorem m_sh_f : ∀ (n k : Nat) (u : m_S), m_st (m_shF n k u) = m_st u ∧ m_rw (m_shF n k u) = m_rw u := by
  intro n
  induction n with
  | zero => intro k u; exact ⟨rfl, rfl⟩
  | succ n ih => intro k u; rw [m_shF]; exact ih _ _
theorem m_ends_f (u : m_S) : m_st (m_ends u) = 1 ∧ m_mn (m_ends u) = 0 ∧ m_rw (m_ends u) = 0 := by
  unfold m_ends
  split
  · exact ⟨rfl, rfl, rfl⟩
  · exact ⟨rfl, rfl, rfl⟩
theorem m_block_f (u : m_S) : (m_st (m_block u) = 1 ∧ m_mn (m_block u) = 0 ∧ m_rw (m_block u) = 0) ∨ (m_st (m_block u) = m_st u ∧ m_mn (m_block u) = 0 ∧ m_rw (m_block u) = m_rw u + 7 ∧ ¬ nI (m_rw u + 7) = 259) := by
  unfold m_block
  split
  · exact Or.inl (m_ends_f _)
  · split
    · split
      · exact Or.inl (m_ends_f _)
      · rename_i h
        rw [m_bl_rw] at h
        exact Or.inr ⟨m_bl_st _ _ _ _, rfl, m_bl_rw _ _ _ _, h⟩
    · split
      · exact Or.inl (m_ends_f _)
      · rename_i h
        rw [m_bl_rw] at h
        exact Or.inr ⟨m_bl_st _ _ _ _, rfl, m_bl_rw _ _ _ _, h⟩
theorem m_look_f (u : m_S) : m_look u = u ∨ (m_st (m_look u) = 2 ∧ m_mn (m_look u) = 0 ∧ m_rw (m_look u) = 0) := by
  unfold m_look
  split
  · exact Or.inr ⟨rfl, rfl, rfl⟩
  · split
    · split
      · exact Or.inl rfl
      · exact Or.inr ⟨rfl, rfl, rfl⟩
    · exact Or.inl rfl
def m_I (u : m_S) : Prop := m_mn u < 64 ∧ (¬ m_st u = 2 → m_mn u ≤ 16) ∧ ∃ k, k ≤ 36 ∧ m_rw u = 7 * k
theorem m_I_rw {u : m_S} (h : m_I u) : m_rw u ≤ 252 := by
  obtain ⟨-, -, k, h1, h2⟩ := h
  omega
theorem m_I_look {u : m_S} (h : m_I u) : m_I (m_look u) := by
  rcases m_look_f u with e | ⟨e1, e2, e3⟩
  · rw [e]; exact h
  · exact ⟨by omega, fun _ => by omega, 0, by decide, e3⟩
theorem m_bit_I {u : m_S} (h : m_I u) (b : Int32) : m_I (m_bit u b) := by
  obtain ⟨h1, h2, k, h3, h4⟩ := h
  unfold m_bit
  split
  · rename_i hs
    split
    · rcases m_block_f (m_th u, m_st u, m_md u, m_mn u + 1, m_rw u, m_sz u, m_wn u, m_sn u, upd (m_bi u) (m_mn u) b, m_ro u, m_rc u, m_wt u, m_se u, m_cn u) with ⟨e1, e2, e3⟩ | ⟨e1, e2, e3, e4⟩
      · exact ⟨by omega, fun _ => by omega, 0, by decide, e3⟩
      · have e3 : m_rw (m_block (m_th u, m_st u, m_md u, m_mn u + 1, m_rw u, m_sz u, m_wn u, m_sn u, upd (m_bi u) (m_mn u) b, m_ro u, m_rc u, m_wt u, m_se u, m_cn u)) = m_rw u + 7 := e3
        have e4 : ¬ nI (m_rw u + 7) = 259 := e4
        have e5 : m_rw u + 7 ≠ 259 := fun e => e4 (by rw [e]; rfl)
        exact ⟨by omega, fun _ => by omega, k + 1, by omega, by omega⟩
    · rename_i hn
      have e5 : m_mn u + 1 ≠ 64 := fun e => hn (by rw [e]; rfl)
      exact ⟨show m_mn u + 1 < 64 by omega, fun q => absurd hs q, k, h3, h4⟩
  · rename_i hs
    have h5 := h2 hs
    split
    · refine m_I_look ⟨show 16 < 64 by decide, fun _ => Nat.le_refl 16, k, h3, ?_⟩
      exact (m_sh_f _ _ _).2.trans h4
    · rename_i hn
      have e5 : m_mn u ≠ 16 := fun e => hn (by rw [e]; rfl)
      split
      · exact m_I_look ⟨show m_mn u + 1 < 64 by omega, fun _ => show m_mn u + 1 ≤ 16 by omega, k, h3, h4⟩
      · exact ⟨show m_mn u + 1 < 64 by omega, fun _ => show m_mn u + 1 ≤ 16 by omega, k, h3, h4⟩
