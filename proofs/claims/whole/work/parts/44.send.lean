def S_i (Q : Nat) (u : x_S) (v : m_S) : Prop := x_sz u = nI (m_sn v) ∧ (∀ j, j < m_sn v → x_sn u j = m_se v j) ∧ ∀ j, j < Q → x_wt u j = m_wt v j ∧ ∃ b, b < 256 ∧ m_wt v j = nI b
theorem s_block {Q i : Nat} {u : x_S} {v : m_S} (h : S_i Q u v) (hi : 7 * i + 7 ≤ Q) (hs : m_sn v + 8 ≤ 306) : S_i Q (x_sendBytes u (x_blockOf (x_waitingData u (7 * i))) 8) (m_out (m_ocF i 7 0 v) (m_check (m_ocF i 7 0 v) (7 * i))) := by
  obtain ⟨h1, h2, h3⟩ := h
  have hg : ∀ j, j < Q → m_wt v j = nI ((fun j => (m_wt v j).toNatClampNeg) j) ∧ (fun j => (m_wt v j).toNatClampNeg) j < 256 := by
    intro j hj
    obtain ⟨-, b, hb, e⟩ := h3 j hj
    show m_wt v j = nI (m_wt v j).toNatClampNeg ∧ (m_wt v j).toNatClampNeg < 256
    rw [e, nI_clamp (by omega)]
    exact ⟨rfl, hb⟩
  generalize (fun j => (m_wt v j).toNatClampNeg) = g at hg
  have hgx : ∀ j, j < Q → x_wt u j = nI (g j) ∧ g j < 256 := fun j hj => ⟨(h3 j hj).1.trans (hg j hj).1, (hg j hj).2⟩
  have ed : x_waitingData u (7 * i) = lN (dN g i) := x_wd_N hgx 7 (7 * i) 0 (by omega) (by decide) (by decide)
  obtain ⟨hD, hDb⟩ := dN_b (g := g) (i := i) (fun t ht => (hg (7 * i + t) (by omega)).2)
  obtain ⟨hb7, hb0⟩ := x_blk_b hD
  rw [ed, x_sendBytes, x_sb_full _ 8 u (m_sn v) h1 hs, m_oc_full, m_check_eq (g := g) (i := i) (u := (m_th v, m_st v, m_md v, m_mn v, m_rw v, m_sz v, m_wn v, m_sn v + 7, m_bi v, m_ro v, m_rc v, m_wt v, ocF (m_wt v) i 7 0 (m_sn v) (m_se v), m_cn v)) (fun t ht => hg (7 * i + t) (by omega))]
  refine ⟨rfl, ?_, h3⟩
  intro j hj
  have hj : j < m_sn v + 7 + 1 := hj
  show kdF (x_blockOf (lN (dN g i))) 8 (m_sn v) (x_sn u) j = upd (ocF (m_wt v) i 7 0 (m_sn v) (m_se v)) (m_sn v + 7) (nI (2 * yN (dN g i))) j
  rw [kdF_at]
  by_cases e : j = m_sn v + 7
  · subst e
    rw [pk_us, if_pos (by omega), show 8 - 1 - (m_sn v + 7 - m_sn v) = 0 by omega]
    exact hb0
  · rw [pk_un e, ocF_at]
    by_cases c : m_sn v ≤ j
    · rw [if_pos (by omega), if_pos (by omega), show 8 - 1 - (j - m_sn v) = 7 - (j - m_sn v) by omega, hb7 _ (by omega), hDb _ (by omega), Nat.zero_add]
      exact (hg _ (by omega)).1.symm
    · rw [if_neg (by omega), if_neg (by omega)]
      exact h2 j (by omega)
theorem s_loop {Q : Nat} : ∀ (n i : Nat) (u : x_S) (v : m_S), S_i Q u v → 7 * (i + n) ≤ Q → m_sn v + 8 * n ≤ 306 → S_i Q (x_s1F n i u) (m_sB n i v) := by
  intro n
  induction n with
  | zero => intro i u v h _ _; exact h
  | succ n ih =>
    intro i u v h hi hs
    rw [x_s1F, m_sB]
    refine ih (i + 1) _ _ (s_block h (by omega) (by omega)) (by omega) ?_
    show m_sn (m_ocF i 7 0 v) + 1 + 8 * n ≤ 306
    rw [(m_oc_f i 7 0 v).2]
    omega
def tlF : Nat → Nat → Nat → (Nat → Int32) → (Nat → Int32)
  | 0, _, _, f => f
  | n + 1, j, s, f => tlF n (j + 1) (s + 1) (upd f s (x_tl j))
theorem tlF_at : ∀ (n j s : Nat) (f : Nat → Int32) (i : Nat), tlF n j s f i = if s ≤ i ∧ i < s + n then x_tl (j + (i - s)) else f i := by
  intro n
  induction n with
  | zero => intro j s f i; rw [if_neg (by omega)]; rfl
  | succ n ih =>
    intro j s f i
    rw [tlF, ih]
    by_cases h : i = s
    · subst h
      rw [if_neg (by omega), if_pos (by omega), pk_us, Nat.sub_self]
      rfl
    · rw [pk_un h]
      by_cases h2 : s ≤ i ∧ i < s + (n + 1)
      · rw [if_pos h2, if_pos (by omega), show j + 1 + (i - (s + 1)) = j + (i - s) by omega]
      · rw [if_neg h2, if_neg (by omega)]
theorem tl_b : ∀ j, j < 8 → x_byteOf ((x_tl j).toInt64) (nI 0) = x_tl j := by decide +kernel
theorem x_s2_full : ∀ (n j : Nat) (u : x_S) (s : Nat), x_sz u = nI s → s + n ≤ 306 → j + n ≤ 8 → x_s2F n j u = (x_st u, x_md u, x_bt u, x_cm u, x_hr u, x_rs u, x_hv u, x_vs u, x_wz u, nI (s + n), x_ro u, x_rc u, x_cn u, x_wt u, tlF n j s (x_sn u)) := by
  intro n
  induction n with
  | zero => intro j u s e _ _; rw [Nat.add_zero, ← e]; rfl
  | succ n ih =>
    intro j u s e h hj
    have e1 : x_sendBytes u (x_tl j).toInt64 1 = (x_st u, x_md u, x_bt u, x_cm u, x_hr u, x_rs u, x_hv u, x_vs u, x_wz u, nI (s + 1), x_ro u, x_rc u, x_cn u, x_wt u, upd (x_sn u) s (x_tl j)) := by
      rw [x_sendBytes, x_sb_full _ 1 u s e (by omega)]
      show (x_st u, x_md u, x_bt u, x_cm u, x_hr u, x_rs u, x_hv u, x_vs u, x_wz u, nI (s + 1), x_ro u, x_rc u, x_cn u, x_wt u, upd (x_sn u) s (x_byteOf ((x_tl j).toInt64) (nI 0))) = _
      rw [tl_b j (by omega)]
    rw [x_s2F, e1, ih (j + 1) _ (s + 1) rfl (by omega) (by omega)]
    show (x_st u, x_md u, x_bt u, x_cm u, x_hr u, x_rs u, x_hv u, x_vs u, x_wz u, nI (s + 1 + n), x_ro u, x_rc u, x_cn u, x_wt u, tlF n (j + 1) (s + 1) (upd (x_sn u) s (x_tl j))) = _
    rw [show s + 1 + n = s + (n + 1) by omega]
    rfl
/-- before the blocks -/
theorem s_start {u : x_S} {v : m_S} (h : R_tx u v) : S_i (7 * ((m_wn v + 6) / 7)) (x_sendBytes (x_sz0 (x_fillLastBlock u)) 60304 2) (m_sendA v) := by
  obtain ⟨⟨h1, h2, h3⟩, -⟩ := h
  have hf : m_wn v % 7 = 0 ∨ 7 ≤ 6 + m_wn v % 7 := by omega
  have hf7 : m_wn v % 7 = 0 ∨ 7 ≤ 7 + m_wn v % 7 := by omega
  have ewx : x_wt (x_fillLastBlock u) = padF 6 (m_wn v) (x_wt u) := (x_fl_wt 6 u (m_wn v) h2 h1).1
  have ewm : m_wt (m_waF 7 (m_th0 v)) = padF 7 (m_wn v) (m_wt v) := m_wa_wt 7 (m_th0 v) h1
  rw [x_sendBytes, x_sb_full _ 2 (x_sz0 (x_fillLastBlock u)) 0 rfl (by decide)]
  refine ⟨rfl, ?_, ?_⟩
  · intro j hj
    have hj : j < 2 := hj
    show kdF 60304 2 0 (x_sn (x_fillLastBlock u)) j = upd (upd (m_se (m_waF 7 (m_th0 v))) 0 235) 1 144 j
    rw [kdF_at, if_pos (by omega)]
    rcases (show j = 0 ∨ j = 1 by omega) with rfl | rfl
    · rw [pk_un (by decide), pk_us]; decide +kernel
    · rw [pk_us]; decide +kernel
  · intro j hj
    show x_wt (x_fillLastBlock u) j = m_wt (m_waF 7 (m_th0 v)) j ∧ ∃ b, b < 256 ∧ m_wt (m_waF 7 (m_th0 v)) j = nI b
    rw [ewx, ewm, padF_at 6 _ _ _ hf, padF_at 7 _ _ _ hf7]
    by_cases c : m_wn v ≤ j
    · rw [if_pos (by omega), if_pos (by omega)]
      exact ⟨rfl, 85, by decide, rfl⟩
    · rw [if_neg (by omega), if_neg (by omega)]
      exact h3 j (by omega)
theorem x_rx_wz0 (u : x_S) : x_rx (x_wz0 u) = x_rx u := rfl
theorem m_rx_wn0 (v : m_S) : m_rx (m_wn0 v) = m_rx v := rfl
theorem r_send {k : Nat} {u : x_S} {v : m_S} (h : Rel k u v) : x_send_r u ((m_wn v + 6) / 7) = m_send_r v ∧ Rel (k + 1) (x_send u ((m_wn v + 6) / 7)) (m_send v) := by
  have hwn := h.2.1.1
  have ew := h.2.1.2.1
  by_cases h0 : m_wn v = 0
  · have e0 : nI (m_wn v) = 0 := by rw [h0]; rfl
    have ht := h.th0
    unfold x_send_r m_send_r x_send m_send
    rw [if_pos (ew.trans e0), if_pos (ew.trans e0), if_pos e0, if_pos e0]
    exact ⟨rfl, ht⟩
  · have n0 : ¬ nI (m_wn v) = 0 := nI_ne0 (by omega) (by omega)
    have x0 : ¬ x_wz u = 0 := fun e => n0 (ew.symm.trans e)
    have hA : m_sn (m_sendA v) = 2 := rfl
    have hL := s_loop ((m_wn v + 6) / 7) 0 _ _ (s_start h.2) (by omega) (by rw [hA]; omega)
    have hsB : m_sn (m_sB ((m_wn v + 6) / 7) 0 (m_sendA v)) = 2 + 8 * ((m_wn v + 6) / 7) := by rw [(m_sB_f _ _ _).2, hA]
    have ex : x_sendT u ((m_wn v + 6) / 7) = x_s2F 8 0 (x_s1F ((m_wn v + 6) / 7) 0 (x_sendBytes (x_sz0 (x_fillLastBlock u)) 60304 2)) := rfl
    have em : m_sendT v = m_out (m_odF 7 0 (m_sB ((m_wn v + 6) / 7) 0 (m_sendA v))) 121 := rfl
    have hrx := x_rx_send u ((m_wn v + 6) / 7)
    have hrm := m_rx_send v
    obtain ⟨l1, l2, -⟩ := hL
    generalize x_s1F ((m_wn v + 6) / 7) 0 (x_sendBytes (x_sz0 (x_fillLastBlock u)) 60304 2) = a at *
    generalize m_sB ((m_wn v + 6) / 7) 0 (m_sendA v) = b at *
    have hle : m_sn b + 8 ≤ 306 := by omega
    rw [x_s2_full 8 0 a (m_sn b) l1 hle (by decide)] at ex
    rw [m_od_full] at em
    have key : ∀ j, j < m_sn b + 7 + 1 → tlF 8 0 (m_sn b) (x_sn a) j = upd (odF 7 (m_sn b) (m_se b)) (m_sn b + 7) 121 j := by
      intro j hj
      rw [tlF_at]
      by_cases e : j = m_sn b + 7
      · subst e
        rw [pk_us, if_pos (by omega), show 0 + (m_sn b + 7 - m_sn b) = 7 by omega]
        rfl
      · rw [pk_un e, odF_at]
        by_cases c : m_sn b ≤ j
        · rw [if_pos (by omega), if_pos (by omega)]
          unfold x_tl
          rw [if_neg (by omega)]
        · rw [if_neg (by omega), if_neg (by omega)]
          exact l2 j (by omega)
    unfold x_send_r m_send_r x_send m_send
    rw [if_neg x0, if_neg x0, if_neg n0, if_neg n0]
    refine ⟨?_, ?_, ?_⟩
    · rw [ex, em]; rfl
    · exact R_rx_eq ((x_rx_wz0 _).trans hrx) ((m_rx_wn0 _).trans hrm) h.next.1
    · rw [ex, em]
      exact ⟨⟨Nat.zero_le _, rfl, fun j hj => absurd hj (Nat.not_lt_zero j)⟩, hle, rfl, key⟩
