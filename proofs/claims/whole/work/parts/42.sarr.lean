/-! the receivers are not touched by send -/
def x_rx (u : x_S) : Int32 × Int32 × Int64 × Int32 × Int32 × Int32 × (Nat → Int32) × (Nat → Int32) × (Nat → Int32) := (x_st u, x_md u, x_bt u, x_cm u, x_rs u, x_vs u, x_ro u, x_rc u, x_cn u)
def m_rx (v : m_S) : Int32 × Int32 × Nat × Nat × Nat × (Nat → Int32) × (Nat → Int32) × (Nat → Int32) × (Nat → Int32) := (m_st v, m_md v, m_mn v, m_rw v, m_sz v, m_bi v, m_ro v, m_rc v, m_cn v)
theorem R_rx_eq {C : Nat} {u u' : x_S} {v v' : m_S} (hu : x_rx u' = x_rx u) (hv : m_rx v' = m_rx v) (h : R_rx C u v) : R_rx C u' v' := by
  unfold x_rx at hu
  unfold m_rx at hv
  rw [Prod.mk.injEq, Prod.mk.injEq, Prod.mk.injEq, Prod.mk.injEq, Prod.mk.injEq, Prod.mk.injEq, Prod.mk.injEq, Prod.mk.injEq] at hu hv
  obtain ⟨a1, a2, a3, a4, a5, a6, a7, a8, a9⟩ := hu
  obtain ⟨b1, b2, b3, b4, b5, b6, b7, b8, b9⟩ := hv
  unfold R_rx
  rw [a1, a2, a3, a4, a5, a6, a7, a8, a9, b1, b2, b3, b4, b5, b6, b7, b8, b9]
  exact h
theorem x_rx_sb (d : Int64) : ∀ (n : Nat) (u : x_S), x_rx (x_sbF d n u) = x_rx u := by
  intro n
  induction n with
  | zero => intro u; rfl
  | succ n ih =>
    intro u
    rw [x_sbF]
    split
    · rfl
    · split
      · rfl
      · rw [ih]; rfl
theorem x_rx_put (u : x_S) (b : Int32) : x_rx (x_put u b) = x_rx u := by
  unfold x_put
  split
  · rfl
  · split <;> rfl
theorem x_rx_fl : ∀ (n : Nat) (u : x_S), x_rx (x_flF n u) = x_rx u := by
  intro n
  induction n with
  | zero => intro u; rfl
  | succ n ih =>
    intro u
    rw [x_flF]
    split
    · rfl
    · rw [ih, x_rx_put]
theorem x_rx_s1 : ∀ (n i : Nat) (u : x_S), x_rx (x_s1F n i u) = x_rx u := by
  intro n
  induction n with
  | zero => intro i u; rfl
  | succ n ih => intro i u; rw [x_s1F, ih, x_sendBytes, x_rx_sb]
theorem x_rx_s2 : ∀ (n i : Nat) (u : x_S), x_rx (x_s2F n i u) = x_rx u := by
  intro n
  induction n with
  | zero => intro i u; rfl
  | succ n ih => intro i u; rw [x_s2F, ih, x_sendBytes, x_rx_sb]
theorem x_rx_send (u : x_S) (q : Nat) : x_rx (x_sendT u q) = x_rx u := by
  unfold x_sendT
  rw [x_rx_s2, x_rx_s1, x_sendBytes, x_rx_sb]
  show x_rx (x_fillLastBlock u) = _
  exact x_rx_fl 6 u
theorem m_rx_wa : ∀ (n : Nat) (v : m_S), m_rx (m_waF n v) = m_rx v := by
  intro n
  induction n with
  | zero => intro v; rfl
  | succ n ih =>
    intro v
    rw [m_waF]
    split
    · rfl
    · rw [ih]; rfl
theorem m_rx_oc (i : Nat) : ∀ (n k : Nat) (v : m_S), m_rx (m_ocF i n k v) = m_rx v := by
  intro n
  induction n with
  | zero => intro k v; rfl
  | succ n ih => intro k v; rw [m_ocF, ih]; rfl
theorem m_rx_sB : ∀ (n i : Nat) (v : m_S), m_rx (m_sB n i v) = m_rx v := by
  intro n
  induction n with
  | zero => intro i v; rfl
  | succ n ih =>
    intro i v
    rw [m_sB, ih]
    show m_rx (m_ocF i 7 0 v) = _
    exact m_rx_oc i 7 0 v
theorem m_rx_od : ∀ (n k : Nat) (v : m_S), m_rx (m_odF n k v) = m_rx v := by
  intro n
  induction n with
  | zero => intro k v; rfl
  | succ n ih => intro k v; rw [m_odF, ih]; rfl
theorem m_rx_send (v : m_S) : m_rx (m_sendT v) = m_rx v := by
  unfold m_sendT
  show m_rx (m_odF 7 0 (m_sB ((m_wn v + 6) / 7) 0 (m_sendA v))) = _
  rw [m_rx_od, m_rx_sB]
  show m_rx (m_waF 7 (m_th0 v)) = _
  rw [m_rx_wa]
  rfl
/-! the arrays of the senders -/
theorem x_sb_full (d : Int64) : ∀ (n : Nat) (u : x_S) (s : Nat), x_sz u = nI s → s + n ≤ 306 → x_sbF d n u = (x_st u, x_md u, x_bt u, x_cm u, x_hr u, x_rs u, x_hv u, x_vs u, x_wz u, nI (s + n), x_ro u, x_rc u, x_cn u, x_wt u, kdF d n s (x_sn u)) := by
  intro n
  induction n with
  | zero => intro u s e h; rw [Nat.add_zero, ← e]; rfl
  | succ n ih =>
    intro u s e h
    rw [x_sbF, e, if_neg (nI_pos (by omega)), if_neg (show ¬ (306 : Int32) ≤ nI s from (show ¬ nI 306 ≤ nI s from nI_ge (by omega) (by decide))), nI_clamp (by omega), nI_1, ih _ (s + 1) rfl (by omega)]
    show (x_st u, x_md u, x_bt u, x_cm u, x_hr u, x_rs u, x_hv u, x_vs u, x_wz u, nI (s + 1 + n), x_ro u, x_rc u, x_cn u, x_wt u, kdF d n (s + 1) (upd (x_sn u) s (x_byteOf d (nI n)))) = _
    rw [show s + 1 + n = s + (n + 1) by omega]
    rfl
def padF : Nat → Nat → (Nat → Int32) → (Nat → Int32)
  | 0, _, f => f
  | n + 1, w, f => if w % 7 = 0 then f else padF n (w + 1) (upd f w 85)
theorem padF_at : ∀ (n w : Nat) (f : Nat → Int32) (j : Nat), (w % 7 = 0 ∨ 7 ≤ n + w % 7) → padF n w f j = if w ≤ j ∧ j < 7 * ((w + 6) / 7) then 85 else f j := by
  intro n
  induction n with
  | zero => intro w f j h; rw [if_neg (by omega)]; rfl
  | succ n ih =>
    intro w f j h
    rw [padF]
    by_cases h0 : w % 7 = 0
    · rw [if_pos h0, if_neg (by omega)]
    · rw [if_neg h0, ih (w + 1) _ j (by omega)]
      by_cases e : j = w
      · subst e; rw [if_neg (by omega), if_pos (by omega), pk_us]
      · rw [pk_un e]
        by_cases c : w ≤ j ∧ j < 7 * ((w + 6) / 7)
        · rw [if_pos c, if_pos (by omega)]
        · rw [if_neg c, if_neg (by omega)]
theorem x_fl_wt : ∀ (n : Nat) (u : x_S) (w : Nat), x_wz u = nI w → w ≤ 259 → x_wt (x_flF n u) = padF n w (x_wt u) ∧ x_sn (x_flF n u) = x_sn u := by
  intro n
  induction n with
  | zero => intro u w e h; exact ⟨rfl, rfl⟩
  | succ n ih =>
    intro u w e h
    have er : x_wz u - x_wz u / 7 * 7 = nI (w % 7) := by
      rw [e]; exact pk_rem (by omega) (by decide) (by decide)
    rw [x_flF, er, padF]
    by_cases h0 : w % 7 = 0
    · rw [h0, if_pos nI_0, if_pos rfl]; exact ⟨rfl, rfl⟩
    · rw [if_neg (nI_ne0 (by omega) (by omega)), if_neg h0, x_put_at 85 e (by omega)]
      obtain ⟨g1, g2⟩ := ih (x_st u, x_md u, x_bt u, x_cm u, x_hr u, x_rs u, x_hv u, x_vs u, nI (w + 1), x_sz u, x_ro u, x_rc u, x_cn u, upd (x_wt u) w (85 &&& 255), x_sn u) (w + 1) rfl (by omega)
      rw [g1, g2]
      exact ⟨rfl, rfl⟩
theorem m_wa_wt : ∀ (n : Nat) (v : m_S), m_wn v ≤ 259 → m_wt (m_waF n v) = padF n (m_wn v) (m_wt v) := by
  intro n
  induction n with
  | zero => intro v h; rfl
  | succ n ih =>
    intro v h
    rw [m_waF, padF]
    by_cases h0 : m_wn v % 7 = 0
    · rw [h0, if_pos nI_0, if_pos rfl]
    · rw [if_neg (nI_ne0 (by omega) (by omega)), if_neg h0, ih _ (show m_wn v + 1 ≤ 259 by omega)]
def ocF (g : Nat → Int32) (i : Nat) : Nat → Nat → Nat → (Nat → Int32) → (Nat → Int32)
  | 0, _, _, f => f
  | n + 1, k, s, f => ocF g i n (k + 1) (s + 1) (upd f s (g ((7 * i) + k)))
theorem ocF_at (g : Nat → Int32) (i : Nat) : ∀ (n k s : Nat) (f : Nat → Int32) (j : Nat), ocF g i n k s f j = if s ≤ j ∧ j < s + n then g ((7 * i) + (k + (j - s))) else f j := by
  intro n
  induction n with
  | zero => intro k s f j; rw [if_neg (by omega)]; rfl
  | succ n ih =>
    intro k s f j
    rw [ocF, ih]
    by_cases h : j = s
    · subst h
      rw [if_neg (by omega), if_pos (by omega), pk_us, Nat.sub_self]
      rfl
    · rw [pk_un h]
      by_cases h2 : s ≤ j ∧ j < s + (n + 1)
      · rw [if_pos h2, if_pos (by omega), show k + 1 + (j - (s + 1)) = k + (j - s) by omega]
      · rw [if_neg h2, if_neg (by omega)]
theorem m_oc_full (i : Nat) : ∀ (n k : Nat) (v : m_S), m_ocF i n k v = (m_th v, m_st v, m_md v, m_mn v, m_rw v, m_sz v, m_wn v, m_sn v + n, m_bi v, m_ro v, m_rc v, m_wt v, ocF (m_wt v) i n k (m_sn v) (m_se v), m_cn v) := by
  intro n
  induction n with
  | zero => intro k v; rfl
  | succ n ih =>
    intro k v
    rw [m_ocF, ih]
    show (m_th v, m_st v, m_md v, m_mn v, m_rw v, m_sz v, m_wn v, m_sn v + 1 + n, m_bi v, m_ro v, m_rc v, m_wt v, ocF (m_wt v) i n (k + 1) (m_sn v + 1) (upd (m_se v) (m_sn v) ((m_wt v) ((7 * i) + k))), m_cn v) = _
    rw [show m_sn v + 1 + n = m_sn v + (n + 1) by omega]
    rfl
def odF : Nat → Nat → (Nat → Int32) → (Nat → Int32)
  | 0, _, f => f
  | n + 1, s, f => odF n (s + 1) (upd f s 197)
theorem odF_at : ∀ (n s : Nat) (f : Nat → Int32) (j : Nat), odF n s f j = if s ≤ j ∧ j < s + n then 197 else f j := by
  intro n
  induction n with
  | zero => intro s f j; rw [if_neg (by omega)]; rfl
  | succ n ih =>
    intro s f j
    rw [odF, ih]
    by_cases h : j = s
    · subst h
      rw [if_neg (by omega), if_pos (by omega), pk_us]
    · rw [pk_un h]
      by_cases h2 : s ≤ j ∧ j < s + (n + 1)
      · rw [if_pos h2, if_pos (by omega)]
      · rw [if_neg h2, if_neg (by omega)]
theorem m_od_full : ∀ (n k : Nat) (v : m_S), m_odF n k v = (m_th v, m_st v, m_md v, m_mn v, m_rw v, m_sz v, m_wn v, m_sn v + n, m_bi v, m_ro v, m_rc v, m_wt v, odF n (m_sn v) (m_se v), m_cn v) := by
  intro n
  induction n with
  | zero => intro k v; rfl
  | succ n ih =>
    intro k v
    rw [m_odF, ih]
    show (m_th v, m_st v, m_md v, m_mn v, m_rw v, m_sz v, m_wn v, m_sn v + 1 + n, m_bi v, m_ro v, m_rc v, m_wt v, odF n (m_sn v + 1) (upd (m_se v) (m_sn v) 197), m_cn v) = _
    rw [show m_sn v + 1 + n = m_sn v + (n + 1) by omega]
    rfl
