theorem x_keep_full (u : x_S) (E r : Nat) (hE : E < 2 ^ 64) (e : x_rs u = nI r) (hr : r + 7 ≤ 259) : x_keepData u (lN E) = if nI (r + 7) = 259 then x_endTransmission (x_st u, x_md u, x_bt u, x_cm u, x_hr u, nI (r + 7), x_hv u, x_vs u, x_wz u, x_sz u, kdF (lN (E / 128)) 7 r (x_ro u), x_rc u, upd (x_cn u) 2 (x_cn u 2 + 1), x_wt u, x_sn u) else (x_st u, x_md u, x_bt u, x_cm u, x_hr u, nI (r + 7), x_hv u, x_vs u, x_wz u, x_sz u, kdF (lN (E / 128)) 7 r (x_ro u), x_rc u, upd (x_cn u) 2 (x_cn u 2 + 1), x_wt u, x_sn u) := by
  unfold x_keepData
  rw [show j_lushr (lN E) 7 = lN (E / 128) from wb_shr (k := 7) hE (by decide), x_kd_full (lN (E / 128)) 7 (x_st u, x_md u, x_bt u, x_cm u, x_hr u, x_rs u, x_hv u, x_vs u, x_wz u, x_sz u, x_ro u, x_rc u, upd (x_cn u) 2 (x_cn u 2 + 1), x_wt u, x_sn u) r e hr]
/-- a block that is kept, on both sides -/
theorem r_keep {C : Nat} {u : x_S} {v : m_S} {E : Nat} {w : Int32} (hs : x_st u = 2) (hsm : m_st v = 2) (h2 : x_md u = m_md v) (hcn : ∀ j, j < 5 → upd (x_cn u) 2 (x_cn u 2 + 1) j = (upd (upd (m_cn v) 2 (m_cn v 2 + 1)) 3 ((upd (m_cn v) 2 (m_cn v 2 + 1)) 3 + (if w < 0 then 0 else 1))) j) (h4 : m_sz v ≤ 259 ∧ x_vs u = nI (m_sz v) ∧ ∀ j, j < m_sz v → x_rc u j = m_rc v j) (hq : ∃ q, q ≤ 36 ∧ m_rw v = 7 * q) (hrs : x_rs u = nI (m_rw v)) (hro : ∀ j, j < m_rw v → x_ro u j = m_ro v j) (hcm : x_cm u = 0) (hEl : E < 2 ^ 63) (hE : ∀ j, j < 56 → (m_bi v j) ^^^ (if nI j = w then 1 else 0) = nI (E / 2 ^ (62 - j) % 2)) :
    R_rx C (x_keepData u (lN E)) (if nI (m_rw v + 7) = 259 then m_ends (m_th v, m_st v, m_md v, 0, m_rw v + 7, m_sz v, m_wn v, m_sn v, m_bi v, blF (m_bi v) w 7 0 (m_rw v) (m_ro v), m_rc v, m_wt v, m_se v, upd (upd (m_cn v) 2 (m_cn v 2 + 1)) 3 ((upd (m_cn v) 2 (m_cn v 2 + 1)) 3 + (if w < 0 then 0 else 1))) else (m_th v, m_st v, m_md v, 0, m_rw v + 7, m_sz v, m_wn v, m_sn v, m_bi v, blF (m_bi v) w 7 0 (m_rw v) (m_ro v), m_rc v, m_wt v, m_se v, upd (upd (m_cn v) 2 (m_cn v 2 + 1)) 3 ((upd (m_cn v) 2 (m_cn v 2 + 1)) 3 + (if w < 0 then 0 else 1)))) ∧ x_cn (x_keepData u (lN E)) 1 = x_cn u 1 + (if nI (m_rw v + 7) = 259 then 1 else 0) := by
  obtain ⟨q, hq1, hq2⟩ := hq
  have hro' : ∀ j, j < m_rw v + 7 → kdF (lN (E / 128)) 7 (m_rw v) (x_ro u) j = blF (m_bi v) w 7 0 (m_rw v) (m_ro v) j := by
    intro j hj
    rw [kdF_at, blF_at]
    by_cases c : m_rw v ≤ j ∧ j < m_rw v + 7
    · rw [if_pos c, if_pos c, Nat.zero_add, byte_eq (by omega) hEl hE]
    · rw [if_neg c, if_neg c]
      exact hro j (by omega)
  have hc1 : upd (x_cn u) 2 (x_cn u 2 + 1) 1 = x_cn u 1 := pk_un (by decide)
  rw [x_keep_full u E (m_rw v) (by omega) hrs (by omega)]
  by_cases h : nI (m_rw v + 7) = 259
  · rw [if_pos h, if_pos h, if_pos h]
    obtain ⟨g1, g2⟩ := r_end (C := C) (u := (x_st u, x_md u, x_bt u, x_cm u, x_hr u, nI (m_rw v + 7), x_hv u, x_vs u, x_wz u, x_sz u, kdF (lN (E / 128)) 7 (m_rw v) (x_ro u), x_rc u, upd (x_cn u) 2 (x_cn u 2 + 1), x_wt u, x_sn u)) (v := (m_th v, m_st v, m_md v, 0, m_rw v + 7, m_sz v, m_wn v, m_sn v, m_bi v, blF (m_bi v) w 7 0 (m_rw v) (m_ro v), m_rc v, m_wt v, m_se v, upd (upd (m_cn v) 2 (m_cn v 2 + 1)) 3 ((upd (m_cn v) 2 (m_cn v 2 + 1)) 3 + (if w < 0 then 0 else 1)))) h2 hcn h4 (show m_rw v + 7 ≤ 259 by omega) rfl hro'
    refine ⟨g1, g2.trans ?_⟩
    show upd (x_cn u) 2 (x_cn u 2 + 1) 1 + 1 = x_cn u 1 + 1
    rw [hc1]
  · rw [if_neg h, if_neg h, if_neg h]
    have h7 : m_rw v + 7 ≠ 259 := fun e => h (by rw [e]; rfl)
    refine ⟨⟨hs.trans hsm.symm, h2, hcn, h4, Or.inr (Or.inr ⟨hsm, (by decide : 0 < 64), hcm, fun j hj => absurd hj (Nat.not_lt_zero j), ⟨q + 1, by omega, (show m_rw v + 7 = 7 * (q + 1) by omega)⟩, rfl, hro'⟩)⟩, ?_⟩
    show upd (x_cn u) 2 (x_cn u 2 + 1) 1 = x_cn u 1 + 0
    rw [hc1]
    exact (Int32.add_zero _).symm
theorem drop55 {j : Nat} (h : j < 56) : (if nI j ≤ 55 then (0 : Int32) else 1) = 0 := if_pos (show nI j ≤ nI 55 from nI_le (by omega) (by decide))
theorem m2_ne {k : Nat} (h : k < 63) : ¬ nI k = (-2) := (by decide +kernel : ∀ k, k < 63 → ¬ nI k = (-2)) k h
/-- the class asks for mending first; asked for behind the remainder it says the same -/
theorem x_lab_eq (u : x_S) : x_lookAtBlock u = (if (x_remainderOf ((j_lushr (x_bt u) 1) ^^^ 127)) = 0 then (x_keepData u ((j_lushr (x_bt u) 1) ^^^ 127)) else (if (x_md u) = 0 then (x_endTransmission u) else (if (x_powerWithRemainder (x_remainderOf ((j_lushr (x_bt u) 1) ^^^ 127))) = (-1) then (x_endTransmission u) else (x_keepData (x_st u, x_md u, x_bt u, x_cm u, x_hr u, x_rs u, x_hv u, x_vs u, x_wz u, x_sz u, x_ro u, x_rc u, upd (x_cn u) 3 (((x_cn u) 3) + 1), x_wt u, x_sn u) (((j_lushr (x_bt u) 1) ^^^ 127) ^^^ (j_lshl 1 (x_powerWithRemainder (x_remainderOf ((j_lushr (x_bt u) 1) ^^^ 127))))))))) := by
  unfold x_lookAtBlock
  generalize (j_lushr (x_bt u) 1) ^^^ 127 = a
  generalize x_remainderOf a = r
  by_cases c1 : x_md u = 0
  · by_cases c2 : r = 0
    · exact (if_pos c1).trans ((if_pos c2).trans (if_pos c2).symm)
    · exact (if_pos c1).trans ((if_neg c2).trans ((if_neg c2).trans (if_pos c1)).symm)
  · by_cases c2 : r = 0
    · exact (if_neg c1).trans ((if_pos c2).trans (if_pos c2).symm)
    · exact (if_neg c1).trans ((if_neg c2).trans ((if_neg c2).trans (if_neg c1)).symm)
/-- a whole block has come -/
theorem r_lab {C : Nat} {u : x_S} {v : m_S} (hs : x_st u = 2) (hsm : m_st v = 2) (h2 : x_md u = m_md v) (h3 : ∀ j, j < 5 → x_cn u j = m_cn v j) (h4 : m_sz v ≤ 259 ∧ x_vs u = nI (m_sz v) ∧ ∀ j, j < m_sz v → x_rc u j = m_rc v j) (hq : ∃ q, q ≤ 36 ∧ m_rw v = 7 * q) (hrs : x_rs u = nI (m_rw v)) (hro : ∀ j, j < m_rw v → x_ro u j = m_ro v j) (hcm : x_cm u = 0) (hB : ∀ j, j < 64 → m_bi v j = nI (bq (x_bt u) (63 - j))) :
    R_rx C (x_lookAtBlock u) (m_block v) ∧ x_cn (x_lookAtBlock u) 1 = x_cn u 1 + m_block_r v := by
  have hT := uN_lt (x_bt u)
  have hA := cA_lt (x_bt u)
  have hrw : m_rw v ≤ 259 := by obtain ⟨q, a1, a2⟩ := hq; omega
  have ecode : (j_lushr (x_bt u) 1) ^^^ 127 = lN (cA (x_bt u)) := by
    have h := wb_shr (n := uN (x_bt u)) (k := 1) (by omega) (by decide)
    rw [lN_uN] at h
    rw [show j_lushr (x_bt u) 1 = lN (uN (x_bt u) / 2 ^ 1) from h]
    exact lN_xor _ 127
  have erem : x_remainderOf (lN (cA (x_bt u))) = nI (cr_rem (cA (x_bt u)) 63 0) := cr_remainder (by omega)
  have hl := cr_rem_lt (cA (x_bt u)) 63 0 (by decide)
  have hdn := dv_none hB
  rw [x_lab_eq, ecode, erem]
  generalize hr : cr_rem (cA (x_bt u)) 63 0 = r at *
  by_cases h0 : r = 0
  · have hw : m_wrong v = (-1) := by
      unfold m_wrong
      rw [hdn, if_pos h0, if_neg (by decide)]
    rw [if_pos (by rw [h0]; rfl), (m_keep_full v (-1) hw (by decide)).1, (m_keep_full v (-1) hw (by decide)).2]
    refine r_keep hs hsm h2 ?_ h4 hq hrs hro hcm hA ?_
    · intro j hj
      rw [if_pos (show (-1 : Int32) < 0 by decide)]
      by_cases e2 : j = 2
      · subst e2; rw [pk_us, pk_un (by decide), pk_us, h3 2 (by decide)]
      · by_cases e3 : j = 3
        · subst e3; rw [pk_us, pk_un (by decide), pk_un (by decide), h3 3 (by decide)]; exact (Int32.add_zero _).symm
        · rw [pk_un e2, pk_un e3, pk_un e2]; exact h3 j hj
    · intro j hj
      have := e_none hB j (by omega)
      rw [drop55 hj, Int32.xor_zero] at this
      exact this
  · rw [if_neg (nI_ne0 (by omega) (by omega))]
    have hw0 : m_wrong v = m_wrF v 63 0 (-2) := by
      unfold m_wrong
      rw [hdn, if_neg h0, if_pos rfl]
    by_cases hmd : m_md v = 0
    · have hw : m_wrong v = (-2) := by rw [hw0, m_wrF, if_pos hmd]
      rw [if_pos (h2.trans hmd), (m_end_block v hw).1, (m_end_block v hw).2]
      exact r_end h2 h3 h4 hrw hrs hro
    · have hw1 : m_wrong v = wrN r 63 0 (-2) := by
        rw [hw0]
        exact m_wr_N hmd (fun t ht => by have := dv_at ht hB; rw [hr] at this; exact this) 63 0 (-2) rfl
      have hmx : ¬ x_md u = 0 := fun e => hmd (h2.symm.trans e)
      rw [if_neg hmx]
      rcases pw_tab r hl with e | ⟨e1, e2⟩ | ⟨e1, e2, e3⟩
      · exact absurd e h0
      · have hw : m_wrong v = (-2) := hw1.trans e2
        rw [if_pos e1, (m_end_block v hw).1, (m_end_block v hw).2]
        exact r_end h2 h3 h4 hrw hrs hro
      · generalize (x_powerWithRemainder (nI r)).toNatClampNeg = p at e1 e2 e3
        have hw : m_wrong v = nI (62 - p) := hw1.trans e3
        have hp1 : ¬ nI p = (-1) := tm1 p e1
        rw [e2, if_neg hp1, (m_keep_full v (nI (62 - p)) hw (m2_ne (by omega))).1, (m_keep_full v (nI (62 - p)) hw (m2_ne (by omega))).2, show (lN (cA (x_bt u))) ^^^ (j_lshl 1 (nI p)) = lN (cA (x_bt u) ^^^ 2 ^ p) from by
          rw [show j_lshl 1 (nI p) = lN (1 * 2 ^ p) from wb_shl 1 (by omega), Nat.one_mul, lN_xor]]
        have hpw : 2 ^ p < 2 ^ 63 := wb_lt2 e1
        refine (fun (z : R_rx C _ _ ∧ _) => ⟨z.1, z.2.trans (by show upd (x_cn u) 3 (x_cn u 3 + 1) 1 + _ = _; rw [pk_un (by decide)])⟩) (r_keep (C := C) (u := (x_st u, x_md u, x_bt u, x_cm u, x_hr u, x_rs u, x_hv u, x_vs u, x_wz u, x_sz u, x_ro u, x_rc u, upd (x_cn u) 3 (x_cn u 3 + 1), x_wt u, x_sn u)) (v := v) (E := cA (x_bt u) ^^^ 2 ^ p) (w := nI (62 - p)) hs hsm h2 ?_ h4 hq hrs hro hcm (Nat.xor_lt_two_pow hA hpw) ?_)
        · intro j hj
          rw [if_neg (nI_pos (by omega))]
          show upd (upd (x_cn u) 3 (x_cn u 3 + 1)) 2 (upd (x_cn u) 3 (x_cn u 3 + 1) 2 + 1) j = _
          by_cases e2 : j = 2
          · subst e2; rw [pk_us, pk_un (by decide), pk_un (by decide), pk_us, h3 2 (by decide)]
          · by_cases e3 : j = 3
            · subst e3; rw [pk_un (by decide), pk_us, pk_us, pk_un (by decide), h3 3 (by decide)]
            · rw [pk_un e2, pk_un e3, pk_un e3, pk_un e2]; exact h3 j hj
        · intro j hj
          have := e_at (t := 62 - p) (by omega) hB j (by omega)
          rw [drop55 hj, Int32.xor_zero, show 62 - (62 - p) = p by omega] at this
          exact this
