theorem lk_tab : ∀ k, k < 16 → ∀ b, b < 2 → (if nI b = ((60304 >>> ((15 - (nI k)) &&& 31)) &&& 1) then (0 : Int32) else 1) = nI (b ^^^ (60304 / 2 ^ (15 - k) % 2)) := by decide +kernel
theorem m_lk_N {v : m_S} {x : Int64} (hB : ∀ j, j < 16 → m_bi v j = nI (bq x (15 - j))) : ∀ n k d, k + n = 16 → m_lkF v n k (nI d) = nI (lkN ((uN x % 65536) ^^^ 60304) n k d) := by
  intro n
  induction n with
  | zero => intro k d _; rfl
  | succ n ih =>
    intro k d h
    have e1 : (uN x % 65536) / 2 ^ (15 - k) % 2 = bq x (15 - k) := by
      unfold bq
      rw [show (65536 : Nat) = 2 ^ 16 from rfl, cr_tb, cr_tb, Nat.testBit_mod_two_pow, decide_eq_true (by omega), Bool.true_and]
    rw [m_lkF, hB k (by omega), lk_tab k (by omega) _ (bq_lt _ _), nI_add, ih _ _ (by omega), lkN, cr_bit, e1]
theorem x_pop {u : x_S} : x_bitCount ((((x_bt u) &&& 65535).toInt32) ^^^ 60304) = nI (lkN ((uN (x_bt u) % 65536) ^^^ 60304) 16 0 0) := by
  have hT := uN_lt (x_bt u)
  have h := wb_mask (n := uN (x_bt u)) (k := 16) (by omega) (by decide)
  rw [lN_uN] at h
  have hz : (uN (x_bt u) % 65536) ^^^ 60304 < 65536 := Nat.xor_lt_two_pow (n := 16) (by omega) (by decide)
  rw [show (x_bt u) &&& 65535 = lN (uN (x_bt u) % 65536) from h, lN_i, show nI (uN (x_bt u) % 65536) ^^^ 60304 = nI ((uN (x_bt u) % 65536) ^^^ 60304) from nx_xor _ 60304, bc_eq hz, bc_lk hz]
theorem lkN_le (z : Nat) : ∀ n k d, lkN z n k d ≤ d + n := by
  intro n
  induction n with
  | zero => intro k d; exact Nat.le_refl _
  | succ n ih =>
    intro k d
    rw [lkN]
    have h1 := ih (k + 1) (d + z / 2 ^ (15 - k) % 2)
    have h2 := cr_tb2 z (15 - k)
    omega
/-- sixteen bits are looked at -/
theorem r_lfs {C c : Nat} {u : x_S} {v : m_S} (hs : x_st u = 1) (hsm : m_st v = 1) (h2 : x_md u = m_md v) (h3 : ∀ j, j < 5 → x_cn u j = m_cn v j) (h4 : m_sz v ≤ 259 ∧ x_vs u = nI (m_sz v) ∧ ∀ j, j < m_sz v → x_rc u j = m_rc v j) (hrw : m_rw v = 0) (hcC : c ≤ C) (hc : x_cm u = nI c) (hc16 : 16 ≤ c) (hcl : c < 2 ^ 31) (hmn : m_mn v = 16) (hB : ∀ j, j < 16 → m_bi v j = nI (bq (x_bt u) (15 - j))) :
    R_rx C (x_lookForStart u) (m_look v) ∧ x_cn (x_lookForStart u) 1 = x_cn u 1 := by
  have same : R_rx C u v ∧ x_cn u 1 = x_cn u 1 := by
    refine ⟨⟨hs.trans hsm.symm, h2, h3, h4, Or.inr (Or.inl ⟨hsm, hrw, c, hcC, hc, by omega, ?_⟩)⟩, rfl⟩
    intro j hj
    rw [hmn] at hj ⊢
    exact hB j hj
  have ex := x_pop (u := u)
  have em : m_lkF v 16 0 0 = nI (lkN ((uN (x_bt u) % 65536) ^^^ 60304) 16 0 0) := m_lk_N hB 16 0 0 rfl
  have hle := lkN_le ((uN (x_bt u) % 65536) ^^^ 60304) 16 0 0
  unfold x_lookForStart m_look
  rw [ex, em, hc, if_pos (show (16 : Int32) ≤ nI c from (show nI 16 ≤ nI c from nI_le hc16 hcl))]
  generalize lkN ((uN (x_bt u) % 65536) ^^^ 60304) 16 0 0 = d at *
  by_cases d0 : d = 0
  · subst d0
    rw [if_pos nI_0, if_pos nI_0]
    refine ⟨⟨rfl, h2, ?_, h4, Or.inr (Or.inr ⟨rfl, (by decide : 0 < 64), rfl, fun j hj => absurd hj (Nat.not_lt_zero j), ⟨0, by decide, rfl⟩, rfl, fun j hj => absurd hj (Nat.not_lt_zero j)⟩)⟩, ?_⟩
    · intro j hj
      show upd (x_cn u) 0 (x_cn u 0 + 1) j = upd (upd (m_cn v) 0 (m_cn v 0 + 1)) 4 ((upd (m_cn v) 0 (m_cn v 0 + 1)) 4 + nI 0) j
      by_cases e0 : j = 0
      · subst e0; rw [pk_us, pk_un (by decide), pk_us, h3 0 (by decide)]
      · by_cases e4 : j = 4
        · subst e4; rw [pk_us, pk_un (by decide), pk_un (by decide), h3 4 (by decide)]; exact (Int32.add_zero _).symm
        · rw [pk_un e0, pk_un e4, pk_un e0]; exact h3 j hj
    · show upd (x_cn u) 0 (x_cn u 0 + 1) 1 = x_cn u 1
      exact pk_un (by decide)
  · rw [if_neg (nI_ne0 (by omega) (by omega)), if_neg (nI_ne0 (by omega) (by omega))]
    by_cases d1 : d = 1
    · subst d1
      rw [if_pos (show nI 1 = 1 from rfl), if_pos (show nI 1 = 1 from rfl), h2]
      by_cases hm : m_md v = 0
      · rw [if_pos hm, if_pos hm]; exact same
      · rw [if_neg hm, if_neg hm]
        refine ⟨⟨rfl, rfl, ?_, h4, Or.inr (Or.inr ⟨rfl, (by decide : 0 < 64), rfl, fun j hj => absurd hj (Nat.not_lt_zero j), ⟨0, by decide, rfl⟩, rfl, fun j hj => absurd hj (Nat.not_lt_zero j)⟩)⟩, ?_⟩
        · intro j hj
          show upd (upd (x_cn u) 4 (x_cn u 4 + 1)) 0 ((upd (x_cn u) 4 (x_cn u 4 + 1)) 0 + 1) j = upd (upd (m_cn v) 0 (m_cn v 0 + 1)) 4 ((upd (m_cn v) 0 (m_cn v 0 + 1)) 4 + nI 1) j
          by_cases e0 : j = 0
          · subst e0; rw [pk_us, pk_un (by decide), pk_un (by decide), pk_us, h3 0 (by decide)]
          · by_cases e4 : j = 4
            · subst e4; rw [pk_un (by decide), pk_us, pk_us, pk_un (by decide), h3 4 (by decide)]; rfl
            · rw [pk_un e0, pk_un e4, pk_un e4, pk_un e0]; exact h3 j hj
        · show upd (upd (x_cn u) 4 (x_cn u 4 + 1)) 0 ((upd (x_cn u) 4 (x_cn u 4 + 1)) 0 + 1) 1 = x_cn u 1
          rw [pk_un (by decide), pk_un (by decide)]
    · have hn1 : ¬ nI d = 1 := fun e => d1 ((nI_eq (by omega) (by decide)).mp (show nI d = nI 1 from e))
      rw [if_neg hn1, if_neg hn1]
      exact same
theorem b_push {f : Nat → Int32} {x : Int64} {n b : Nat} (hb : b < 2) (hn : n < 64) (h : ∀ j, j < n → f j = nI (bq x (n - 1 - j))) : ∀ j, j < n + 1 → upd f n (nI b) j = nI (bq ((j_lshl x 1) ||| lN b) (n - j)) := by
  intro j hj
  by_cases e : j = n
  · subst e; rw [pk_us, Nat.sub_self, bq_0 x hb]
  · rw [pk_un e, h j (by omega), show n - j = (n - 1 - j) + 1 by omega, bq_s x hb (by omega)]
theorem b_shift {f : Nat → Int32} {x : Int64} {b : Nat} (hb : b < 2) (h : ∀ j, j < 16 → f j = nI (bq x (16 - 1 - j))) : ∀ j, j < 16 → upd (shF 15 0 f) 15 (nI b) j = nI (bq ((j_lshl x 1) ||| lN b) (15 - j)) := by
  intro j hj
  by_cases e : j = 15
  · subst e; rw [pk_us, bq_0 x hb]
  · rw [pk_un e, shF_at, if_pos (by omega), h (j + 1) (by omega), show 15 - j = (16 - 1 - (j + 1)) + 1 by omega, bq_s x hb (by omega)]
theorem m_bit_st {v : m_S} {b : Int32} (h : ¬ m_st v = 0) : ¬ m_st (m_bit v b) = 0 := by
  unfold m_bit
  split
  · rename_i hs
    split
    · rcases m_block_f (m_th v, m_st v, m_md v, m_mn v + 1, m_rw v, m_sz v, m_wn v, m_sn v, upd (m_bi v) (m_mn v) b, m_ro v, m_rc v, m_wt v, m_se v, m_cn v) with ⟨e, -⟩ | ⟨e, -⟩
      · rw [e]; decide
      · rw [e]; exact h
    · exact h
  · split
    · rw [m_sh_full]
      rcases m_look_f (m_th v, m_st v, m_md v, 16, m_rw v, m_sz v, m_wn v, m_sn v, upd (shF 15 0 (m_bi v)) 15 b, m_ro v, m_rc v, m_wt v, m_se v, m_cn v) with e | ⟨e, -⟩
      · rw [e]; exact h
      · rw [e]; decide
    · split
      · rcases m_look_f (m_th v, m_st v, m_md v, m_mn v + 1, m_rw v, m_sz v, m_wn v, m_sn v, upd (m_bi v) (m_mn v) b, m_ro v, m_rc v, m_wt v, m_se v, m_cn v) with e | ⟨e, -⟩
        · rw [e]; exact h
        · rw [e]; decide
      · exact h
/-- ONE BIT, on both sides -/
theorem r_step {C : Nat} {u : x_S} {v : m_S} {b : Nat} (h : R_rx C u v) (hC : C + 1 < 2 ^ 31) (hs0 : ¬ m_st v = 0) (hb : b < 2) : R_rx (C + 1) (x_takeBit u (lN b)) (m_bit v (nI b)) ∧ x_cn (x_takeBit u (lN b)) 1 = x_cn u 1 + m_bit_r v (nI b) := by
  obtain ⟨h1, h2, h3, h4, h5⟩ := h
  rcases h5 with ⟨a1, -⟩ | ⟨a1, a2, c, a3, a4, a5, a6⟩ | ⟨a1, a2, a3, a4, a5, a6, a7⟩
  · exact absurd a1 hs0
  · have hn2 : ¬ m_st v = 2 := by rw [a1]; decide
    unfold x_takeBit m_bit m_bit_r
    rw [if_pos (h1.trans a1), if_neg hn2, if_neg hn2, a4, nI_1]
    by_cases h16 : m_mn v = 16
    · have e16 : nI (m_mn v) = 16 := by rw [h16]; rfl
      rw [if_pos e16, if_pos e16, m_sh_full]
      have z := r_lfs (C := C + 1) (c := c + 1) (u := (x_st u, x_md u, (j_lshl (x_bt u) 1) ||| lN b, nI (c + 1), x_hr u, x_rs u, x_hv u, x_vs u, x_wz u, x_sz u, x_ro u, x_rc u, x_cn u, x_wt u, x_sn u)) (v := (m_th v, m_st v, m_md v, 16, m_rw v, m_sz v, m_wn v, m_sn v, upd (shF 15 0 (m_bi v)) 15 (nI b), m_ro v, m_rc v, m_wt v, m_se v, m_cn v)) (h1.trans a1) a1 h2 h3 h4 a2 (by omega) rfl (by omega) (by omega) rfl (b_shift hb (fun j hj => by have := a6 j (by omega); rw [h16] at this; exact this))
      exact ⟨z.1, z.2.trans (Int32.add_zero _).symm⟩
    · have n16 : ¬ nI (m_mn v) = 16 := fun e => h16 ((nI_eq (by omega) (by decide)).mp (show nI (m_mn v) = nI 16 from e))
      have ec : m_mn v = c := by omega
      rw [if_neg n16, if_neg n16]
      have hB' := b_push hb (show m_mn v < 64 by omega) a6
      by_cases h15 : m_mn v + 1 = 16
      · have e15 : nI (m_mn v + 1) = 16 := by rw [h15]; rfl
        rw [if_pos e15, if_pos e15]
        have z := r_lfs (C := C + 1) (c := c + 1) (u := (x_st u, x_md u, (j_lshl (x_bt u) 1) ||| lN b, nI (c + 1), x_hr u, x_rs u, x_hv u, x_vs u, x_wz u, x_sz u, x_ro u, x_rc u, x_cn u, x_wt u, x_sn u)) (v := (m_th v, m_st v, m_md v, m_mn v + 1, m_rw v, m_sz v, m_wn v, m_sn v, upd (m_bi v) (m_mn v) (nI b), m_ro v, m_rc v, m_wt v, m_se v, m_cn v)) (h1.trans a1) a1 h2 h3 h4 a2 (by omega) rfl (by omega) (by omega) h15 (fun j hj => by
          have := hB' j (by omega)
          rw [show m_mn v = 15 by omega] at this
          show upd (m_bi v) (m_mn v) (nI b) j = _
          rw [show m_mn v = 15 by omega]
          exact this)
        exact ⟨z.1, z.2.trans (Int32.add_zero _).symm⟩
      · have n15 : ¬ nI (m_mn v + 1) = 16 := fun e => h15 ((nI_eq (by omega) (by decide)).mp (show nI (m_mn v + 1) = nI 16 from e))
        rw [if_neg n15, if_neg n15]
        have ex : x_lookForStart (x_st u, x_md u, (j_lshl (x_bt u) 1) ||| lN b, nI (c + 1), x_hr u, x_rs u, x_hv u, x_vs u, x_wz u, x_sz u, x_ro u, x_rc u, x_cn u, x_wt u, x_sn u) = (x_st u, x_md u, (j_lshl (x_bt u) 1) ||| lN b, nI (c + 1), x_hr u, x_rs u, x_hv u, x_vs u, x_wz u, x_sz u, x_ro u, x_rc u, x_cn u, x_wt u, x_sn u) := by
          unfold x_lookForStart
          rw [if_neg (show ¬ (16 : Int32) ≤ nI (c + 1) from (show ¬ nI 16 ≤ nI (c + 1) from nI_ge (by omega) (by decide)))]
        rw [ex]
        refine ⟨⟨h1, h2, h3, h4, Or.inr (Or.inl ⟨a1, a2, c + 1, by omega, rfl, (show m_mn v + 1 = min (c + 1) 16 by omega), hB'⟩)⟩, (Int32.add_zero _).symm⟩
  · have hn1 : ¬ x_st u = 1 := by rw [h1, a1]; decide
    unfold x_takeBit m_bit m_bit_r
    rw [if_neg hn1, if_pos a1, if_pos a1, a3, nI_1]
    have hB' := b_push hb a2 a4
    by_cases h64 : m_mn v + 1 = 64
    · have e64 : nI (m_mn v + 1) = 64 := by rw [h64]; rfl
      rw [if_pos e64, if_pos e64, if_pos e64]
      exact r_lab (C := C + 1) (u := (x_st u, x_md u, (j_lshl (x_bt u) 1) ||| lN b, 0, x_hr u, x_rs u, x_hv u, x_vs u, x_wz u, x_sz u, x_ro u, x_rc u, x_cn u, x_wt u, x_sn u)) (v := (m_th v, m_st v, m_md v, m_mn v + 1, m_rw v, m_sz v, m_wn v, m_sn v, upd (m_bi v) (m_mn v) (nI b), m_ro v, m_rc v, m_wt v, m_se v, m_cn v)) (h1.trans a1) a1 h2 h3 h4 a5 a6 a7 rfl (fun j hj => by
        have := hB' j (by omega)
        rw [show m_mn v = 63 by omega] at this
        show upd (m_bi v) (m_mn v) (nI b) j = _
        rw [show m_mn v = 63 by omega]
        exact this)
    · have n64 : ¬ nI (m_mn v + 1) = 64 := fun e => h64 ((nI_eq (by omega) (by decide)).mp (show nI (m_mn v + 1) = nI 64 from e))
      rw [if_neg n64, if_neg n64, if_neg n64]
      refine ⟨⟨h1, h2, h3, h4, Or.inr (Or.inr ⟨a1, (show m_mn v + 1 < 64 by omega), rfl, hB', a5, a6, a7⟩)⟩, (Int32.add_zero _).symm⟩
