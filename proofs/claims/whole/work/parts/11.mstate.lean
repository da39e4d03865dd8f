theorem j_in4 {k N : Int32} {n : Nat} (hN : N.toInt + 1 = n) (h0 : ¬ k < 0) (h1 : k ≤ N) : vp_in k n := by
  rw [vp_in_iff]
  rw [Int32.lt_iff_toInt_lt, Int32.toInt_zero] at h0
  rw [Int32.le_iff_toInt_le] at h1
  omega
theorem j_in5 {k : Int32} {N n : Nat} (hN : N ≤ n ∧ n < 2 ^ 31) (h0 : ¬ k < 0) (h1 : k < nI N) : vp_in k n := by
  rw [vp_in_iff]
  rw [Int32.lt_iff_toInt_lt, Int32.toInt_zero] at h0
  rw [Int32.lt_iff_toInt_lt, nI_toInt (by omega)] at h1
  omega
theorem j_ltn {a b : Nat} (ha : a < 2 ^ 31) (hb : b < 2 ^ 31) (h : ¬ nI a ≤ nI b) : b < a := by
  rw [nI_leI ha hb] at h; omega
abbrev j_lshr (x : Int64) (y : Int32) : Int64 := x >>> (y.toInt64 &&& 63)
theorem inM : ∀ w ∈ wsX10, w ∈ tb := by decide +kernel
abbrev m_S : Type := Int32 × Int32 × Int32 × Nat × Nat × Nat × Nat × Nat × (Nat → Int32) × (Nat → Int32) × (Nat → Int32) × (Nat → Int32) × (Nat → Int32) × (Nat → Int32)
abbrev m_th (u : m_S) : Int32 := u.1
abbrev m_st (u : m_S) : Int32 := u.2.1
abbrev m_md (u : m_S) : Int32 := u.2.2.1
abbrev m_mn (u : m_S) : Nat := u.2.2.2.1
abbrev m_rw (u : m_S) : Nat := u.2.2.2.2.1
abbrev m_sz (u : m_S) : Nat := u.2.2.2.2.2.1
abbrev m_wn (u : m_S) : Nat := u.2.2.2.2.2.2.1
abbrev m_sn (u : m_S) : Nat := u.2.2.2.2.2.2.2.1
abbrev m_bi (u : m_S) : Nat → Int32 := u.2.2.2.2.2.2.2.2.1
abbrev m_ro (u : m_S) : Nat → Int32 := u.2.2.2.2.2.2.2.2.2.1
abbrev m_rc (u : m_S) : Nat → Int32 := u.2.2.2.2.2.2.2.2.2.2.1
abbrev m_wt (u : m_S) : Nat → Int32 := u.2.2.2.2.2.2.2.2.2.2.2.1
abbrev m_se (u : m_S) : Nat → Int32 := u.2.2.2.2.2.2.2.2.2.2.2.2.1
abbrev m_cn (u : m_S) : Nat → Int32 := u.2.2.2.2.2.2.2.2.2.2.2.2.2
abbrev m_W (qm pb pr pv pw ps pc : Nat) (cI : ClassId) (u : m_S) : va_W := [(qm, .inr (1, [.int (m_th u), .int (m_st u), .int (m_md u), .ref pb, .int (nI (m_mn u)), .ref pr, .int (nI (m_rw u)), .ref pv, .int (nI (m_sz u)), .ref pw, .int (nI (m_wn u)), .ref ps, .int (nI (m_sn u)), .ref pc])), (pb, .inl (cI, 64, .inl (m_bi u))), (pr, .inl (cI, 259, .inl (m_ro u))), (pv, .inl (cI, 259, .inl (m_rc u))), (pw, .inl (cI, 259, .inl (m_wt u))), (ps, .inl (cI, 306, .inl (m_se u))), (pc, .inl (cI, 5, .inl (m_cn u)))]
abbrev m_At (dC : Nat → ClassId) (dI : Nat → Nat → Nat) (A : Nat → Prop) (qm pb pr pv pw ps pc : Nat) (cI : ClassId) (u : m_S) (t : State) : Prop := va_P (dC, dI) vwCl (m_W qm pb pr pv pw ps pc cI u) t.heap ∧ va_K (dC, dI) vwCl [(cI, .int)] t ∧ va_D A (m_W qm pb pr pv pw ps pc cI u)
theorem fl_7 : Cond.fieldLink RX1 7 "CodeBlocksModel" "bits" "[I" ∈ tb := by decide +kernel
theorem fl_13 : Cond.fieldLink RX1 13 "CodeBlocksModel" "row" "[I" ∈ tb := by decide +kernel
theorem fl_16 : Cond.fieldLink RX1 16 "CodeBlocksModel" "received" "[I" ∈ tb := by decide +kernel
theorem fl_19 : Cond.fieldLink RX1 19 "CodeBlocksModel" "wanted" "[I" ∈ tb := by decide +kernel
theorem fl_22 : Cond.fieldLink RX1 22 "CodeBlocksModel" "sent" "[I" ∈ tb := by decide +kernel
theorem fl_25 : Cond.fieldLink RX1 25 "CodeBlocksModel" "counts" "[I" ∈ tb := by decide +kernel
theorem fl_28 : Cond.fieldLink RX1 28 "CodeBlocksModel" "thrown" "I" ∈ tb := by decide +kernel
theorem fl_36 : Cond.fieldLink RX1 36 "CodeBlocksModel" "mends" "Z" ∈ tb := by decide +kernel
theorem fl_40 : Cond.fieldLink RX1 40 "CodeBlocksModel" "state" "I" ∈ tb := by decide +kernel
theorem fl_43 : Cond.fieldLink RX1 43 "CodeBlocksModel" "many" "I" ∈ tb := by decide +kernel
theorem fl_46 : Cond.fieldLink RX1 46 "CodeBlocksModel" "rows" "I" ∈ tb := by decide +kernel
theorem fl_49 : Cond.fieldLink RX1 49 "CodeBlocksModel" "size" "I" ∈ tb := by decide +kernel
theorem fl_74 : Cond.fieldLink RX1 74 "CodeBlocksModel" "wants" "I" ∈ tb := by decide +kernel
theorem fl_77 : Cond.fieldLink RX1 77 "CodeBlocksModel" "sends" "I" ∈ tb := by decide +kernel
theorem gM_X1_divided {c0 : Cond} : GoodIn (c0 :: tb) (wsV RX1 32 RX1 yX1_divided vX1_divided) := tb_v (tb_in tbX1_divided) (by decide +kernel)
theorem gM_X1_begins {c0 : Cond} : GoodIn (c0 :: tb) (wsV RX1 52 RX1 yX1_begins vX1_begins) := tb_v (tb_in tbX1_begins) (by decide +kernel)
theorem gM_X1_wrong {c0 : Cond} : GoodIn (c0 :: tb) (wsV RX1 56 RX1 yX1_wrong vX1_wrong) := tb_v (tb_in tbX1_wrong) (by decide +kernel)
theorem gM_X1_ends {c0 : Cond} : GoodIn (c0 :: tb) (wsV RX1 60 RX1 yX1_ends vX1_ends) := tb_v (tb_in tbX1_ends) (by decide +kernel)
theorem gM_X1_block {c0 : Cond} : GoodIn (c0 :: tb) (wsV RX1 64 RX1 yX1_block vX1_block) := tb_v (tb_in tbX1_block) (by decide +kernel)
theorem gM_X1_look {c0 : Cond} : GoodIn (c0 :: tb) (wsV RX1 67 RX1 yX1_look vX1_look) := tb_v (tb_in tbX1_look) (by decide +kernel)
theorem gM_X1_bit {c0 : Cond} : GoodIn (c0 :: tb) (wsV RX1 70 RX1 yX1_bit vX1_bit) := tb_v (tb_in tbX1_bit) (by decide +kernel)
theorem gM_X1_out {c0 : Cond} : GoodIn (c0 :: tb) (wsV RX1 80 RX1 yX1_out vX1_out) := tb_v (tb_in tbX1_out) (by decide +kernel)
theorem gM_X1_check {c0 : Cond} : GoodIn (c0 :: tb) (wsV RX1 83 RX1 yX1_check vX1_check) := tb_v (tb_in tbX1_check) (by decide +kernel)
theorem tbObj : Cond.code objectInit ⟨#[0xb1]⟩ 1 none ∈ tb := List.mem_filter.mpr ⟨by decide +kernel, rfl⟩
