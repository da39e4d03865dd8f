abbrev rmX0_state : Room := { frames := 0, cells := 0, slots := 0, locals := 0 }
def x_state (u : x_S)  : Int32 := x_st u
set_option maxHeartbeats 4000000 in
set_option maxRecDepth 100000 in
theorem kX0_state (l : Launch) (dC : Nat → ClassId) (dI : Nat → Nat → Nat) (qx qc qw qs : Nat) (cI : ClassId) (u : x_S)  : Met l yX0_state wsX0_state rmX0_state (va_Pc [.ref qx] (fun U => va_P (dC, dI) vwCl (x_W qx qc qw qs cI u) U.heap ∧ va_K (dC, dI) vwCl [(cI, .int)] U)) (vp_Si (fun r => r = x_state u)) 0 0 (fun _ => False) := by
  refine Met.ofW (cc := cX0_state) (maxL := 1) (ret := some .int) (by decide) rfl ?_
  intro p e s m args below meth c s₁ B hml hv
  obtain ⟨rfl, hP, hK⟩ := hv
  have hx := B.exec
  have hb := B.bytes
  have hr := B.returns
  have hts := atoms_spec (ws := wsX0_state) B.pre
  have hown : s.vm.findClass RX0 = some m.cls := findClass_of_methodNamed B.named
  have hlocks := B.notSynchronized
  have hinT : ∀ w ∈ wsX00, w ∈ wsX0_state := by decide +kernel
  have hP : va_P (dC, dI) vwCl [(qx, .inr (0, [.int (x_st u), .int (x_md u), .long (x_bt u), .int (x_cm u), .ref (x_hr u), .int (x_rs u), .ref (x_hv u), .int (x_vs u), .ref qc, .ref qw, .int (x_wz u), .ref qs, .int (x_sz u)])), (x_hr u, .inl (cI, 259, .inl (x_ro u))), (x_hv u, .inl (cI, 259, .inl (x_rc u))), (qc, .inl (cI, 5, .inl (x_cn u))), (qw, .inl (cI, 259, .inl (x_wt u))), (qs, .inl (cI, 306, .inl (x_sn u)))] s.heap := hP
  have hl := lv_entry ([.ref qx]) (n := 1) (Nat.le_of_ble_eq_true rfl)
  rw [lg_entry_eq]
  generalize (lg_sl ([.ref qx]) ++ List.replicate (1 - (lg_sl ([.ref qx])).length) Slot.unset).toArray = ls at hl ⊢
  have hl : lv_has ls 1 [(0, .ref qx)] := hl
  refine lv_aload_n hx hb dX0_state_0 rfl (lv_at hl 0 rfl) ?_
  refine va_get (D := (dC, dI)) (ci := 0) (v := .int (x_st u)) (C := RX0) (T := TX0) (N := 13) hx hb hts hinT hown hK hP 0 rfl rfl 0 (by decide) (hts (.fieldLink RX0 9 "CodeBlocks" "state" "I") (by decide +kernel)) (fun _ h9 => h9) rfl dX0_state_1 ?_
  exact W.iret (v := x_st u) hx hb hr (fun t ht hW => ⟨_, rfl, (rfl), ht⟩) (fun q h => by cases h) dX0_state_4

abbrev rmX0_count : Room := { frames := 0, cells := 0, slots := 0, locals := 0 }
def x_count (u : x_S) (a0 : Int32) : Int32 := if a0 < 0 then (-1) else (if 5 ≤ a0 then (-1) else ((x_cn u) a0.toNatClampNeg))
set_option maxHeartbeats 4000000 in
set_option maxRecDepth 100000 in
theorem kX0_count (l : Launch) (dC : Nat → ClassId) (dI : Nat → Nat → Nat) (qx qc qw qs : Nat) (cI : ClassId) (u : x_S) (a0 : Int32) : Met l yX0_count wsX0_count rmX0_count (va_Pc [.ref qx, .int a0] (fun U => va_P (dC, dI) vwCl (x_W qx qc qw qs cI u) U.heap ∧ va_K (dC, dI) vwCl [(cI, .int)] U)) (vp_Si (fun r => r = x_count u a0)) 0 0 (fun _ => False) := by
  refine Met.ofW (cc := cX0_count) (maxL := 2) (ret := some .int) (by decide) rfl ?_
  intro p e s m args below meth c s₁ B hml hv
  obtain ⟨rfl, hP, hK⟩ := hv
  have hx := B.exec
  have hb := B.bytes
  have hr := B.returns
  have hts := atoms_spec (ws := wsX0_count) B.pre
  have hown : s.vm.findClass RX0 = some m.cls := findClass_of_methodNamed B.named
  have hlocks := B.notSynchronized
  have hinT : ∀ w ∈ wsX00, w ∈ wsX0_count := by decide +kernel
  have hP : va_P (dC, dI) vwCl [(qx, .inr (0, [.int (x_st u), .int (x_md u), .long (x_bt u), .int (x_cm u), .ref (x_hr u), .int (x_rs u), .ref (x_hv u), .int (x_vs u), .ref qc, .ref qw, .int (x_wz u), .ref qs, .int (x_sz u)])), (x_hr u, .inl (cI, 259, .inl (x_ro u))), (x_hv u, .inl (cI, 259, .inl (x_rc u))), (qc, .inl (cI, 5, .inl (x_cn u))), (qw, .inl (cI, 259, .inl (x_wt u))), (qs, .inl (cI, 306, .inl (x_sn u)))] s.heap := hP
  have hl := lv_entry ([.ref qx, .int a0]) (n := 2) (Nat.le_of_ble_eq_true rfl)
  rw [lg_entry_eq]
  generalize (lg_sl ([.ref qx, .int a0]) ++ List.replicate (2 - (lg_sl ([.ref qx, .int a0])).length) Slot.unset).toArray = ls at hl ⊢
  have hl : lv_has ls 2 [(0, .ref qx), (1, .int a0)] := hl
  refine lv_iload_n hx hb dX0_count_0 rfl (lv_at hl 1 rfl) ?_
  refine lv_if_lt (tgt := 22) hx hb dX0_count_1 (by decide) (fun c_1 => ?_) (fun c_1 => ?_)
  · refine lv_iconst (v := (-1)) hx hb dX0_count_22 (by decide) ?_
    exact W.iret (v := (-1)) hx hb hr (fun t ht hW => ⟨_, rfl, (by unfold x_count; rw [if_pos c_1]), ht⟩) (fun q h => by cases h) dX0_count_23
  · refine lv_iload_n hx hb dX0_count_4 rfl (lv_at hl 1 rfl) ?_
    refine lv_aload_n hx hb dX0_count_5 rfl (lv_at hl 0 rfl) ?_
    refine va_get (D := (dC, dI)) (ci := 0) (v := .ref qc) (C := RX0) (T := TX0) (N := 13) hx hb hts hinT hown hK hP 0 rfl rfl 8 (by decide) (hts (.fieldLink RX0 20 "CodeBlocks" "counts" "[I") (by decide +kernel)) (fun _ h9 => h9) rfl dX0_count_6 ?_
    refine va_alen hx hb hK hP 3 0 rfl rfl (v := 5) rfl dX0_count_9 ?_
    refine lv_icmp_ge (tgt := 22) hx hb dX0_count_10 (by decide) (fun c_2 => ?_) (fun c_2 => ?_)
    · refine lv_iconst (v := (-1)) hx hb dX0_count_22 (by decide) ?_
      exact W.iret (v := (-1)) hx hb hr (fun t ht hW => ⟨_, rfl, (by unfold x_count; rw [if_neg c_1, if_pos c_2]), ht⟩) (fun q h => by cases h) dX0_count_23
    · refine lv_aload_n hx hb dX0_count_13 rfl (lv_at hl 0 rfl) ?_
      refine va_get (D := (dC, dI)) (ci := 0) (v := .ref qc) (C := RX0) (T := TX0) (N := 13) hx hb hts hinT hown hK hP 0 rfl rfl 8 (by decide) (hts (.fieldLink RX0 20 "CodeBlocks" "counts" "[I") (by decide +kernel)) (fun _ h9 => h9) rfl dX0_count_14 ?_
      refine lv_iload_n hx hb dX0_count_17 rfl (lv_at hl 1 rfl) ?_
      refine va_iald hx hb hK hP 3 0 rfl rfl (j_in2 (by decide) c_1 c_2) dX0_count_18 ?_
      refine lv_goto (tgt := 23) hx hb dX0_count_19 (by decide) ?_
      exact W.iret (v := (x_cn u) a0.toNatClampNeg) hx hb hr (fun t ht hW => ⟨_, rfl, (by unfold x_count; rw [if_neg c_1, if_neg c_2]), ht⟩) (fun q h => by cases h) dX0_count_23

abbrev rmX0_size : Room := { frames := 0, cells := 0, slots := 0, locals := 0 }
def x_size (u : x_S)  : Int32 := x_vs u
set_option maxHeartbeats 4000000 in
set_option maxRecDepth 100000 in
theorem kX0_size (l : Launch) (dC : Nat → ClassId) (dI : Nat → Nat → Nat) (qx qc qw qs : Nat) (cI : ClassId) (u : x_S)  : Met l yX0_size wsX0_size rmX0_size (va_Pc [.ref qx] (fun U => va_P (dC, dI) vwCl (x_W qx qc qw qs cI u) U.heap ∧ va_K (dC, dI) vwCl [(cI, .int)] U)) (vp_Si (fun r => r = x_size u)) 0 0 (fun _ => False) := by
  refine Met.ofW (cc := cX0_size) (maxL := 1) (ret := some .int) (by decide) rfl ?_
  intro p e s m args below meth c s₁ B hml hv
  obtain ⟨rfl, hP, hK⟩ := hv
  have hx := B.exec
  have hb := B.bytes
  have hr := B.returns
  have hts := atoms_spec (ws := wsX0_size) B.pre
  have hown : s.vm.findClass RX0 = some m.cls := findClass_of_methodNamed B.named
  have hlocks := B.notSynchronized
  have hinT : ∀ w ∈ wsX00, w ∈ wsX0_size := by decide +kernel
  have hP : va_P (dC, dI) vwCl [(qx, .inr (0, [.int (x_st u), .int (x_md u), .long (x_bt u), .int (x_cm u), .ref (x_hr u), .int (x_rs u), .ref (x_hv u), .int (x_vs u), .ref qc, .ref qw, .int (x_wz u), .ref qs, .int (x_sz u)])), (x_hr u, .inl (cI, 259, .inl (x_ro u))), (x_hv u, .inl (cI, 259, .inl (x_rc u))), (qc, .inl (cI, 5, .inl (x_cn u))), (qw, .inl (cI, 259, .inl (x_wt u))), (qs, .inl (cI, 306, .inl (x_sn u)))] s.heap := hP
  have hl := lv_entry ([.ref qx]) (n := 1) (Nat.le_of_ble_eq_true rfl)
  rw [lg_entry_eq]
  generalize (lg_sl ([.ref qx]) ++ List.replicate (1 - (lg_sl ([.ref qx])).length) Slot.unset).toArray = ls at hl ⊢
  have hl : lv_has ls 1 [(0, .ref qx)] := hl
  refine lv_aload_n hx hb dX0_size_0 rfl (lv_at hl 0 rfl) ?_
  refine va_get (D := (dC, dI)) (ci := 0) (v := .int (x_vs u)) (C := RX0) (T := TX0) (N := 13) hx hb hts hinT hown hK hP 0 rfl rfl 7 (by decide) (hts (.fieldLink RX0 40 "CodeBlocks" "receivedSize" "I") (by decide +kernel)) (fun _ h9 => h9) rfl dX0_size_1 ?_
  exact W.iret (v := x_vs u) hx hb hr (fun t ht hW => ⟨_, rfl, (rfl), ht⟩) (fun q h => by cases h) dX0_size_4

abbrev rmX0_byteAt : Room := { frames := 0, cells := 0, slots := 0, locals := 0 }
def x_byteAt (u : x_S) (a0 : Int32) : Int32 := if a0 < 0 then (-1) else (if (x_vs u) ≤ a0 then (-1) else (if 259 ≤ a0 then (-1) else ((x_rc u) a0.toNatClampNeg)))
set_option maxHeartbeats 4000000 in
set_option maxRecDepth 100000 in
theorem kX0_byteAt (l : Launch) (dC : Nat → ClassId) (dI : Nat → Nat → Nat) (qx qc qw qs : Nat) (cI : ClassId) (u : x_S) (a0 : Int32) : Met l yX0_byteAt wsX0_byteAt rmX0_byteAt (va_Pc [.ref qx, .int a0] (fun U => va_P (dC, dI) vwCl (x_W qx qc qw qs cI u) U.heap ∧ va_K (dC, dI) vwCl [(cI, .int)] U)) (vp_Si (fun r => r = x_byteAt u a0)) 0 0 (fun _ => False) := by
  refine Met.ofW (cc := cX0_byteAt) (maxL := 2) (ret := some .int) (by decide) rfl ?_
  intro p e s m args below meth c s₁ B hml hv
  obtain ⟨rfl, hP, hK⟩ := hv
  have hx := B.exec
  have hb := B.bytes
  have hr := B.returns
  have hts := atoms_spec (ws := wsX0_byteAt) B.pre
  have hown : s.vm.findClass RX0 = some m.cls := findClass_of_methodNamed B.named
  have hlocks := B.notSynchronized
  have hinT : ∀ w ∈ wsX00, w ∈ wsX0_byteAt := by decide +kernel
  have hP : va_P (dC, dI) vwCl [(qx, .inr (0, [.int (x_st u), .int (x_md u), .long (x_bt u), .int (x_cm u), .ref (x_hr u), .int (x_rs u), .ref (x_hv u), .int (x_vs u), .ref qc, .ref qw, .int (x_wz u), .ref qs, .int (x_sz u)])), (x_hr u, .inl (cI, 259, .inl (x_ro u))), (x_hv u, .inl (cI, 259, .inl (x_rc u))), (qc, .inl (cI, 5, .inl (x_cn u))), (qw, .inl (cI, 259, .inl (x_wt u))), (qs, .inl (cI, 306, .inl (x_sn u)))] s.heap := hP
  have hl := lv_entry ([.ref qx, .int a0]) (n := 2) (Nat.le_of_ble_eq_true rfl)
  rw [lg_entry_eq]
  generalize (lg_sl ([.ref qx, .int a0]) ++ List.replicate (2 - (lg_sl ([.ref qx, .int a0])).length) Slot.unset).toArray = ls at hl ⊢
  have hl : lv_has ls 2 [(0, .ref qx), (1, .int a0)] := hl
  refine lv_iload_n hx hb dX0_byteAt_0 rfl (lv_at hl 1 rfl) ?_
  refine lv_if_lt (tgt := 30) hx hb dX0_byteAt_1 (by decide) (fun c_1 => ?_) (fun c_1 => ?_)
  · refine lv_iconst (v := (-1)) hx hb dX0_byteAt_30 (by decide) ?_
    exact W.iret (v := (-1)) hx hb hr (fun t ht hW => ⟨_, rfl, (by unfold x_byteAt; rw [if_pos c_1]), ht⟩) (fun q h => by cases h) dX0_byteAt_31
  · refine lv_iload_n hx hb dX0_byteAt_4 rfl (lv_at hl 1 rfl) ?_
    refine lv_aload_n hx hb dX0_byteAt_5 rfl (lv_at hl 0 rfl) ?_
    refine va_get (D := (dC, dI)) (ci := 0) (v := .int (x_vs u)) (C := RX0) (T := TX0) (N := 13) hx hb hts hinT hown hK hP 0 rfl rfl 7 (by decide) (hts (.fieldLink RX0 40 "CodeBlocks" "receivedSize" "I") (by decide +kernel)) (fun _ h9 => h9) rfl dX0_byteAt_6 ?_
    refine lv_icmp_ge (tgt := 30) hx hb dX0_byteAt_9 (by decide) (fun c_2 => ?_) (fun c_2 => ?_)
    · refine lv_iconst (v := (-1)) hx hb dX0_byteAt_30 (by decide) ?_
      exact W.iret (v := (-1)) hx hb hr (fun t ht hW => ⟨_, rfl, (by unfold x_byteAt; rw [if_neg c_1, if_pos c_2]), ht⟩) (fun q h => by cases h) dX0_byteAt_31
    · refine lv_iload_n hx hb dX0_byteAt_12 rfl (lv_at hl 1 rfl) ?_
      refine lv_aload_n hx hb dX0_byteAt_13 rfl (lv_at hl 0 rfl) ?_
      refine va_get (D := (dC, dI)) (ci := 0) (v := .ref (x_hv u)) (C := RX0) (T := TX0) (N := 13) hx hb hts hinT hown hK hP 0 rfl rfl 6 (by decide) (hts (.fieldLink RX0 17 "CodeBlocks" "received" "[I") (by decide +kernel)) (fun _ h9 => h9) rfl dX0_byteAt_14 ?_
      refine va_alen hx hb hK hP 2 0 rfl rfl (v := 259) rfl dX0_byteAt_17 ?_
      refine lv_icmp_ge (tgt := 30) hx hb dX0_byteAt_18 (by decide) (fun c_3 => ?_) (fun c_3 => ?_)
      · refine lv_iconst (v := (-1)) hx hb dX0_byteAt_30 (by decide) ?_
        exact W.iret (v := (-1)) hx hb hr (fun t ht hW => ⟨_, rfl, (by unfold x_byteAt; rw [if_neg c_1, if_neg c_2, if_pos c_3]), ht⟩) (fun q h => by cases h) dX0_byteAt_31
      · refine lv_aload_n hx hb dX0_byteAt_21 rfl (lv_at hl 0 rfl) ?_
        refine va_get (D := (dC, dI)) (ci := 0) (v := .ref (x_hv u)) (C := RX0) (T := TX0) (N := 13) hx hb hts hinT hown hK hP 0 rfl rfl 6 (by decide) (hts (.fieldLink RX0 17 "CodeBlocks" "received" "[I") (by decide +kernel)) (fun _ h9 => h9) rfl dX0_byteAt_22 ?_
        refine lv_iload_n hx hb dX0_byteAt_25 rfl (lv_at hl 1 rfl) ?_
        refine va_iald hx hb hK hP 2 0 rfl rfl (j_in2 (by decide) c_1 c_3) dX0_byteAt_26 ?_
        refine lv_goto (tgt := 31) hx hb dX0_byteAt_27 (by decide) ?_
        exact W.iret (v := (x_rc u) a0.toNatClampNeg) hx hb hr (fun t ht hW => ⟨_, rfl, (by unfold x_byteAt; rw [if_neg c_1, if_neg c_2, if_neg c_3]), ht⟩) (fun q h => by cases h) dX0_byteAt_31

abbrev rmX0_sent : Room := { frames := 0, cells := 0, slots := 0, locals := 0 }
def x_sent (u : x_S) (a0 : Int32) : Int32 := if a0 < 0 then (-1) else (if (x_sz u) ≤ a0 then (-1) else (if 306 ≤ a0 then (-1) else ((x_sn u) a0.toNatClampNeg)))
set_option maxHeartbeats 4000000 in
set_option maxRecDepth 100000 in
theorem kX0_sent (l : Launch) (dC : Nat → ClassId) (dI : Nat → Nat → Nat) (qx qc qw qs : Nat) (cI : ClassId) (u : x_S) (a0 : Int32) : Met l yX0_sent wsX0_sent rmX0_sent (va_Pc [.ref qx, .int a0] (fun U => va_P (dC, dI) vwCl (x_W qx qc qw qs cI u) U.heap ∧ va_K (dC, dI) vwCl [(cI, .int)] U)) (vp_Si (fun r => r = x_sent u a0)) 0 0 (fun _ => False) := by
  refine Met.ofW (cc := cX0_sent) (maxL := 2) (ret := some .int) (by decide) rfl ?_
  intro p e s m args below meth c s₁ B hml hv
  obtain ⟨rfl, hP, hK⟩ := hv
  have hx := B.exec
  have hb := B.bytes
  have hr := B.returns
  have hts := atoms_spec (ws := wsX0_sent) B.pre
  have hown : s.vm.findClass RX0 = some m.cls := findClass_of_methodNamed B.named
  have hlocks := B.notSynchronized
  have hinT : ∀ w ∈ wsX00, w ∈ wsX0_sent := by decide +kernel
  have hP : va_P (dC, dI) vwCl [(qx, .inr (0, [.int (x_st u), .int (x_md u), .long (x_bt u), .int (x_cm u), .ref (x_hr u), .int (x_rs u), .ref (x_hv u), .int (x_vs u), .ref qc, .ref qw, .int (x_wz u), .ref qs, .int (x_sz u)])), (x_hr u, .inl (cI, 259, .inl (x_ro u))), (x_hv u, .inl (cI, 259, .inl (x_rc u))), (qc, .inl (cI, 5, .inl (x_cn u))), (qw, .inl (cI, 259, .inl (x_wt u))), (qs, .inl (cI, 306, .inl (x_sn u)))] s.heap := hP
  have hl := lv_entry ([.ref qx, .int a0]) (n := 2) (Nat.le_of_ble_eq_true rfl)
  rw [lg_entry_eq]
  generalize (lg_sl ([.ref qx, .int a0]) ++ List.replicate (2 - (lg_sl ([.ref qx, .int a0])).length) Slot.unset).toArray = ls at hl ⊢
  have hl : lv_has ls 2 [(0, .ref qx), (1, .int a0)] := hl
  refine lv_iload_n hx hb dX0_sent_0 rfl (lv_at hl 1 rfl) ?_
  refine lv_if_lt (tgt := 30) hx hb dX0_sent_1 (by decide) (fun c_1 => ?_) (fun c_1 => ?_)
  · refine lv_iconst (v := (-1)) hx hb dX0_sent_30 (by decide) ?_
    exact W.iret (v := (-1)) hx hb hr (fun t ht hW => ⟨_, rfl, (by unfold x_sent; rw [if_pos c_1]), ht⟩) (fun q h => by cases h) dX0_sent_31
  · refine lv_iload_n hx hb dX0_sent_4 rfl (lv_at hl 1 rfl) ?_
    refine lv_aload_n hx hb dX0_sent_5 rfl (lv_at hl 0 rfl) ?_
    refine va_get (D := (dC, dI)) (ci := 0) (v := .int (x_sz u)) (C := RX0) (T := TX0) (N := 13) hx hb hts hinT hown hK hP 0 rfl rfl 12 (by decide) (hts (.fieldLink RX0 49 "CodeBlocks" "sentSize" "I") (by decide +kernel)) (fun _ h9 => h9) rfl dX0_sent_6 ?_
    refine lv_icmp_ge (tgt := 30) hx hb dX0_sent_9 (by decide) (fun c_2 => ?_) (fun c_2 => ?_)
    · refine lv_iconst (v := (-1)) hx hb dX0_sent_30 (by decide) ?_
      exact W.iret (v := (-1)) hx hb hr (fun t ht hW => ⟨_, rfl, (by unfold x_sent; rw [if_neg c_1, if_pos c_2]), ht⟩) (fun q h => by cases h) dX0_sent_31
    · refine lv_iload_n hx hb dX0_sent_12 rfl (lv_at hl 1 rfl) ?_
      refine lv_aload_n hx hb dX0_sent_13 rfl (lv_at hl 0 rfl) ?_
      refine va_get (D := (dC, dI)) (ci := 0) (v := .ref qs) (C := RX0) (T := TX0) (N := 13) hx hb hts hinT hown hK hP 0 rfl rfl 11 (by decide) (hts (.fieldLink RX0 26 "CodeBlocks" "sent" "[I") (by decide +kernel)) (fun _ h9 => h9) rfl dX0_sent_14 ?_
      refine va_alen hx hb hK hP 5 0 rfl rfl (v := 306) rfl dX0_sent_17 ?_
      refine lv_icmp_ge (tgt := 30) hx hb dX0_sent_18 (by decide) (fun c_3 => ?_) (fun c_3 => ?_)
      · refine lv_iconst (v := (-1)) hx hb dX0_sent_30 (by decide) ?_
        exact W.iret (v := (-1)) hx hb hr (fun t ht hW => ⟨_, rfl, (by unfold x_sent; rw [if_neg c_1, if_neg c_2, if_pos c_3]), ht⟩) (fun q h => by cases h) dX0_sent_31
      · refine lv_aload_n hx hb dX0_sent_21 rfl (lv_at hl 0 rfl) ?_
        refine va_get (D := (dC, dI)) (ci := 0) (v := .ref qs) (C := RX0) (T := TX0) (N := 13) hx hb hts hinT hown hK hP 0 rfl rfl 11 (by decide) (hts (.fieldLink RX0 26 "CodeBlocks" "sent" "[I") (by decide +kernel)) (fun _ h9 => h9) rfl dX0_sent_22 ?_
        refine lv_iload_n hx hb dX0_sent_25 rfl (lv_at hl 1 rfl) ?_
        refine va_iald hx hb hK hP 5 0 rfl rfl (j_in2 (by decide) c_1 c_3) dX0_sent_26 ?_
        refine lv_goto (tgt := 31) hx hb dX0_sent_27 (by decide) ?_
        exact W.iret (v := (x_sn u) a0.toNatClampNeg) hx hb hr (fun t ht hW => ⟨_, rfl, (by unfold x_sent; rw [if_neg c_1, if_neg c_2, if_neg c_3]), ht⟩) (fun q h => by cases h) dX0_sent_31

abbrev rmX0_put : Room := { frames := 0, cells := 0, slots := 0, locals := 0 }
def x_put (u : x_S) (a0 : Int32) : x_S := if (x_wz u) < 0 then u else (if (x_wz u) < 259 then (x_st u, x_md u, x_bt u, x_cm u, x_hr u, x_rs u, x_hv u, x_vs u, (x_wz u) + 1, x_sz u, x_ro u, x_rc u, x_cn u, upd (x_wt u) ((x_wz u).toNatClampNeg) (a0 &&& 255), x_sn u) else u)
def x_put_r (u : x_S) (a0 : Int32) : Int32 := if (x_wz u) < 0 then (-1) else (if (x_wz u) < 259 then ((x_wz u) + 1) else (-1))
set_option maxHeartbeats 4000000 in
set_option maxRecDepth 100000 in
theorem kX0_put (l : Launch) (dC : Nat → ClassId) (dI : Nat → Nat → Nat) (qx qc qw qs : Nat) (cI : ClassId) (sz : Nat) (u : x_S) (a0 : Int32) : Met l yX0_put wsX0_put rmX0_put (va_Pc [.ref qx, .int a0] (fun U => U.heap.size = sz ∧ va_P (dC, dI) vwCl (x_W qx qc qw qs cI u) U.heap ∧ va_K (dC, dI) vwCl [(cI, .int)] U ∧ va_D (fun _ => True) (x_W qx qc qw qs cI u))) (va_Qi (fun r u2 => r = x_put_r u a0 ∧ u2 = x_put u a0) (x_At dC dI (va_A (x_W qx qc qw qs cI u) sz) qx qc qw qs cI) (va_A (x_W qx qc qw qs cI u) sz)) 0 0 (va_A (x_W qx qc qw qs cI u) sz) := by
  refine Met.ofW (cc := cX0_put) (maxL := 2) (ret := some .int) (by decide) rfl ?_
  intro p e s m args below meth c s₁ B hml hv
  obtain ⟨rfl, hsz, hP, hK, hD0⟩ := hv
  have hx := B.exec
  have hb := B.bytes
  have hr := B.returns
  have hts := atoms_spec (ws := wsX0_put) B.pre
  have hown : s.vm.findClass RX0 = some m.cls := findClass_of_methodNamed B.named
  have hlocks := B.notSynchronized
  have hinT : ∀ w ∈ wsX00, w ∈ wsX0_put := by decide +kernel
  subst hsz
  have hD := hD0.self (sz := s.heap.size)
  generalize hAe : va_A (x_W qx qc qw qs cI u) s.heap.size = A at hD ⊢
  have hA : ∀ q : Nat, s.heap.size ≤ q → A q := fun q h => by rw [← hAe]; exact Or.inr h
  have hS : va_S A s.heap s.heap [] := va_S.rf
  have hD : va_D A [(qx, .inr (0, [.int (x_st u), .int (x_md u), .long (x_bt u), .int (x_cm u), .ref (x_hr u), .int (x_rs u), .ref (x_hv u), .int (x_vs u), .ref qc, .ref qw, .int (x_wz u), .ref qs, .int (x_sz u)])), (x_hr u, .inl (cI, 259, .inl (x_ro u))), (x_hv u, .inl (cI, 259, .inl (x_rc u))), (qc, .inl (cI, 5, .inl (x_cn u))), (qw, .inl (cI, 259, .inl (x_wt u))), (qs, .inl (cI, 306, .inl (x_sn u)))] := hD
  have hP : va_P (dC, dI) vwCl [(qx, .inr (0, [.int (x_st u), .int (x_md u), .long (x_bt u), .int (x_cm u), .ref (x_hr u), .int (x_rs u), .ref (x_hv u), .int (x_vs u), .ref qc, .ref qw, .int (x_wz u), .ref qs, .int (x_sz u)])), (x_hr u, .inl (cI, 259, .inl (x_ro u))), (x_hv u, .inl (cI, 259, .inl (x_rc u))), (qc, .inl (cI, 5, .inl (x_cn u))), (qw, .inl (cI, 259, .inl (x_wt u))), (qs, .inl (cI, 306, .inl (x_sn u)))] s.heap := hP
  have hl := lv_entry ([.ref qx, .int a0]) (n := 2) (Nat.le_of_ble_eq_true rfl)
  rw [lg_entry_eq]
  generalize (lg_sl ([.ref qx, .int a0]) ++ List.replicate (2 - (lg_sl ([.ref qx, .int a0])).length) Slot.unset).toArray = ls at hl ⊢
  have hl : lv_has ls 2 [(0, .ref qx), (1, .int a0)] := hl
  refine lv_aload_n hx hb dX0_put_0 rfl (lv_at hl 0 rfl) ?_
  refine va_get (D := (dC, dI)) (ci := 0) (v := .int (x_wz u)) (C := RX0) (T := TX0) (N := 13) hx hb hts hinT hown hK hP 0 rfl rfl 10 (by decide) (hts (.fieldLink RX0 43 "CodeBlocks" "waitingSize" "I") (by decide +kernel)) (fun _ h9 => h9) rfl dX0_put_1 ?_
  refine lv_if_lt (tgt := 19) hx hb dX0_put_4 (by decide) (fun c_1 => ?_) (fun c_1 => ?_)
  · refine lv_iconst (v := (-1)) hx hb dX0_put_19 (by decide) ?_
    have hP9 : va_P (dC, dI) vwCl (x_W qx qc qw qs cI u) s.heap := hP
    have hD9 : va_D A (x_W qx qc qw qs cI u) := hD
    exact W.iret (v := (-1)) hx hb hr (fun t ht hW => ⟨⟨_, u, rfl, ⟨(by unfold x_put_r; rw [if_pos c_1]), (by unfold x_put; rw [if_pos c_1])⟩, by rw [ht]; exact hP9, va_K.moved hW.alike hK, hD9⟩, hS.F ht⟩) hS.2.2 dX0_put_20
  · refine lv_aload_n hx hb dX0_put_7 rfl (lv_at hl 0 rfl) ?_
    refine va_get (D := (dC, dI)) (ci := 0) (v := .int (x_wz u)) (C := RX0) (T := TX0) (N := 13) hx hb hts hinT hown hK hP 0 rfl rfl 10 (by decide) (hts (.fieldLink RX0 43 "CodeBlocks" "waitingSize" "I") (by decide +kernel)) (fun _ h9 => h9) rfl dX0_put_8 ?_
    refine lv_aload_n hx hb dX0_put_11 rfl (lv_at hl 0 rfl) ?_
    refine va_get (D := (dC, dI)) (ci := 0) (v := .ref qw) (C := RX0) (T := TX0) (N := 13) hx hb hts hinT hown hK hP 0 rfl rfl 9 (by decide) (hts (.fieldLink RX0 23 "CodeBlocks" "waiting" "[I") (by decide +kernel)) (fun _ h9 => h9) rfl dX0_put_12 ?_
    refine va_alen hx hb hK hP 4 0 rfl rfl (v := 259) rfl dX0_put_15 ?_
    refine lv_icmp_lt (tgt := 21) hx hb dX0_put_16 (by decide) (fun c_2 => ?_) (fun c_2 => ?_)
    · refine lv_aload_n hx hb dX0_put_21 rfl (lv_at hl 0 rfl) ?_
      refine va_get (D := (dC, dI)) (ci := 0) (v := .ref qw) (C := RX0) (T := TX0) (N := 13) hx hb hts hinT hown hK hP 0 rfl rfl 9 (by decide) (hts (.fieldLink RX0 23 "CodeBlocks" "waiting" "[I") (by decide +kernel)) (fun _ h9 => h9) rfl dX0_put_22 ?_
      refine lv_aload_n hx hb dX0_put_25 rfl (lv_at hl 0 rfl) ?_
      refine va_get (D := (dC, dI)) (ci := 0) (v := .int (x_wz u)) (C := RX0) (T := TX0) (N := 13) hx hb hts hinT hown hK hP 0 rfl rfl 10 (by decide) (hts (.fieldLink RX0 43 "CodeBlocks" "waitingSize" "I") (by decide +kernel)) (fun _ h9 => h9) rfl dX0_put_26 ?_
      refine lv_iload_n hx hb dX0_put_29 rfl (lv_at hl 1 rfl) ?_
      refine lv_sipush (v := 255) hx hb dX0_put_30 (by decide) ?_
      refine lv_iand hx hb dX0_put_33 ?_
      refine va_iast hx hb hK hP hD hS 4 0 rfl rfl (j_in3 (by decide) c_1 c_2) dX0_put_34 (fun H locs hP hD hS => ?_)
      have hP : va_P (dC, dI) vwCl [(qx, .inr (0, [.int (x_st u), .int (x_md u), .long (x_bt u), .int (x_cm u), .ref (x_hr u), .int (x_rs u), .ref (x_hv u), .int (x_vs u), .ref qc, .ref qw, .int (x_wz u), .ref qs, .int (x_sz u)])), (x_hr u, .inl (cI, 259, .inl (x_ro u))), (x_hv u, .inl (cI, 259, .inl (x_rc u))), (qc, .inl (cI, 5, .inl (x_cn u))), (qw, .inl (cI, 259, .inl (upd (x_wt u) ((x_wz u).toNatClampNeg) (a0 &&& 255)))), (qs, .inl (cI, 306, .inl (x_sn u)))] H := hP
      have hD : va_D A [(qx, .inr (0, [.int (x_st u), .int (x_md u), .long (x_bt u), .int (x_cm u), .ref (x_hr u), .int (x_rs u), .ref (x_hv u), .int (x_vs u), .ref qc, .ref qw, .int (x_wz u), .ref qs, .int (x_sz u)])), (x_hr u, .inl (cI, 259, .inl (x_ro u))), (x_hv u, .inl (cI, 259, .inl (x_rc u))), (qc, .inl (cI, 5, .inl (x_cn u))), (qw, .inl (cI, 259, .inl (upd (x_wt u) ((x_wz u).toNatClampNeg) (a0 &&& 255)))), (qs, .inl (cI, 306, .inl (x_sn u)))] := hD
      refine lv_aload_n hx hb dX0_put_35 rfl (lv_at hl 0 rfl) ?_
      refine lv_dup hx hb dX0_put_36 rfl ?_
      refine va_get (D := (dC, dI)) (ci := 0) (v := .int (x_wz u)) (C := RX0) (T := TX0) (N := 13) hx hb hts hinT hown hK hP 0 rfl rfl 10 (by decide) (hts (.fieldLink RX0 43 "CodeBlocks" "waitingSize" "I") (by decide +kernel)) (fun _ h9 => h9) rfl dX0_put_37 ?_
      refine lv_iconst (v := 1) hx hb dX0_put_40 (by decide) ?_
      refine lv_iadd hx hb dX0_put_41 ?_
      refine va_put (D := (dC, dI)) (ci := 0) (v := .int ((x_wz u) + 1)) (ty := .int) (C := RX0) (T := TX0) (N := 13) hx hb hts hinT tyX0 tyX0_ok nmX0 hown hK hP hD hS 0 rfl rfl 10 (by decide) (hts (.fieldLink RX0 43 "CodeBlocks" "waitingSize" "I") (by decide +kernel)) (fun _ h9 => h9) rfl (by decide +kernel) rfl rfl (Nat.le_of_ble_eq_true rfl) dX0_put_42 (fun H locs hP hD hS => ?_)
      have hP : va_P (dC, dI) vwCl [(qx, .inr (0, [.int (x_st u), .int (x_md u), .long (x_bt u), .int (x_cm u), .ref (x_hr u), .int (x_rs u), .ref (x_hv u), .int (x_vs u), .ref qc, .ref qw, .int ((x_wz u) + 1), .ref qs, .int (x_sz u)])), (x_hr u, .inl (cI, 259, .inl (x_ro u))), (x_hv u, .inl (cI, 259, .inl (x_rc u))), (qc, .inl (cI, 5, .inl (x_cn u))), (qw, .inl (cI, 259, .inl (upd (x_wt u) ((x_wz u).toNatClampNeg) (a0 &&& 255)))), (qs, .inl (cI, 306, .inl (x_sn u)))] H := hP
      have hD : va_D A [(qx, .inr (0, [.int (x_st u), .int (x_md u), .long (x_bt u), .int (x_cm u), .ref (x_hr u), .int (x_rs u), .ref (x_hv u), .int (x_vs u), .ref qc, .ref qw, .int ((x_wz u) + 1), .ref qs, .int (x_sz u)])), (x_hr u, .inl (cI, 259, .inl (x_ro u))), (x_hv u, .inl (cI, 259, .inl (x_rc u))), (qc, .inl (cI, 5, .inl (x_cn u))), (qw, .inl (cI, 259, .inl (upd (x_wt u) ((x_wz u).toNatClampNeg) (a0 &&& 255)))), (qs, .inl (cI, 306, .inl (x_sn u)))] := hD
      refine lv_aload_n hx hb dX0_put_45 rfl (lv_at hl 0 rfl) ?_
      refine va_get (D := (dC, dI)) (ci := 0) (v := .int ((x_wz u) + 1)) (C := RX0) (T := TX0) (N := 13) hx hb hts hinT hown hK hP 0 rfl rfl 10 (by decide) (hts (.fieldLink RX0 43 "CodeBlocks" "waitingSize" "I") (by decide +kernel)) (fun _ h9 => h9) rfl dX0_put_46 ?_
      have hP9 : va_P (dC, dI) vwCl (x_W qx qc qw qs cI (x_st u, x_md u, x_bt u, x_cm u, x_hr u, x_rs u, x_hv u, x_vs u, (x_wz u) + 1, x_sz u, x_ro u, x_rc u, x_cn u, upd (x_wt u) ((x_wz u).toNatClampNeg) (a0 &&& 255), x_sn u)) H := hP
      have hD9 : va_D A (x_W qx qc qw qs cI (x_st u, x_md u, x_bt u, x_cm u, x_hr u, x_rs u, x_hv u, x_vs u, (x_wz u) + 1, x_sz u, x_ro u, x_rc u, x_cn u, upd (x_wt u) ((x_wz u).toNatClampNeg) (a0 &&& 255), x_sn u)) := hD
      exact W.iret (v := (x_wz u) + 1) hx hb hr (fun t ht hW => ⟨⟨_, (x_st u, x_md u, x_bt u, x_cm u, x_hr u, x_rs u, x_hv u, x_vs u, (x_wz u) + 1, x_sz u, x_ro u, x_rc u, x_cn u, upd (x_wt u) ((x_wz u).toNatClampNeg) (a0 &&& 255), x_sn u), rfl, ⟨(by unfold x_put_r; rw [if_neg c_1, if_pos c_2]), (by unfold x_put; rw [if_neg c_1, if_pos c_2])⟩, by rw [ht]; exact hP9, va_K.moved hW.alike hK, hD9⟩, hS.F ht⟩) hS.2.2 dX0_put_49
    · refine lv_iconst (v := (-1)) hx hb dX0_put_19 (by decide) ?_
      have hP9 : va_P (dC, dI) vwCl (x_W qx qc qw qs cI u) s.heap := hP
      have hD9 : va_D A (x_W qx qc qw qs cI u) := hD
      exact W.iret (v := (-1)) hx hb hr (fun t ht hW => ⟨⟨_, u, rfl, ⟨(by unfold x_put_r; rw [if_neg c_1, if_neg c_2]), (by unfold x_put; rw [if_neg c_1, if_neg c_2])⟩, by rw [ht]; exact hP9, va_K.moved hW.alike hK, hD9⟩, hS.F ht⟩) hS.2.2 dX0_put_20

abbrev rmX0_turn : Room := { frames := 1, cells := 0, slots := 0, locals := 20 }
def x_turn (u : x_S) (b : Bool) : x_S := if (x_st u) = 0 then (if (j_b b) = 0 then u else (x_beginSearch u)) else (if (j_b b) = 1 then u else (if (j_b b) = 0 then (0, x_md u, x_bt u, x_cm u, x_hr u, x_rs u, x_hv u, x_vs u, x_wz u, x_sz u, x_ro u, x_rc u, x_cn u, x_wt u, x_sn u) else (x_beginSearch u)))
def x_turn_r (u : x_S) (b : Bool) : Int32 := if (x_st u) = 0 then (if (j_b b) = 0 then 0 else 1) else (if (j_b b) = 1 then 0 else (if (j_b b) = 0 then 1 else 1))
set_option maxHeartbeats 4000000 in
set_option maxRecDepth 100000 in
theorem kX0_turn (l : Launch) (dC : Nat → ClassId) (dI : Nat → Nat → Nat) (qx qc qw qs : Nat) (cI : ClassId) (sz : Nat) (u : x_S) (b : Bool) : Met l yX0_turn wsX0_turn rmX0_turn (va_Pc [.ref qx, .int (j_b b)] (fun U => U.heap.size = sz ∧ va_P (dC, dI) vwCl (x_W qx qc qw qs cI u) U.heap ∧ va_K (dC, dI) vwCl [(cI, .int)] U ∧ va_D (fun _ => True) (x_W qx qc qw qs cI u))) (va_Qi (fun r u2 => r = x_turn_r u b ∧ u2 = x_turn u b) (x_At dC dI (va_A (x_W qx qc qw qs cI u) sz) qx qc qw qs cI) (va_A (x_W qx qc qw qs cI u) sz)) 0 0 (va_A (x_W qx qc qw qs cI u) sz) := by
  refine Met.ofW (cc := cX0_turn) (maxL := 2) (ret := some .boolean) (by decide) rfl ?_
  intro p e s m args below meth c s₁ B hml hv
  obtain ⟨rfl, hsz, hP, hK, hD0⟩ := hv
  have hx := B.exec
  have hb := B.bytes
  have hr := B.returns
  have hts := atoms_spec (ws := wsX0_turn) B.pre
  have hown : s.vm.findClass RX0 = some m.cls := findClass_of_methodNamed B.named
  have hlocks := B.notSynchronized
  have hinT : ∀ w ∈ wsX00, w ∈ wsX0_turn := by decide +kernel
  subst hsz
  have hD := hD0.self (sz := s.heap.size)
  generalize hAe : va_A (x_W qx qc qw qs cI u) s.heap.size = A at hD ⊢
  have hA : ∀ q : Nat, s.heap.size ≤ q → A q := fun q h => by rw [← hAe]; exact Or.inr h
  have hS : va_S A s.heap s.heap [] := va_S.rf
  have hD : va_D A [(qx, .inr (0, [.int (x_st u), .int (x_md u), .long (x_bt u), .int (x_cm u), .ref (x_hr u), .int (x_rs u), .ref (x_hv u), .int (x_vs u), .ref qc, .ref qw, .int (x_wz u), .ref qs, .int (x_sz u)])), (x_hr u, .inl (cI, 259, .inl (x_ro u))), (x_hv u, .inl (cI, 259, .inl (x_rc u))), (qc, .inl (cI, 5, .inl (x_cn u))), (qw, .inl (cI, 259, .inl (x_wt u))), (qs, .inl (cI, 306, .inl (x_sn u)))] := hD
  have hP : va_P (dC, dI) vwCl [(qx, .inr (0, [.int (x_st u), .int (x_md u), .long (x_bt u), .int (x_cm u), .ref (x_hr u), .int (x_rs u), .ref (x_hv u), .int (x_vs u), .ref qc, .ref qw, .int (x_wz u), .ref qs, .int (x_sz u)])), (x_hr u, .inl (cI, 259, .inl (x_ro u))), (x_hv u, .inl (cI, 259, .inl (x_rc u))), (qc, .inl (cI, 5, .inl (x_cn u))), (qw, .inl (cI, 259, .inl (x_wt u))), (qs, .inl (cI, 306, .inl (x_sn u)))] s.heap := hP
  have hl := lv_entry ([.ref qx, .int (j_b b)]) (n := 2) (Nat.le_of_ble_eq_true rfl)
  rw [lg_entry_eq]
  generalize (lg_sl ([.ref qx, .int (j_b b)]) ++ List.replicate (2 - (lg_sl ([.ref qx, .int (j_b b)])).length) Slot.unset).toArray = ls at hl ⊢
  have hl : lv_has ls 2 [(0, .ref qx), (1, .int (j_b b))] := hl
  refine lv_iload_n hx hb dX0_turn_0 rfl (lv_at hl 1 rfl) ?_
  refine lv_aload_n hx hb dX0_turn_1 rfl (lv_at hl 0 rfl) ?_
  refine va_get (D := (dC, dI)) (ci := 0) (v := .int (x_st u)) (C := RX0) (T := TX0) (N := 13) hx hb hts hinT hown hK hP 0 rfl rfl 0 (by decide) (hts (.fieldLink RX0 9 "CodeBlocks" "state" "I") (by decide +kernel)) (fun _ h9 => h9) rfl dX0_turn_2 ?_
  refine lv_if_eq (tgt := 12) hx hb dX0_turn_5 (by decide) (fun c_1 => ?_) (fun c_1 => ?_)
  · refine lv_iconst (v := 0) hx hb dX0_turn_12 (by decide) ?_
    refine lv_icmp_ne (tgt := 18) hx hb dX0_turn_13 (by decide) (fun c_2 => ?_) (fun c_2 => ?_)
    · refine lv_iload_n hx hb dX0_turn_18 rfl (lv_at hl 1 rfl) ?_
      refine lv_if_eq (tgt := 29) hx hb dX0_turn_19 (by decide) (fun c_3 => absurd c_3 (c_2)) (fun c_3 => ?_)
      refine lv_aload_n hx hb dX0_turn_22 rfl (lv_at hl 0 rfl) ?_
      have hPc : va_P (dC, dI) vwCl (x_W qx qc qw qs cI u) s.heap := hP
      have hDc : va_D A (x_W qx qc qw qs cI u) := hD
      have hFc := va_free (wc := (x_W qx qc qw qs cI u)) hD hS hA [0, 1, 2, 3, 4, 5] rfl
      refine va_callv (va_runV (As := []) (rest := []) ⟨hx, hb, hml, hown, hts⟩ (kX0_beginSearch l dC dI qx qc qw qs cI s.heap.size u  ) (cwV 0 hts gX0_turn_X0_beginSearch rfl rfl rfl (by decide +kernel) ⟨Nat.le_of_ble_eq_true rfl, Nat.le_of_ble_eq_true rfl⟩) ⟨fun a U g mk q => by obtain ⟨q0, q1, qP, qK, qD⟩ := q; exact ⟨q0, q1, qP, va_K.moved (u := U) (U := U.calling g mk a) (Vm.Alike.refl U.vm) qK, qD⟩, va_recv hK hP (ci := 0) (q0 := 0) rfl rfl, fun U hU hW => ⟨rfl, by rw [hU], by rw [hU]; exact hPc, va_K.moved hW.alike hK, hDc.weaken (fun _ _ _ _ => trivial)⟩⟩ rfl rfl hl.1 rfl (lv_room (Nat.le_of_ble_eq_true rfl)) dX0_turn_23 ⟨Nat.le_of_ble_eq_true rfl, Nat.le_of_ble_eq_true rfl⟩) hS (fun q _ h => hFc q h) hFc (fun  u_4 t H1 locs ht hvm hu_4 hB hz1 hk1 hS => ?_)
      obtain ⟨hP1, -, hD1⟩ := hB
      rw [ht] at hP1
      have hP : va_P (dC, dI) vwCl [(qx, .inr (0, [.int (x_st u_4), .int (x_md u_4), .long (x_bt u_4), .int (x_cm u_4), .ref (x_hr u_4), .int (x_rs u_4), .ref (x_hv u_4), .int (x_vs u_4), .ref qc, .ref qw, .int (x_wz u_4), .ref qs, .int (x_sz u_4)])), (x_hr u_4, .inl (cI, 259, .inl (x_ro u_4))), (x_hv u_4, .inl (cI, 259, .inl (x_rc u_4))), (qc, .inl (cI, 5, .inl (x_cn u_4))), (qw, .inl (cI, 259, .inl (x_wt u_4))), (qs, .inl (cI, 306, .inl (x_sn u_4)))] H1 := hP1
      have hD : va_D A [(qx, .inr (0, [.int (x_st u_4), .int (x_md u_4), .long (x_bt u_4), .int (x_cm u_4), .ref (x_hr u_4), .int (x_rs u_4), .ref (x_hv u_4), .int (x_vs u_4), .ref qc, .ref qw, .int (x_wz u_4), .ref qs, .int (x_sz u_4)])), (x_hr u_4, .inl (cI, 259, .inl (x_ro u_4))), (x_hv u_4, .inl (cI, 259, .inl (x_rc u_4))), (qc, .inl (cI, 5, .inl (x_cn u_4))), (qw, .inl (cI, 259, .inl (x_wt u_4))), (qs, .inl (cI, 306, .inl (x_sn u_4)))] := hD1.weaken (fun k q _ h => hFc q.1 h)
      generalize H1 = H at hP hS ⊢
      refine lv_goto (tgt := 34) hx hb dX0_turn_26 (by decide) ?_
      refine lv_iconst (v := 1) hx hb dX0_turn_34 (by decide) ?_
      have hP9 : va_P (dC, dI) vwCl (x_W qx qc qw qs cI u_4) H := hP
      have hD9 : va_D A (x_W qx qc qw qs cI u_4) := hD
      exact W.zret (v := 1) hx hb hr (by first | rfl | decide) (fun t ht hW => ⟨⟨_, u_4, rfl, ⟨(by subst hu_4; unfold x_turn_r; rw [if_pos c_1, if_neg c_2]), (by subst hu_4; unfold x_turn; rw [if_pos c_1, if_neg c_2])⟩, by rw [ht]; exact hP9, va_K.moved hW.alike hK, hD9⟩, hS.F ht⟩) hS.2.2 dX0_turn_35
    · refine lv_iconst (v := 0) hx hb dX0_turn_16 (by decide) ?_
      have hP9 : va_P (dC, dI) vwCl (x_W qx qc qw qs cI u) s.heap := hP
      have hD9 : va_D A (x_W qx qc qw qs cI u) := hD
      exact W.zret (v := 0) hx hb hr (by first | rfl | decide) (fun t ht hW => ⟨⟨_, u, rfl, ⟨(by unfold x_turn_r; rw [if_pos c_1, if_pos c_2]), (by unfold x_turn; rw [if_pos c_1, if_pos c_2])⟩, by rw [ht]; exact hP9, va_K.moved hW.alike hK, hD9⟩, hS.F ht⟩) hS.2.2 dX0_turn_17
  · refine lv_iconst (v := 1) hx hb dX0_turn_8 (by decide) ?_
    refine lv_goto (tgt := 13) hx hb dX0_turn_9 (by decide) ?_
    refine lv_icmp_ne (tgt := 18) hx hb dX0_turn_13 (by decide) (fun c_5 => ?_) (fun c_5 => ?_)
    · refine lv_iload_n hx hb dX0_turn_18 rfl (lv_at hl 1 rfl) ?_
      refine lv_if_eq (tgt := 29) hx hb dX0_turn_19 (by decide) (fun c_6 => ?_) (fun c_6 => ?_)
      · refine lv_aload_n hx hb dX0_turn_29 rfl (lv_at hl 0 rfl) ?_
        refine lv_iconst (v := 0) hx hb dX0_turn_30 (by decide) ?_
        refine va_put (D := (dC, dI)) (ci := 0) (v := .int 0) (ty := .int) (C := RX0) (T := TX0) (N := 13) hx hb hts hinT tyX0 tyX0_ok nmX0 hown hK hP hD hS 0 rfl rfl 0 (by decide) (hts (.fieldLink RX0 9 "CodeBlocks" "state" "I") (by decide +kernel)) (fun _ h9 => h9) rfl (by decide +kernel) rfl rfl (Nat.le_of_ble_eq_true rfl) dX0_turn_31 (fun H locs hP hD hS => ?_)
        have hP : va_P (dC, dI) vwCl [(qx, .inr (0, [.int 0, .int (x_md u), .long (x_bt u), .int (x_cm u), .ref (x_hr u), .int (x_rs u), .ref (x_hv u), .int (x_vs u), .ref qc, .ref qw, .int (x_wz u), .ref qs, .int (x_sz u)])), (x_hr u, .inl (cI, 259, .inl (x_ro u))), (x_hv u, .inl (cI, 259, .inl (x_rc u))), (qc, .inl (cI, 5, .inl (x_cn u))), (qw, .inl (cI, 259, .inl (x_wt u))), (qs, .inl (cI, 306, .inl (x_sn u)))] H := hP
        have hD : va_D A [(qx, .inr (0, [.int 0, .int (x_md u), .long (x_bt u), .int (x_cm u), .ref (x_hr u), .int (x_rs u), .ref (x_hv u), .int (x_vs u), .ref qc, .ref qw, .int (x_wz u), .ref qs, .int (x_sz u)])), (x_hr u, .inl (cI, 259, .inl (x_ro u))), (x_hv u, .inl (cI, 259, .inl (x_rc u))), (qc, .inl (cI, 5, .inl (x_cn u))), (qw, .inl (cI, 259, .inl (x_wt u))), (qs, .inl (cI, 306, .inl (x_sn u)))] := hD
        refine lv_iconst (v := 1) hx hb dX0_turn_34 (by decide) ?_
        have hP9 : va_P (dC, dI) vwCl (x_W qx qc qw qs cI (0, x_md u, x_bt u, x_cm u, x_hr u, x_rs u, x_hv u, x_vs u, x_wz u, x_sz u, x_ro u, x_rc u, x_cn u, x_wt u, x_sn u)) H := hP
        have hD9 : va_D A (x_W qx qc qw qs cI (0, x_md u, x_bt u, x_cm u, x_hr u, x_rs u, x_hv u, x_vs u, x_wz u, x_sz u, x_ro u, x_rc u, x_cn u, x_wt u, x_sn u)) := hD
        exact W.zret (v := 1) hx hb hr (by first | rfl | decide) (fun t ht hW => ⟨⟨_, (0, x_md u, x_bt u, x_cm u, x_hr u, x_rs u, x_hv u, x_vs u, x_wz u, x_sz u, x_ro u, x_rc u, x_cn u, x_wt u, x_sn u), rfl, ⟨(by unfold x_turn_r; rw [if_neg c_1, if_neg c_5, if_pos c_6]), (by unfold x_turn; rw [if_neg c_1, if_neg c_5, if_pos c_6])⟩, by rw [ht]; exact hP9, va_K.moved hW.alike hK, hD9⟩, hS.F ht⟩) hS.2.2 dX0_turn_35
      · refine lv_aload_n hx hb dX0_turn_22 rfl (lv_at hl 0 rfl) ?_
        have hPc : va_P (dC, dI) vwCl (x_W qx qc qw qs cI u) s.heap := hP
        have hDc : va_D A (x_W qx qc qw qs cI u) := hD
        have hFc := va_free (wc := (x_W qx qc qw qs cI u)) hD hS hA [0, 1, 2, 3, 4, 5] rfl
        refine va_callv (va_runV (As := []) (rest := []) ⟨hx, hb, hml, hown, hts⟩ (kX0_beginSearch l dC dI qx qc qw qs cI s.heap.size u  ) (cwV 0 hts gX0_turn_X0_beginSearch rfl rfl rfl (by decide +kernel) ⟨Nat.le_of_ble_eq_true rfl, Nat.le_of_ble_eq_true rfl⟩) ⟨fun a U g mk q => by obtain ⟨q0, q1, qP, qK, qD⟩ := q; exact ⟨q0, q1, qP, va_K.moved (u := U) (U := U.calling g mk a) (Vm.Alike.refl U.vm) qK, qD⟩, va_recv hK hP (ci := 0) (q0 := 0) rfl rfl, fun U hU hW => ⟨rfl, by rw [hU], by rw [hU]; exact hPc, va_K.moved hW.alike hK, hDc.weaken (fun _ _ _ _ => trivial)⟩⟩ rfl rfl hl.1 rfl (lv_room (Nat.le_of_ble_eq_true rfl)) dX0_turn_23 ⟨Nat.le_of_ble_eq_true rfl, Nat.le_of_ble_eq_true rfl⟩) hS (fun q _ h => hFc q h) hFc (fun  u_7 t H1 locs ht hvm hu_7 hB hz1 hk1 hS => ?_)
        obtain ⟨hP1, -, hD1⟩ := hB
        rw [ht] at hP1
        have hP : va_P (dC, dI) vwCl [(qx, .inr (0, [.int (x_st u_7), .int (x_md u_7), .long (x_bt u_7), .int (x_cm u_7), .ref (x_hr u_7), .int (x_rs u_7), .ref (x_hv u_7), .int (x_vs u_7), .ref qc, .ref qw, .int (x_wz u_7), .ref qs, .int (x_sz u_7)])), (x_hr u_7, .inl (cI, 259, .inl (x_ro u_7))), (x_hv u_7, .inl (cI, 259, .inl (x_rc u_7))), (qc, .inl (cI, 5, .inl (x_cn u_7))), (qw, .inl (cI, 259, .inl (x_wt u_7))), (qs, .inl (cI, 306, .inl (x_sn u_7)))] H1 := hP1
        have hD : va_D A [(qx, .inr (0, [.int (x_st u_7), .int (x_md u_7), .long (x_bt u_7), .int (x_cm u_7), .ref (x_hr u_7), .int (x_rs u_7), .ref (x_hv u_7), .int (x_vs u_7), .ref qc, .ref qw, .int (x_wz u_7), .ref qs, .int (x_sz u_7)])), (x_hr u_7, .inl (cI, 259, .inl (x_ro u_7))), (x_hv u_7, .inl (cI, 259, .inl (x_rc u_7))), (qc, .inl (cI, 5, .inl (x_cn u_7))), (qw, .inl (cI, 259, .inl (x_wt u_7))), (qs, .inl (cI, 306, .inl (x_sn u_7)))] := hD1.weaken (fun k q _ h => hFc q.1 h)
        generalize H1 = H at hP hS ⊢
        refine lv_goto (tgt := 34) hx hb dX0_turn_26 (by decide) ?_
        refine lv_iconst (v := 1) hx hb dX0_turn_34 (by decide) ?_
        have hP9 : va_P (dC, dI) vwCl (x_W qx qc qw qs cI u_7) H := hP
        have hD9 : va_D A (x_W qx qc qw qs cI u_7) := hD
        exact W.zret (v := 1) hx hb hr (by first | rfl | decide) (fun t ht hW => ⟨⟨_, u_7, rfl, ⟨(by subst hu_7; unfold x_turn_r; rw [if_neg c_1, if_neg c_5, if_neg c_6]), (by subst hu_7; unfold x_turn; rw [if_neg c_1, if_neg c_5, if_neg c_6])⟩, by rw [ht]; exact hP9, va_K.moved hW.alike hK, hD9⟩, hS.F ht⟩) hS.2.2 dX0_turn_35
    · refine lv_iconst (v := 0) hx hb dX0_turn_16 (by decide) ?_
      have hP9 : va_P (dC, dI) vwCl (x_W qx qc qw qs cI u) s.heap := hP
      have hD9 : va_D A (x_W qx qc qw qs cI u) := hD
      exact W.zret (v := 0) hx hb hr (by first | rfl | decide) (fun t ht hW => ⟨⟨_, u, rfl, ⟨(by unfold x_turn_r; rw [if_neg c_1, if_pos c_5]), (by unfold x_turn; rw [if_neg c_1, if_pos c_5])⟩, by rw [ht]; exact hP9, va_K.moved hW.alike hK, hD9⟩, hS.F ht⟩) hS.2.2 dX0_turn_17

abbrev rmX0_mending : Room := { frames := 0, cells := 0, slots := 0, locals := 0 }
def x_mending (u : x_S) (b : Bool) : x_S := (x_st u, j_b b, x_bt u, x_cm u, x_hr u, x_rs u, x_hv u, x_vs u, x_wz u, x_sz u, x_ro u, x_rc u, x_cn u, x_wt u, x_sn u)
set_option maxHeartbeats 4000000 in
set_option maxRecDepth 100000 in
theorem kX0_mending (l : Launch) (dC : Nat → ClassId) (dI : Nat → Nat → Nat) (qx qc qw qs : Nat) (cI : ClassId) (sz : Nat) (u : x_S) (b : Bool) : Met l yX0_mending wsX0_mending rmX0_mending (va_Pc [.ref qx, .int (j_b b)] (fun U => U.heap.size = sz ∧ va_P (dC, dI) vwCl (x_W qx qc qw qs cI u) U.heap ∧ va_K (dC, dI) vwCl [(cI, .int)] U ∧ va_D (fun _ => True) (x_W qx qc qw qs cI u))) (va_Qv (fun u2 => u2 = x_mending u b) (x_At dC dI (va_A (x_W qx qc qw qs cI u) sz) qx qc qw qs cI) (va_A (x_W qx qc qw qs cI u) sz)) 0 0 (va_A (x_W qx qc qw qs cI u) sz) := by
  refine Met.ofW (cc := cX0_mending) (maxL := 2) (ret := none) (by decide) rfl ?_
  intro p e s m args below meth c s₁ B hml hv
  obtain ⟨rfl, hsz, hP, hK, hD0⟩ := hv
  have hx := B.exec
  have hb := B.bytes
  have hr := B.returns
  have hts := atoms_spec (ws := wsX0_mending) B.pre
  have hown : s.vm.findClass RX0 = some m.cls := findClass_of_methodNamed B.named
  have hlocks := B.notSynchronized
  have hinT : ∀ w ∈ wsX00, w ∈ wsX0_mending := by decide +kernel
  subst hsz
  have hD := hD0.self (sz := s.heap.size)
  generalize hAe : va_A (x_W qx qc qw qs cI u) s.heap.size = A at hD ⊢
  have hA : ∀ q : Nat, s.heap.size ≤ q → A q := fun q h => by rw [← hAe]; exact Or.inr h
  have hS : va_S A s.heap s.heap [] := va_S.rf
  have hD : va_D A [(qx, .inr (0, [.int (x_st u), .int (x_md u), .long (x_bt u), .int (x_cm u), .ref (x_hr u), .int (x_rs u), .ref (x_hv u), .int (x_vs u), .ref qc, .ref qw, .int (x_wz u), .ref qs, .int (x_sz u)])), (x_hr u, .inl (cI, 259, .inl (x_ro u))), (x_hv u, .inl (cI, 259, .inl (x_rc u))), (qc, .inl (cI, 5, .inl (x_cn u))), (qw, .inl (cI, 259, .inl (x_wt u))), (qs, .inl (cI, 306, .inl (x_sn u)))] := hD
  have hP : va_P (dC, dI) vwCl [(qx, .inr (0, [.int (x_st u), .int (x_md u), .long (x_bt u), .int (x_cm u), .ref (x_hr u), .int (x_rs u), .ref (x_hv u), .int (x_vs u), .ref qc, .ref qw, .int (x_wz u), .ref qs, .int (x_sz u)])), (x_hr u, .inl (cI, 259, .inl (x_ro u))), (x_hv u, .inl (cI, 259, .inl (x_rc u))), (qc, .inl (cI, 5, .inl (x_cn u))), (qw, .inl (cI, 259, .inl (x_wt u))), (qs, .inl (cI, 306, .inl (x_sn u)))] s.heap := hP
  have hl := lv_entry ([.ref qx, .int (j_b b)]) (n := 2) (Nat.le_of_ble_eq_true rfl)
  rw [lg_entry_eq]
  generalize (lg_sl ([.ref qx, .int (j_b b)]) ++ List.replicate (2 - (lg_sl ([.ref qx, .int (j_b b)])).length) Slot.unset).toArray = ls at hl ⊢
  have hl : lv_has ls 2 [(0, .ref qx), (1, .int (j_b b))] := hl
  refine lv_aload_n hx hb dX0_mending_0 rfl (lv_at hl 0 rfl) ?_
  refine lv_iload_n hx hb dX0_mending_1 rfl (lv_at hl 1 rfl) ?_
  refine va_put (D := (dC, dI)) (ci := 0) (v := .int (j_b b)) (ty := .boolean) (C := RX0) (T := TX0) (N := 13) hx hb hts hinT tyX0 tyX0_ok nmX0 hown hK hP hD hS 0 rfl rfl 1 (by decide) (hts (.fieldLink RX0 32 "CodeBlocks" "mends" "Z") (by decide +kernel)) (fun _ h9 => h9) rfl (by decide +kernel) (by cases b <;> rfl) (by cases b <;> rfl) (Nat.le_of_ble_eq_true rfl) dX0_mending_2 (fun H locs hP hD hS => ?_)
  have hP : va_P (dC, dI) vwCl [(qx, .inr (0, [.int (x_st u), .int (j_b b), .long (x_bt u), .int (x_cm u), .ref (x_hr u), .int (x_rs u), .ref (x_hv u), .int (x_vs u), .ref qc, .ref qw, .int (x_wz u), .ref qs, .int (x_sz u)])), (x_hr u, .inl (cI, 259, .inl (x_ro u))), (x_hv u, .inl (cI, 259, .inl (x_rc u))), (qc, .inl (cI, 5, .inl (x_cn u))), (qw, .inl (cI, 259, .inl (x_wt u))), (qs, .inl (cI, 306, .inl (x_sn u)))] H := hP
  have hD : va_D A [(qx, .inr (0, [.int (x_st u), .int (j_b b), .long (x_bt u), .int (x_cm u), .ref (x_hr u), .int (x_rs u), .ref (x_hv u), .int (x_vs u), .ref qc, .ref qw, .int (x_wz u), .ref qs, .int (x_sz u)])), (x_hr u, .inl (cI, 259, .inl (x_ro u))), (x_hv u, .inl (cI, 259, .inl (x_rc u))), (qc, .inl (cI, 5, .inl (x_cn u))), (qw, .inl (cI, 259, .inl (x_wt u))), (qs, .inl (cI, 306, .inl (x_sn u)))] := hD
  have hP9 : va_P (dC, dI) vwCl (x_W qx qc qw qs cI (x_st u, j_b b, x_bt u, x_cm u, x_hr u, x_rs u, x_hv u, x_vs u, x_wz u, x_sz u, x_ro u, x_rc u, x_cn u, x_wt u, x_sn u)) H := hP
  have hD9 : va_D A (x_W qx qc qw qs cI (x_st u, j_b b, x_bt u, x_cm u, x_hr u, x_rs u, x_hv u, x_vs u, x_wz u, x_sz u, x_ro u, x_rc u, x_cn u, x_wt u, x_sn u)) := hD
  exact W.vret hx hb hr (fun t ht hW => ⟨⟨(x_st u, j_b b, x_bt u, x_cm u, x_hr u, x_rs u, x_hv u, x_vs u, x_wz u, x_sz u, x_ro u, x_rc u, x_cn u, x_wt u, x_sn u), rfl, (rfl), by rw [ht]; exact hP9, va_K.moved hW.alike hK, hD9⟩, hS.F ht⟩) hS.2.2 dX0_mending_5
