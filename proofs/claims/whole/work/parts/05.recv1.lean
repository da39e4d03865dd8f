abbrev rmX0_beginSearch : Room := { frames := 0, cells := 0, slots := 0, locals := 0 }
def x_beginSearch (u : x_S)  : x_S := (1, x_md u, x_bt u, 0, x_hr u, x_rs u, x_hv u, x_vs u, x_wz u, x_sz u, x_ro u, x_rc u, x_cn u, x_wt u, x_sn u)
set_option maxHeartbeats 4000000 in
set_option maxRecDepth 100000 in
theorem kX0_beginSearch (l : Launch) (dC : Nat → ClassId) (dI : Nat → Nat → Nat) (qx qc qw qs : Nat) (cI : ClassId) (sz : Nat) (u : x_S)  : Met l yX0_beginSearch wsX0_beginSearch rmX0_beginSearch (va_Pc [.ref qx] (fun U => U.heap.size = sz ∧ va_P (dC, dI) vwCl (x_W qx qc qw qs cI u) U.heap ∧ va_K (dC, dI) vwCl [(cI, .int)] U ∧ va_D (fun _ => True) (x_W qx qc qw qs cI u))) (va_Qv (fun u2 => u2 = x_beginSearch u) (x_At dC dI (va_A (x_W qx qc qw qs cI u) sz) qx qc qw qs cI) (va_A (x_W qx qc qw qs cI u) sz)) 0 0 (va_A (x_W qx qc qw qs cI u) sz) := by
  refine Met.ofW (cc := cX0_beginSearch) (maxL := 1) (ret := none) (by decide) rfl ?_
  intro p e s m args below meth c s₁ B hml hv
  obtain ⟨rfl, hsz, hP, hK, hD0⟩ := hv
  have hx := B.exec
  have hb := B.bytes
  have hr := B.returns
  have hts := atoms_spec (ws := wsX0_beginSearch) B.pre
  have hown : s.vm.findClass RX0 = some m.cls := findClass_of_methodNamed B.named
  have hlocks := B.notSynchronized
  have hinT : ∀ w ∈ wsX00, w ∈ wsX0_beginSearch := by decide +kernel
  subst hsz
  have hD := hD0.self (sz := s.heap.size)
  generalize hAe : va_A (x_W qx qc qw qs cI u) s.heap.size = A at hD ⊢
  have hA : ∀ q : Nat, s.heap.size ≤ q → A q := fun q h => by rw [← hAe]; exact Or.inr h
  have hS : va_S A s.heap s.heap [] := va_S.rf
  have hD : va_D A [(qx, .inr (0, [.int (x_st u), .int (x_md u), .long (x_bt u), .int (x_cm u), .ref (x_hr u), .int (x_rs u), .ref (x_hv u), .int (x_vs u), .ref qc, .ref qw, .int (x_wz u), .ref qs, .int (x_sz u)])), (x_hr u, .inl (cI, 259, .inl (x_ro u))), (x_hv u, .inl (cI, 259, .inl (x_rc u))), (qc, .inl (cI, 5, .inl (x_cn u))), (qw, .inl (cI, 259, .inl (x_wt u))), (qs, .inl (cI, 306, .inl (x_sn u)))] := hD
  have hP : va_P (dC, dI) vwCl [(qx, .inr (0, [.int (x_st u), .int (x_md u), .long (x_bt u), .int (x_cm u), .ref (x_hr u), .int (x_rs u), .ref (x_hv u), .int (x_vs u), .ref qc, .ref qw, .int (x_wz u), .ref qs, .int (x_sz u)])), (x_hr u, .inl (cI, 259, .inl (x_ro u))), (x_hv u, .inl (cI, 259, .inl (x_rc u))), (qc, .inl (cI, 5, .inl (x_cn u))), (qw, .inl (cI, 259, .inl (x_wt u))), (qs, .inl (cI, 306, .inl (x_sn u)))] s.heap := hP
  have hl := lv_entry ([.ref qx]) (n := 1) (Nat.le_of_ble_eq_true rfl)
  rw [lg_entry_eq]
  generalize (lg_sl ([.ref qx]) ++ List.replicate (1 - (lg_sl ([.ref qx])).length) Slot.unset).toArray = ls at hl ⊢
  have hl : lv_has ls 1 [(0, .ref qx)] := hl
  refine lv_aload_n hx hb dX0_beginSearch_0 rfl (lv_at hl 0 rfl) ?_
  refine lv_iconst (v := 1) hx hb dX0_beginSearch_1 (by decide) ?_
  refine va_put (D := (dC, dI)) (ci := 0) (v := .int 1) (ty := .int) (C := RX0) (T := TX0) (N := 13) hx hb hts hinT tyX0 tyX0_ok nmX0 hown hK hP hD hS 0 rfl rfl 0 (by decide) (hts (.fieldLink RX0 9 "CodeBlocks" "state" "I") (by decide +kernel)) (fun _ h9 => h9) rfl (by decide +kernel) rfl rfl (Nat.le_of_ble_eq_true rfl) dX0_beginSearch_2 (fun H locs hP hD hS => ?_)
  have hP : va_P (dC, dI) vwCl [(qx, .inr (0, [.int 1, .int (x_md u), .long (x_bt u), .int (x_cm u), .ref (x_hr u), .int (x_rs u), .ref (x_hv u), .int (x_vs u), .ref qc, .ref qw, .int (x_wz u), .ref qs, .int (x_sz u)])), (x_hr u, .inl (cI, 259, .inl (x_ro u))), (x_hv u, .inl (cI, 259, .inl (x_rc u))), (qc, .inl (cI, 5, .inl (x_cn u))), (qw, .inl (cI, 259, .inl (x_wt u))), (qs, .inl (cI, 306, .inl (x_sn u)))] H := hP
  have hD : va_D A [(qx, .inr (0, [.int 1, .int (x_md u), .long (x_bt u), .int (x_cm u), .ref (x_hr u), .int (x_rs u), .ref (x_hv u), .int (x_vs u), .ref qc, .ref qw, .int (x_wz u), .ref qs, .int (x_sz u)])), (x_hr u, .inl (cI, 259, .inl (x_ro u))), (x_hv u, .inl (cI, 259, .inl (x_rc u))), (qc, .inl (cI, 5, .inl (x_cn u))), (qw, .inl (cI, 259, .inl (x_wt u))), (qs, .inl (cI, 306, .inl (x_sn u)))] := hD
  refine lv_aload_n hx hb dX0_beginSearch_5 rfl (lv_at hl 0 rfl) ?_
  refine lv_iconst (v := 0) hx hb dX0_beginSearch_6 (by decide) ?_
  refine va_put (D := (dC, dI)) (ci := 0) (v := .int 0) (ty := .int) (C := RX0) (T := TX0) (N := 13) hx hb hts hinT tyX0 tyX0_ok nmX0 hown hK hP hD hS 0 rfl rfl 3 (by decide) (hts (.fieldLink RX0 69 "CodeBlocks" "came" "I") (by decide +kernel)) (fun _ h9 => h9) rfl (by decide +kernel) rfl rfl (Nat.le_of_ble_eq_true rfl) dX0_beginSearch_7 (fun H locs hP hD hS => ?_)
  have hP : va_P (dC, dI) vwCl [(qx, .inr (0, [.int 1, .int (x_md u), .long (x_bt u), .int 0, .ref (x_hr u), .int (x_rs u), .ref (x_hv u), .int (x_vs u), .ref qc, .ref qw, .int (x_wz u), .ref qs, .int (x_sz u)])), (x_hr u, .inl (cI, 259, .inl (x_ro u))), (x_hv u, .inl (cI, 259, .inl (x_rc u))), (qc, .inl (cI, 5, .inl (x_cn u))), (qw, .inl (cI, 259, .inl (x_wt u))), (qs, .inl (cI, 306, .inl (x_sn u)))] H := hP
  have hD : va_D A [(qx, .inr (0, [.int 1, .int (x_md u), .long (x_bt u), .int 0, .ref (x_hr u), .int (x_rs u), .ref (x_hv u), .int (x_vs u), .ref qc, .ref qw, .int (x_wz u), .ref qs, .int (x_sz u)])), (x_hr u, .inl (cI, 259, .inl (x_ro u))), (x_hv u, .inl (cI, 259, .inl (x_rc u))), (qc, .inl (cI, 5, .inl (x_cn u))), (qw, .inl (cI, 259, .inl (x_wt u))), (qs, .inl (cI, 306, .inl (x_sn u)))] := hD
  have hP9 : va_P (dC, dI) vwCl (x_W qx qc qw qs cI (1, x_md u, x_bt u, 0, x_hr u, x_rs u, x_hv u, x_vs u, x_wz u, x_sz u, x_ro u, x_rc u, x_cn u, x_wt u, x_sn u)) H := hP
  have hD9 : va_D A (x_W qx qc qw qs cI (1, x_md u, x_bt u, 0, x_hr u, x_rs u, x_hv u, x_vs u, x_wz u, x_sz u, x_ro u, x_rc u, x_cn u, x_wt u, x_sn u)) := hD
  exact W.vret hx hb hr (fun t ht hW => ⟨⟨(1, x_md u, x_bt u, 0, x_hr u, x_rs u, x_hv u, x_vs u, x_wz u, x_sz u, x_ro u, x_rc u, x_cn u, x_wt u, x_sn u), rfl, (rfl), by rw [ht]; exact hP9, va_K.moved hW.alike hK, hD9⟩, hS.F ht⟩) hS.2.2 dX0_beginSearch_10

abbrev rmX0_beginTransmission : Room := { frames := 0, cells := 0, slots := 0, locals := 0 }
def x_beginTransmission (u : x_S)  : x_S := (2, x_md u, x_bt u, 0, x_hr u, 0, x_hv u, x_vs u, x_wz u, x_sz u, x_ro u, x_rc u, upd (x_cn u) 0 (((x_cn u) 0) + 1), x_wt u, x_sn u)
set_option maxHeartbeats 4000000 in
set_option maxRecDepth 100000 in
theorem kX0_beginTransmission (l : Launch) (dC : Nat → ClassId) (dI : Nat → Nat → Nat) (qx qc qw qs : Nat) (cI : ClassId) (sz : Nat) (u : x_S)  : Met l yX0_beginTransmission wsX0_beginTransmission rmX0_beginTransmission (va_Pc [.ref qx] (fun U => U.heap.size = sz ∧ va_P (dC, dI) vwCl (x_W qx qc qw qs cI u) U.heap ∧ va_K (dC, dI) vwCl [(cI, .int)] U ∧ va_D (fun _ => True) (x_W qx qc qw qs cI u))) (va_Qv (fun u2 => u2 = x_beginTransmission u) (x_At dC dI (va_A (x_W qx qc qw qs cI u) sz) qx qc qw qs cI) (va_A (x_W qx qc qw qs cI u) sz)) 0 0 (va_A (x_W qx qc qw qs cI u) sz) := by
  refine Met.ofW (cc := cX0_beginTransmission) (maxL := 1) (ret := none) (by decide) rfl ?_
  intro p e s m args below meth c s₁ B hml hv
  obtain ⟨rfl, hsz, hP, hK, hD0⟩ := hv
  have hx := B.exec
  have hb := B.bytes
  have hr := B.returns
  have hts := atoms_spec (ws := wsX0_beginTransmission) B.pre
  have hown : s.vm.findClass RX0 = some m.cls := findClass_of_methodNamed B.named
  have hlocks := B.notSynchronized
  have hinT : ∀ w ∈ wsX00, w ∈ wsX0_beginTransmission := by decide +kernel
  subst hsz
  have hD := hD0.self (sz := s.heap.size)
  generalize hAe : va_A (x_W qx qc qw qs cI u) s.heap.size = A at hD ⊢
  have hA : ∀ q : Nat, s.heap.size ≤ q → A q := fun q h => by rw [← hAe]; exact Or.inr h
  have hS : va_S A s.heap s.heap [] := va_S.rf
  have hD : va_D A [(qx, .inr (0, [.int (x_st u), .int (x_md u), .long (x_bt u), .int (x_cm u), .ref (x_hr u), .int (x_rs u), .ref (x_hv u), .int (x_vs u), .ref qc, .ref qw, .int (x_wz u), .ref qs, .int (x_sz u)])), (x_hr u, .inl (cI, 259, .inl (x_ro u))), (x_hv u, .inl (cI, 259, .inl (x_rc u))), (qc, .inl (cI, 5, .inl (x_cn u))), (qw, .inl (cI, 259, .inl (x_wt u))), (qs, .inl (cI, 306, .inl (x_sn u)))] := hD
  have hP : va_P (dC, dI) vwCl [(qx, .inr (0, [.int (x_st u), .int (x_md u), .long (x_bt u), .int (x_cm u), .ref (x_hr u), .int (x_rs u), .ref (x_hv u), .int (x_vs u), .ref qc, .ref qw, .int (x_wz u), .ref qs, .int (x_sz u)])), (x_hr u, .inl (cI, 259, .inl (x_ro u))), (x_hv u, .inl (cI, 259, .inl (x_rc u))), (qc, .inl (cI, 5, .inl (x_cn u))), (qw, .inl (cI, 259, .inl (x_wt u))), (qs, .inl (cI, 306, .inl (x_sn u)))] s.heap := hP
  have hl := lv_entry ([.ref qx]) (n := 1) (Nat.le_of_ble_eq_true rfl)
  rw [lg_entry_eq]
  generalize (lg_sl ([.ref qx]) ++ List.replicate (1 - (lg_sl ([.ref qx])).length) Slot.unset).toArray = ls at hl ⊢
  have hl : lv_has ls 1 [(0, .ref qx)] := hl
  refine lv_aload_n hx hb dX0_beginTransmission_0 rfl (lv_at hl 0 rfl) ?_
  refine va_get (D := (dC, dI)) (ci := 0) (v := .ref qc) (C := RX0) (T := TX0) (N := 13) hx hb hts hinT hown hK hP 0 rfl rfl 8 (by decide) (hts (.fieldLink RX0 20 "CodeBlocks" "counts" "[I") (by decide +kernel)) (fun _ h9 => h9) rfl dX0_beginTransmission_1 ?_
  refine lv_iconst (v := 0) hx hb dX0_beginTransmission_4 (by decide) ?_
  refine lv_dup2_11 hx hb dX0_beginTransmission_5 rfl rfl ?_
  refine va_iald hx hb hK hP 3 0 rfl rfl (j_in (k := 0) rfl (by decide)) dX0_beginTransmission_6 ?_
  refine W.eq (g2 := F0 m 7 ls [.int ((x_cn u) 0), .int 0, .ref qc]) rfl ?_
  refine lv_iconst (v := 1) hx hb dX0_beginTransmission_7 (by decide) ?_
  refine lv_iadd hx hb dX0_beginTransmission_8 ?_
  refine va_iast hx hb hK hP hD hS 3 0 rfl rfl (j_in (k := 0) rfl (by decide)) dX0_beginTransmission_9 (fun H locs hP hD hS => ?_)
  rw [show (0 : Int32).toNatClampNeg = 0 from (by decide)] at hP hD
  have hP : va_P (dC, dI) vwCl [(qx, .inr (0, [.int (x_st u), .int (x_md u), .long (x_bt u), .int (x_cm u), .ref (x_hr u), .int (x_rs u), .ref (x_hv u), .int (x_vs u), .ref qc, .ref qw, .int (x_wz u), .ref qs, .int (x_sz u)])), (x_hr u, .inl (cI, 259, .inl (x_ro u))), (x_hv u, .inl (cI, 259, .inl (x_rc u))), (qc, .inl (cI, 5, .inl (upd (x_cn u) 0 (((x_cn u) 0) + 1)))), (qw, .inl (cI, 259, .inl (x_wt u))), (qs, .inl (cI, 306, .inl (x_sn u)))] H := hP
  have hD : va_D A [(qx, .inr (0, [.int (x_st u), .int (x_md u), .long (x_bt u), .int (x_cm u), .ref (x_hr u), .int (x_rs u), .ref (x_hv u), .int (x_vs u), .ref qc, .ref qw, .int (x_wz u), .ref qs, .int (x_sz u)])), (x_hr u, .inl (cI, 259, .inl (x_ro u))), (x_hv u, .inl (cI, 259, .inl (x_rc u))), (qc, .inl (cI, 5, .inl (upd (x_cn u) 0 (((x_cn u) 0) + 1)))), (qw, .inl (cI, 259, .inl (x_wt u))), (qs, .inl (cI, 306, .inl (x_sn u)))] := hD
  refine lv_aload_n hx hb dX0_beginTransmission_10 rfl (lv_at hl 0 rfl) ?_
  refine lv_iconst (v := 2) hx hb dX0_beginTransmission_11 (by decide) ?_
  refine va_put (D := (dC, dI)) (ci := 0) (v := .int 2) (ty := .int) (C := RX0) (T := TX0) (N := 13) hx hb hts hinT tyX0 tyX0_ok nmX0 hown hK hP hD hS 0 rfl rfl 0 (by decide) (hts (.fieldLink RX0 9 "CodeBlocks" "state" "I") (by decide +kernel)) (fun _ h9 => h9) rfl (by decide +kernel) rfl rfl (Nat.le_of_ble_eq_true rfl) dX0_beginTransmission_12 (fun H locs hP hD hS => ?_)
  have hP : va_P (dC, dI) vwCl [(qx, .inr (0, [.int 2, .int (x_md u), .long (x_bt u), .int (x_cm u), .ref (x_hr u), .int (x_rs u), .ref (x_hv u), .int (x_vs u), .ref qc, .ref qw, .int (x_wz u), .ref qs, .int (x_sz u)])), (x_hr u, .inl (cI, 259, .inl (x_ro u))), (x_hv u, .inl (cI, 259, .inl (x_rc u))), (qc, .inl (cI, 5, .inl (upd (x_cn u) 0 (((x_cn u) 0) + 1)))), (qw, .inl (cI, 259, .inl (x_wt u))), (qs, .inl (cI, 306, .inl (x_sn u)))] H := hP
  have hD : va_D A [(qx, .inr (0, [.int 2, .int (x_md u), .long (x_bt u), .int (x_cm u), .ref (x_hr u), .int (x_rs u), .ref (x_hv u), .int (x_vs u), .ref qc, .ref qw, .int (x_wz u), .ref qs, .int (x_sz u)])), (x_hr u, .inl (cI, 259, .inl (x_ro u))), (x_hv u, .inl (cI, 259, .inl (x_rc u))), (qc, .inl (cI, 5, .inl (upd (x_cn u) 0 (((x_cn u) 0) + 1)))), (qw, .inl (cI, 259, .inl (x_wt u))), (qs, .inl (cI, 306, .inl (x_sn u)))] := hD
  refine lv_aload_n hx hb dX0_beginTransmission_15 rfl (lv_at hl 0 rfl) ?_
  refine lv_iconst (v := 0) hx hb dX0_beginTransmission_16 (by decide) ?_
  refine va_put (D := (dC, dI)) (ci := 0) (v := .int 0) (ty := .int) (C := RX0) (T := TX0) (N := 13) hx hb hts hinT tyX0 tyX0_ok nmX0 hown hK hP hD hS 0 rfl rfl 3 (by decide) (hts (.fieldLink RX0 69 "CodeBlocks" "came" "I") (by decide +kernel)) (fun _ h9 => h9) rfl (by decide +kernel) rfl rfl (Nat.le_of_ble_eq_true rfl) dX0_beginTransmission_17 (fun H locs hP hD hS => ?_)
  have hP : va_P (dC, dI) vwCl [(qx, .inr (0, [.int 2, .int (x_md u), .long (x_bt u), .int 0, .ref (x_hr u), .int (x_rs u), .ref (x_hv u), .int (x_vs u), .ref qc, .ref qw, .int (x_wz u), .ref qs, .int (x_sz u)])), (x_hr u, .inl (cI, 259, .inl (x_ro u))), (x_hv u, .inl (cI, 259, .inl (x_rc u))), (qc, .inl (cI, 5, .inl (upd (x_cn u) 0 (((x_cn u) 0) + 1)))), (qw, .inl (cI, 259, .inl (x_wt u))), (qs, .inl (cI, 306, .inl (x_sn u)))] H := hP
  have hD : va_D A [(qx, .inr (0, [.int 2, .int (x_md u), .long (x_bt u), .int 0, .ref (x_hr u), .int (x_rs u), .ref (x_hv u), .int (x_vs u), .ref qc, .ref qw, .int (x_wz u), .ref qs, .int (x_sz u)])), (x_hr u, .inl (cI, 259, .inl (x_ro u))), (x_hv u, .inl (cI, 259, .inl (x_rc u))), (qc, .inl (cI, 5, .inl (upd (x_cn u) 0 (((x_cn u) 0) + 1)))), (qw, .inl (cI, 259, .inl (x_wt u))), (qs, .inl (cI, 306, .inl (x_sn u)))] := hD
  refine lv_aload_n hx hb dX0_beginTransmission_20 rfl (lv_at hl 0 rfl) ?_
  refine lv_iconst (v := 0) hx hb dX0_beginTransmission_21 (by decide) ?_
  refine va_put (D := (dC, dI)) (ci := 0) (v := .int 0) (ty := .int) (C := RX0) (T := TX0) (N := 13) hx hb hts hinT tyX0 tyX0_ok nmX0 hown hK hP hD hS 0 rfl rfl 5 (by decide) (hts (.fieldLink RX0 94 "CodeBlocks" "rowSize" "I") (by decide +kernel)) (fun _ h9 => h9) rfl (by decide +kernel) rfl rfl (Nat.le_of_ble_eq_true rfl) dX0_beginTransmission_22 (fun H locs hP hD hS => ?_)
  have hP : va_P (dC, dI) vwCl [(qx, .inr (0, [.int 2, .int (x_md u), .long (x_bt u), .int 0, .ref (x_hr u), .int 0, .ref (x_hv u), .int (x_vs u), .ref qc, .ref qw, .int (x_wz u), .ref qs, .int (x_sz u)])), (x_hr u, .inl (cI, 259, .inl (x_ro u))), (x_hv u, .inl (cI, 259, .inl (x_rc u))), (qc, .inl (cI, 5, .inl (upd (x_cn u) 0 (((x_cn u) 0) + 1)))), (qw, .inl (cI, 259, .inl (x_wt u))), (qs, .inl (cI, 306, .inl (x_sn u)))] H := hP
  have hD : va_D A [(qx, .inr (0, [.int 2, .int (x_md u), .long (x_bt u), .int 0, .ref (x_hr u), .int 0, .ref (x_hv u), .int (x_vs u), .ref qc, .ref qw, .int (x_wz u), .ref qs, .int (x_sz u)])), (x_hr u, .inl (cI, 259, .inl (x_ro u))), (x_hv u, .inl (cI, 259, .inl (x_rc u))), (qc, .inl (cI, 5, .inl (upd (x_cn u) 0 (((x_cn u) 0) + 1)))), (qw, .inl (cI, 259, .inl (x_wt u))), (qs, .inl (cI, 306, .inl (x_sn u)))] := hD
  have hP9 : va_P (dC, dI) vwCl (x_W qx qc qw qs cI (2, x_md u, x_bt u, 0, x_hr u, 0, x_hv u, x_vs u, x_wz u, x_sz u, x_ro u, x_rc u, upd (x_cn u) 0 (((x_cn u) 0) + 1), x_wt u, x_sn u)) H := hP
  have hD9 : va_D A (x_W qx qc qw qs cI (2, x_md u, x_bt u, 0, x_hr u, 0, x_hv u, x_vs u, x_wz u, x_sz u, x_ro u, x_rc u, upd (x_cn u) 0 (((x_cn u) 0) + 1), x_wt u, x_sn u)) := hD
  exact W.vret hx hb hr (fun t ht hW => ⟨⟨(2, x_md u, x_bt u, 0, x_hr u, 0, x_hv u, x_vs u, x_wz u, x_sz u, x_ro u, x_rc u, upd (x_cn u) 0 (((x_cn u) 0) + 1), x_wt u, x_sn u), rfl, (rfl), by rw [ht]; exact hP9, va_K.moved hW.alike hK, hD9⟩, hS.F ht⟩) hS.2.2 dX0_beginTransmission_25

abbrev rmX0_endTransmission : Room := { frames := 1, cells := 0, slots := 0, locals := 20 }
def x_endTransmission (u : x_S)  : x_S := if (x_rs u) ≤ 0 then (x_beginSearch (x_st u, x_md u, x_bt u, x_cm u, x_hr u, x_rs u, x_hv u, x_vs u, x_wz u, x_sz u, x_ro u, x_rc u, upd (x_cn u) 1 (((x_cn u) 1) + 1), x_wt u, x_sn u)) else (x_beginSearch (x_st u, x_md u, x_bt u, x_cm u, x_hv u, x_rs u, x_hr u, x_rs u, x_wz u, x_sz u, x_rc u, x_ro u, upd (x_cn u) 1 (((x_cn u) 1) + 1), x_wt u, x_sn u))
set_option maxHeartbeats 4000000 in
set_option maxRecDepth 100000 in
theorem kX0_endTransmission (l : Launch) (dC : Nat → ClassId) (dI : Nat → Nat → Nat) (qx qc qw qs : Nat) (cI : ClassId) (sz : Nat) (u : x_S)  : Met l yX0_endTransmission wsX0_endTransmission rmX0_endTransmission (va_Pc [.ref qx] (fun U => U.heap.size = sz ∧ va_P (dC, dI) vwCl (x_W qx qc qw qs cI u) U.heap ∧ va_K (dC, dI) vwCl [(cI, .int)] U ∧ va_D (fun _ => True) (x_W qx qc qw qs cI u))) (va_Qv (fun u2 => u2 = x_endTransmission u) (x_At dC dI (va_A (x_W qx qc qw qs cI u) sz) qx qc qw qs cI) (va_A (x_W qx qc qw qs cI u) sz)) 0 0 (va_A (x_W qx qc qw qs cI u) sz) := by
  refine Met.ofW (cc := cX0_endTransmission) (maxL := 2) (ret := none) (by decide) rfl ?_
  intro p e s m args below meth c s₁ B hml hv
  obtain ⟨rfl, hsz, hP, hK, hD0⟩ := hv
  have hx := B.exec
  have hb := B.bytes
  have hr := B.returns
  have hts := atoms_spec (ws := wsX0_endTransmission) B.pre
  have hown : s.vm.findClass RX0 = some m.cls := findClass_of_methodNamed B.named
  have hlocks := B.notSynchronized
  have hinT : ∀ w ∈ wsX00, w ∈ wsX0_endTransmission := by decide +kernel
  subst hsz
  have hD := hD0.self (sz := s.heap.size)
  generalize hAe : va_A (x_W qx qc qw qs cI u) s.heap.size = A at hD ⊢
  have hA : ∀ q : Nat, s.heap.size ≤ q → A q := fun q h => by rw [← hAe]; exact Or.inr h
  have hS : va_S A s.heap s.heap [] := va_S.rf
  have hD : va_D A [(qx, .inr (0, [.int (x_st u), .int (x_md u), .long (x_bt u), .int (x_cm u), .ref (x_hr u), .int (x_rs u), .ref (x_hv u), .int (x_vs u), .ref qc, .ref qw, .int (x_wz u), .ref qs, .int (x_sz u)])), (x_hr u, .inl (cI, 259, .inl (x_ro u))), (x_hv u, .inl (cI, 259, .inl (x_rc u))), (qc, .inl (cI, 5, .inl (x_cn u))), (qw, .inl (cI, 259, .inl (x_wt u))), (qs, .inl (cI, 306, .inl (x_sn u)))] := hD
  have hP : va_P (dC, dI) vwCl [(qx, .inr (0, [.int (x_st u), .int (x_md u), .long (x_bt u), .int (x_cm u), .ref (x_hr u), .int (x_rs u), .ref (x_hv u), .int (x_vs u), .ref qc, .ref qw, .int (x_wz u), .ref qs, .int (x_sz u)])), (x_hr u, .inl (cI, 259, .inl (x_ro u))), (x_hv u, .inl (cI, 259, .inl (x_rc u))), (qc, .inl (cI, 5, .inl (x_cn u))), (qw, .inl (cI, 259, .inl (x_wt u))), (qs, .inl (cI, 306, .inl (x_sn u)))] s.heap := hP
  have hl := lv_entry ([.ref qx]) (n := 2) (Nat.le_of_ble_eq_true rfl)
  rw [lg_entry_eq]
  generalize (lg_sl ([.ref qx]) ++ List.replicate (2 - (lg_sl ([.ref qx])).length) Slot.unset).toArray = ls at hl ⊢
  have hl : lv_has ls 2 [(0, .ref qx)] := hl
  refine lv_aload_n hx hb dX0_endTransmission_0 rfl (lv_at hl 0 rfl) ?_
  refine va_get (D := (dC, dI)) (ci := 0) (v := .ref qc) (C := RX0) (T := TX0) (N := 13) hx hb hts hinT hown hK hP 0 rfl rfl 8 (by decide) (hts (.fieldLink RX0 20 "CodeBlocks" "counts" "[I") (by decide +kernel)) (fun _ h9 => h9) rfl dX0_endTransmission_1 ?_
  refine lv_iconst (v := 1) hx hb dX0_endTransmission_4 (by decide) ?_
  refine lv_dup2_11 hx hb dX0_endTransmission_5 rfl rfl ?_
  refine va_iald hx hb hK hP 3 0 rfl rfl (j_in (k := 1) rfl (by decide)) dX0_endTransmission_6 ?_
  refine W.eq (g2 := F0 m 7 ls [.int ((x_cn u) 1), .int 1, .ref qc]) rfl ?_
  refine lv_iconst (v := 1) hx hb dX0_endTransmission_7 (by decide) ?_
  refine lv_iadd hx hb dX0_endTransmission_8 ?_
  refine va_iast hx hb hK hP hD hS 3 0 rfl rfl (j_in (k := 1) rfl (by decide)) dX0_endTransmission_9 (fun H locs hP hD hS => ?_)
  rw [show (1 : Int32).toNatClampNeg = 1 from (by decide)] at hP hD
  have hP : va_P (dC, dI) vwCl [(qx, .inr (0, [.int (x_st u), .int (x_md u), .long (x_bt u), .int (x_cm u), .ref (x_hr u), .int (x_rs u), .ref (x_hv u), .int (x_vs u), .ref qc, .ref qw, .int (x_wz u), .ref qs, .int (x_sz u)])), (x_hr u, .inl (cI, 259, .inl (x_ro u))), (x_hv u, .inl (cI, 259, .inl (x_rc u))), (qc, .inl (cI, 5, .inl (upd (x_cn u) 1 (((x_cn u) 1) + 1)))), (qw, .inl (cI, 259, .inl (x_wt u))), (qs, .inl (cI, 306, .inl (x_sn u)))] H := hP
  have hD : va_D A [(qx, .inr (0, [.int (x_st u), .int (x_md u), .long (x_bt u), .int (x_cm u), .ref (x_hr u), .int (x_rs u), .ref (x_hv u), .int (x_vs u), .ref qc, .ref qw, .int (x_wz u), .ref qs, .int (x_sz u)])), (x_hr u, .inl (cI, 259, .inl (x_ro u))), (x_hv u, .inl (cI, 259, .inl (x_rc u))), (qc, .inl (cI, 5, .inl (upd (x_cn u) 1 (((x_cn u) 1) + 1)))), (qw, .inl (cI, 259, .inl (x_wt u))), (qs, .inl (cI, 306, .inl (x_sn u)))] := hD
  refine lv_aload_n hx hb dX0_endTransmission_10 rfl (lv_at hl 0 rfl) ?_
  refine va_get (D := (dC, dI)) (ci := 0) (v := .int (x_rs u)) (C := RX0) (T := TX0) (N := 13) hx hb hts hinT hown hK hP 0 rfl rfl 5 (by decide) (hts (.fieldLink RX0 94 "CodeBlocks" "rowSize" "I") (by decide +kernel)) (fun _ h9 => h9) rfl dX0_endTransmission_11 ?_
  refine lv_if_le (tgt := 43) hx hb dX0_endTransmission_14 (by decide) (fun c_1 => ?_) (fun c_1 => ?_)
  · refine lv_aload_n hx hb dX0_endTransmission_43 rfl (lv_at hl 0 rfl) ?_
    have hPc : va_P (dC, dI) vwCl (x_W qx qc qw qs cI (x_st u, x_md u, x_bt u, x_cm u, x_hr u, x_rs u, x_hv u, x_vs u, x_wz u, x_sz u, x_ro u, x_rc u, upd (x_cn u) 1 (((x_cn u) 1) + 1), x_wt u, x_sn u)) H := hP
    have hDc : va_D A (x_W qx qc qw qs cI (x_st u, x_md u, x_bt u, x_cm u, x_hr u, x_rs u, x_hv u, x_vs u, x_wz u, x_sz u, x_ro u, x_rc u, upd (x_cn u) 1 (((x_cn u) 1) + 1), x_wt u, x_sn u)) := hD
    have hFc := va_free (wc := (x_W qx qc qw qs cI (x_st u, x_md u, x_bt u, x_cm u, x_hr u, x_rs u, x_hv u, x_vs u, x_wz u, x_sz u, x_ro u, x_rc u, upd (x_cn u) 1 (((x_cn u) 1) + 1), x_wt u, x_sn u))) hD hS hA [0, 1, 2, 3, 4, 5] rfl
    refine va_callv (va_runV (As := []) (rest := []) ⟨hx, hb, hml, hown, hts⟩ (kX0_beginSearch l dC dI qx qc qw qs cI H.size (x_st u, x_md u, x_bt u, x_cm u, x_hr u, x_rs u, x_hv u, x_vs u, x_wz u, x_sz u, x_ro u, x_rc u, upd (x_cn u) 1 (((x_cn u) 1) + 1), x_wt u, x_sn u)  ) (cwV 0 hts gX0_endTransmission_X0_beginSearch rfl rfl rfl (by decide +kernel) ⟨Nat.le_of_ble_eq_true rfl, Nat.le_of_ble_eq_true rfl⟩) ⟨fun a U g mk q => by obtain ⟨q0, q1, qP, qK, qD⟩ := q; exact ⟨q0, q1, qP, va_K.moved (u := U) (U := U.calling g mk a) (Vm.Alike.refl U.vm) qK, qD⟩, va_recv hK hP (ci := 0) (q0 := 0) rfl rfl, fun U hU hW => ⟨rfl, by rw [hU], by rw [hU]; exact hPc, va_K.moved hW.alike hK, hDc.weaken (fun _ _ _ _ => trivial)⟩⟩ rfl rfl hl.1 rfl (lv_room (Nat.le_of_ble_eq_true rfl)) dX0_endTransmission_44 ⟨Nat.le_of_ble_eq_true rfl, Nat.le_of_ble_eq_true rfl⟩) hS (fun q _ h => hFc q h) hFc (fun  u_2 t H1 locs ht hvm hu_2 hB hz1 hk1 hS => ?_)
    obtain ⟨hP1, -, hD1⟩ := hB
    rw [ht] at hP1
    have hP : va_P (dC, dI) vwCl [(qx, .inr (0, [.int (x_st u_2), .int (x_md u_2), .long (x_bt u_2), .int (x_cm u_2), .ref (x_hr u_2), .int (x_rs u_2), .ref (x_hv u_2), .int (x_vs u_2), .ref qc, .ref qw, .int (x_wz u_2), .ref qs, .int (x_sz u_2)])), (x_hr u_2, .inl (cI, 259, .inl (x_ro u_2))), (x_hv u_2, .inl (cI, 259, .inl (x_rc u_2))), (qc, .inl (cI, 5, .inl (x_cn u_2))), (qw, .inl (cI, 259, .inl (x_wt u_2))), (qs, .inl (cI, 306, .inl (x_sn u_2)))] H1 := hP1
    have hD : va_D A [(qx, .inr (0, [.int (x_st u_2), .int (x_md u_2), .long (x_bt u_2), .int (x_cm u_2), .ref (x_hr u_2), .int (x_rs u_2), .ref (x_hv u_2), .int (x_vs u_2), .ref qc, .ref qw, .int (x_wz u_2), .ref qs, .int (x_sz u_2)])), (x_hr u_2, .inl (cI, 259, .inl (x_ro u_2))), (x_hv u_2, .inl (cI, 259, .inl (x_rc u_2))), (qc, .inl (cI, 5, .inl (x_cn u_2))), (qw, .inl (cI, 259, .inl (x_wt u_2))), (qs, .inl (cI, 306, .inl (x_sn u_2)))] := hD1.weaken (fun k q _ h => hFc q.1 h)
    generalize H1 = H at hP hS ⊢
    have hP9 : va_P (dC, dI) vwCl (x_W qx qc qw qs cI u_2) H := hP
    have hD9 : va_D A (x_W qx qc qw qs cI u_2) := hD
    exact W.vret hx hb hr (fun t ht hW => ⟨⟨u_2, rfl, (by subst hu_2; unfold x_endTransmission; rw [if_pos c_1]), by rw [ht]; exact hP9, va_K.moved hW.alike hK, hD9⟩, hS.F ht⟩) hS.2.2 dX0_endTransmission_47
  · refine lv_aload_n hx hb dX0_endTransmission_17 rfl (lv_at hl 0 rfl) ?_
    refine va_get (D := (dC, dI)) (ci := 0) (v := .ref (x_hv u)) (C := RX0) (T := TX0) (N := 13) hx hb hts hinT hown hK hP 0 rfl rfl 6 (by decide) (hts (.fieldLink RX0 17 "CodeBlocks" "received" "[I") (by decide +kernel)) (fun _ h9 => h9) rfl dX0_endTransmission_18 ?_
    refine lv_astore_n (lv' := [(1, .ref (x_hv u)), (0, .ref qx)]) hx hb dX0_endTransmission_21 rfl hl (by decide) rfl (fun ls hl => ?_)
    refine lv_aload_n hx hb dX0_endTransmission_22 rfl (lv_at hl 1 rfl) ?_
    refine lv_aload_n hx hb dX0_endTransmission_23 rfl (lv_at hl 1 rfl) ?_
    refine va_get (D := (dC, dI)) (ci := 0) (v := .ref (x_hr u)) (C := RX0) (T := TX0) (N := 13) hx hb hts hinT hown hK hP 0 rfl rfl 4 (by decide) (hts (.fieldLink RX0 13 "CodeBlocks" "row" "[I") (by decide +kernel)) (fun _ h9 => h9) rfl dX0_endTransmission_24 ?_
    refine va_put (D := (dC, dI)) (ci := 0) (v := .ref (x_hr u)) (ty := .array .int) (C := RX0) (T := TX0) (N := 13) hx hb hts hinT tyX0 tyX0_ok nmX0 hown hK hP hD hS 0 rfl rfl 6 (by decide) (hts (.fieldLink RX0 17 "CodeBlocks" "received" "[I") (by decide +kernel)) (fun _ h9 => h9) rfl (by decide +kernel) rfl rfl (Nat.le_of_ble_eq_true rfl) dX0_endTransmission_27 (fun H locs hP hD hS => ?_)
    have hP : va_P (dC, dI) vwCl [(qx, .inr (0, [.int (x_st u), .int (x_md u), .long (x_bt u), .int (x_cm u), .ref (x_hr u), .int (x_rs u), .ref (x_hr u), .int (x_vs u), .ref qc, .ref qw, .int (x_wz u), .ref qs, .int (x_sz u)])), (x_hr u, .inl (cI, 259, .inl (x_ro u))), (x_hv u, .inl (cI, 259, .inl (x_rc u))), (qc, .inl (cI, 5, .inl (upd (x_cn u) 1 (((x_cn u) 1) + 1)))), (qw, .inl (cI, 259, .inl (x_wt u))), (qs, .inl (cI, 306, .inl (x_sn u)))] H := hP
    have hD : va_D A [(qx, .inr (0, [.int (x_st u), .int (x_md u), .long (x_bt u), .int (x_cm u), .ref (x_hr u), .int (x_rs u), .ref (x_hr u), .int (x_vs u), .ref qc, .ref qw, .int (x_wz u), .ref qs, .int (x_sz u)])), (x_hr u, .inl (cI, 259, .inl (x_ro u))), (x_hv u, .inl (cI, 259, .inl (x_rc u))), (qc, .inl (cI, 5, .inl (upd (x_cn u) 1 (((x_cn u) 1) + 1)))), (qw, .inl (cI, 259, .inl (x_wt u))), (qs, .inl (cI, 306, .inl (x_sn u)))] := hD
    refine lv_aload_n hx hb dX0_endTransmission_30 rfl (lv_at hl 1 rfl) ?_
    refine lv_aload_n hx hb dX0_endTransmission_31 rfl (lv_at hl 1 rfl) ?_
    refine va_get (D := (dC, dI)) (ci := 0) (v := .int (x_rs u)) (C := RX0) (T := TX0) (N := 13) hx hb hts hinT hown hK hP 0 rfl rfl 5 (by decide) (hts (.fieldLink RX0 94 "CodeBlocks" "rowSize" "I") (by decide +kernel)) (fun _ h9 => h9) rfl dX0_endTransmission_32 ?_
    refine va_put (D := (dC, dI)) (ci := 0) (v := .int (x_rs u)) (ty := .int) (C := RX0) (T := TX0) (N := 13) hx hb hts hinT tyX0 tyX0_ok nmX0 hown hK hP hD hS 0 rfl rfl 7 (by decide) (hts (.fieldLink RX0 40 "CodeBlocks" "receivedSize" "I") (by decide +kernel)) (fun _ h9 => h9) rfl (by decide +kernel) rfl rfl (Nat.le_of_ble_eq_true rfl) dX0_endTransmission_35 (fun H locs hP hD hS => ?_)
    have hP : va_P (dC, dI) vwCl [(qx, .inr (0, [.int (x_st u), .int (x_md u), .long (x_bt u), .int (x_cm u), .ref (x_hr u), .int (x_rs u), .ref (x_hr u), .int (x_rs u), .ref qc, .ref qw, .int (x_wz u), .ref qs, .int (x_sz u)])), (x_hr u, .inl (cI, 259, .inl (x_ro u))), (x_hv u, .inl (cI, 259, .inl (x_rc u))), (qc, .inl (cI, 5, .inl (upd (x_cn u) 1 (((x_cn u) 1) + 1)))), (qw, .inl (cI, 259, .inl (x_wt u))), (qs, .inl (cI, 306, .inl (x_sn u)))] H := hP
    have hD : va_D A [(qx, .inr (0, [.int (x_st u), .int (x_md u), .long (x_bt u), .int (x_cm u), .ref (x_hr u), .int (x_rs u), .ref (x_hr u), .int (x_rs u), .ref qc, .ref qw, .int (x_wz u), .ref qs, .int (x_sz u)])), (x_hr u, .inl (cI, 259, .inl (x_ro u))), (x_hv u, .inl (cI, 259, .inl (x_rc u))), (qc, .inl (cI, 5, .inl (upd (x_cn u) 1 (((x_cn u) 1) + 1)))), (qw, .inl (cI, 259, .inl (x_wt u))), (qs, .inl (cI, 306, .inl (x_sn u)))] := hD
    refine lv_aload_n hx hb dX0_endTransmission_38 rfl (lv_at hl 1 rfl) ?_
    refine lv_aload_n hx hb dX0_endTransmission_39 rfl (lv_at hl 0 rfl) ?_
    refine va_put (D := (dC, dI)) (ci := 0) (v := .ref (x_hv u)) (ty := .array .int) (C := RX0) (T := TX0) (N := 13) hx hb hts hinT tyX0 tyX0_ok nmX0 hown hK hP hD hS 0 rfl rfl 4 (by decide) (hts (.fieldLink RX0 13 "CodeBlocks" "row" "[I") (by decide +kernel)) (fun _ h9 => h9) rfl (by decide +kernel) rfl rfl (Nat.le_of_ble_eq_true rfl) dX0_endTransmission_40 (fun H locs hP hD hS => ?_)
    have hP : va_P (dC, dI) vwCl [(qx, .inr (0, [.int (x_st u), .int (x_md u), .long (x_bt u), .int (x_cm u), .ref (x_hv u), .int (x_rs u), .ref (x_hr u), .int (x_rs u), .ref qc, .ref qw, .int (x_wz u), .ref qs, .int (x_sz u)])), (x_hr u, .inl (cI, 259, .inl (x_ro u))), (x_hv u, .inl (cI, 259, .inl (x_rc u))), (qc, .inl (cI, 5, .inl (upd (x_cn u) 1 (((x_cn u) 1) + 1)))), (qw, .inl (cI, 259, .inl (x_wt u))), (qs, .inl (cI, 306, .inl (x_sn u)))] H := hP
    have hD : va_D A [(qx, .inr (0, [.int (x_st u), .int (x_md u), .long (x_bt u), .int (x_cm u), .ref (x_hv u), .int (x_rs u), .ref (x_hr u), .int (x_rs u), .ref qc, .ref qw, .int (x_wz u), .ref qs, .int (x_sz u)])), (x_hr u, .inl (cI, 259, .inl (x_ro u))), (x_hv u, .inl (cI, 259, .inl (x_rc u))), (qc, .inl (cI, 5, .inl (upd (x_cn u) 1 (((x_cn u) 1) + 1)))), (qw, .inl (cI, 259, .inl (x_wt u))), (qs, .inl (cI, 306, .inl (x_sn u)))] := hD
    refine lv_aload_n hx hb dX0_endTransmission_43 rfl (lv_at hl 1 rfl) ?_
    have hP : va_P (dC, dI) vwCl [(qx, .inr (0, [.int (x_st u), .int (x_md u), .long (x_bt u), .int (x_cm u), .ref (x_hv u), .int (x_rs u), .ref (x_hr u), .int (x_rs u), .ref qc, .ref qw, .int (x_wz u), .ref qs, .int (x_sz u)])), (x_hv u, .inl (cI, 259, .inl (x_rc u))), (x_hr u, .inl (cI, 259, .inl (x_ro u))), (qc, .inl (cI, 5, .inl (upd (x_cn u) 1 (((x_cn u) 1) + 1)))), (qw, .inl (cI, 259, .inl (x_wt u))), (qs, .inl (cI, 306, .inl (x_sn u)))] H := hP.sub [0, 2, 1, 3, 4, 5] rfl
    have hD : va_D A [(qx, .inr (0, [.int (x_st u), .int (x_md u), .long (x_bt u), .int (x_cm u), .ref (x_hv u), .int (x_rs u), .ref (x_hr u), .int (x_rs u), .ref qc, .ref qw, .int (x_wz u), .ref qs, .int (x_sz u)])), (x_hv u, .inl (cI, 259, .inl (x_rc u))), (x_hr u, .inl (cI, 259, .inl (x_ro u))), (qc, .inl (cI, 5, .inl (upd (x_cn u) 1 (((x_cn u) 1) + 1)))), (qw, .inl (cI, 259, .inl (x_wt u))), (qs, .inl (cI, 306, .inl (x_sn u)))] := hD.sub [0, 2, 1, 3, 4, 5] (by decide) rfl
    have hPc : va_P (dC, dI) vwCl (x_W qx qc qw qs cI (x_st u, x_md u, x_bt u, x_cm u, x_hv u, x_rs u, x_hr u, x_rs u, x_wz u, x_sz u, x_rc u, x_ro u, upd (x_cn u) 1 (((x_cn u) 1) + 1), x_wt u, x_sn u)) H := hP
    have hDc : va_D A (x_W qx qc qw qs cI (x_st u, x_md u, x_bt u, x_cm u, x_hv u, x_rs u, x_hr u, x_rs u, x_wz u, x_sz u, x_rc u, x_ro u, upd (x_cn u) 1 (((x_cn u) 1) + 1), x_wt u, x_sn u)) := hD
    have hFc := va_free (wc := (x_W qx qc qw qs cI (x_st u, x_md u, x_bt u, x_cm u, x_hv u, x_rs u, x_hr u, x_rs u, x_wz u, x_sz u, x_rc u, x_ro u, upd (x_cn u) 1 (((x_cn u) 1) + 1), x_wt u, x_sn u))) hD hS hA [0, 1, 2, 3, 4, 5] rfl
    refine va_callv (va_runV (As := []) (rest := []) ⟨hx, hb, hml, hown, hts⟩ (kX0_beginSearch l dC dI qx qc qw qs cI H.size (x_st u, x_md u, x_bt u, x_cm u, x_hv u, x_rs u, x_hr u, x_rs u, x_wz u, x_sz u, x_rc u, x_ro u, upd (x_cn u) 1 (((x_cn u) 1) + 1), x_wt u, x_sn u)  ) (cwV 0 hts gX0_endTransmission_X0_beginSearch rfl rfl rfl (by decide +kernel) ⟨Nat.le_of_ble_eq_true rfl, Nat.le_of_ble_eq_true rfl⟩) ⟨fun a U g mk q => by obtain ⟨q0, q1, qP, qK, qD⟩ := q; exact ⟨q0, q1, qP, va_K.moved (u := U) (U := U.calling g mk a) (Vm.Alike.refl U.vm) qK, qD⟩, va_recv hK hP (ci := 0) (q0 := 0) rfl rfl, fun U hU hW => ⟨rfl, by rw [hU], by rw [hU]; exact hPc, va_K.moved hW.alike hK, hDc.weaken (fun _ _ _ _ => trivial)⟩⟩ rfl rfl hl.1 rfl (lv_room (Nat.le_of_ble_eq_true rfl)) dX0_endTransmission_44 ⟨Nat.le_of_ble_eq_true rfl, Nat.le_of_ble_eq_true rfl⟩) hS (fun q _ h => hFc q h) hFc (fun  u_3 t H1 locs ht hvm hu_3 hB hz1 hk1 hS => ?_)
    obtain ⟨hP1, -, hD1⟩ := hB
    rw [ht] at hP1
    have hP : va_P (dC, dI) vwCl [(qx, .inr (0, [.int (x_st u_3), .int (x_md u_3), .long (x_bt u_3), .int (x_cm u_3), .ref (x_hr u_3), .int (x_rs u_3), .ref (x_hv u_3), .int (x_vs u_3), .ref qc, .ref qw, .int (x_wz u_3), .ref qs, .int (x_sz u_3)])), (x_hr u_3, .inl (cI, 259, .inl (x_ro u_3))), (x_hv u_3, .inl (cI, 259, .inl (x_rc u_3))), (qc, .inl (cI, 5, .inl (x_cn u_3))), (qw, .inl (cI, 259, .inl (x_wt u_3))), (qs, .inl (cI, 306, .inl (x_sn u_3)))] H1 := hP1
    have hD : va_D A [(qx, .inr (0, [.int (x_st u_3), .int (x_md u_3), .long (x_bt u_3), .int (x_cm u_3), .ref (x_hr u_3), .int (x_rs u_3), .ref (x_hv u_3), .int (x_vs u_3), .ref qc, .ref qw, .int (x_wz u_3), .ref qs, .int (x_sz u_3)])), (x_hr u_3, .inl (cI, 259, .inl (x_ro u_3))), (x_hv u_3, .inl (cI, 259, .inl (x_rc u_3))), (qc, .inl (cI, 5, .inl (x_cn u_3))), (qw, .inl (cI, 259, .inl (x_wt u_3))), (qs, .inl (cI, 306, .inl (x_sn u_3)))] := hD1.weaken (fun k q _ h => hFc q.1 h)
    generalize H1 = H at hP hS ⊢
    have hP9 : va_P (dC, dI) vwCl (x_W qx qc qw qs cI u_3) H := hP
    have hD9 : va_D A (x_W qx qc qw qs cI u_3) := hD
    exact W.vret hx hb hr (fun t ht hW => ⟨⟨u_3, rfl, (by subst hu_3; unfold x_endTransmission; rw [if_neg c_1]), by rw [ht]; exact hP9, va_K.moved hW.alike hK, hD9⟩, hS.F ht⟩) hS.2.2 dX0_endTransmission_47

abbrev rmX0_keepData : Room := { frames := 2, cells := 0, slots := 0, locals := 41 }
def x_kdF (d : Int64) : Nat → x_S → x_S
  | 0, u => u
  | n + 1, u => if x_rs u < 0 then u else if 259 ≤ x_rs u then u else x_kdF d n (x_st u, x_md u, x_bt u, x_cm u, x_hr u, x_rs u + 1, x_hv u, x_vs u, x_wz u, x_sz u, upd (x_ro u) (x_rs u).toNatClampNeg (x_byteOf d (nI n)), x_rc u, x_cn u, x_wt u, x_sn u)
set_option maxHeartbeats 4000000 in
set_option maxRecDepth 100000 in
theorem lpX0_keepData {p : Program} {l : Launch} {e : Env} {s : State} {m : MethodId} {args : Array Value} {below : List Frame} {meth : Method} {c : Code} {Q : State → Prop} (dC : Nat → ClassId) (dI : Nat → Nat → Nat) (qx qc qw qs : Nat) (cI : ClassId) (d : Int64) (hx : p.tables.exec = Jvm.exec) (hb : c.code = cX0_keepData) (hml : c.maxLocals = 6) (hown : s.vm.findClass RX0 = some m.cls) (hts : ∀ w ∈ wsX0_keepData, w.before args s = true) (A : Nat → Prop) (hA : ∀ q : Nat, s.heap.size ≤ q → A q) (hK : va_K (dC, dI) vwCl [(cI, .int)] s) : ∀ (n : Nat) (u : x_S) (x : Int32) (H : Heap) (locs : List Loc) (ls : Array Slot), x = nI n + (-1) → n ≤ 64 → va_P (dC, dI) vwCl (x_W qx qc qw qs cI u) H → va_D A (x_W qx qc qw qs cI u) → va_S A s.heap H locs → lv_has ls 6 [(0, .ref qx), (3, .long d), (5, .int x)] → (∀ (H : Heap) (locs : List Loc) (ls : Array Slot), va_P (dC, dI) vwCl (x_W qx qc qw qs cI (x_kdF d n u)) H → va_D A (x_W qx qc qw qs cI (x_kdF d n u)) → va_S A s.heap H locs → lv_has ls 6 [(0, .ref qx)] → W p l e (headSpec wsX0_keepData rmX0_keepData).room s m args below meth c H locs 0 0 Q (F0 m 74 ls [])) → W p l e (headSpec wsX0_keepData rmX0_keepData).room s m args below meth c H locs 0 0 Q (F0 m 19 ls []) := by
  have hinT : ∀ w ∈ wsX00, w ∈ wsX0_keepData := by decide +kernel
  intro n
  induction n with
  | zero =>
    intro u x H locs ls ex hn hP hD hS hl kk
    have ex : x = (-1) := by rw [ex]; decide
    subst ex
    have hP : va_P (dC, dI) vwCl [(qx, .inr (0, [.int (x_st u), .int (x_md u), .long (x_bt u), .int (x_cm u), .ref (x_hr u), .int (x_rs u), .ref (x_hv u), .int (x_vs u), .ref qc, .ref qw, .int (x_wz u), .ref qs, .int (x_sz u)])), (x_hr u, .inl (cI, 259, .inl (x_ro u))), (x_hv u, .inl (cI, 259, .inl (x_rc u))), (qc, .inl (cI, 5, .inl (x_cn u))), (qw, .inl (cI, 259, .inl (x_wt u))), (qs, .inl (cI, 306, .inl (x_sn u)))] H := hP
    have hD : va_D A [(qx, .inr (0, [.int (x_st u), .int (x_md u), .long (x_bt u), .int (x_cm u), .ref (x_hr u), .int (x_rs u), .ref (x_hv u), .int (x_vs u), .ref qc, .ref qw, .int (x_wz u), .ref qs, .int (x_sz u)])), (x_hr u, .inl (cI, 259, .inl (x_ro u))), (x_hv u, .inl (cI, 259, .inl (x_rc u))), (qc, .inl (cI, 5, .inl (x_cn u))), (qw, .inl (cI, 259, .inl (x_wt u))), (qs, .inl (cI, 306, .inl (x_sn u)))] := hD
    have hl : lv_has ls 6 [(0, .ref qx), (3, .long d), (5, .int (-1))] := hl
    refine lv_iload hx hb dX0_keepData_19 (lv_at hl 2 rfl) ?_
    refine lv_if_lt (tgt := 74) hx hb dX0_keepData_21 (by decide) (fun c_1 => ?_) (fun c_1 => absurd (by decide) c_1)
    exact kk H locs ls hP hD hS (lv_sub hl [0] rfl)
  | succ n ih =>
    intro u x H locs ls ex hn hP hD hS hl kk
    have ex : x = nI n := by rw [ex]; exact pk_m1 n
    subst ex
    have hP : va_P (dC, dI) vwCl [(qx, .inr (0, [.int (x_st u), .int (x_md u), .long (x_bt u), .int (x_cm u), .ref (x_hr u), .int (x_rs u), .ref (x_hv u), .int (x_vs u), .ref qc, .ref qw, .int (x_wz u), .ref qs, .int (x_sz u)])), (x_hr u, .inl (cI, 259, .inl (x_ro u))), (x_hv u, .inl (cI, 259, .inl (x_rc u))), (qc, .inl (cI, 5, .inl (x_cn u))), (qw, .inl (cI, 259, .inl (x_wt u))), (qs, .inl (cI, 306, .inl (x_sn u)))] H := hP
    have hD : va_D A [(qx, .inr (0, [.int (x_st u), .int (x_md u), .long (x_bt u), .int (x_cm u), .ref (x_hr u), .int (x_rs u), .ref (x_hv u), .int (x_vs u), .ref qc, .ref qw, .int (x_wz u), .ref qs, .int (x_sz u)])), (x_hr u, .inl (cI, 259, .inl (x_ro u))), (x_hv u, .inl (cI, 259, .inl (x_rc u))), (qc, .inl (cI, 5, .inl (x_cn u))), (qw, .inl (cI, 259, .inl (x_wt u))), (qs, .inl (cI, 306, .inl (x_sn u)))] := hD
    have hl : lv_has ls 6 [(0, .ref qx), (3, .long d), (5, .int (nI n))] := hl
    refine lv_iload hx hb dX0_keepData_19 (lv_at hl 2 rfl) ?_
    refine lv_if_lt (tgt := 74) hx hb dX0_keepData_21 (by decide) (fun c_1 => absurd c_1 (nI_pos (by omega))) (fun c_1 => ?_)
    refine lv_aload_n hx hb dX0_keepData_24 rfl (lv_at hl 0 rfl) ?_
    refine va_get (D := (dC, dI)) (ci := 0) (v := .int (x_rs u)) (C := RX0) (T := TX0) (N := 13) hx hb hts hinT hown hK hP 0 rfl rfl 5 (by decide) (hts (.fieldLink RX0 94 "CodeBlocks" "rowSize" "I") (by decide +kernel)) (fun _ h9 => h9) rfl dX0_keepData_25 ?_
    refine lv_if_lt (tgt := 74) hx hb dX0_keepData_28 (by decide) (fun c_2 => ?_) (fun c_2 => ?_)
    · have eF : x_kdF d (n + 1) u = u := by rw [x_kdF, if_pos c_2]
      exact kk H locs ls (by rw [eF]; exact hP) (by rw [eF]; exact hD) hS (by exact lv_sub hl [0] rfl)
    · refine lv_aload_n hx hb dX0_keepData_31 rfl (lv_at hl 0 rfl) ?_
      refine va_get (D := (dC, dI)) (ci := 0) (v := .int (x_rs u)) (C := RX0) (T := TX0) (N := 13) hx hb hts hinT hown hK hP 0 rfl rfl 5 (by decide) (hts (.fieldLink RX0 94 "CodeBlocks" "rowSize" "I") (by decide +kernel)) (fun _ h9 => h9) rfl dX0_keepData_32 ?_
      refine lv_aload_n hx hb dX0_keepData_35 rfl (lv_at hl 0 rfl) ?_
      refine va_get (D := (dC, dI)) (ci := 0) (v := .ref (x_hr u)) (C := RX0) (T := TX0) (N := 13) hx hb hts hinT hown hK hP 0 rfl rfl 4 (by decide) (hts (.fieldLink RX0 13 "CodeBlocks" "row" "[I") (by decide +kernel)) (fun _ h9 => h9) rfl dX0_keepData_36 ?_
      refine va_alen hx hb hK hP 1 0 rfl rfl (v := 259) rfl dX0_keepData_39 ?_
      refine lv_icmp_ge (tgt := 74) hx hb dX0_keepData_40 (by decide) (fun c_3 => ?_) (fun c_3 => ?_)
      · have eF : x_kdF d (n + 1) u = u := by rw [x_kdF, if_neg c_2, if_pos c_3]
        exact kk H locs ls (by rw [eF]; exact hP) (by rw [eF]; exact hD) hS (by exact lv_sub hl [0] rfl)
      · refine lv_aload_n hx hb dX0_keepData_43 rfl (lv_at hl 0 rfl) ?_
        refine va_get (D := (dC, dI)) (ci := 0) (v := .ref (x_hr u)) (C := RX0) (T := TX0) (N := 13) hx hb hts hinT hown hK hP 0 rfl rfl 4 (by decide) (hts (.fieldLink RX0 13 "CodeBlocks" "row" "[I") (by decide +kernel)) (fun _ h9 => h9) rfl dX0_keepData_44 ?_
        refine lv_aload_n hx hb dX0_keepData_47 rfl (lv_at hl 0 rfl) ?_
        refine va_get (D := (dC, dI)) (ci := 0) (v := .int (x_rs u)) (C := RX0) (T := TX0) (N := 13) hx hb hts hinT hown hK hP 0 rfl rfl 5 (by decide) (hts (.fieldLink RX0 94 "CodeBlocks" "rowSize" "I") (by decide +kernel)) (fun _ h9 => h9) rfl dX0_keepData_48 ?_
        refine lv_lload_n hx hb dX0_keepData_51 rfl (lv_at hl 1 rfl) ?_
        refine lv_iload hx hb dX0_keepData_52 (lv_at hl 2 rfl) ?_
        refine vp_callSi (va_runS (As := [.long d, .int (nI n)]) (rest := [.int (x_rs u), .ref (x_hr u)]) ⟨hx, hb, hml, hown, hts⟩ (kX0_byteOf l d (nI n)) (va_cwS 2 hts gX0_keepData_X0_byteOf rfl rfl rfl (by decide +kernel) ⟨Nat.le_of_ble_eq_true rfl, Nat.le_of_ble_eq_true rfl⟩) ⟨fun a U g mk q => q, fun U hU hW => ⟨rfl, trivial⟩⟩ rfl rfl hl.1 rfl (lv_room (Nat.le_of_ble_eq_true rfl)) dX0_keepData_54 ⟨Nat.le_of_ble_eq_true rfl, Nat.le_of_ble_eq_true rfl⟩).run (fun r_4 hr_4 => ?_)
        subst hr_4
        refine va_iast hx hb hK hP hD hS 1 0 rfl rfl (j_in2 (by decide) c_2 c_3) dX0_keepData_57 (fun H locs hP hD hS => ?_)
        have hP : va_P (dC, dI) vwCl [(qx, .inr (0, [.int (x_st u), .int (x_md u), .long (x_bt u), .int (x_cm u), .ref (x_hr u), .int (x_rs u), .ref (x_hv u), .int (x_vs u), .ref qc, .ref qw, .int (x_wz u), .ref qs, .int (x_sz u)])), (x_hr u, .inl (cI, 259, .inl (upd (x_ro u) ((x_rs u).toNatClampNeg) (x_byteOf d (nI n))))), (x_hv u, .inl (cI, 259, .inl (x_rc u))), (qc, .inl (cI, 5, .inl (x_cn u))), (qw, .inl (cI, 259, .inl (x_wt u))), (qs, .inl (cI, 306, .inl (x_sn u)))] H := hP
        have hD : va_D A [(qx, .inr (0, [.int (x_st u), .int (x_md u), .long (x_bt u), .int (x_cm u), .ref (x_hr u), .int (x_rs u), .ref (x_hv u), .int (x_vs u), .ref qc, .ref qw, .int (x_wz u), .ref qs, .int (x_sz u)])), (x_hr u, .inl (cI, 259, .inl (upd (x_ro u) ((x_rs u).toNatClampNeg) (x_byteOf d (nI n))))), (x_hv u, .inl (cI, 259, .inl (x_rc u))), (qc, .inl (cI, 5, .inl (x_cn u))), (qw, .inl (cI, 259, .inl (x_wt u))), (qs, .inl (cI, 306, .inl (x_sn u)))] := hD
        refine lv_aload_n hx hb dX0_keepData_58 rfl (lv_at hl 0 rfl) ?_
        refine lv_dup hx hb dX0_keepData_59 rfl ?_
        refine va_get (D := (dC, dI)) (ci := 0) (v := .int (x_rs u)) (C := RX0) (T := TX0) (N := 13) hx hb hts hinT hown hK hP 0 rfl rfl 5 (by decide) (hts (.fieldLink RX0 94 "CodeBlocks" "rowSize" "I") (by decide +kernel)) (fun _ h9 => h9) rfl dX0_keepData_60 ?_
        refine lv_iconst (v := 1) hx hb dX0_keepData_63 (by decide) ?_
        refine lv_iadd hx hb dX0_keepData_64 ?_
        refine va_put (D := (dC, dI)) (ci := 0) (v := .int ((x_rs u) + 1)) (ty := .int) (C := RX0) (T := TX0) (N := 13) hx hb hts hinT tyX0 tyX0_ok nmX0 hown hK hP hD hS 0 rfl rfl 5 (by decide) (hts (.fieldLink RX0 94 "CodeBlocks" "rowSize" "I") (by decide +kernel)) (fun _ h9 => h9) rfl (by decide +kernel) rfl rfl (Nat.le_of_ble_eq_true rfl) dX0_keepData_65 (fun H locs hP hD hS => ?_)
        have hP : va_P (dC, dI) vwCl [(qx, .inr (0, [.int (x_st u), .int (x_md u), .long (x_bt u), .int (x_cm u), .ref (x_hr u), .int ((x_rs u) + 1), .ref (x_hv u), .int (x_vs u), .ref qc, .ref qw, .int (x_wz u), .ref qs, .int (x_sz u)])), (x_hr u, .inl (cI, 259, .inl (upd (x_ro u) ((x_rs u).toNatClampNeg) (x_byteOf d (nI n))))), (x_hv u, .inl (cI, 259, .inl (x_rc u))), (qc, .inl (cI, 5, .inl (x_cn u))), (qw, .inl (cI, 259, .inl (x_wt u))), (qs, .inl (cI, 306, .inl (x_sn u)))] H := hP
        have hD : va_D A [(qx, .inr (0, [.int (x_st u), .int (x_md u), .long (x_bt u), .int (x_cm u), .ref (x_hr u), .int ((x_rs u) + 1), .ref (x_hv u), .int (x_vs u), .ref qc, .ref qw, .int (x_wz u), .ref qs, .int (x_sz u)])), (x_hr u, .inl (cI, 259, .inl (upd (x_ro u) ((x_rs u).toNatClampNeg) (x_byteOf d (nI n))))), (x_hv u, .inl (cI, 259, .inl (x_rc u))), (qc, .inl (cI, 5, .inl (x_cn u))), (qw, .inl (cI, 259, .inl (x_wt u))), (qs, .inl (cI, 306, .inl (x_sn u)))] := hD
        refine lv_iinc (v := (nI n) + (-1)) (lv' := [(5, .int ((nI n) + (-1))), (0, .ref qx), (3, .long d)]) hx hb dX0_keepData_68 hl (k := 2) rfl (by rw [show Int32.ofInt (-1) = (-1 : Int32) from by decide]) (by decide) rfl (fun ls hl => ?_)
        refine lv_goto (tgt := 19) hx hb dX0_keepData_71 (by decide) ?_
        have eF : x_kdF d (n + 1) u = x_kdF d n (x_st u, x_md u, x_bt u, x_cm u, x_hr u, (x_rs u) + 1, x_hv u, x_vs u, x_wz u, x_sz u, upd (x_ro u) ((x_rs u).toNatClampNeg) (x_byteOf d (nI n)), x_rc u, x_cn u, x_wt u, x_sn u) := by rw [x_kdF, if_neg c_2, if_neg c_3]
        exact ih (x_st u, x_md u, x_bt u, x_cm u, x_hr u, (x_rs u) + 1, x_hv u, x_vs u, x_wz u, x_sz u, upd (x_ro u) ((x_rs u).toNatClampNeg) (x_byteOf d (nI n)), x_rc u, x_cn u, x_wt u, x_sn u) ((nI n) + (-1)) H locs ls rfl (by omega) hP hD hS (lv_sub hl [1, 2, 0] rfl) (fun H locs ls hP hD hS hl => kk H locs ls (by rw [eF]; exact hP) (by rw [eF]; exact hD) hS (by exact hl))
def x_keepData (u : x_S) (a0 : Int64) : x_S := if (x_rs (x_kdF (j_lushr a0 7) 7 (x_st u, x_md u, x_bt u, x_cm u, x_hr u, x_rs u, x_hv u, x_vs u, x_wz u, x_sz u, x_ro u, x_rc u, upd (x_cn u) 2 (((x_cn u) 2) + 1), x_wt u, x_sn u))) = 259 then (x_endTransmission (x_kdF (j_lushr a0 7) 7 (x_st u, x_md u, x_bt u, x_cm u, x_hr u, x_rs u, x_hv u, x_vs u, x_wz u, x_sz u, x_ro u, x_rc u, upd (x_cn u) 2 (((x_cn u) 2) + 1), x_wt u, x_sn u))) else (x_kdF (j_lushr a0 7) 7 (x_st u, x_md u, x_bt u, x_cm u, x_hr u, x_rs u, x_hv u, x_vs u, x_wz u, x_sz u, x_ro u, x_rc u, upd (x_cn u) 2 (((x_cn u) 2) + 1), x_wt u, x_sn u))
set_option maxHeartbeats 4000000 in
set_option maxRecDepth 100000 in
theorem kX0_keepData (l : Launch) (dC : Nat → ClassId) (dI : Nat → Nat → Nat) (qx qc qw qs : Nat) (cI : ClassId) (sz : Nat) (u : x_S) (a0 : Int64) : Met l yX0_keepData wsX0_keepData rmX0_keepData (va_Pc [.ref qx, .long a0] (fun U => U.heap.size = sz ∧ va_P (dC, dI) vwCl (x_W qx qc qw qs cI u) U.heap ∧ va_K (dC, dI) vwCl [(cI, .int)] U ∧ va_D (fun _ => True) (x_W qx qc qw qs cI u))) (va_Qv (fun u2 => u2 = x_keepData u a0) (x_At dC dI (va_A (x_W qx qc qw qs cI u) sz) qx qc qw qs cI) (va_A (x_W qx qc qw qs cI u) sz)) 0 0 (va_A (x_W qx qc qw qs cI u) sz) := by
  refine Met.ofW (cc := cX0_keepData) (maxL := 6) (ret := none) (by decide) rfl ?_
  intro p e s m args below meth c s₁ B hml hv
  obtain ⟨rfl, hsz, hP, hK, hD0⟩ := hv
  have hx := B.exec
  have hb := B.bytes
  have hr := B.returns
  have hts := atoms_spec (ws := wsX0_keepData) B.pre
  have hown : s.vm.findClass RX0 = some m.cls := findClass_of_methodNamed B.named
  have hlocks := B.notSynchronized
  have hinT : ∀ w ∈ wsX00, w ∈ wsX0_keepData := by decide +kernel
  subst hsz
  have hD := hD0.self (sz := s.heap.size)
  generalize hAe : va_A (x_W qx qc qw qs cI u) s.heap.size = A at hD ⊢
  have hA : ∀ q : Nat, s.heap.size ≤ q → A q := fun q h => by rw [← hAe]; exact Or.inr h
  have hS : va_S A s.heap s.heap [] := va_S.rf
  have hD : va_D A [(qx, .inr (0, [.int (x_st u), .int (x_md u), .long (x_bt u), .int (x_cm u), .ref (x_hr u), .int (x_rs u), .ref (x_hv u), .int (x_vs u), .ref qc, .ref qw, .int (x_wz u), .ref qs, .int (x_sz u)])), (x_hr u, .inl (cI, 259, .inl (x_ro u))), (x_hv u, .inl (cI, 259, .inl (x_rc u))), (qc, .inl (cI, 5, .inl (x_cn u))), (qw, .inl (cI, 259, .inl (x_wt u))), (qs, .inl (cI, 306, .inl (x_sn u)))] := hD
  have hP : va_P (dC, dI) vwCl [(qx, .inr (0, [.int (x_st u), .int (x_md u), .long (x_bt u), .int (x_cm u), .ref (x_hr u), .int (x_rs u), .ref (x_hv u), .int (x_vs u), .ref qc, .ref qw, .int (x_wz u), .ref qs, .int (x_sz u)])), (x_hr u, .inl (cI, 259, .inl (x_ro u))), (x_hv u, .inl (cI, 259, .inl (x_rc u))), (qc, .inl (cI, 5, .inl (x_cn u))), (qw, .inl (cI, 259, .inl (x_wt u))), (qs, .inl (cI, 306, .inl (x_sn u)))] s.heap := hP
  have hl := lv_entry ([.ref qx, .long a0]) (n := 6) (Nat.le_of_ble_eq_true rfl)
  rw [lg_entry_eq]
  generalize (lg_sl ([.ref qx, .long a0]) ++ List.replicate (6 - (lg_sl ([.ref qx, .long a0])).length) Slot.unset).toArray = ls at hl ⊢
  have hl : lv_has ls 6 [(0, .ref qx), (1, .long a0)] := hl
  refine lv_aload_n hx hb dX0_keepData_0 rfl (lv_at hl 0 rfl) ?_
  refine va_get (D := (dC, dI)) (ci := 0) (v := .ref qc) (C := RX0) (T := TX0) (N := 13) hx hb hts hinT hown hK hP 0 rfl rfl 8 (by decide) (hts (.fieldLink RX0 20 "CodeBlocks" "counts" "[I") (by decide +kernel)) (fun _ h9 => h9) rfl dX0_keepData_1 ?_
  refine lv_iconst (v := 2) hx hb dX0_keepData_4 (by decide) ?_
  refine lv_dup2_11 hx hb dX0_keepData_5 rfl rfl ?_
  refine va_iald hx hb hK hP 3 0 rfl rfl (j_in (k := 2) rfl (by decide)) dX0_keepData_6 ?_
  refine W.eq (g2 := F0 m 7 ls [.int ((x_cn u) 2), .int 2, .ref qc]) rfl ?_
  refine lv_iconst (v := 1) hx hb dX0_keepData_7 (by decide) ?_
  refine lv_iadd hx hb dX0_keepData_8 ?_
  refine va_iast hx hb hK hP hD hS 3 0 rfl rfl (j_in (k := 2) rfl (by decide)) dX0_keepData_9 (fun H locs hP hD hS => ?_)
  rw [show (2 : Int32).toNatClampNeg = 2 from (by decide)] at hP hD
  have hP : va_P (dC, dI) vwCl [(qx, .inr (0, [.int (x_st u), .int (x_md u), .long (x_bt u), .int (x_cm u), .ref (x_hr u), .int (x_rs u), .ref (x_hv u), .int (x_vs u), .ref qc, .ref qw, .int (x_wz u), .ref qs, .int (x_sz u)])), (x_hr u, .inl (cI, 259, .inl (x_ro u))), (x_hv u, .inl (cI, 259, .inl (x_rc u))), (qc, .inl (cI, 5, .inl (upd (x_cn u) 2 (((x_cn u) 2) + 1)))), (qw, .inl (cI, 259, .inl (x_wt u))), (qs, .inl (cI, 306, .inl (x_sn u)))] H := hP
  have hD : va_D A [(qx, .inr (0, [.int (x_st u), .int (x_md u), .long (x_bt u), .int (x_cm u), .ref (x_hr u), .int (x_rs u), .ref (x_hv u), .int (x_vs u), .ref qc, .ref qw, .int (x_wz u), .ref qs, .int (x_sz u)])), (x_hr u, .inl (cI, 259, .inl (x_ro u))), (x_hv u, .inl (cI, 259, .inl (x_rc u))), (qc, .inl (cI, 5, .inl (upd (x_cn u) 2 (((x_cn u) 2) + 1)))), (qw, .inl (cI, 259, .inl (x_wt u))), (qs, .inl (cI, 306, .inl (x_sn u)))] := hD
  refine lv_lload_n hx hb dX0_keepData_10 rfl (lv_at hl 1 rfl) ?_
  refine lv_bipush (v := 7) hx hb dX0_keepData_11 (by decide) ?_
  refine lv_lushr (v := j_lushr a0 7) hx hb dX0_keepData_13 rfl ?_
  refine lv_lstore_n (lv' := [(3, .long (j_lushr a0 7)), (0, .ref qx), (1, .long a0)]) hx hb dX0_keepData_14 rfl hl (by decide) rfl (fun ls hl => ?_)
  refine lv_bipush (v := 6) hx hb dX0_keepData_15 (by decide) ?_
  refine lv_istore (lv' := [(5, .int 6), (3, .long (j_lushr a0 7)), (0, .ref qx), (1, .long a0)]) hx hb dX0_keepData_17 hl (by decide) rfl (fun ls hl => ?_)
  refine lpX0_keepData (l := l) dC dI qx qc qw qs cI (j_lushr a0 7) hx hb hml hown hts A hA hK  7 (x_st u, x_md u, x_bt u, x_cm u, x_hr u, x_rs u, x_hv u, x_vs u, x_wz u, x_sz u, x_ro u, x_rc u, upd (x_cn u) 2 (((x_cn u) 2) + 1), x_wt u, x_sn u) 6 H locs ls (by decide) (by decide) hP hD hS (lv_sub hl [2, 1, 0] rfl) (fun H locs ls hP hD hS hl => ?_)
  obtain ⟨v_1, hv_1⟩ : ∃ z, z = x_kdF (j_lushr a0 7) 7 (x_st u, x_md u, x_bt u, x_cm u, x_hr u, x_rs u, x_hv u, x_vs u, x_wz u, x_sz u, x_ro u, x_rc u, upd (x_cn u) 2 (((x_cn u) 2) + 1), x_wt u, x_sn u) := ⟨_, rfl⟩
  rw [← hv_1] at hP hD
  have hP : va_P (dC, dI) vwCl [(qx, .inr (0, [.int (x_st v_1), .int (x_md v_1), .long (x_bt v_1), .int (x_cm v_1), .ref (x_hr v_1), .int (x_rs v_1), .ref (x_hv v_1), .int (x_vs v_1), .ref qc, .ref qw, .int (x_wz v_1), .ref qs, .int (x_sz v_1)])), (x_hr v_1, .inl (cI, 259, .inl (x_ro v_1))), (x_hv v_1, .inl (cI, 259, .inl (x_rc v_1))), (qc, .inl (cI, 5, .inl (x_cn v_1))), (qw, .inl (cI, 259, .inl (x_wt v_1))), (qs, .inl (cI, 306, .inl (x_sn v_1)))] H := hP
  have hD : va_D A [(qx, .inr (0, [.int (x_st v_1), .int (x_md v_1), .long (x_bt v_1), .int (x_cm v_1), .ref (x_hr v_1), .int (x_rs v_1), .ref (x_hv v_1), .int (x_vs v_1), .ref qc, .ref qw, .int (x_wz v_1), .ref qs, .int (x_sz v_1)])), (x_hr v_1, .inl (cI, 259, .inl (x_ro v_1))), (x_hv v_1, .inl (cI, 259, .inl (x_rc v_1))), (qc, .inl (cI, 5, .inl (x_cn v_1))), (qw, .inl (cI, 259, .inl (x_wt v_1))), (qs, .inl (cI, 306, .inl (x_sn v_1)))] := hD
  refine lv_aload_n hx hb dX0_keepData_74 rfl (lv_at hl 0 rfl) ?_
  refine va_get (D := (dC, dI)) (ci := 0) (v := .int (x_rs v_1)) (C := RX0) (T := TX0) (N := 13) hx hb hts hinT hown hK hP 0 rfl rfl 5 (by decide) (hts (.fieldLink RX0 94 "CodeBlocks" "rowSize" "I") (by decide +kernel)) (fun _ h9 => h9) rfl dX0_keepData_75 ?_
  refine lv_sipush (v := 259) hx hb dX0_keepData_78 (by decide) ?_
  refine lv_icmp_ne (tgt := 88) hx hb dX0_keepData_81 (by decide) (fun c_2 => ?_) (fun c_2 => ?_)
  · have hP9 : va_P (dC, dI) vwCl (x_W qx qc qw qs cI v_1) H := hP
    have hD9 : va_D A (x_W qx qc qw qs cI v_1) := hD
    exact W.vret hx hb hr (fun t ht hW => ⟨⟨v_1, rfl, (by subst hv_1; unfold x_keepData; rw [if_neg c_2]), by rw [ht]; exact hP9, va_K.moved hW.alike hK, hD9⟩, hS.F ht⟩) hS.2.2 dX0_keepData_88
  · refine lv_aload_n hx hb dX0_keepData_84 rfl (lv_at hl 0 rfl) ?_
    have hPc : va_P (dC, dI) vwCl (x_W qx qc qw qs cI v_1) H := hP
    have hDc : va_D A (x_W qx qc qw qs cI v_1) := hD
    have hFc := va_free (wc := (x_W qx qc qw qs cI v_1)) hD hS hA [0, 1, 2, 3, 4, 5] rfl
    refine va_callv (va_runV (As := []) (rest := []) ⟨hx, hb, hml, hown, hts⟩ (kX0_endTransmission l dC dI qx qc qw qs cI H.size v_1  ) (cwV 0 hts gX0_keepData_X0_endTransmission rfl rfl rfl (by decide +kernel) ⟨Nat.le_of_ble_eq_true rfl, Nat.le_of_ble_eq_true rfl⟩) ⟨fun a U g mk q => by obtain ⟨q0, q1, qP, qK, qD⟩ := q; exact ⟨q0, q1, qP, va_K.moved (u := U) (U := U.calling g mk a) (Vm.Alike.refl U.vm) qK, qD⟩, va_recv hK hP (ci := 0) (q0 := 0) rfl rfl, fun U hU hW => ⟨rfl, by rw [hU], by rw [hU]; exact hPc, va_K.moved hW.alike hK, hDc.weaken (fun _ _ _ _ => trivial)⟩⟩ rfl rfl hl.1 rfl (lv_room (Nat.le_of_ble_eq_true rfl)) dX0_keepData_85 ⟨Nat.le_of_ble_eq_true rfl, Nat.le_of_ble_eq_true rfl⟩) hS (fun q _ h => hFc q h) hFc (fun  u_3 t H1 locs ht hvm hu_3 hB hz1 hk1 hS => ?_)
    obtain ⟨hP1, -, hD1⟩ := hB
    rw [ht] at hP1
    have hP : va_P (dC, dI) vwCl [(qx, .inr (0, [.int (x_st u_3), .int (x_md u_3), .long (x_bt u_3), .int (x_cm u_3), .ref (x_hr u_3), .int (x_rs u_3), .ref (x_hv u_3), .int (x_vs u_3), .ref qc, .ref qw, .int (x_wz u_3), .ref qs, .int (x_sz u_3)])), (x_hr u_3, .inl (cI, 259, .inl (x_ro u_3))), (x_hv u_3, .inl (cI, 259, .inl (x_rc u_3))), (qc, .inl (cI, 5, .inl (x_cn u_3))), (qw, .inl (cI, 259, .inl (x_wt u_3))), (qs, .inl (cI, 306, .inl (x_sn u_3)))] H1 := hP1
    have hD : va_D A [(qx, .inr (0, [.int (x_st u_3), .int (x_md u_3), .long (x_bt u_3), .int (x_cm u_3), .ref (x_hr u_3), .int (x_rs u_3), .ref (x_hv u_3), .int (x_vs u_3), .ref qc, .ref qw, .int (x_wz u_3), .ref qs, .int (x_sz u_3)])), (x_hr u_3, .inl (cI, 259, .inl (x_ro u_3))), (x_hv u_3, .inl (cI, 259, .inl (x_rc u_3))), (qc, .inl (cI, 5, .inl (x_cn u_3))), (qw, .inl (cI, 259, .inl (x_wt u_3))), (qs, .inl (cI, 306, .inl (x_sn u_3)))] := hD1.weaken (fun k q _ h => hFc q.1 h)
    generalize H1 = H at hP hS ⊢
    have hP9 : va_P (dC, dI) vwCl (x_W qx qc qw qs cI u_3) H := hP
    have hD9 : va_D A (x_W qx qc qw qs cI u_3) := hD
    exact W.vret hx hb hr (fun t ht hW => ⟨⟨u_3, rfl, (by subst hu_3; subst hv_1; unfold x_keepData; rw [if_pos c_2]), by rw [ht]; exact hP9, va_K.moved hW.alike hK, hD9⟩, hS.F ht⟩) hS.2.2 dX0_keepData_88
