abbrev rmX0_lookForStart : Room := { frames := 1, cells := 0, slots := 0, locals := 20 }
def x_lookForStart (u : x_S)  : x_S := if 16 ≤ (x_cm u) then (if (x_bitCount ((((x_bt u) &&& 65535).toInt32) ^^^ 60304)) = 0 then (x_beginTransmission u) else (if (x_bitCount ((((x_bt u) &&& 65535).toInt32) ^^^ 60304)) = 1 then (if (x_md u) = 0 then u else (x_beginTransmission (x_st u, x_md u, x_bt u, x_cm u, x_hr u, x_rs u, x_hv u, x_vs u, x_wz u, x_sz u, x_ro u, x_rc u, upd (x_cn u) 4 (((x_cn u) 4) + 1), x_wt u, x_sn u))) else u)) else u
set_option maxHeartbeats 4000000 in
set_option maxRecDepth 100000 in
theorem kX0_lookForStart (l : Launch) (dC : Nat → ClassId) (dI : Nat → Nat → Nat) (qx qc qw qs : Nat) (cI : ClassId) (sz : Nat) (u : x_S)  : Met l yX0_lookForStart wsX0_lookForStart rmX0_lookForStart (va_Pc [.ref qx] (fun U => U.heap.size = sz ∧ va_P (dC, dI) vwCl (x_W qx qc qw qs cI u) U.heap ∧ va_K (dC, dI) vwCl [(cI, .int)] U ∧ va_D (fun _ => True) (x_W qx qc qw qs cI u))) (va_Qv (fun u2 => u2 = x_lookForStart u) (x_At dC dI (va_A (x_W qx qc qw qs cI u) sz) qx qc qw qs cI) (va_A (x_W qx qc qw qs cI u) sz)) 0 0 (va_A (x_W qx qc qw qs cI u) sz) := by
  refine Met.ofW (cc := cX0_lookForStart) (maxL := 2) (ret := none) (by decide) rfl ?_
  intro p e s m args below meth c s₁ B hml hv
  obtain ⟨rfl, hsz, hP, hK, hD0⟩ := hv
  have hx := B.exec
  have hb := B.bytes
  have hr := B.returns
  have hts := atoms_spec (ws := wsX0_lookForStart) B.pre
  have hown : s.vm.findClass RX0 = some m.cls := findClass_of_methodNamed B.named
  have hlocks := B.notSynchronized
  have hinT : ∀ w ∈ wsX00, w ∈ wsX0_lookForStart := by decide +kernel
  subst hsz
  have hD := hD0.self (sz := s.heap.size)
  generalize hAe : va_A (x_W qx qc qw qs cI u) s.heap.size = A at hD ⊢
  have hA : ∀ q : Nat, s.heap.size ≤ q → A q := fun q h => by rw [← hAe]; exact Or.inr h
  have hS : va_S A s.heap s.heap [] := va_S.rf
  have hD : va_D A [(qx, .inr (0, [.int (x_st u), .int (x_md u), .long (x_bt u), .int (x_cm u), .ref (x_hr u), .int (x_rs u), .ref (x_hv u), .int (x_vs u), .ref qc, .ref qw, .int (x_wz u), .ref qs, .int (x_sz u)])), (x_hr u, .inl (cI, 259, .inl (x_ro u))), (x_hv u, .inl (cI, 259, .inl (x_rc u))), (qc, .inl (cI, 5, .inl (x_cn u))), (qw, .inl (cI, 259, .inl (x_wt u))), (qs, .inl (cI, 306, .inl (x_sn u)))] := hD
  have hP : va_P (dC, dI) vwCl [(qx, .inr (0, [.int (x_st u), .int (x_md u), .long (x_bt u), .int (x_cm u), .ref (x_hr u), .int (x_rs u), .ref (x_hv u), .int (x_vs u), .ref qc, .ref qw, .int (x_wz u), .ref qs, .int (x_sz u)])), (x_hr u, .inl (cI, 259, .inl (x_ro u))), (x_hv u, .inl (cI, 259, .inl (x_rc u))), (qc, .inl (cI, 5, .inl (x_cn u))), (qw, .inl (cI, 259, .inl (x_wt u))), (qs, .inl (cI, 306, .inl (x_sn u)))] s.heap := hP
  have hl := lv_entry ([.ref qx]) (n := 2) (Nat.le_of_ble_eq_true rfl)
  rw [lg_entry_eq]
  generalize (lg_sl ([.ref qx]) ++ List.replicate (2 - (lg_sl ([.ref qx])).length) Slot.unset).toArray = ls at hl ⊢
  have hl : lv_has ls 2 [(0, .ref qx)] := hl
  refine lv_aload_n hx hb dX0_lookForStart_0 rfl (lv_at hl 0 rfl) ?_
  refine va_get (D := (dC, dI)) (ci := 0) (v := .int (x_cm u)) (C := RX0) (T := TX0) (N := 13) hx hb hts hinT hown hK hP 0 rfl rfl 3 (by decide) (hts (.fieldLink RX0 69 "CodeBlocks" "came" "I") (by decide +kernel)) (fun _ h9 => h9) rfl dX0_lookForStart_1 ?_
  refine lv_bipush (v := 16) hx hb dX0_lookForStart_4 (by decide) ?_
  refine lv_icmp_ge (tgt := 10) hx hb dX0_lookForStart_6 (by decide) (fun c_1 => ?_) (fun c_1 => ?_)
  · refine lv_aload_n hx hb dX0_lookForStart_10 rfl (lv_at hl 0 rfl) ?_
    refine va_get (D := (dC, dI)) (ci := 0) (v := .long (x_bt u)) (C := RX0) (T := TX0) (N := 13) hx hb hts hinT hown hK hP 0 rfl rfl 2 (by decide) (hts (.fieldLink RX0 72 "CodeBlocks" "bits" "J") (by decide +kernel)) (fun _ h9 => h9) rfl dX0_lookForStart_11 ?_
    refine lv_ldc2 hx hb hown (hts (.constantLong RX0 82 65535) (by decide +kernel)) dX0_lookForStart_14 ?_
    refine lv_land hx hb dX0_lookForStart_17 ?_
    refine lv_l2i (v := ((x_bt u) &&& 65535).toInt32) hx hb dX0_lookForStart_18 rfl ?_
    refine lv_ldc hx hb hown (hts (.constant RX0 84 60304) (by decide +kernel)) dX0_lookForStart_19 ?_
    refine lv_ixor hx hb dX0_lookForStart_21 ?_
    refine vp_callSi (va_runS (As := [.int ((((x_bt u) &&& 65535).toInt32) ^^^ 60304)]) (rest := []) ⟨hx, hb, hml, hown, hts⟩ (kJ6_bitCount_0f7a4 l ((((x_bt u) &&& 65535).toInt32) ^^^ 60304)) (va_cwS 1 hts gX0_lookForStart_J6_bitCount_0f7a4 rfl rfl rfl (by decide +kernel) ⟨Nat.le_of_ble_eq_true rfl, Nat.le_of_ble_eq_true rfl⟩) ⟨fun a U g mk q => q, fun U hU hW => ⟨rfl, trivial⟩⟩ rfl rfl hl.1 rfl (lv_room (Nat.le_of_ble_eq_true rfl)) dX0_lookForStart_22 ⟨Nat.le_of_ble_eq_true rfl, Nat.le_of_ble_eq_true rfl⟩).run (fun r_2 hr_2 => ?_)
    subst hr_2
    refine lv_istore_n (lv' := [(1, .int (x_bitCount ((((x_bt u) &&& 65535).toInt32) ^^^ 60304))), (0, .ref qx)]) hx hb dX0_lookForStart_25 rfl hl (by decide) rfl (fun ls hl => ?_)
    refine lv_iload_n hx hb dX0_lookForStart_26 rfl (lv_at hl 0 rfl) ?_
    refine lv_if_ne (tgt := 37) hx hb dX0_lookForStart_27 (by decide) (fun c_3 => ?_) (fun c_3 => ?_)
    · refine lv_iload_n hx hb dX0_lookForStart_37 rfl (lv_at hl 0 rfl) ?_
      refine lv_iconst (v := 1) hx hb dX0_lookForStart_38 (by decide) ?_
      refine lv_icmp_ne (tgt := 63) hx hb dX0_lookForStart_39 (by decide) (fun c_4 => ?_) (fun c_4 => ?_)
      · have hP9 : va_P (dC, dI) vwCl (x_W qx qc qw qs cI u) s.heap := hP
        have hD9 : va_D A (x_W qx qc qw qs cI u) := hD
        exact W.vret hx hb hr (fun t ht hW => ⟨⟨u, rfl, (by unfold x_lookForStart; rw [if_pos c_1, if_neg c_3, if_neg c_4]), by rw [ht]; exact hP9, va_K.moved hW.alike hK, hD9⟩, hS.F ht⟩) hS.2.2 dX0_lookForStart_63
      · refine lv_aload_n hx hb dX0_lookForStart_42 rfl (lv_at hl 1 rfl) ?_
        refine va_get (D := (dC, dI)) (ci := 0) (v := .int (x_md u)) (C := RX0) (T := TX0) (N := 13) hx hb hts hinT hown hK hP 0 rfl rfl 1 (by decide) (hts (.fieldLink RX0 32 "CodeBlocks" "mends" "Z") (by decide +kernel)) (fun _ h9 => h9) rfl dX0_lookForStart_43 ?_
        refine lv_if_eq (tgt := 63) hx hb dX0_lookForStart_46 (by decide) (fun c_5 => ?_) (fun c_5 => ?_)
        · have hP9 : va_P (dC, dI) vwCl (x_W qx qc qw qs cI u) s.heap := hP
          have hD9 : va_D A (x_W qx qc qw qs cI u) := hD
          exact W.vret hx hb hr (fun t ht hW => ⟨⟨u, rfl, (by unfold x_lookForStart; rw [if_pos c_1, if_neg c_3, if_pos c_4, if_pos c_5]), by rw [ht]; exact hP9, va_K.moved hW.alike hK, hD9⟩, hS.F ht⟩) hS.2.2 dX0_lookForStart_63
        · refine lv_aload_n hx hb dX0_lookForStart_49 rfl (lv_at hl 1 rfl) ?_
          refine va_get (D := (dC, dI)) (ci := 0) (v := .ref qc) (C := RX0) (T := TX0) (N := 13) hx hb hts hinT hown hK hP 0 rfl rfl 8 (by decide) (hts (.fieldLink RX0 20 "CodeBlocks" "counts" "[I") (by decide +kernel)) (fun _ h9 => h9) rfl dX0_lookForStart_50 ?_
          refine lv_iconst (v := 4) hx hb dX0_lookForStart_53 (by decide) ?_
          refine lv_dup2_11 hx hb dX0_lookForStart_54 rfl rfl ?_
          refine va_iald hx hb hK hP 3 0 rfl rfl (j_in (k := 4) rfl (by decide)) dX0_lookForStart_55 ?_
          refine W.eq (g2 := F0 m 56 ls [.int ((x_cn u) 4), .int 4, .ref qc]) rfl ?_
          refine lv_iconst (v := 1) hx hb dX0_lookForStart_56 (by decide) ?_
          refine lv_iadd hx hb dX0_lookForStart_57 ?_
          refine va_iast hx hb hK hP hD hS 3 0 rfl rfl (j_in (k := 4) rfl (by decide)) dX0_lookForStart_58 (fun H locs hP hD hS => ?_)
          rw [show (4 : Int32).toNatClampNeg = 4 from (by decide)] at hP hD
          have hP : va_P (dC, dI) vwCl [(qx, .inr (0, [.int (x_st u), .int (x_md u), .long (x_bt u), .int (x_cm u), .ref (x_hr u), .int (x_rs u), .ref (x_hv u), .int (x_vs u), .ref qc, .ref qw, .int (x_wz u), .ref qs, .int (x_sz u)])), (x_hr u, .inl (cI, 259, .inl (x_ro u))), (x_hv u, .inl (cI, 259, .inl (x_rc u))), (qc, .inl (cI, 5, .inl (upd (x_cn u) 4 (((x_cn u) 4) + 1)))), (qw, .inl (cI, 259, .inl (x_wt u))), (qs, .inl (cI, 306, .inl (x_sn u)))] H := hP
          have hD : va_D A [(qx, .inr (0, [.int (x_st u), .int (x_md u), .long (x_bt u), .int (x_cm u), .ref (x_hr u), .int (x_rs u), .ref (x_hv u), .int (x_vs u), .ref qc, .ref qw, .int (x_wz u), .ref qs, .int (x_sz u)])), (x_hr u, .inl (cI, 259, .inl (x_ro u))), (x_hv u, .inl (cI, 259, .inl (x_rc u))), (qc, .inl (cI, 5, .inl (upd (x_cn u) 4 (((x_cn u) 4) + 1)))), (qw, .inl (cI, 259, .inl (x_wt u))), (qs, .inl (cI, 306, .inl (x_sn u)))] := hD
          refine lv_aload_n hx hb dX0_lookForStart_59 rfl (lv_at hl 1 rfl) ?_
          have hPc : va_P (dC, dI) vwCl (x_W qx qc qw qs cI (x_st u, x_md u, x_bt u, x_cm u, x_hr u, x_rs u, x_hv u, x_vs u, x_wz u, x_sz u, x_ro u, x_rc u, upd (x_cn u) 4 (((x_cn u) 4) + 1), x_wt u, x_sn u)) H := hP
          have hDc : va_D A (x_W qx qc qw qs cI (x_st u, x_md u, x_bt u, x_cm u, x_hr u, x_rs u, x_hv u, x_vs u, x_wz u, x_sz u, x_ro u, x_rc u, upd (x_cn u) 4 (((x_cn u) 4) + 1), x_wt u, x_sn u)) := hD
          have hFc := va_free (wc := (x_W qx qc qw qs cI (x_st u, x_md u, x_bt u, x_cm u, x_hr u, x_rs u, x_hv u, x_vs u, x_wz u, x_sz u, x_ro u, x_rc u, upd (x_cn u) 4 (((x_cn u) 4) + 1), x_wt u, x_sn u))) hD hS hA [0, 1, 2, 3, 4, 5] rfl
          refine va_callv (va_runV (As := []) (rest := []) ⟨hx, hb, hml, hown, hts⟩ (kX0_beginTransmission l dC dI qx qc qw qs cI H.size (x_st u, x_md u, x_bt u, x_cm u, x_hr u, x_rs u, x_hv u, x_vs u, x_wz u, x_sz u, x_ro u, x_rc u, upd (x_cn u) 4 (((x_cn u) 4) + 1), x_wt u, x_sn u)  ) (cwV 0 hts gX0_lookForStart_X0_beginTransmission rfl rfl rfl (by decide +kernel) ⟨Nat.le_of_ble_eq_true rfl, Nat.le_of_ble_eq_true rfl⟩) ⟨fun a U g mk q => by obtain ⟨q0, q1, qP, qK, qD⟩ := q; exact ⟨q0, q1, qP, va_K.moved (u := U) (U := U.calling g mk a) (Vm.Alike.refl U.vm) qK, qD⟩, va_recv hK hP (ci := 0) (q0 := 0) rfl rfl, fun U hU hW => ⟨rfl, by rw [hU], by rw [hU]; exact hPc, va_K.moved hW.alike hK, hDc.weaken (fun _ _ _ _ => trivial)⟩⟩ rfl rfl hl.1 rfl (lv_room (Nat.le_of_ble_eq_true rfl)) dX0_lookForStart_60 ⟨Nat.le_of_ble_eq_true rfl, Nat.le_of_ble_eq_true rfl⟩) hS (fun q _ h => hFc q h) hFc (fun  u_6 t H1 locs ht hvm hu_6 hB hz1 hk1 hS => ?_)
          obtain ⟨hP1, -, hD1⟩ := hB
          rw [ht] at hP1
          have hP : va_P (dC, dI) vwCl [(qx, .inr (0, [.int (x_st u_6), .int (x_md u_6), .long (x_bt u_6), .int (x_cm u_6), .ref (x_hr u_6), .int (x_rs u_6), .ref (x_hv u_6), .int (x_vs u_6), .ref qc, .ref qw, .int (x_wz u_6), .ref qs, .int (x_sz u_6)])), (x_hr u_6, .inl (cI, 259, .inl (x_ro u_6))), (x_hv u_6, .inl (cI, 259, .inl (x_rc u_6))), (qc, .inl (cI, 5, .inl (x_cn u_6))), (qw, .inl (cI, 259, .inl (x_wt u_6))), (qs, .inl (cI, 306, .inl (x_sn u_6)))] H1 := hP1
          have hD : va_D A [(qx, .inr (0, [.int (x_st u_6), .int (x_md u_6), .long (x_bt u_6), .int (x_cm u_6), .ref (x_hr u_6), .int (x_rs u_6), .ref (x_hv u_6), .int (x_vs u_6), .ref qc, .ref qw, .int (x_wz u_6), .ref qs, .int (x_sz u_6)])), (x_hr u_6, .inl (cI, 259, .inl (x_ro u_6))), (x_hv u_6, .inl (cI, 259, .inl (x_rc u_6))), (qc, .inl (cI, 5, .inl (x_cn u_6))), (qw, .inl (cI, 259, .inl (x_wt u_6))), (qs, .inl (cI, 306, .inl (x_sn u_6)))] := hD1.weaken (fun k q _ h => hFc q.1 h)
          generalize H1 = H at hP hS ⊢
          have hP9 : va_P (dC, dI) vwCl (x_W qx qc qw qs cI u_6) H := hP
          have hD9 : va_D A (x_W qx qc qw qs cI u_6) := hD
          exact W.vret hx hb hr (fun t ht hW => ⟨⟨u_6, rfl, (by subst hu_6; unfold x_lookForStart; rw [if_pos c_1, if_neg c_3, if_pos c_4, if_neg c_5]), by rw [ht]; exact hP9, va_K.moved hW.alike hK, hD9⟩, hS.F ht⟩) hS.2.2 dX0_lookForStart_63
    · refine lv_aload_n hx hb dX0_lookForStart_30 rfl (lv_at hl 1 rfl) ?_
      have hPc : va_P (dC, dI) vwCl (x_W qx qc qw qs cI u) s.heap := hP
      have hDc : va_D A (x_W qx qc qw qs cI u) := hD
      have hFc := va_free (wc := (x_W qx qc qw qs cI u)) hD hS hA [0, 1, 2, 3, 4, 5] rfl
      refine va_callv (va_runV (As := []) (rest := []) ⟨hx, hb, hml, hown, hts⟩ (kX0_beginTransmission l dC dI qx qc qw qs cI s.heap.size u  ) (cwV 0 hts gX0_lookForStart_X0_beginTransmission rfl rfl rfl (by decide +kernel) ⟨Nat.le_of_ble_eq_true rfl, Nat.le_of_ble_eq_true rfl⟩) ⟨fun a U g mk q => by obtain ⟨q0, q1, qP, qK, qD⟩ := q; exact ⟨q0, q1, qP, va_K.moved (u := U) (U := U.calling g mk a) (Vm.Alike.refl U.vm) qK, qD⟩, va_recv hK hP (ci := 0) (q0 := 0) rfl rfl, fun U hU hW => ⟨rfl, by rw [hU], by rw [hU]; exact hPc, va_K.moved hW.alike hK, hDc.weaken (fun _ _ _ _ => trivial)⟩⟩ rfl rfl hl.1 rfl (lv_room (Nat.le_of_ble_eq_true rfl)) dX0_lookForStart_31 ⟨Nat.le_of_ble_eq_true rfl, Nat.le_of_ble_eq_true rfl⟩) hS (fun q _ h => hFc q h) hFc (fun  u_7 t H1 locs ht hvm hu_7 hB hz1 hk1 hS => ?_)
      obtain ⟨hP1, -, hD1⟩ := hB
      rw [ht] at hP1
      have hP : va_P (dC, dI) vwCl [(qx, .inr (0, [.int (x_st u_7), .int (x_md u_7), .long (x_bt u_7), .int (x_cm u_7), .ref (x_hr u_7), .int (x_rs u_7), .ref (x_hv u_7), .int (x_vs u_7), .ref qc, .ref qw, .int (x_wz u_7), .ref qs, .int (x_sz u_7)])), (x_hr u_7, .inl (cI, 259, .inl (x_ro u_7))), (x_hv u_7, .inl (cI, 259, .inl (x_rc u_7))), (qc, .inl (cI, 5, .inl (x_cn u_7))), (qw, .inl (cI, 259, .inl (x_wt u_7))), (qs, .inl (cI, 306, .inl (x_sn u_7)))] H1 := hP1
      have hD : va_D A [(qx, .inr (0, [.int (x_st u_7), .int (x_md u_7), .long (x_bt u_7), .int (x_cm u_7), .ref (x_hr u_7), .int (x_rs u_7), .ref (x_hv u_7), .int (x_vs u_7), .ref qc, .ref qw, .int (x_wz u_7), .ref qs, .int (x_sz u_7)])), (x_hr u_7, .inl (cI, 259, .inl (x_ro u_7))), (x_hv u_7, .inl (cI, 259, .inl (x_rc u_7))), (qc, .inl (cI, 5, .inl (x_cn u_7))), (qw, .inl (cI, 259, .inl (x_wt u_7))), (qs, .inl (cI, 306, .inl (x_sn u_7)))] := hD1.weaken (fun k q _ h => hFc q.1 h)
      generalize H1 = H at hP hS ⊢
      refine lv_goto (tgt := 63) hx hb dX0_lookForStart_34 (by decide) ?_
      have hP9 : va_P (dC, dI) vwCl (x_W qx qc qw qs cI u_7) H := hP
      have hD9 : va_D A (x_W qx qc qw qs cI u_7) := hD
      exact W.vret hx hb hr (fun t ht hW => ⟨⟨u_7, rfl, (by subst hu_7; unfold x_lookForStart; rw [if_pos c_1, if_pos c_3]), by rw [ht]; exact hP9, va_K.moved hW.alike hK, hD9⟩, hS.F ht⟩) hS.2.2 dX0_lookForStart_63
  · have hP9 : va_P (dC, dI) vwCl (x_W qx qc qw qs cI u) s.heap := hP
    have hD9 : va_D A (x_W qx qc qw qs cI u) := hD
    exact W.vret hx hb hr (fun t ht hW => ⟨⟨u, rfl, (by unfold x_lookForStart; rw [if_neg c_1]), by rw [ht]; exact hP9, va_K.moved hW.alike hK, hD9⟩, hS.F ht⟩) hS.2.2 dX0_lookForStart_9

abbrev rmX0_lookAtBlock : Room := { frames := 3, cells := 0, slots := 0, locals := 66 }
def x_lookAtBlock (u : x_S)  : x_S := if (x_md u) = 0 then (if (x_remainderOf ((j_lushr (x_bt u) 1) ^^^ 127)) = 0 then (x_keepData u ((j_lushr (x_bt u) 1) ^^^ 127)) else (x_endTransmission u)) else (if (x_remainderOf ((j_lushr (x_bt u) 1) ^^^ 127)) = 0 then (x_keepData u ((j_lushr (x_bt u) 1) ^^^ 127)) else (if (x_powerWithRemainder (x_remainderOf ((j_lushr (x_bt u) 1) ^^^ 127))) = (-1) then (x_endTransmission u) else (x_keepData (x_st u, x_md u, x_bt u, x_cm u, x_hr u, x_rs u, x_hv u, x_vs u, x_wz u, x_sz u, x_ro u, x_rc u, upd (x_cn u) 3 (((x_cn u) 3) + 1), x_wt u, x_sn u) (((j_lushr (x_bt u) 1) ^^^ 127) ^^^ (j_lshl 1 (x_powerWithRemainder (x_remainderOf ((j_lushr (x_bt u) 1) ^^^ 127))))))))
set_option maxHeartbeats 4000000 in
set_option maxRecDepth 100000 in
theorem kX0_lookAtBlock (l : Launch) (dC : Nat → ClassId) (dI : Nat → Nat → Nat) (qx qc qw qs : Nat) (cI : ClassId) (sz : Nat) (u : x_S)  : Met l yX0_lookAtBlock wsX0_lookAtBlock rmX0_lookAtBlock (va_Pc [.ref qx] (fun U => U.heap.size = sz ∧ va_P (dC, dI) vwCl (x_W qx qc qw qs cI u) U.heap ∧ va_K (dC, dI) vwCl [(cI, .int)] U ∧ va_D (fun _ => True) (x_W qx qc qw qs cI u))) (va_Qv (fun u2 => u2 = x_lookAtBlock u) (x_At dC dI (va_A (x_W qx qc qw qs cI u) sz) qx qc qw qs cI) (va_A (x_W qx qc qw qs cI u) sz)) 0 0 (va_A (x_W qx qc qw qs cI u) sz) := by
  refine Met.ofW (cc := cX0_lookAtBlock) (maxL := 5) (ret := none) (by decide) rfl ?_
  intro p e s m args below meth c s₁ B hml hv
  obtain ⟨rfl, hsz, hP, hK, hD0⟩ := hv
  have hx := B.exec
  have hb := B.bytes
  have hr := B.returns
  have hts := atoms_spec (ws := wsX0_lookAtBlock) B.pre
  have hown : s.vm.findClass RX0 = some m.cls := findClass_of_methodNamed B.named
  have hlocks := B.notSynchronized
  have hinT : ∀ w ∈ wsX00, w ∈ wsX0_lookAtBlock := by decide +kernel
  subst hsz
  have hD := hD0.self (sz := s.heap.size)
  generalize hAe : va_A (x_W qx qc qw qs cI u) s.heap.size = A at hD ⊢
  have hA : ∀ q : Nat, s.heap.size ≤ q → A q := fun q h => by rw [← hAe]; exact Or.inr h
  have hS : va_S A s.heap s.heap [] := va_S.rf
  have hD : va_D A [(qx, .inr (0, [.int (x_st u), .int (x_md u), .long (x_bt u), .int (x_cm u), .ref (x_hr u), .int (x_rs u), .ref (x_hv u), .int (x_vs u), .ref qc, .ref qw, .int (x_wz u), .ref qs, .int (x_sz u)])), (x_hr u, .inl (cI, 259, .inl (x_ro u))), (x_hv u, .inl (cI, 259, .inl (x_rc u))), (qc, .inl (cI, 5, .inl (x_cn u))), (qw, .inl (cI, 259, .inl (x_wt u))), (qs, .inl (cI, 306, .inl (x_sn u)))] := hD
  have hP : va_P (dC, dI) vwCl [(qx, .inr (0, [.int (x_st u), .int (x_md u), .long (x_bt u), .int (x_cm u), .ref (x_hr u), .int (x_rs u), .ref (x_hv u), .int (x_vs u), .ref qc, .ref qw, .int (x_wz u), .ref qs, .int (x_sz u)])), (x_hr u, .inl (cI, 259, .inl (x_ro u))), (x_hv u, .inl (cI, 259, .inl (x_rc u))), (qc, .inl (cI, 5, .inl (x_cn u))), (qw, .inl (cI, 259, .inl (x_wt u))), (qs, .inl (cI, 306, .inl (x_sn u)))] s.heap := hP
  have hl := lv_entry ([.ref qx]) (n := 5) (Nat.le_of_ble_eq_true rfl)
  rw [lg_entry_eq]
  generalize (lg_sl ([.ref qx]) ++ List.replicate (5 - (lg_sl ([.ref qx])).length) Slot.unset).toArray = ls at hl ⊢
  have hl : lv_has ls 5 [(0, .ref qx)] := hl
  refine lv_aload_n hx hb dX0_lookAtBlock_0 rfl (lv_at hl 0 rfl) ?_
  refine va_get (D := (dC, dI)) (ci := 0) (v := .long (x_bt u)) (C := RX0) (T := TX0) (N := 13) hx hb hts hinT hown hK hP 0 rfl rfl 2 (by decide) (hts (.fieldLink RX0 72 "CodeBlocks" "bits" "J") (by decide +kernel)) (fun _ h9 => h9) rfl dX0_lookAtBlock_1 ?_
  refine lv_iconst (v := 1) hx hb dX0_lookAtBlock_4 (by decide) ?_
  refine lv_lushr (v := j_lushr (x_bt u) 1) hx hb dX0_lookAtBlock_5 rfl ?_
  refine lv_ldc2 hx hb hown (hts (.constantLong RX0 97 127) (by decide +kernel)) dX0_lookAtBlock_6 ?_
  refine lv_lxor hx hb dX0_lookAtBlock_9 ?_
  refine lv_lstore_n (lv' := [(1, .long ((j_lushr (x_bt u) 1) ^^^ 127)), (0, .ref qx)]) hx hb dX0_lookAtBlock_10 rfl hl (by decide) rfl (fun ls hl => ?_)
  refine lv_lload_n hx hb dX0_lookAtBlock_11 rfl (lv_at hl 0 rfl) ?_
  refine vp_callSi (va_runS (As := [.long ((j_lushr (x_bt u) 1) ^^^ 127)]) (rest := []) ⟨hx, hb, hml, hown, hts⟩ (kX0_remainderOf l ((j_lushr (x_bt u) 1) ^^^ 127)) (va_cwS 1 hts gX0_lookAtBlock_X0_remainderOf rfl rfl rfl (by decide +kernel) ⟨Nat.le_of_ble_eq_true rfl, Nat.le_of_ble_eq_true rfl⟩) ⟨fun a U g mk q => q, fun U hU hW => ⟨rfl, trivial⟩⟩ rfl rfl hl.1 rfl (lv_room (Nat.le_of_ble_eq_true rfl)) dX0_lookAtBlock_12 ⟨Nat.le_of_ble_eq_true rfl, Nat.le_of_ble_eq_true rfl⟩).run (fun r_1 hr_1 => ?_)
  subst hr_1
  refine lv_istore_n (lv' := [(3, .int (x_remainderOf ((j_lushr (x_bt u) 1) ^^^ 127))), (1, .long ((j_lushr (x_bt u) 1) ^^^ 127)), (0, .ref qx)]) hx hb dX0_lookAtBlock_15 rfl hl (by decide) rfl (fun ls hl => ?_)
  refine lv_aload_n hx hb dX0_lookAtBlock_16 rfl (lv_at hl 2 rfl) ?_
  refine va_get (D := (dC, dI)) (ci := 0) (v := .int (x_md u)) (C := RX0) (T := TX0) (N := 13) hx hb hts hinT hown hK hP 0 rfl rfl 1 (by decide) (hts (.fieldLink RX0 32 "CodeBlocks" "mends" "Z") (by decide +kernel)) (fun _ h9 => h9) rfl dX0_lookAtBlock_17 ?_
  refine lv_if_eq (tgt := 30) hx hb dX0_lookAtBlock_20 (by decide) (fun c_2 => ?_) (fun c_2 => ?_)
  · refine lv_iconst (v := (-1)) hx hb dX0_lookAtBlock_30 (by decide) ?_
    refine lv_istore (lv' := [(4, .int (-1)), (3, .int (x_remainderOf ((j_lushr (x_bt u) 1) ^^^ 127))), (1, .long ((j_lushr (x_bt u) 1) ^^^ 127)), (0, .ref qx)]) hx hb dX0_lookAtBlock_31 hl (by decide) rfl (fun ls hl => ?_)
    refine lv_iload_n hx hb dX0_lookAtBlock_33 rfl (lv_at hl 1 rfl) ?_
    refine lv_if_ne (tgt := 45) hx hb dX0_lookAtBlock_34 (by decide) (fun c_3 => ?_) (fun c_3 => ?_)
    · refine lv_iload hx hb dX0_lookAtBlock_45 (lv_at hl 0 rfl) ?_
      refine lv_iconst (v := (-1)) hx hb dX0_lookAtBlock_47 (by decide) ?_
      refine lv_icmp_eq (tgt := 74) hx hb dX0_lookAtBlock_48 (by decide) (fun c_4 => ?_) (fun c_4 => absurd (rfl) c_4)
      refine lv_aload_n hx hb dX0_lookAtBlock_74 rfl (lv_at hl 3 rfl) ?_
      have hPc : va_P (dC, dI) vwCl (x_W qx qc qw qs cI u) s.heap := hP
      have hDc : va_D A (x_W qx qc qw qs cI u) := hD
      have hFc := va_free (wc := (x_W qx qc qw qs cI u)) hD hS hA [0, 1, 2, 3, 4, 5] rfl
      refine va_callv (va_runV (As := []) (rest := []) ⟨hx, hb, hml, hown, hts⟩ (kX0_endTransmission l dC dI qx qc qw qs cI s.heap.size u  ) (cwV 0 hts gX0_lookAtBlock_X0_endTransmission rfl rfl rfl (by decide +kernel) ⟨Nat.le_of_ble_eq_true rfl, Nat.le_of_ble_eq_true rfl⟩) ⟨fun a U g mk q => by obtain ⟨q0, q1, qP, qK, qD⟩ := q; exact ⟨q0, q1, qP, va_K.moved (u := U) (U := U.calling g mk a) (Vm.Alike.refl U.vm) qK, qD⟩, va_recv hK hP (ci := 0) (q0 := 0) rfl rfl, fun U hU hW => ⟨rfl, by rw [hU], by rw [hU]; exact hPc, va_K.moved hW.alike hK, hDc.weaken (fun _ _ _ _ => trivial)⟩⟩ rfl rfl hl.1 rfl (lv_room (Nat.le_of_ble_eq_true rfl)) dX0_lookAtBlock_75 ⟨Nat.le_of_ble_eq_true rfl, Nat.le_of_ble_eq_true rfl⟩) hS (fun q _ h => hFc q h) hFc (fun  u_5 t H1 locs ht hvm hu_5 hB hz1 hk1 hS => ?_)
      obtain ⟨hP1, -, hD1⟩ := hB
      rw [ht] at hP1
      have hP : va_P (dC, dI) vwCl [(qx, .inr (0, [.int (x_st u_5), .int (x_md u_5), .long (x_bt u_5), .int (x_cm u_5), .ref (x_hr u_5), .int (x_rs u_5), .ref (x_hv u_5), .int (x_vs u_5), .ref qc, .ref qw, .int (x_wz u_5), .ref qs, .int (x_sz u_5)])), (x_hr u_5, .inl (cI, 259, .inl (x_ro u_5))), (x_hv u_5, .inl (cI, 259, .inl (x_rc u_5))), (qc, .inl (cI, 5, .inl (x_cn u_5))), (qw, .inl (cI, 259, .inl (x_wt u_5))), (qs, .inl (cI, 306, .inl (x_sn u_5)))] H1 := hP1
      have hD : va_D A [(qx, .inr (0, [.int (x_st u_5), .int (x_md u_5), .long (x_bt u_5), .int (x_cm u_5), .ref (x_hr u_5), .int (x_rs u_5), .ref (x_hv u_5), .int (x_vs u_5), .ref qc, .ref qw, .int (x_wz u_5), .ref qs, .int (x_sz u_5)])), (x_hr u_5, .inl (cI, 259, .inl (x_ro u_5))), (x_hv u_5, .inl (cI, 259, .inl (x_rc u_5))), (qc, .inl (cI, 5, .inl (x_cn u_5))), (qw, .inl (cI, 259, .inl (x_wt u_5))), (qs, .inl (cI, 306, .inl (x_sn u_5)))] := hD1.weaken (fun k q _ h => hFc q.1 h)
      generalize H1 = H at hP hS ⊢
      have hP9 : va_P (dC, dI) vwCl (x_W qx qc qw qs cI u_5) H := hP
      have hD9 : va_D A (x_W qx qc qw qs cI u_5) := hD
      exact W.vret hx hb hr (fun t ht hW => ⟨⟨u_5, rfl, (by subst hu_5; unfold x_lookAtBlock; rw [if_pos c_2, if_neg c_3]), by rw [ht]; exact hP9, va_K.moved hW.alike hK, hD9⟩, hS.F ht⟩) hS.2.2 dX0_lookAtBlock_78
    · refine lv_aload_n hx hb dX0_lookAtBlock_37 rfl (lv_at hl 3 rfl) ?_
      refine lv_lload_n hx hb dX0_lookAtBlock_38 rfl (lv_at hl 2 rfl) ?_
      have hPc : va_P (dC, dI) vwCl (x_W qx qc qw qs cI u) s.heap := hP
      have hDc : va_D A (x_W qx qc qw qs cI u) := hD
      have hFc := va_free (wc := (x_W qx qc qw qs cI u)) hD hS hA [0, 1, 2, 3, 4, 5] rfl
      refine va_callv (va_runV (As := [.long ((j_lushr (x_bt u) 1) ^^^ 127)]) (rest := []) ⟨hx, hb, hml, hown, hts⟩ (kX0_keepData l dC dI qx qc qw qs cI s.heap.size u ((j_lushr (x_bt u) 1) ^^^ 127) ) (cwV 1 hts gX0_lookAtBlock_X0_keepData rfl rfl rfl (by decide +kernel) ⟨Nat.le_of_ble_eq_true rfl, Nat.le_of_ble_eq_true rfl⟩) ⟨fun a U g mk q => by obtain ⟨q0, q1, qP, qK, qD⟩ := q; exact ⟨q0, q1, qP, va_K.moved (u := U) (U := U.calling g mk a) (Vm.Alike.refl U.vm) qK, qD⟩, va_recv hK hP (ci := 0) (q0 := 0) rfl rfl, fun U hU hW => ⟨rfl, by rw [hU], by rw [hU]; exact hPc, va_K.moved hW.alike hK, hDc.weaken (fun _ _ _ _ => trivial)⟩⟩ rfl rfl hl.1 rfl (lv_room (Nat.le_of_ble_eq_true rfl)) dX0_lookAtBlock_39 ⟨Nat.le_of_ble_eq_true rfl, Nat.le_of_ble_eq_true rfl⟩) hS (fun q _ h => hFc q h) hFc (fun  u_6 t H1 locs ht hvm hu_6 hB hz1 hk1 hS => ?_)
      obtain ⟨hP1, -, hD1⟩ := hB
      rw [ht] at hP1
      have hP : va_P (dC, dI) vwCl [(qx, .inr (0, [.int (x_st u_6), .int (x_md u_6), .long (x_bt u_6), .int (x_cm u_6), .ref (x_hr u_6), .int (x_rs u_6), .ref (x_hv u_6), .int (x_vs u_6), .ref qc, .ref qw, .int (x_wz u_6), .ref qs, .int (x_sz u_6)])), (x_hr u_6, .inl (cI, 259, .inl (x_ro u_6))), (x_hv u_6, .inl (cI, 259, .inl (x_rc u_6))), (qc, .inl (cI, 5, .inl (x_cn u_6))), (qw, .inl (cI, 259, .inl (x_wt u_6))), (qs, .inl (cI, 306, .inl (x_sn u_6)))] H1 := hP1
      have hD : va_D A [(qx, .inr (0, [.int (x_st u_6), .int (x_md u_6), .long (x_bt u_6), .int (x_cm u_6), .ref (x_hr u_6), .int (x_rs u_6), .ref (x_hv u_6), .int (x_vs u_6), .ref qc, .ref qw, .int (x_wz u_6), .ref qs, .int (x_sz u_6)])), (x_hr u_6, .inl (cI, 259, .inl (x_ro u_6))), (x_hv u_6, .inl (cI, 259, .inl (x_rc u_6))), (qc, .inl (cI, 5, .inl (x_cn u_6))), (qw, .inl (cI, 259, .inl (x_wt u_6))), (qs, .inl (cI, 306, .inl (x_sn u_6)))] := hD1.weaken (fun k q _ h => hFc q.1 h)
      generalize H1 = H at hP hS ⊢
      refine lv_goto (tgt := 78) hx hb dX0_lookAtBlock_42 (by decide) ?_
      have hP9 : va_P (dC, dI) vwCl (x_W qx qc qw qs cI u_6) H := hP
      have hD9 : va_D A (x_W qx qc qw qs cI u_6) := hD
      exact W.vret hx hb hr (fun t ht hW => ⟨⟨u_6, rfl, (by subst hu_6; unfold x_lookAtBlock; rw [if_pos c_2, if_pos c_3]), by rw [ht]; exact hP9, va_K.moved hW.alike hK, hD9⟩, hS.F ht⟩) hS.2.2 dX0_lookAtBlock_78
  · refine lv_iload_n hx hb dX0_lookAtBlock_23 rfl (lv_at hl 0 rfl) ?_
    refine vp_callSi (va_runS (As := [.int (x_remainderOf ((j_lushr (x_bt u) 1) ^^^ 127))]) (rest := []) ⟨hx, hb, hml, hown, hts⟩ (kX0_powerWithRemainder l (x_remainderOf ((j_lushr (x_bt u) 1) ^^^ 127))) (va_cwS 1 hts gX0_lookAtBlock_X0_powerWithRemainder rfl rfl rfl (by decide +kernel) ⟨Nat.le_of_ble_eq_true rfl, Nat.le_of_ble_eq_true rfl⟩) ⟨fun a U g mk q => q, fun U hU hW => ⟨rfl, trivial⟩⟩ rfl rfl hl.1 rfl (lv_room (Nat.le_of_ble_eq_true rfl)) dX0_lookAtBlock_24 ⟨Nat.le_of_ble_eq_true rfl, Nat.le_of_ble_eq_true rfl⟩).run (fun r_7 hr_7 => ?_)
    subst hr_7
    refine lv_goto (tgt := 31) hx hb dX0_lookAtBlock_27 (by decide) ?_
    refine lv_istore (lv' := [(4, .int (x_powerWithRemainder (x_remainderOf ((j_lushr (x_bt u) 1) ^^^ 127)))), (3, .int (x_remainderOf ((j_lushr (x_bt u) 1) ^^^ 127))), (1, .long ((j_lushr (x_bt u) 1) ^^^ 127)), (0, .ref qx)]) hx hb dX0_lookAtBlock_31 hl (by decide) rfl (fun ls hl => ?_)
    refine lv_iload_n hx hb dX0_lookAtBlock_33 rfl (lv_at hl 1 rfl) ?_
    refine lv_if_ne (tgt := 45) hx hb dX0_lookAtBlock_34 (by decide) (fun c_8 => ?_) (fun c_8 => ?_)
    · refine lv_iload hx hb dX0_lookAtBlock_45 (lv_at hl 0 rfl) ?_
      refine lv_iconst (v := (-1)) hx hb dX0_lookAtBlock_47 (by decide) ?_
      refine lv_icmp_eq (tgt := 74) hx hb dX0_lookAtBlock_48 (by decide) (fun c_9 => ?_) (fun c_9 => ?_)
      · refine lv_aload_n hx hb dX0_lookAtBlock_74 rfl (lv_at hl 3 rfl) ?_
        have hPc : va_P (dC, dI) vwCl (x_W qx qc qw qs cI u) s.heap := hP
        have hDc : va_D A (x_W qx qc qw qs cI u) := hD
        have hFc := va_free (wc := (x_W qx qc qw qs cI u)) hD hS hA [0, 1, 2, 3, 4, 5] rfl
        refine va_callv (va_runV (As := []) (rest := []) ⟨hx, hb, hml, hown, hts⟩ (kX0_endTransmission l dC dI qx qc qw qs cI s.heap.size u  ) (cwV 0 hts gX0_lookAtBlock_X0_endTransmission rfl rfl rfl (by decide +kernel) ⟨Nat.le_of_ble_eq_true rfl, Nat.le_of_ble_eq_true rfl⟩) ⟨fun a U g mk q => by obtain ⟨q0, q1, qP, qK, qD⟩ := q; exact ⟨q0, q1, qP, va_K.moved (u := U) (U := U.calling g mk a) (Vm.Alike.refl U.vm) qK, qD⟩, va_recv hK hP (ci := 0) (q0 := 0) rfl rfl, fun U hU hW => ⟨rfl, by rw [hU], by rw [hU]; exact hPc, va_K.moved hW.alike hK, hDc.weaken (fun _ _ _ _ => trivial)⟩⟩ rfl rfl hl.1 rfl (lv_room (Nat.le_of_ble_eq_true rfl)) dX0_lookAtBlock_75 ⟨Nat.le_of_ble_eq_true rfl, Nat.le_of_ble_eq_true rfl⟩) hS (fun q _ h => hFc q h) hFc (fun  u_10 t H1 locs ht hvm hu_10 hB hz1 hk1 hS => ?_)
        obtain ⟨hP1, -, hD1⟩ := hB
        rw [ht] at hP1
        have hP : va_P (dC, dI) vwCl [(qx, .inr (0, [.int (x_st u_10), .int (x_md u_10), .long (x_bt u_10), .int (x_cm u_10), .ref (x_hr u_10), .int (x_rs u_10), .ref (x_hv u_10), .int (x_vs u_10), .ref qc, .ref qw, .int (x_wz u_10), .ref qs, .int (x_sz u_10)])), (x_hr u_10, .inl (cI, 259, .inl (x_ro u_10))), (x_hv u_10, .inl (cI, 259, .inl (x_rc u_10))), (qc, .inl (cI, 5, .inl (x_cn u_10))), (qw, .inl (cI, 259, .inl (x_wt u_10))), (qs, .inl (cI, 306, .inl (x_sn u_10)))] H1 := hP1
        have hD : va_D A [(qx, .inr (0, [.int (x_st u_10), .int (x_md u_10), .long (x_bt u_10), .int (x_cm u_10), .ref (x_hr u_10), .int (x_rs u_10), .ref (x_hv u_10), .int (x_vs u_10), .ref qc, .ref qw, .int (x_wz u_10), .ref qs, .int (x_sz u_10)])), (x_hr u_10, .inl (cI, 259, .inl (x_ro u_10))), (x_hv u_10, .inl (cI, 259, .inl (x_rc u_10))), (qc, .inl (cI, 5, .inl (x_cn u_10))), (qw, .inl (cI, 259, .inl (x_wt u_10))), (qs, .inl (cI, 306, .inl (x_sn u_10)))] := hD1.weaken (fun k q _ h => hFc q.1 h)
        generalize H1 = H at hP hS ⊢
        have hP9 : va_P (dC, dI) vwCl (x_W qx qc qw qs cI u_10) H := hP
        have hD9 : va_D A (x_W qx qc qw qs cI u_10) := hD
        exact W.vret hx hb hr (fun t ht hW => ⟨⟨u_10, rfl, (by subst hu_10; unfold x_lookAtBlock; rw [if_neg c_2, if_neg c_8, if_pos c_9]), by rw [ht]; exact hP9, va_K.moved hW.alike hK, hD9⟩, hS.F ht⟩) hS.2.2 dX0_lookAtBlock_78
      · refine lv_aload_n hx hb dX0_lookAtBlock_51 rfl (lv_at hl 3 rfl) ?_
        refine va_get (D := (dC, dI)) (ci := 0) (v := .ref qc) (C := RX0) (T := TX0) (N := 13) hx hb hts hinT hown hK hP 0 rfl rfl 8 (by decide) (hts (.fieldLink RX0 20 "CodeBlocks" "counts" "[I") (by decide +kernel)) (fun _ h9 => h9) rfl dX0_lookAtBlock_52 ?_
        refine lv_iconst (v := 3) hx hb dX0_lookAtBlock_55 (by decide) ?_
        refine lv_dup2_11 hx hb dX0_lookAtBlock_56 rfl rfl ?_
        refine va_iald hx hb hK hP 3 0 rfl rfl (j_in (k := 3) rfl (by decide)) dX0_lookAtBlock_57 ?_
        refine W.eq (g2 := F0 m 58 ls [.int ((x_cn u) 3), .int 3, .ref qc]) rfl ?_
        refine lv_iconst (v := 1) hx hb dX0_lookAtBlock_58 (by decide) ?_
        refine lv_iadd hx hb dX0_lookAtBlock_59 ?_
        refine va_iast hx hb hK hP hD hS 3 0 rfl rfl (j_in (k := 3) rfl (by decide)) dX0_lookAtBlock_60 (fun H locs hP hD hS => ?_)
        rw [show (3 : Int32).toNatClampNeg = 3 from (by decide)] at hP hD
        have hP : va_P (dC, dI) vwCl [(qx, .inr (0, [.int (x_st u), .int (x_md u), .long (x_bt u), .int (x_cm u), .ref (x_hr u), .int (x_rs u), .ref (x_hv u), .int (x_vs u), .ref qc, .ref qw, .int (x_wz u), .ref qs, .int (x_sz u)])), (x_hr u, .inl (cI, 259, .inl (x_ro u))), (x_hv u, .inl (cI, 259, .inl (x_rc u))), (qc, .inl (cI, 5, .inl (upd (x_cn u) 3 (((x_cn u) 3) + 1)))), (qw, .inl (cI, 259, .inl (x_wt u))), (qs, .inl (cI, 306, .inl (x_sn u)))] H := hP
        have hD : va_D A [(qx, .inr (0, [.int (x_st u), .int (x_md u), .long (x_bt u), .int (x_cm u), .ref (x_hr u), .int (x_rs u), .ref (x_hv u), .int (x_vs u), .ref qc, .ref qw, .int (x_wz u), .ref qs, .int (x_sz u)])), (x_hr u, .inl (cI, 259, .inl (x_ro u))), (x_hv u, .inl (cI, 259, .inl (x_rc u))), (qc, .inl (cI, 5, .inl (upd (x_cn u) 3 (((x_cn u) 3) + 1)))), (qw, .inl (cI, 259, .inl (x_wt u))), (qs, .inl (cI, 306, .inl (x_sn u)))] := hD
        refine lv_aload_n hx hb dX0_lookAtBlock_61 rfl (lv_at hl 3 rfl) ?_
        refine lv_lload_n hx hb dX0_lookAtBlock_62 rfl (lv_at hl 2 rfl) ?_
        refine lv_lconst (v := 1) hx hb dX0_lookAtBlock_63 (by decide) ?_
        refine lv_iload hx hb dX0_lookAtBlock_64 (lv_at hl 0 rfl) ?_
        refine lv_lshl (v := j_lshl 1 (x_powerWithRemainder (x_remainderOf ((j_lushr (x_bt u) 1) ^^^ 127)))) hx hb dX0_lookAtBlock_66 rfl ?_
        refine lv_lxor hx hb dX0_lookAtBlock_67 ?_
        have hPc : va_P (dC, dI) vwCl (x_W qx qc qw qs cI (x_st u, x_md u, x_bt u, x_cm u, x_hr u, x_rs u, x_hv u, x_vs u, x_wz u, x_sz u, x_ro u, x_rc u, upd (x_cn u) 3 (((x_cn u) 3) + 1), x_wt u, x_sn u)) H := hP
        have hDc : va_D A (x_W qx qc qw qs cI (x_st u, x_md u, x_bt u, x_cm u, x_hr u, x_rs u, x_hv u, x_vs u, x_wz u, x_sz u, x_ro u, x_rc u, upd (x_cn u) 3 (((x_cn u) 3) + 1), x_wt u, x_sn u)) := hD
        have hFc := va_free (wc := (x_W qx qc qw qs cI (x_st u, x_md u, x_bt u, x_cm u, x_hr u, x_rs u, x_hv u, x_vs u, x_wz u, x_sz u, x_ro u, x_rc u, upd (x_cn u) 3 (((x_cn u) 3) + 1), x_wt u, x_sn u))) hD hS hA [0, 1, 2, 3, 4, 5] rfl
        refine va_callv (va_runV (As := [.long (((j_lushr (x_bt u) 1) ^^^ 127) ^^^ (j_lshl 1 (x_powerWithRemainder (x_remainderOf ((j_lushr (x_bt u) 1) ^^^ 127)))))]) (rest := []) ⟨hx, hb, hml, hown, hts⟩ (kX0_keepData l dC dI qx qc qw qs cI H.size (x_st u, x_md u, x_bt u, x_cm u, x_hr u, x_rs u, x_hv u, x_vs u, x_wz u, x_sz u, x_ro u, x_rc u, upd (x_cn u) 3 (((x_cn u) 3) + 1), x_wt u, x_sn u) (((j_lushr (x_bt u) 1) ^^^ 127) ^^^ (j_lshl 1 (x_powerWithRemainder (x_remainderOf ((j_lushr (x_bt u) 1) ^^^ 127))))) ) (cwV 1 hts gX0_lookAtBlock_X0_keepData rfl rfl rfl (by decide +kernel) ⟨Nat.le_of_ble_eq_true rfl, Nat.le_of_ble_eq_true rfl⟩) ⟨fun a U g mk q => by obtain ⟨q0, q1, qP, qK, qD⟩ := q; exact ⟨q0, q1, qP, va_K.moved (u := U) (U := U.calling g mk a) (Vm.Alike.refl U.vm) qK, qD⟩, va_recv hK hP (ci := 0) (q0 := 0) rfl rfl, fun U hU hW => ⟨rfl, by rw [hU], by rw [hU]; exact hPc, va_K.moved hW.alike hK, hDc.weaken (fun _ _ _ _ => trivial)⟩⟩ rfl rfl hl.1 rfl (lv_room (Nat.le_of_ble_eq_true rfl)) dX0_lookAtBlock_68 ⟨Nat.le_of_ble_eq_true rfl, Nat.le_of_ble_eq_true rfl⟩) hS (fun q _ h => hFc q h) hFc (fun  u_11 t H1 locs ht hvm hu_11 hB hz1 hk1 hS => ?_)
        obtain ⟨hP1, -, hD1⟩ := hB
        rw [ht] at hP1
        have hP : va_P (dC, dI) vwCl [(qx, .inr (0, [.int (x_st u_11), .int (x_md u_11), .long (x_bt u_11), .int (x_cm u_11), .ref (x_hr u_11), .int (x_rs u_11), .ref (x_hv u_11), .int (x_vs u_11), .ref qc, .ref qw, .int (x_wz u_11), .ref qs, .int (x_sz u_11)])), (x_hr u_11, .inl (cI, 259, .inl (x_ro u_11))), (x_hv u_11, .inl (cI, 259, .inl (x_rc u_11))), (qc, .inl (cI, 5, .inl (x_cn u_11))), (qw, .inl (cI, 259, .inl (x_wt u_11))), (qs, .inl (cI, 306, .inl (x_sn u_11)))] H1 := hP1
        have hD : va_D A [(qx, .inr (0, [.int (x_st u_11), .int (x_md u_11), .long (x_bt u_11), .int (x_cm u_11), .ref (x_hr u_11), .int (x_rs u_11), .ref (x_hv u_11), .int (x_vs u_11), .ref qc, .ref qw, .int (x_wz u_11), .ref qs, .int (x_sz u_11)])), (x_hr u_11, .inl (cI, 259, .inl (x_ro u_11))), (x_hv u_11, .inl (cI, 259, .inl (x_rc u_11))), (qc, .inl (cI, 5, .inl (x_cn u_11))), (qw, .inl (cI, 259, .inl (x_wt u_11))), (qs, .inl (cI, 306, .inl (x_sn u_11)))] := hD1.weaken (fun k q _ h => hFc q.1 h)
        generalize H1 = H at hP hS ⊢
        refine lv_goto (tgt := 78) hx hb dX0_lookAtBlock_71 (by decide) ?_
        have hP9 : va_P (dC, dI) vwCl (x_W qx qc qw qs cI u_11) H := hP
        have hD9 : va_D A (x_W qx qc qw qs cI u_11) := hD
        exact W.vret hx hb hr (fun t ht hW => ⟨⟨u_11, rfl, (by subst hu_11; unfold x_lookAtBlock; rw [if_neg c_2, if_neg c_8, if_neg c_9]), by rw [ht]; exact hP9, va_K.moved hW.alike hK, hD9⟩, hS.F ht⟩) hS.2.2 dX0_lookAtBlock_78
    · refine lv_aload_n hx hb dX0_lookAtBlock_37 rfl (lv_at hl 3 rfl) ?_
      refine lv_lload_n hx hb dX0_lookAtBlock_38 rfl (lv_at hl 2 rfl) ?_
      have hPc : va_P (dC, dI) vwCl (x_W qx qc qw qs cI u) s.heap := hP
      have hDc : va_D A (x_W qx qc qw qs cI u) := hD
      have hFc := va_free (wc := (x_W qx qc qw qs cI u)) hD hS hA [0, 1, 2, 3, 4, 5] rfl
      refine va_callv (va_runV (As := [.long ((j_lushr (x_bt u) 1) ^^^ 127)]) (rest := []) ⟨hx, hb, hml, hown, hts⟩ (kX0_keepData l dC dI qx qc qw qs cI s.heap.size u ((j_lushr (x_bt u) 1) ^^^ 127) ) (cwV 1 hts gX0_lookAtBlock_X0_keepData rfl rfl rfl (by decide +kernel) ⟨Nat.le_of_ble_eq_true rfl, Nat.le_of_ble_eq_true rfl⟩) ⟨fun a U g mk q => by obtain ⟨q0, q1, qP, qK, qD⟩ := q; exact ⟨q0, q1, qP, va_K.moved (u := U) (U := U.calling g mk a) (Vm.Alike.refl U.vm) qK, qD⟩, va_recv hK hP (ci := 0) (q0 := 0) rfl rfl, fun U hU hW => ⟨rfl, by rw [hU], by rw [hU]; exact hPc, va_K.moved hW.alike hK, hDc.weaken (fun _ _ _ _ => trivial)⟩⟩ rfl rfl hl.1 rfl (lv_room (Nat.le_of_ble_eq_true rfl)) dX0_lookAtBlock_39 ⟨Nat.le_of_ble_eq_true rfl, Nat.le_of_ble_eq_true rfl⟩) hS (fun q _ h => hFc q h) hFc (fun  u_12 t H1 locs ht hvm hu_12 hB hz1 hk1 hS => ?_)
      obtain ⟨hP1, -, hD1⟩ := hB
      rw [ht] at hP1
      have hP : va_P (dC, dI) vwCl [(qx, .inr (0, [.int (x_st u_12), .int (x_md u_12), .long (x_bt u_12), .int (x_cm u_12), .ref (x_hr u_12), .int (x_rs u_12), .ref (x_hv u_12), .int (x_vs u_12), .ref qc, .ref qw, .int (x_wz u_12), .ref qs, .int (x_sz u_12)])), (x_hr u_12, .inl (cI, 259, .inl (x_ro u_12))), (x_hv u_12, .inl (cI, 259, .inl (x_rc u_12))), (qc, .inl (cI, 5, .inl (x_cn u_12))), (qw, .inl (cI, 259, .inl (x_wt u_12))), (qs, .inl (cI, 306, .inl (x_sn u_12)))] H1 := hP1
      have hD : va_D A [(qx, .inr (0, [.int (x_st u_12), .int (x_md u_12), .long (x_bt u_12), .int (x_cm u_12), .ref (x_hr u_12), .int (x_rs u_12), .ref (x_hv u_12), .int (x_vs u_12), .ref qc, .ref qw, .int (x_wz u_12), .ref qs, .int (x_sz u_12)])), (x_hr u_12, .inl (cI, 259, .inl (x_ro u_12))), (x_hv u_12, .inl (cI, 259, .inl (x_rc u_12))), (qc, .inl (cI, 5, .inl (x_cn u_12))), (qw, .inl (cI, 259, .inl (x_wt u_12))), (qs, .inl (cI, 306, .inl (x_sn u_12)))] := hD1.weaken (fun k q _ h => hFc q.1 h)
      generalize H1 = H at hP hS ⊢
      refine lv_goto (tgt := 78) hx hb dX0_lookAtBlock_42 (by decide) ?_
      have hP9 : va_P (dC, dI) vwCl (x_W qx qc qw qs cI u_12) H := hP
      have hD9 : va_D A (x_W qx qc qw qs cI u_12) := hD
      exact W.vret hx hb hr (fun t ht hW => ⟨⟨u_12, rfl, (by subst hu_12; unfold x_lookAtBlock; rw [if_neg c_2, if_pos c_8]), by rw [ht]; exact hP9, va_K.moved hW.alike hK, hD9⟩, hS.F ht⟩) hS.2.2 dX0_lookAtBlock_78

abbrev rmX0_takeBit : Room := { frames := 4, cells := 0, slots := 0, locals := 90 }
def x_takeBit (u : x_S) (a0 : Int64) : x_S := if (x_st u) = 1 then (x_lookForStart (x_st u, x_md u, (j_lshl (x_bt u) 1) ||| a0, (x_cm u) + 1, x_hr u, x_rs u, x_hv u, x_vs u, x_wz u, x_sz u, x_ro u, x_rc u, x_cn u, x_wt u, x_sn u)) else (if ((x_cm u) + 1) = 64 then (x_lookAtBlock (x_st u, x_md u, (j_lshl (x_bt u) 1) ||| a0, 0, x_hr u, x_rs u, x_hv u, x_vs u, x_wz u, x_sz u, x_ro u, x_rc u, x_cn u, x_wt u, x_sn u)) else (x_st u, x_md u, (j_lshl (x_bt u) 1) ||| a0, (x_cm u) + 1, x_hr u, x_rs u, x_hv u, x_vs u, x_wz u, x_sz u, x_ro u, x_rc u, x_cn u, x_wt u, x_sn u))
set_option maxHeartbeats 4000000 in
set_option maxRecDepth 100000 in
theorem kX0_takeBit (l : Launch) (dC : Nat → ClassId) (dI : Nat → Nat → Nat) (qx qc qw qs : Nat) (cI : ClassId) (sz : Nat) (u : x_S) (a0 : Int64) : Met l yX0_takeBit wsX0_takeBit rmX0_takeBit (va_Pc [.ref qx, .long a0] (fun U => U.heap.size = sz ∧ va_P (dC, dI) vwCl (x_W qx qc qw qs cI u) U.heap ∧ va_K (dC, dI) vwCl [(cI, .int)] U ∧ va_D (fun _ => True) (x_W qx qc qw qs cI u))) (va_Qv (fun u2 => u2 = x_takeBit u a0) (x_At dC dI (va_A (x_W qx qc qw qs cI u) sz) qx qc qw qs cI) (va_A (x_W qx qc qw qs cI u) sz)) 0 0 (va_A (x_W qx qc qw qs cI u) sz) := by
  refine Met.ofW (cc := cX0_takeBit) (maxL := 3) (ret := none) (by decide) rfl ?_
  intro p e s m args below meth c s₁ B hml hv
  obtain ⟨rfl, hsz, hP, hK, hD0⟩ := hv
  have hx := B.exec
  have hb := B.bytes
  have hr := B.returns
  have hts := atoms_spec (ws := wsX0_takeBit) B.pre
  have hown : s.vm.findClass RX0 = some m.cls := findClass_of_methodNamed B.named
  have hlocks := B.notSynchronized
  have hinT : ∀ w ∈ wsX00, w ∈ wsX0_takeBit := by decide +kernel
  subst hsz
  have hD := hD0.self (sz := s.heap.size)
  generalize hAe : va_A (x_W qx qc qw qs cI u) s.heap.size = A at hD ⊢
  have hA : ∀ q : Nat, s.heap.size ≤ q → A q := fun q h => by rw [← hAe]; exact Or.inr h
  have hS : va_S A s.heap s.heap [] := va_S.rf
  have hD : va_D A [(qx, .inr (0, [.int (x_st u), .int (x_md u), .long (x_bt u), .int (x_cm u), .ref (x_hr u), .int (x_rs u), .ref (x_hv u), .int (x_vs u), .ref qc, .ref qw, .int (x_wz u), .ref qs, .int (x_sz u)])), (x_hr u, .inl (cI, 259, .inl (x_ro u))), (x_hv u, .inl (cI, 259, .inl (x_rc u))), (qc, .inl (cI, 5, .inl (x_cn u))), (qw, .inl (cI, 259, .inl (x_wt u))), (qs, .inl (cI, 306, .inl (x_sn u)))] := hD
  have hP : va_P (dC, dI) vwCl [(qx, .inr (0, [.int (x_st u), .int (x_md u), .long (x_bt u), .int (x_cm u), .ref (x_hr u), .int (x_rs u), .ref (x_hv u), .int (x_vs u), .ref qc, .ref qw, .int (x_wz u), .ref qs, .int (x_sz u)])), (x_hr u, .inl (cI, 259, .inl (x_ro u))), (x_hv u, .inl (cI, 259, .inl (x_rc u))), (qc, .inl (cI, 5, .inl (x_cn u))), (qw, .inl (cI, 259, .inl (x_wt u))), (qs, .inl (cI, 306, .inl (x_sn u)))] s.heap := hP
  have hl := lv_entry ([.ref qx, .long a0]) (n := 3) (Nat.le_of_ble_eq_true rfl)
  rw [lg_entry_eq]
  generalize (lg_sl ([.ref qx, .long a0]) ++ List.replicate (3 - (lg_sl ([.ref qx, .long a0])).length) Slot.unset).toArray = ls at hl ⊢
  have hl : lv_has ls 3 [(0, .ref qx), (1, .long a0)] := hl
  refine lv_aload_n hx hb dX0_takeBit_0 rfl (lv_at hl 0 rfl) ?_
  refine lv_aload_n hx hb dX0_takeBit_1 rfl (lv_at hl 0 rfl) ?_
  refine va_get (D := (dC, dI)) (ci := 0) (v := .long (x_bt u)) (C := RX0) (T := TX0) (N := 13) hx hb hts hinT hown hK hP 0 rfl rfl 2 (by decide) (hts (.fieldLink RX0 72 "CodeBlocks" "bits" "J") (by decide +kernel)) (fun _ h9 => h9) rfl dX0_takeBit_2 ?_
  refine lv_iconst (v := 1) hx hb dX0_takeBit_5 (by decide) ?_
  refine lv_lshl (v := j_lshl (x_bt u) 1) hx hb dX0_takeBit_6 rfl ?_
  refine lv_lload_n hx hb dX0_takeBit_7 rfl (lv_at hl 1 rfl) ?_
  refine lv_lor hx hb dX0_takeBit_8 ?_
  refine va_put (D := (dC, dI)) (ci := 0) (v := .long ((j_lshl (x_bt u) 1) ||| a0)) (ty := .long) (C := RX0) (T := TX0) (N := 13) hx hb hts hinT tyX0 tyX0_ok nmX0 hown hK hP hD hS 0 rfl rfl 2 (by decide) (hts (.fieldLink RX0 72 "CodeBlocks" "bits" "J") (by decide +kernel)) (fun _ h9 => h9) rfl (by decide +kernel) rfl rfl (Nat.le_of_ble_eq_true rfl) dX0_takeBit_9 (fun H locs hP hD hS => ?_)
  have hP : va_P (dC, dI) vwCl [(qx, .inr (0, [.int (x_st u), .int (x_md u), .long ((j_lshl (x_bt u) 1) ||| a0), .int (x_cm u), .ref (x_hr u), .int (x_rs u), .ref (x_hv u), .int (x_vs u), .ref qc, .ref qw, .int (x_wz u), .ref qs, .int (x_sz u)])), (x_hr u, .inl (cI, 259, .inl (x_ro u))), (x_hv u, .inl (cI, 259, .inl (x_rc u))), (qc, .inl (cI, 5, .inl (x_cn u))), (qw, .inl (cI, 259, .inl (x_wt u))), (qs, .inl (cI, 306, .inl (x_sn u)))] H := hP
  have hD : va_D A [(qx, .inr (0, [.int (x_st u), .int (x_md u), .long ((j_lshl (x_bt u) 1) ||| a0), .int (x_cm u), .ref (x_hr u), .int (x_rs u), .ref (x_hv u), .int (x_vs u), .ref qc, .ref qw, .int (x_wz u), .ref qs, .int (x_sz u)])), (x_hr u, .inl (cI, 259, .inl (x_ro u))), (x_hv u, .inl (cI, 259, .inl (x_rc u))), (qc, .inl (cI, 5, .inl (x_cn u))), (qw, .inl (cI, 259, .inl (x_wt u))), (qs, .inl (cI, 306, .inl (x_sn u)))] := hD
  refine lv_aload_n hx hb dX0_takeBit_12 rfl (lv_at hl 0 rfl) ?_
  refine lv_dup hx hb dX0_takeBit_13 rfl ?_
  refine va_get (D := (dC, dI)) (ci := 0) (v := .int (x_cm u)) (C := RX0) (T := TX0) (N := 13) hx hb hts hinT hown hK hP 0 rfl rfl 3 (by decide) (hts (.fieldLink RX0 69 "CodeBlocks" "came" "I") (by decide +kernel)) (fun _ h9 => h9) rfl dX0_takeBit_14 ?_
  refine lv_iconst (v := 1) hx hb dX0_takeBit_17 (by decide) ?_
  refine lv_iadd hx hb dX0_takeBit_18 ?_
  refine va_put (D := (dC, dI)) (ci := 0) (v := .int ((x_cm u) + 1)) (ty := .int) (C := RX0) (T := TX0) (N := 13) hx hb hts hinT tyX0 tyX0_ok nmX0 hown hK hP hD hS 0 rfl rfl 3 (by decide) (hts (.fieldLink RX0 69 "CodeBlocks" "came" "I") (by decide +kernel)) (fun _ h9 => h9) rfl (by decide +kernel) rfl rfl (Nat.le_of_ble_eq_true rfl) dX0_takeBit_19 (fun H locs hP hD hS => ?_)
  have hP : va_P (dC, dI) vwCl [(qx, .inr (0, [.int (x_st u), .int (x_md u), .long ((j_lshl (x_bt u) 1) ||| a0), .int ((x_cm u) + 1), .ref (x_hr u), .int (x_rs u), .ref (x_hv u), .int (x_vs u), .ref qc, .ref qw, .int (x_wz u), .ref qs, .int (x_sz u)])), (x_hr u, .inl (cI, 259, .inl (x_ro u))), (x_hv u, .inl (cI, 259, .inl (x_rc u))), (qc, .inl (cI, 5, .inl (x_cn u))), (qw, .inl (cI, 259, .inl (x_wt u))), (qs, .inl (cI, 306, .inl (x_sn u)))] H := hP
  have hD : va_D A [(qx, .inr (0, [.int (x_st u), .int (x_md u), .long ((j_lshl (x_bt u) 1) ||| a0), .int ((x_cm u) + 1), .ref (x_hr u), .int (x_rs u), .ref (x_hv u), .int (x_vs u), .ref qc, .ref qw, .int (x_wz u), .ref qs, .int (x_sz u)])), (x_hr u, .inl (cI, 259, .inl (x_ro u))), (x_hv u, .inl (cI, 259, .inl (x_rc u))), (qc, .inl (cI, 5, .inl (x_cn u))), (qw, .inl (cI, 259, .inl (x_wt u))), (qs, .inl (cI, 306, .inl (x_sn u)))] := hD
  refine lv_aload_n hx hb dX0_takeBit_22 rfl (lv_at hl 0 rfl) ?_
  refine va_get (D := (dC, dI)) (ci := 0) (v := .int (x_st u)) (C := RX0) (T := TX0) (N := 13) hx hb hts hinT hown hK hP 0 rfl rfl 0 (by decide) (hts (.fieldLink RX0 9 "CodeBlocks" "state" "I") (by decide +kernel)) (fun _ h9 => h9) rfl dX0_takeBit_23 ?_
  refine lv_iconst (v := 1) hx hb dX0_takeBit_26 (by decide) ?_
  refine lv_icmp_ne (tgt := 37) hx hb dX0_takeBit_27 (by decide) (fun c_1 => ?_) (fun c_1 => ?_)
  · refine lv_aload_n hx hb dX0_takeBit_37 rfl (lv_at hl 0 rfl) ?_
    refine va_get (D := (dC, dI)) (ci := 0) (v := .int ((x_cm u) + 1)) (C := RX0) (T := TX0) (N := 13) hx hb hts hinT hown hK hP 0 rfl rfl 3 (by decide) (hts (.fieldLink RX0 69 "CodeBlocks" "came" "I") (by decide +kernel)) (fun _ h9 => h9) rfl dX0_takeBit_38 ?_
    refine lv_bipush (v := 64) hx hb dX0_takeBit_41 (by decide) ?_
    refine lv_icmp_ne (tgt := 55) hx hb dX0_takeBit_43 (by decide) (fun c_2 => ?_) (fun c_2 => ?_)
    · have hP9 : va_P (dC, dI) vwCl (x_W qx qc qw qs cI (x_st u, x_md u, (j_lshl (x_bt u) 1) ||| a0, (x_cm u) + 1, x_hr u, x_rs u, x_hv u, x_vs u, x_wz u, x_sz u, x_ro u, x_rc u, x_cn u, x_wt u, x_sn u)) H := hP
      have hD9 : va_D A (x_W qx qc qw qs cI (x_st u, x_md u, (j_lshl (x_bt u) 1) ||| a0, (x_cm u) + 1, x_hr u, x_rs u, x_hv u, x_vs u, x_wz u, x_sz u, x_ro u, x_rc u, x_cn u, x_wt u, x_sn u)) := hD
      exact W.vret hx hb hr (fun t ht hW => ⟨⟨(x_st u, x_md u, (j_lshl (x_bt u) 1) ||| a0, (x_cm u) + 1, x_hr u, x_rs u, x_hv u, x_vs u, x_wz u, x_sz u, x_ro u, x_rc u, x_cn u, x_wt u, x_sn u), rfl, (by unfold x_takeBit; rw [if_neg c_1, if_neg c_2]), by rw [ht]; exact hP9, va_K.moved hW.alike hK, hD9⟩, hS.F ht⟩) hS.2.2 dX0_takeBit_55
    · refine lv_aload_n hx hb dX0_takeBit_46 rfl (lv_at hl 0 rfl) ?_
      refine lv_iconst (v := 0) hx hb dX0_takeBit_47 (by decide) ?_
      refine va_put (D := (dC, dI)) (ci := 0) (v := .int 0) (ty := .int) (C := RX0) (T := TX0) (N := 13) hx hb hts hinT tyX0 tyX0_ok nmX0 hown hK hP hD hS 0 rfl rfl 3 (by decide) (hts (.fieldLink RX0 69 "CodeBlocks" "came" "I") (by decide +kernel)) (fun _ h9 => h9) rfl (by decide +kernel) rfl rfl (Nat.le_of_ble_eq_true rfl) dX0_takeBit_48 (fun H locs hP hD hS => ?_)
      have hP : va_P (dC, dI) vwCl [(qx, .inr (0, [.int (x_st u), .int (x_md u), .long ((j_lshl (x_bt u) 1) ||| a0), .int 0, .ref (x_hr u), .int (x_rs u), .ref (x_hv u), .int (x_vs u), .ref qc, .ref qw, .int (x_wz u), .ref qs, .int (x_sz u)])), (x_hr u, .inl (cI, 259, .inl (x_ro u))), (x_hv u, .inl (cI, 259, .inl (x_rc u))), (qc, .inl (cI, 5, .inl (x_cn u))), (qw, .inl (cI, 259, .inl (x_wt u))), (qs, .inl (cI, 306, .inl (x_sn u)))] H := hP
      have hD : va_D A [(qx, .inr (0, [.int (x_st u), .int (x_md u), .long ((j_lshl (x_bt u) 1) ||| a0), .int 0, .ref (x_hr u), .int (x_rs u), .ref (x_hv u), .int (x_vs u), .ref qc, .ref qw, .int (x_wz u), .ref qs, .int (x_sz u)])), (x_hr u, .inl (cI, 259, .inl (x_ro u))), (x_hv u, .inl (cI, 259, .inl (x_rc u))), (qc, .inl (cI, 5, .inl (x_cn u))), (qw, .inl (cI, 259, .inl (x_wt u))), (qs, .inl (cI, 306, .inl (x_sn u)))] := hD
      refine lv_aload_n hx hb dX0_takeBit_51 rfl (lv_at hl 0 rfl) ?_
      have hPc : va_P (dC, dI) vwCl (x_W qx qc qw qs cI (x_st u, x_md u, (j_lshl (x_bt u) 1) ||| a0, 0, x_hr u, x_rs u, x_hv u, x_vs u, x_wz u, x_sz u, x_ro u, x_rc u, x_cn u, x_wt u, x_sn u)) H := hP
      have hDc : va_D A (x_W qx qc qw qs cI (x_st u, x_md u, (j_lshl (x_bt u) 1) ||| a0, 0, x_hr u, x_rs u, x_hv u, x_vs u, x_wz u, x_sz u, x_ro u, x_rc u, x_cn u, x_wt u, x_sn u)) := hD
      have hFc := va_free (wc := (x_W qx qc qw qs cI (x_st u, x_md u, (j_lshl (x_bt u) 1) ||| a0, 0, x_hr u, x_rs u, x_hv u, x_vs u, x_wz u, x_sz u, x_ro u, x_rc u, x_cn u, x_wt u, x_sn u))) hD hS hA [0, 1, 2, 3, 4, 5] rfl
      refine va_callv (va_runV (As := []) (rest := []) ⟨hx, hb, hml, hown, hts⟩ (kX0_lookAtBlock l dC dI qx qc qw qs cI H.size (x_st u, x_md u, (j_lshl (x_bt u) 1) ||| a0, 0, x_hr u, x_rs u, x_hv u, x_vs u, x_wz u, x_sz u, x_ro u, x_rc u, x_cn u, x_wt u, x_sn u)  ) (cwV 0 hts gX0_takeBit_X0_lookAtBlock rfl rfl rfl (by decide +kernel) ⟨Nat.le_of_ble_eq_true rfl, Nat.le_of_ble_eq_true rfl⟩) ⟨fun a U g mk q => by obtain ⟨q0, q1, qP, qK, qD⟩ := q; exact ⟨q0, q1, qP, va_K.moved (u := U) (U := U.calling g mk a) (Vm.Alike.refl U.vm) qK, qD⟩, va_recv hK hP (ci := 0) (q0 := 0) rfl rfl, fun U hU hW => ⟨rfl, by rw [hU], by rw [hU]; exact hPc, va_K.moved hW.alike hK, hDc.weaken (fun _ _ _ _ => trivial)⟩⟩ rfl rfl hl.1 rfl (lv_room (Nat.le_of_ble_eq_true rfl)) dX0_takeBit_52 ⟨Nat.le_of_ble_eq_true rfl, Nat.le_of_ble_eq_true rfl⟩) hS (fun q _ h => hFc q h) hFc (fun  u_3 t H1 locs ht hvm hu_3 hB hz1 hk1 hS => ?_)
      obtain ⟨hP1, -, hD1⟩ := hB
      rw [ht] at hP1
      have hP : va_P (dC, dI) vwCl [(qx, .inr (0, [.int (x_st u_3), .int (x_md u_3), .long (x_bt u_3), .int (x_cm u_3), .ref (x_hr u_3), .int (x_rs u_3), .ref (x_hv u_3), .int (x_vs u_3), .ref qc, .ref qw, .int (x_wz u_3), .ref qs, .int (x_sz u_3)])), (x_hr u_3, .inl (cI, 259, .inl (x_ro u_3))), (x_hv u_3, .inl (cI, 259, .inl (x_rc u_3))), (qc, .inl (cI, 5, .inl (x_cn u_3))), (qw, .inl (cI, 259, .inl (x_wt u_3))), (qs, .inl (cI, 306, .inl (x_sn u_3)))] H1 := hP1
      have hD : va_D A [(qx, .inr (0, [.int (x_st u_3), .int (x_md u_3), .long (x_bt u_3), .int (x_cm u_3), .ref (x_hr u_3), .int (x_rs u_3), .ref (x_hv u_3), .int (x_vs u_3), .ref qc, .ref qw, .int (x_wz u_3), .ref qs, .int (x_sz u_3)])), (x_hr u_3, .inl (cI, 259, .inl (x_ro u_3))), (x_hv u_3, .inl (cI, 259, .inl (x_rc u_3))), (qc, .inl (cI, 5, .inl (x_cn u_3))), (qw, .inl (cI, 259, .inl (x_wt u_3))), (qs, .inl (cI, 306, .inl (x_sn u_3)))] := hD1.weaken (fun k q _ h => hFc q.1 h)
      generalize H1 = H at hP hS ⊢
      have hP9 : va_P (dC, dI) vwCl (x_W qx qc qw qs cI u_3) H := hP
      have hD9 : va_D A (x_W qx qc qw qs cI u_3) := hD
      exact W.vret hx hb hr (fun t ht hW => ⟨⟨u_3, rfl, (by subst hu_3; unfold x_takeBit; rw [if_neg c_1, if_pos c_2]), by rw [ht]; exact hP9, va_K.moved hW.alike hK, hD9⟩, hS.F ht⟩) hS.2.2 dX0_takeBit_55
  · refine lv_aload_n hx hb dX0_takeBit_30 rfl (lv_at hl 0 rfl) ?_
    have hPc : va_P (dC, dI) vwCl (x_W qx qc qw qs cI (x_st u, x_md u, (j_lshl (x_bt u) 1) ||| a0, (x_cm u) + 1, x_hr u, x_rs u, x_hv u, x_vs u, x_wz u, x_sz u, x_ro u, x_rc u, x_cn u, x_wt u, x_sn u)) H := hP
    have hDc : va_D A (x_W qx qc qw qs cI (x_st u, x_md u, (j_lshl (x_bt u) 1) ||| a0, (x_cm u) + 1, x_hr u, x_rs u, x_hv u, x_vs u, x_wz u, x_sz u, x_ro u, x_rc u, x_cn u, x_wt u, x_sn u)) := hD
    have hFc := va_free (wc := (x_W qx qc qw qs cI (x_st u, x_md u, (j_lshl (x_bt u) 1) ||| a0, (x_cm u) + 1, x_hr u, x_rs u, x_hv u, x_vs u, x_wz u, x_sz u, x_ro u, x_rc u, x_cn u, x_wt u, x_sn u))) hD hS hA [0, 1, 2, 3, 4, 5] rfl
    refine va_callv (va_runV (As := []) (rest := []) ⟨hx, hb, hml, hown, hts⟩ (kX0_lookForStart l dC dI qx qc qw qs cI H.size (x_st u, x_md u, (j_lshl (x_bt u) 1) ||| a0, (x_cm u) + 1, x_hr u, x_rs u, x_hv u, x_vs u, x_wz u, x_sz u, x_ro u, x_rc u, x_cn u, x_wt u, x_sn u)  ) (cwV 0 hts gX0_takeBit_X0_lookForStart rfl rfl rfl (by decide +kernel) ⟨Nat.le_of_ble_eq_true rfl, Nat.le_of_ble_eq_true rfl⟩) ⟨fun a U g mk q => by obtain ⟨q0, q1, qP, qK, qD⟩ := q; exact ⟨q0, q1, qP, va_K.moved (u := U) (U := U.calling g mk a) (Vm.Alike.refl U.vm) qK, qD⟩, va_recv hK hP (ci := 0) (q0 := 0) rfl rfl, fun U hU hW => ⟨rfl, by rw [hU], by rw [hU]; exact hPc, va_K.moved hW.alike hK, hDc.weaken (fun _ _ _ _ => trivial)⟩⟩ rfl rfl hl.1 rfl (lv_room (Nat.le_of_ble_eq_true rfl)) dX0_takeBit_31 ⟨Nat.le_of_ble_eq_true rfl, Nat.le_of_ble_eq_true rfl⟩) hS (fun q _ h => hFc q h) hFc (fun  u_4 t H1 locs ht hvm hu_4 hB hz1 hk1 hS => ?_)
    obtain ⟨hP1, -, hD1⟩ := hB
    rw [ht] at hP1
    have hP : va_P (dC, dI) vwCl [(qx, .inr (0, [.int (x_st u_4), .int (x_md u_4), .long (x_bt u_4), .int (x_cm u_4), .ref (x_hr u_4), .int (x_rs u_4), .ref (x_hv u_4), .int (x_vs u_4), .ref qc, .ref qw, .int (x_wz u_4), .ref qs, .int (x_sz u_4)])), (x_hr u_4, .inl (cI, 259, .inl (x_ro u_4))), (x_hv u_4, .inl (cI, 259, .inl (x_rc u_4))), (qc, .inl (cI, 5, .inl (x_cn u_4))), (qw, .inl (cI, 259, .inl (x_wt u_4))), (qs, .inl (cI, 306, .inl (x_sn u_4)))] H1 := hP1
    have hD : va_D A [(qx, .inr (0, [.int (x_st u_4), .int (x_md u_4), .long (x_bt u_4), .int (x_cm u_4), .ref (x_hr u_4), .int (x_rs u_4), .ref (x_hv u_4), .int (x_vs u_4), .ref qc, .ref qw, .int (x_wz u_4), .ref qs, .int (x_sz u_4)])), (x_hr u_4, .inl (cI, 259, .inl (x_ro u_4))), (x_hv u_4, .inl (cI, 259, .inl (x_rc u_4))), (qc, .inl (cI, 5, .inl (x_cn u_4))), (qw, .inl (cI, 259, .inl (x_wt u_4))), (qs, .inl (cI, 306, .inl (x_sn u_4)))] := hD1.weaken (fun k q _ h => hFc q.1 h)
    generalize H1 = H at hP hS ⊢
    refine lv_goto (tgt := 55) hx hb dX0_takeBit_34 (by decide) ?_
    have hP9 : va_P (dC, dI) vwCl (x_W qx qc qw qs cI u_4) H := hP
    have hD9 : va_D A (x_W qx qc qw qs cI u_4) := hD
    exact W.vret hx hb hr (fun t ht hW => ⟨⟨u_4, rfl, (by subst hu_4; unfold x_takeBit; rw [if_pos c_1]), by rw [ht]; exact hP9, va_K.moved hW.alike hK, hD9⟩, hS.F ht⟩) hS.2.2 dX0_takeBit_55

abbrev rmX0_take : Room := { frames := 5, cells := 0, slots := 0, locals := 112 }
def x_tkF (w : Int64) : Nat → x_S → x_S
  | 0, u => u
  | n + 1, u => x_tkF w n (x_takeBit u ((j_lushr w (nI n)) &&& 1))
set_option maxHeartbeats 4000000 in
set_option maxRecDepth 100000 in
theorem lpX0_take {p : Program} {l : Launch} {e : Env} {s : State} {m : MethodId} {args : Array Value} {below : List Frame} {meth : Method} {c : Code} {Q : State → Prop} (dC : Nat → ClassId) (dI : Nat → Nat → Nat) (qx qc qw qs : Nat) (cI : ClassId) (w : Int64) (z : Int32) (hx : p.tables.exec = Jvm.exec) (hb : c.code = cX0_take) (hml : c.maxLocals = 6) (hown : s.vm.findClass RX0 = some m.cls) (hts : ∀ w ∈ wsX0_take, w.before args s = true) (A : Nat → Prop) (hA : ∀ q : Nat, s.heap.size ≤ q → A q) (hK : va_K (dC, dI) vwCl [(cI, .int)] s) : ∀ (n : Nat) (u : x_S) (x : Int32) (H : Heap) (locs : List Loc) (ls : Array Slot), x = nI n + (-1) → n ≤ 64 → va_P (dC, dI) vwCl (x_W qx qc qw qs cI u) H → va_D A (x_W qx qc qw qs cI u) → va_S A s.heap H locs → lv_has ls 6 [(0, .ref qx), (2, .long w), (4, .int z), (5, .int x)] → (∀ (H : Heap) (locs : List Loc) (ls : Array Slot), va_P (dC, dI) vwCl (x_W qx qc qw qs cI (x_tkF w n u)) H → va_D A (x_W qx qc qw qs cI (x_tkF w n u)) → va_S A s.heap H locs → lv_has ls 6 [(0, .ref qx), (4, .int z)] → W p l e (headSpec wsX0_take rmX0_take).room s m args below meth c H locs 0 0 Q (F0 m 54 ls [])) → W p l e (headSpec wsX0_take rmX0_take).room s m args below meth c H locs 0 0 Q (F0 m 33 ls []) := by
  have hinT : ∀ w ∈ wsX00, w ∈ wsX0_take := by decide +kernel
  intro n
  induction n with
  | zero =>
    intro u x H locs ls ex hn hP hD hS hl kk
    have ex : x = (-1) := by rw [ex]; decide
    subst ex
    have hP : va_P (dC, dI) vwCl [(qx, .inr (0, [.int (x_st u), .int (x_md u), .long (x_bt u), .int (x_cm u), .ref (x_hr u), .int (x_rs u), .ref (x_hv u), .int (x_vs u), .ref qc, .ref qw, .int (x_wz u), .ref qs, .int (x_sz u)])), (x_hr u, .inl (cI, 259, .inl (x_ro u))), (x_hv u, .inl (cI, 259, .inl (x_rc u))), (qc, .inl (cI, 5, .inl (x_cn u))), (qw, .inl (cI, 259, .inl (x_wt u))), (qs, .inl (cI, 306, .inl (x_sn u)))] H := hP
    have hD : va_D A [(qx, .inr (0, [.int (x_st u), .int (x_md u), .long (x_bt u), .int (x_cm u), .ref (x_hr u), .int (x_rs u), .ref (x_hv u), .int (x_vs u), .ref qc, .ref qw, .int (x_wz u), .ref qs, .int (x_sz u)])), (x_hr u, .inl (cI, 259, .inl (x_ro u))), (x_hv u, .inl (cI, 259, .inl (x_rc u))), (qc, .inl (cI, 5, .inl (x_cn u))), (qw, .inl (cI, 259, .inl (x_wt u))), (qs, .inl (cI, 306, .inl (x_sn u)))] := hD
    have hl : lv_has ls 6 [(0, .ref qx), (2, .long w), (4, .int z), (5, .int (-1))] := hl
    refine lv_iload hx hb dX0_take_33 (lv_at hl 3 rfl) ?_
    refine lv_if_lt (tgt := 54) hx hb dX0_take_35 (by decide) (fun c_1 => ?_) (fun c_1 => absurd (by decide) c_1)
    exact kk H locs ls hP hD hS (lv_sub hl [0, 2] rfl)
  | succ n ih =>
    intro u x H locs ls ex hn hP hD hS hl kk
    have ex : x = nI n := by rw [ex]; exact pk_m1 n
    subst ex
    have hP : va_P (dC, dI) vwCl [(qx, .inr (0, [.int (x_st u), .int (x_md u), .long (x_bt u), .int (x_cm u), .ref (x_hr u), .int (x_rs u), .ref (x_hv u), .int (x_vs u), .ref qc, .ref qw, .int (x_wz u), .ref qs, .int (x_sz u)])), (x_hr u, .inl (cI, 259, .inl (x_ro u))), (x_hv u, .inl (cI, 259, .inl (x_rc u))), (qc, .inl (cI, 5, .inl (x_cn u))), (qw, .inl (cI, 259, .inl (x_wt u))), (qs, .inl (cI, 306, .inl (x_sn u)))] H := hP
    have hD : va_D A [(qx, .inr (0, [.int (x_st u), .int (x_md u), .long (x_bt u), .int (x_cm u), .ref (x_hr u), .int (x_rs u), .ref (x_hv u), .int (x_vs u), .ref qc, .ref qw, .int (x_wz u), .ref qs, .int (x_sz u)])), (x_hr u, .inl (cI, 259, .inl (x_ro u))), (x_hv u, .inl (cI, 259, .inl (x_rc u))), (qc, .inl (cI, 5, .inl (x_cn u))), (qw, .inl (cI, 259, .inl (x_wt u))), (qs, .inl (cI, 306, .inl (x_sn u)))] := hD
    have hl : lv_has ls 6 [(0, .ref qx), (2, .long w), (4, .int z), (5, .int (nI n))] := hl
    refine lv_iload hx hb dX0_take_33 (lv_at hl 3 rfl) ?_
    refine lv_if_lt (tgt := 54) hx hb dX0_take_35 (by decide) (fun c_1 => absurd c_1 (nI_pos (by omega))) (fun c_1 => ?_)
    refine lv_aload_n hx hb dX0_take_38 rfl (lv_at hl 0 rfl) ?_
    refine lv_lload_n hx hb dX0_take_39 rfl (lv_at hl 1 rfl) ?_
    refine lv_iload hx hb dX0_take_40 (lv_at hl 3 rfl) ?_
    refine lv_lushr (v := j_lushr w (nI n)) hx hb dX0_take_42 rfl ?_
    refine lv_lconst (v := 1) hx hb dX0_take_43 (by decide) ?_
    refine lv_land hx hb dX0_take_44 ?_
    have hPc : va_P (dC, dI) vwCl (x_W qx qc qw qs cI u) H := hP
    have hDc : va_D A (x_W qx qc qw qs cI u) := hD
    have hFc := va_free (wc := (x_W qx qc qw qs cI u)) hD hS hA [0, 1, 2, 3, 4, 5] rfl
    refine va_callv (va_runV (As := [.long ((j_lushr w (nI n)) &&& 1)]) (rest := []) ⟨hx, hb, hml, hown, hts⟩ (kX0_takeBit l dC dI qx qc qw qs cI H.size u ((j_lushr w (nI n)) &&& 1) ) (cwV 1 hts gX0_take_X0_takeBit rfl rfl rfl (by decide +kernel) ⟨Nat.le_of_ble_eq_true rfl, Nat.le_of_ble_eq_true rfl⟩) ⟨fun a U g mk q => by obtain ⟨q0, q1, qP, qK, qD⟩ := q; exact ⟨q0, q1, qP, va_K.moved (u := U) (U := U.calling g mk a) (Vm.Alike.refl U.vm) qK, qD⟩, va_recv hK hP (ci := 0) (q0 := 0) rfl rfl, fun U hU hW => ⟨rfl, by rw [hU], by rw [hU]; exact hPc, va_K.moved hW.alike hK, hDc.weaken (fun _ _ _ _ => trivial)⟩⟩ rfl rfl hl.1 rfl (lv_room (Nat.le_of_ble_eq_true rfl)) dX0_take_45 ⟨Nat.le_of_ble_eq_true rfl, Nat.le_of_ble_eq_true rfl⟩) hS (fun q _ h => hFc q h) hFc (fun  u_2 t H1 locs ht hvm hu_2 hB hz1 hk1 hS => ?_)
    obtain ⟨hP1, -, hD1⟩ := hB
    rw [ht] at hP1
    have hP : va_P (dC, dI) vwCl [(qx, .inr (0, [.int (x_st u_2), .int (x_md u_2), .long (x_bt u_2), .int (x_cm u_2), .ref (x_hr u_2), .int (x_rs u_2), .ref (x_hv u_2), .int (x_vs u_2), .ref qc, .ref qw, .int (x_wz u_2), .ref qs, .int (x_sz u_2)])), (x_hr u_2, .inl (cI, 259, .inl (x_ro u_2))), (x_hv u_2, .inl (cI, 259, .inl (x_rc u_2))), (qc, .inl (cI, 5, .inl (x_cn u_2))), (qw, .inl (cI, 259, .inl (x_wt u_2))), (qs, .inl (cI, 306, .inl (x_sn u_2)))] H1 := hP1
    have hD : va_D A [(qx, .inr (0, [.int (x_st u_2), .int (x_md u_2), .long (x_bt u_2), .int (x_cm u_2), .ref (x_hr u_2), .int (x_rs u_2), .ref (x_hv u_2), .int (x_vs u_2), .ref qc, .ref qw, .int (x_wz u_2), .ref qs, .int (x_sz u_2)])), (x_hr u_2, .inl (cI, 259, .inl (x_ro u_2))), (x_hv u_2, .inl (cI, 259, .inl (x_rc u_2))), (qc, .inl (cI, 5, .inl (x_cn u_2))), (qw, .inl (cI, 259, .inl (x_wt u_2))), (qs, .inl (cI, 306, .inl (x_sn u_2)))] := hD1.weaken (fun k q _ h => hFc q.1 h)
    generalize H1 = H at hP hS ⊢
    refine lv_iinc (v := (nI n) + (-1)) (lv' := [(5, .int ((nI n) + (-1))), (0, .ref qx), (2, .long w), (4, .int z)]) hx hb dX0_take_48 hl (k := 3) rfl (by rw [show Int32.ofInt (-1) = (-1 : Int32) from by decide]) (by decide) rfl (fun ls hl => ?_)
    refine lv_goto (tgt := 33) hx hb dX0_take_51 (by decide) ?_
    subst hu_2
    have eF : x_tkF w (n + 1) u = x_tkF w n (x_takeBit u ((j_lushr w (nI n)) &&& 1)) := by rw [x_tkF]
    exact ih (x_takeBit u ((j_lushr w (nI n)) &&& 1)) ((nI n) + (-1)) H locs ls rfl (by omega) hP hD hS (lv_sub hl [1, 2, 3, 0] rfl) (fun H locs ls hP hD hS hl => kk H locs ls (by rw [eF]; exact hP) (by rw [eF]; exact hD) hS (by exact hl))
def x_take (u : x_S) (a0 : Int32) (a1 : Int64) : x_S := if (x_st u) = 0 then u else (if a0 < 1 then u else (if a0 ≤ 64 then (x_tkF a1 a0.toNatClampNeg u) else u))
def x_take_r (u : x_S) (a0 : Int32) (a1 : Int64) : Int32 := if (x_st u) = 0 then (-1) else (if a0 < 1 then (-1) else (if a0 ≤ 64 then (((x_cn (x_tkF a1 a0.toNatClampNeg u)) 1) - (x_cn u 1)) else (-1)))
set_option maxHeartbeats 4000000 in
set_option maxRecDepth 100000 in
theorem kX0_take (l : Launch) (dC : Nat → ClassId) (dI : Nat → Nat → Nat) (qx qc qw qs : Nat) (cI : ClassId) (sz : Nat) (u : x_S) (a0 : Int32) (a1 : Int64) : Met l yX0_take wsX0_take rmX0_take (va_Pc [.ref qx, .int a0, .long a1] (fun U => U.heap.size = sz ∧ va_P (dC, dI) vwCl (x_W qx qc qw qs cI u) U.heap ∧ va_K (dC, dI) vwCl [(cI, .int)] U ∧ va_D (fun _ => True) (x_W qx qc qw qs cI u))) (va_Qi (fun r u2 => r = x_take_r u a0 a1 ∧ u2 = x_take u a0 a1) (x_At dC dI (va_A (x_W qx qc qw qs cI u) sz) qx qc qw qs cI) (va_A (x_W qx qc qw qs cI u) sz)) 0 0 (va_A (x_W qx qc qw qs cI u) sz) := by
  refine Met.ofW (cc := cX0_take) (maxL := 6) (ret := some .int) (by decide) rfl ?_
  intro p e s m args below meth c s₁ B hml hv
  obtain ⟨rfl, hsz, hP, hK, hD0⟩ := hv
  have hx := B.exec
  have hb := B.bytes
  have hr := B.returns
  have hts := atoms_spec (ws := wsX0_take) B.pre
  have hown : s.vm.findClass RX0 = some m.cls := findClass_of_methodNamed B.named
  have hlocks := B.notSynchronized
  have hinT : ∀ w ∈ wsX00, w ∈ wsX0_take := by decide +kernel
  subst hsz
  have hD := hD0.self (sz := s.heap.size)
  generalize hAe : va_A (x_W qx qc qw qs cI u) s.heap.size = A at hD ⊢
  have hA : ∀ q : Nat, s.heap.size ≤ q → A q := fun q h => by rw [← hAe]; exact Or.inr h
  have hS : va_S A s.heap s.heap [] := va_S.rf
  have hD : va_D A [(qx, .inr (0, [.int (x_st u), .int (x_md u), .long (x_bt u), .int (x_cm u), .ref (x_hr u), .int (x_rs u), .ref (x_hv u), .int (x_vs u), .ref qc, .ref qw, .int (x_wz u), .ref qs, .int (x_sz u)])), (x_hr u, .inl (cI, 259, .inl (x_ro u))), (x_hv u, .inl (cI, 259, .inl (x_rc u))), (qc, .inl (cI, 5, .inl (x_cn u))), (qw, .inl (cI, 259, .inl (x_wt u))), (qs, .inl (cI, 306, .inl (x_sn u)))] := hD
  have hP : va_P (dC, dI) vwCl [(qx, .inr (0, [.int (x_st u), .int (x_md u), .long (x_bt u), .int (x_cm u), .ref (x_hr u), .int (x_rs u), .ref (x_hv u), .int (x_vs u), .ref qc, .ref qw, .int (x_wz u), .ref qs, .int (x_sz u)])), (x_hr u, .inl (cI, 259, .inl (x_ro u))), (x_hv u, .inl (cI, 259, .inl (x_rc u))), (qc, .inl (cI, 5, .inl (x_cn u))), (qw, .inl (cI, 259, .inl (x_wt u))), (qs, .inl (cI, 306, .inl (x_sn u)))] s.heap := hP
  have hl := lv_entry ([.ref qx, .int a0, .long a1]) (n := 6) (Nat.le_of_ble_eq_true rfl)
  rw [lg_entry_eq]
  generalize (lg_sl ([.ref qx, .int a0, .long a1]) ++ List.replicate (6 - (lg_sl ([.ref qx, .int a0, .long a1])).length) Slot.unset).toArray = ls at hl ⊢
  have hl : lv_has ls 6 [(0, .ref qx), (1, .int a0), (2, .long a1)] := hl
  refine lv_aload_n hx hb dX0_take_0 rfl (lv_at hl 0 rfl) ?_
  refine va_get (D := (dC, dI)) (ci := 0) (v := .int (x_st u)) (C := RX0) (T := TX0) (N := 13) hx hb hts hinT hown hK hP 0 rfl rfl 0 (by decide) (hts (.fieldLink RX0 9 "CodeBlocks" "state" "I") (by decide +kernel)) (fun _ h9 => h9) rfl dX0_take_1 ?_
  refine lv_if_eq (tgt := 18) hx hb dX0_take_4 (by decide) (fun c_1 => ?_) (fun c_1 => ?_)
  · refine lv_iconst (v := (-1)) hx hb dX0_take_18 (by decide) ?_
    have hP9 : va_P (dC, dI) vwCl (x_W qx qc qw qs cI u) s.heap := hP
    have hD9 : va_D A (x_W qx qc qw qs cI u) := hD
    exact W.iret (v := (-1)) hx hb hr (fun t ht hW => ⟨⟨_, u, rfl, ⟨(by unfold x_take_r; rw [if_pos c_1]), (by unfold x_take; rw [if_pos c_1])⟩, by rw [ht]; exact hP9, va_K.moved hW.alike hK, hD9⟩, hS.F ht⟩) hS.2.2 dX0_take_19
  · refine lv_iload_n hx hb dX0_take_7 rfl (lv_at hl 1 rfl) ?_
    refine lv_iconst (v := 1) hx hb dX0_take_8 (by decide) ?_
    refine lv_icmp_lt (tgt := 18) hx hb dX0_take_9 (by decide) (fun c_2 => ?_) (fun c_2 => ?_)
    · refine lv_iconst (v := (-1)) hx hb dX0_take_18 (by decide) ?_
      have hP9 : va_P (dC, dI) vwCl (x_W qx qc qw qs cI u) s.heap := hP
      have hD9 : va_D A (x_W qx qc qw qs cI u) := hD
      exact W.iret (v := (-1)) hx hb hr (fun t ht hW => ⟨⟨_, u, rfl, ⟨(by unfold x_take_r; rw [if_neg c_1, if_pos c_2]), (by unfold x_take; rw [if_neg c_1, if_pos c_2])⟩, by rw [ht]; exact hP9, va_K.moved hW.alike hK, hD9⟩, hS.F ht⟩) hS.2.2 dX0_take_19
    · refine lv_iload_n hx hb dX0_take_12 rfl (lv_at hl 1 rfl) ?_
      refine lv_bipush (v := 64) hx hb dX0_take_13 (by decide) ?_
      refine lv_icmp_le (tgt := 20) hx hb dX0_take_15 (by decide) (fun c_3 => ?_) (fun c_3 => ?_)
      · refine lv_aload_n hx hb dX0_take_20 rfl (lv_at hl 0 rfl) ?_
        refine va_get (D := (dC, dI)) (ci := 0) (v := .ref qc) (C := RX0) (T := TX0) (N := 13) hx hb hts hinT hown hK hP 0 rfl rfl 8 (by decide) (hts (.fieldLink RX0 20 "CodeBlocks" "counts" "[I") (by decide +kernel)) (fun _ h9 => h9) rfl dX0_take_21 ?_
        refine lv_iconst (v := 1) hx hb dX0_take_24 (by decide) ?_
        refine va_iald hx hb hK hP 3 0 rfl rfl (j_in (k := 1) rfl (by decide)) dX0_take_25 ?_
        refine W.eq (g2 := F0 m 26 ls [.int ((x_cn u) 1)]) rfl ?_
        refine lv_istore (lv' := [(4, .int ((x_cn u) 1)), (0, .ref qx), (1, .int a0), (2, .long a1)]) hx hb dX0_take_26 hl (by decide) rfl (fun ls hl => ?_)
        refine lv_iload_n hx hb dX0_take_28 rfl (lv_at hl 2 rfl) ?_
        refine lv_iconst (v := 1) hx hb dX0_take_29 (by decide) ?_
        refine lv_isub hx hb dX0_take_30 ?_
        refine lv_istore (lv' := [(5, .int (a0 - 1)), (4, .int ((x_cn u) 1)), (0, .ref qx), (1, .int a0), (2, .long a1)]) hx hb dX0_take_31 hl (by decide) rfl (fun ls hl => ?_)
        obtain ⟨ea, ha⟩ := j_take c_2 c_3
        refine lpX0_take (l := l) dC dI qx qc qw qs cI a1 (x_cn u 1) hx hb hml hown hts A hA hK  a0.toNatClampNeg u (a0 - 1) s.heap [] ls (by rw [← ea]; exact j_sub1 _) ha hP hD hS (lv_sub hl [2, 4, 1, 0] rfl) (fun H locs ls hP hD hS hl => ?_)
        obtain ⟨v_4, hv_4⟩ : ∃ z, z = x_tkF a1 a0.toNatClampNeg u := ⟨_, rfl⟩
        rw [← hv_4] at hP hD
        have hP : va_P (dC, dI) vwCl [(qx, .inr (0, [.int (x_st v_4), .int (x_md v_4), .long (x_bt v_4), .int (x_cm v_4), .ref (x_hr v_4), .int (x_rs v_4), .ref (x_hv v_4), .int (x_vs v_4), .ref qc, .ref qw, .int (x_wz v_4), .ref qs, .int (x_sz v_4)])), (x_hr v_4, .inl (cI, 259, .inl (x_ro v_4))), (x_hv v_4, .inl (cI, 259, .inl (x_rc v_4))), (qc, .inl (cI, 5, .inl (x_cn v_4))), (qw, .inl (cI, 259, .inl (x_wt v_4))), (qs, .inl (cI, 306, .inl (x_sn v_4)))] H := hP
        have hD : va_D A [(qx, .inr (0, [.int (x_st v_4), .int (x_md v_4), .long (x_bt v_4), .int (x_cm v_4), .ref (x_hr v_4), .int (x_rs v_4), .ref (x_hv v_4), .int (x_vs v_4), .ref qc, .ref qw, .int (x_wz v_4), .ref qs, .int (x_sz v_4)])), (x_hr v_4, .inl (cI, 259, .inl (x_ro v_4))), (x_hv v_4, .inl (cI, 259, .inl (x_rc v_4))), (qc, .inl (cI, 5, .inl (x_cn v_4))), (qw, .inl (cI, 259, .inl (x_wt v_4))), (qs, .inl (cI, 306, .inl (x_sn v_4)))] := hD
        refine lv_aload_n hx hb dX0_take_54 rfl (lv_at hl 0 rfl) ?_
        refine va_get (D := (dC, dI)) (ci := 0) (v := .ref qc) (C := RX0) (T := TX0) (N := 13) hx hb hts hinT hown hK hP 0 rfl rfl 8 (by decide) (hts (.fieldLink RX0 20 "CodeBlocks" "counts" "[I") (by decide +kernel)) (fun _ h9 => h9) rfl dX0_take_55 ?_
        refine lv_iconst (v := 1) hx hb dX0_take_58 (by decide) ?_
        refine va_iald hx hb hK hP 3 0 rfl rfl (j_in (k := 1) rfl (by decide)) dX0_take_59 ?_
        refine W.eq (g2 := F0 m 60 ls [.int ((x_cn v_4) 1)]) rfl ?_
        refine lv_iload hx hb dX0_take_60 (lv_at hl 1 rfl) ?_
        refine lv_isub hx hb dX0_take_62 ?_
        have hP9 : va_P (dC, dI) vwCl (x_W qx qc qw qs cI v_4) H := hP
        have hD9 : va_D A (x_W qx qc qw qs cI v_4) := hD
        exact W.iret (v := ((x_cn v_4) 1) - (x_cn u 1)) hx hb hr (fun t ht hW => ⟨⟨_, v_4, rfl, ⟨(by subst hv_4; unfold x_take_r; rw [if_neg c_1, if_neg c_2, if_pos c_3]), (by subst hv_4; unfold x_take; rw [if_neg c_1, if_neg c_2, if_pos c_3])⟩, by rw [ht]; exact hP9, va_K.moved hW.alike hK, hD9⟩, hS.F ht⟩) hS.2.2 dX0_take_63
      · refine lv_iconst (v := (-1)) hx hb dX0_take_18 (by decide) ?_
        have hP9 : va_P (dC, dI) vwCl (x_W qx qc qw qs cI u) s.heap := hP
        have hD9 : va_D A (x_W qx qc qw qs cI u) := hD
        exact W.iret (v := (-1)) hx hb hr (fun t ht hW => ⟨⟨_, u, rfl, ⟨(by unfold x_take_r; rw [if_neg c_1, if_neg c_2, if_neg c_3]), (by unfold x_take; rw [if_neg c_1, if_neg c_2, if_neg c_3])⟩, by rw [ht]; exact hP9, va_K.moved hW.alike hK, hD9⟩, hS.F ht⟩) hS.2.2 dX0_take_19
