abbrev rmX1_init : Room := { frames := 1, cells := 6, slots := 1152, locals := 12 }
def m_init : m_S := (0, 0, 0, 0, 0, 0, 0, 0, (fun _ => 0), (fun _ => 0), (fun _ => 0), (fun _ => 0), (fun _ => 0), (fun _ => 0))
set_option maxHeartbeats 4000000 in
set_option maxRecDepth 100000 in
theorem kX1_init (l : Launch) (dC : Nat → ClassId) (dI : Nat → Nat → Nat) (qm : Nat) (sz : Nat) : Met l yX1_init vX1_init rmX1_init (va_Pc [.ref qm] (fun U => U.heap.size = sz ∧ va_P (dC, dI) vwCl [(qm, .inr (1, [.int 0, .int 0, .int 0, .null, .int 0, .null, .int 0, .null, .int 0, .null, .int 0, .null, .int 0, .null]))] U.heap ∧ va_K (dC, dI) vwCl [] U ∧ va_D (fun _ => True) [(qm, .inr (1, [.int 0, .int 0, .int 0, .null, .int 0, .null, .int 0, .null, .int 0, .null, .int 0, .null, .int 0, .null]))])) (va_Qv (fun _ => True) (fun (w : Nat × Nat × Nat × Nat × Nat × Nat × ClassId) t => m_At dC dI (va_A [(qm, .inr (1, [.int 0, .int 0, .int 0, .null, .int 0, .null, .int 0, .null, .int 0, .null, .int 0, .null, .int 0, .null]))] sz) qm w.1 w.2.1 w.2.2.1 w.2.2.2.1 w.2.2.2.2.1 w.2.2.2.2.2.1 w.2.2.2.2.2.2 m_init t) (va_A [(qm, .inr (1, [.int 0, .int 0, .int 0, .null, .int 0, .null, .int 0, .null, .int 0, .null, .int 0, .null, .int 0, .null]))] sz)) 6 1152 (va_A [(qm, .inr (1, [.int 0, .int 0, .int 0, .null, .int 0, .null, .int 0, .null, .int 0, .null, .int 0, .null, .int 0, .null]))] sz) := by
  refine Met.ofW (cc := cX1_init) (maxL := 1) (ret := none) (by decide) rfl ?_
  intro p e s m args below meth c s₁ B hml hv
  obtain ⟨rfl, hsz, hP, hK, hD0⟩ := hv
  have hx := B.exec
  have hb := B.bytes
  have hr := B.returns
  have hts := atoms_spec (ws := vX1_init) B.pre
  have hown : s.vm.findClass RX1 = some m.cls := findClass_of_methodNamed B.named
  have hlocks := B.notSynchronized
  have hin : meth.name = "<init>" := (name_of_methodNamed B.named B.method).1
  have hinT : ∀ w ∈ wsX10, w ∈ vX1_init := fun w h => List.mem_cons_of_mem _ (inM w h)
  subst hsz
  have hD := hD0.self (sz := s.heap.size)
  generalize hAe : va_A [(qm, .inr (1, [.int 0, .int 0, .int 0, .null, .int 0, .null, .int 0, .null, .int 0, .null, .int 0, .null, .int 0, .null]))] s.heap.size = A at hD ⊢
  have hA : ∀ q : Nat, s.heap.size ≤ q → A q := fun q h => by rw [← hAe]; exact Or.inr h
  have hS : va_S A s.heap s.heap [] := va_S.rf
  have hP : va_P (dC, dI) vwCl [(qm, .inr (1, [.int 0, .int 0, .int 0, .null, .int 0, .null, .int 0, .null, .int 0, .null, .int 0, .null, .int 0, .null]))] s.heap := hP
  have hl := lv_entry ([.ref qm]) (n := 1) (Nat.le_of_ble_eq_true rfl)
  rw [lg_entry_eq]
  generalize (lg_sl ([.ref qm]) ++ List.replicate (1 - (lg_sl ([.ref qm])).length) Slot.unset).toArray = ls at hl ⊢
  have hl : lv_has ls 1 [(0, .ref qm)] := hl
  refine lv_aload_n hx hb dX1_init_0 rfl (lv_at hl 0 rfl) ?_
  refine W.objInit hx hb hown (hts (.methodLink RX1 1 objectInit) (by decide +kernel)) (hts (.instanceMethod objectInit) (by decide +kernel)) (hts _ (List.mem_cons_of_mem _ tbObj)) rfl (by rw [hml]; exact hl.1) rfl dX1_init_1 (Nat.le_of_ble_eq_true rfl) (Nat.le_of_ble_eq_true rfl) ?_
  refine W.eq (g2 := F0 m 4 ls []) rfl ?_
  refine lv_aload_n hx hb dX1_init_4 rfl (lv_at hl 0 rfl) ?_
  refine lv_bipush (v := 64) hx hb dX1_init_5 (by decide) ?_
  refine va_newa (atype := .int) (N' := 64) (a0 := (64, .inl (fun _ => 0))) (ty := .int) (n := 64) hx hb (hts (.arrayClass .int) (by decide +kernel)) rfl hK hP hD hS hA (fun _ => rfl) (by decide) (by decide) (by decide) (Nat.le_of_ble_eq_true rfl) (Nat.le_of_ble_eq_true rfl) dX1_init_7 (fun q0 c0 H hK hP hD hS => ?_)
  have hK : va_K (dC, dI) vwCl [(c0, .int)] s := hK
  have hP : va_P (dC, dI) vwCl [(qm, .inr (1, [.int 0, .int 0, .int 0, .null, .int 0, .null, .int 0, .null, .int 0, .null, .int 0, .null, .int 0, .null])), (q0, .inl (c0, 64, .inl (fun _ => 0)))] H := hP
  have hD : va_D A [(qm, .inr (1, [.int 0, .int 0, .int 0, .null, .int 0, .null, .int 0, .null, .int 0, .null, .int 0, .null, .int 0, .null])), (q0, .inl (c0, 64, .inl (fun _ => 0)))] := hD
  refine W.widen (k := 1) (n := 64) (by omega) (by omega) ?_
  refine va_putF (D := (dC, dI)) (ci := 1) (v := .ref q0) (ty := .array .int) (C := RX1) (T := TX1) (N := 14) hx hb hts hinT tyX1 tyX1_ok nmX1 hown hK hP hD hS 0 rfl rfl 3 (by decide) (hts _ (List.mem_cons_of_mem _ fl_7)) (fun _ h9 => h9) rfl hin rfl (by decide +kernel) rfl rfl (Nat.le_of_ble_eq_true rfl) dX1_init_9 (fun H locs hP hD hS => ?_)
  have hP : va_P (dC, dI) vwCl [(qm, .inr (1, [.int 0, .int 0, .int 0, .ref q0, .int 0, .null, .int 0, .null, .int 0, .null, .int 0, .null, .int 0, .null])), (q0, .inl (c0, 64, .inl (fun _ => 0)))] H := hP
  have hD : va_D A [(qm, .inr (1, [.int 0, .int 0, .int 0, .ref q0, .int 0, .null, .int 0, .null, .int 0, .null, .int 0, .null, .int 0, .null])), (q0, .inl (c0, 64, .inl (fun _ => 0)))] := hD
  refine lv_aload_n hx hb dX1_init_12 rfl (lv_at hl 0 rfl) ?_
  refine lv_sipush (v := 259) hx hb dX1_init_13 (by decide) ?_
  refine va_newa (atype := .int) (N' := 259) (a0 := (259, .inl (fun _ => 0))) (ty := .int) (n := 259) hx hb (hts (.arrayClass .int) (by decide +kernel)) rfl hK hP hD hS hA (fun _ => rfl) (by decide) (by decide) (by decide) (Nat.le_of_ble_eq_true rfl) (Nat.le_of_ble_eq_true rfl) dX1_init_16 (fun q1 c1 H hK hP hD hS => ?_)
  have hK : va_K (dC, dI) vwCl [(c0, .int), (c1, .int)] s := hK
  have hP : va_P (dC, dI) vwCl [(qm, .inr (1, [.int 0, .int 0, .int 0, .ref q0, .int 0, .null, .int 0, .null, .int 0, .null, .int 0, .null, .int 0, .null])), (q0, .inl (c0, 64, .inl (fun _ => 0))), (q1, .inl (c1, 259, .inl (fun _ => 0)))] H := hP
  have hD : va_D A [(qm, .inr (1, [.int 0, .int 0, .int 0, .ref q0, .int 0, .null, .int 0, .null, .int 0, .null, .int 0, .null, .int 0, .null])), (q0, .inl (c0, 64, .inl (fun _ => 0))), (q1, .inl (c1, 259, .inl (fun _ => 0)))] := hD
  refine W.widen (k := 2) (n := 323) (by omega) (by omega) ?_
  refine va_putF (D := (dC, dI)) (ci := 1) (v := .ref q1) (ty := .array .int) (C := RX1) (T := TX1) (N := 14) hx hb hts hinT tyX1 tyX1_ok nmX1 hown hK hP hD hS 0 rfl rfl 5 (by decide) (hts _ (List.mem_cons_of_mem _ fl_13)) (fun _ h9 => h9) rfl hin rfl (by decide +kernel) rfl rfl (Nat.le_of_ble_eq_true rfl) dX1_init_18 (fun H locs hP hD hS => ?_)
  have hP : va_P (dC, dI) vwCl [(qm, .inr (1, [.int 0, .int 0, .int 0, .ref q0, .int 0, .ref q1, .int 0, .null, .int 0, .null, .int 0, .null, .int 0, .null])), (q0, .inl (c0, 64, .inl (fun _ => 0))), (q1, .inl (c1, 259, .inl (fun _ => 0)))] H := hP
  have hD : va_D A [(qm, .inr (1, [.int 0, .int 0, .int 0, .ref q0, .int 0, .ref q1, .int 0, .null, .int 0, .null, .int 0, .null, .int 0, .null])), (q0, .inl (c0, 64, .inl (fun _ => 0))), (q1, .inl (c1, 259, .inl (fun _ => 0)))] := hD
  refine lv_aload_n hx hb dX1_init_21 rfl (lv_at hl 0 rfl) ?_
  refine lv_sipush (v := 259) hx hb dX1_init_22 (by decide) ?_
  refine va_newa (atype := .int) (N' := 259) (a0 := (259, .inl (fun _ => 0))) (ty := .int) (n := 259) hx hb (hts (.arrayClass .int) (by decide +kernel)) rfl hK hP hD hS hA (fun _ => rfl) (by decide) (by decide) (by decide) (Nat.le_of_ble_eq_true rfl) (Nat.le_of_ble_eq_true rfl) dX1_init_25 (fun q2 c2 H hK hP hD hS => ?_)
  have hK : va_K (dC, dI) vwCl [(c0, .int), (c1, .int), (c2, .int)] s := hK
  have hP : va_P (dC, dI) vwCl [(qm, .inr (1, [.int 0, .int 0, .int 0, .ref q0, .int 0, .ref q1, .int 0, .null, .int 0, .null, .int 0, .null, .int 0, .null])), (q0, .inl (c0, 64, .inl (fun _ => 0))), (q1, .inl (c1, 259, .inl (fun _ => 0))), (q2, .inl (c2, 259, .inl (fun _ => 0)))] H := hP
  have hD : va_D A [(qm, .inr (1, [.int 0, .int 0, .int 0, .ref q0, .int 0, .ref q1, .int 0, .null, .int 0, .null, .int 0, .null, .int 0, .null])), (q0, .inl (c0, 64, .inl (fun _ => 0))), (q1, .inl (c1, 259, .inl (fun _ => 0))), (q2, .inl (c2, 259, .inl (fun _ => 0)))] := hD
  refine W.widen (k := 3) (n := 582) (by omega) (by omega) ?_
  refine va_putF (D := (dC, dI)) (ci := 1) (v := .ref q2) (ty := .array .int) (C := RX1) (T := TX1) (N := 14) hx hb hts hinT tyX1 tyX1_ok nmX1 hown hK hP hD hS 0 rfl rfl 7 (by decide) (hts _ (List.mem_cons_of_mem _ fl_16)) (fun _ h9 => h9) rfl hin rfl (by decide +kernel) rfl rfl (Nat.le_of_ble_eq_true rfl) dX1_init_27 (fun H locs hP hD hS => ?_)
  have hP : va_P (dC, dI) vwCl [(qm, .inr (1, [.int 0, .int 0, .int 0, .ref q0, .int 0, .ref q1, .int 0, .ref q2, .int 0, .null, .int 0, .null, .int 0, .null])), (q0, .inl (c0, 64, .inl (fun _ => 0))), (q1, .inl (c1, 259, .inl (fun _ => 0))), (q2, .inl (c2, 259, .inl (fun _ => 0)))] H := hP
  have hD : va_D A [(qm, .inr (1, [.int 0, .int 0, .int 0, .ref q0, .int 0, .ref q1, .int 0, .ref q2, .int 0, .null, .int 0, .null, .int 0, .null])), (q0, .inl (c0, 64, .inl (fun _ => 0))), (q1, .inl (c1, 259, .inl (fun _ => 0))), (q2, .inl (c2, 259, .inl (fun _ => 0)))] := hD
  refine lv_aload_n hx hb dX1_init_30 rfl (lv_at hl 0 rfl) ?_
  refine lv_sipush (v := 259) hx hb dX1_init_31 (by decide) ?_
  refine va_newa (atype := .int) (N' := 259) (a0 := (259, .inl (fun _ => 0))) (ty := .int) (n := 259) hx hb (hts (.arrayClass .int) (by decide +kernel)) rfl hK hP hD hS hA (fun _ => rfl) (by decide) (by decide) (by decide) (Nat.le_of_ble_eq_true rfl) (Nat.le_of_ble_eq_true rfl) dX1_init_34 (fun q3 c3 H hK hP hD hS => ?_)
  have hK : va_K (dC, dI) vwCl [(c0, .int), (c1, .int), (c2, .int), (c3, .int)] s := hK
  have hP : va_P (dC, dI) vwCl [(qm, .inr (1, [.int 0, .int 0, .int 0, .ref q0, .int 0, .ref q1, .int 0, .ref q2, .int 0, .null, .int 0, .null, .int 0, .null])), (q0, .inl (c0, 64, .inl (fun _ => 0))), (q1, .inl (c1, 259, .inl (fun _ => 0))), (q2, .inl (c2, 259, .inl (fun _ => 0))), (q3, .inl (c3, 259, .inl (fun _ => 0)))] H := hP
  have hD : va_D A [(qm, .inr (1, [.int 0, .int 0, .int 0, .ref q0, .int 0, .ref q1, .int 0, .ref q2, .int 0, .null, .int 0, .null, .int 0, .null])), (q0, .inl (c0, 64, .inl (fun _ => 0))), (q1, .inl (c1, 259, .inl (fun _ => 0))), (q2, .inl (c2, 259, .inl (fun _ => 0))), (q3, .inl (c3, 259, .inl (fun _ => 0)))] := hD
  refine W.widen (k := 4) (n := 841) (by omega) (by omega) ?_
  refine va_putF (D := (dC, dI)) (ci := 1) (v := .ref q3) (ty := .array .int) (C := RX1) (T := TX1) (N := 14) hx hb hts hinT tyX1 tyX1_ok nmX1 hown hK hP hD hS 0 rfl rfl 9 (by decide) (hts _ (List.mem_cons_of_mem _ fl_19)) (fun _ h9 => h9) rfl hin rfl (by decide +kernel) rfl rfl (Nat.le_of_ble_eq_true rfl) dX1_init_36 (fun H locs hP hD hS => ?_)
  have hP : va_P (dC, dI) vwCl [(qm, .inr (1, [.int 0, .int 0, .int 0, .ref q0, .int 0, .ref q1, .int 0, .ref q2, .int 0, .ref q3, .int 0, .null, .int 0, .null])), (q0, .inl (c0, 64, .inl (fun _ => 0))), (q1, .inl (c1, 259, .inl (fun _ => 0))), (q2, .inl (c2, 259, .inl (fun _ => 0))), (q3, .inl (c3, 259, .inl (fun _ => 0)))] H := hP
  have hD : va_D A [(qm, .inr (1, [.int 0, .int 0, .int 0, .ref q0, .int 0, .ref q1, .int 0, .ref q2, .int 0, .ref q3, .int 0, .null, .int 0, .null])), (q0, .inl (c0, 64, .inl (fun _ => 0))), (q1, .inl (c1, 259, .inl (fun _ => 0))), (q2, .inl (c2, 259, .inl (fun _ => 0))), (q3, .inl (c3, 259, .inl (fun _ => 0)))] := hD
  refine lv_aload_n hx hb dX1_init_39 rfl (lv_at hl 0 rfl) ?_
  refine lv_sipush (v := 306) hx hb dX1_init_40 (by decide) ?_
  refine va_newa (atype := .int) (N' := 306) (a0 := (306, .inl (fun _ => 0))) (ty := .int) (n := 306) hx hb (hts (.arrayClass .int) (by decide +kernel)) rfl hK hP hD hS hA (fun _ => rfl) (by decide) (by decide) (by decide) (Nat.le_of_ble_eq_true rfl) (Nat.le_of_ble_eq_true rfl) dX1_init_43 (fun q4 c4 H hK hP hD hS => ?_)
  have hK : va_K (dC, dI) vwCl [(c0, .int), (c1, .int), (c2, .int), (c3, .int), (c4, .int)] s := hK
  have hP : va_P (dC, dI) vwCl [(qm, .inr (1, [.int 0, .int 0, .int 0, .ref q0, .int 0, .ref q1, .int 0, .ref q2, .int 0, .ref q3, .int 0, .null, .int 0, .null])), (q0, .inl (c0, 64, .inl (fun _ => 0))), (q1, .inl (c1, 259, .inl (fun _ => 0))), (q2, .inl (c2, 259, .inl (fun _ => 0))), (q3, .inl (c3, 259, .inl (fun _ => 0))), (q4, .inl (c4, 306, .inl (fun _ => 0)))] H := hP
  have hD : va_D A [(qm, .inr (1, [.int 0, .int 0, .int 0, .ref q0, .int 0, .ref q1, .int 0, .ref q2, .int 0, .ref q3, .int 0, .null, .int 0, .null])), (q0, .inl (c0, 64, .inl (fun _ => 0))), (q1, .inl (c1, 259, .inl (fun _ => 0))), (q2, .inl (c2, 259, .inl (fun _ => 0))), (q3, .inl (c3, 259, .inl (fun _ => 0))), (q4, .inl (c4, 306, .inl (fun _ => 0)))] := hD
  refine W.widen (k := 5) (n := 1147) (by omega) (by omega) ?_
  refine va_putF (D := (dC, dI)) (ci := 1) (v := .ref q4) (ty := .array .int) (C := RX1) (T := TX1) (N := 14) hx hb hts hinT tyX1 tyX1_ok nmX1 hown hK hP hD hS 0 rfl rfl 11 (by decide) (hts _ (List.mem_cons_of_mem _ fl_22)) (fun _ h9 => h9) rfl hin rfl (by decide +kernel) rfl rfl (Nat.le_of_ble_eq_true rfl) dX1_init_45 (fun H locs hP hD hS => ?_)
  have hP : va_P (dC, dI) vwCl [(qm, .inr (1, [.int 0, .int 0, .int 0, .ref q0, .int 0, .ref q1, .int 0, .ref q2, .int 0, .ref q3, .int 0, .ref q4, .int 0, .null])), (q0, .inl (c0, 64, .inl (fun _ => 0))), (q1, .inl (c1, 259, .inl (fun _ => 0))), (q2, .inl (c2, 259, .inl (fun _ => 0))), (q3, .inl (c3, 259, .inl (fun _ => 0))), (q4, .inl (c4, 306, .inl (fun _ => 0)))] H := hP
  have hD : va_D A [(qm, .inr (1, [.int 0, .int 0, .int 0, .ref q0, .int 0, .ref q1, .int 0, .ref q2, .int 0, .ref q3, .int 0, .ref q4, .int 0, .null])), (q0, .inl (c0, 64, .inl (fun _ => 0))), (q1, .inl (c1, 259, .inl (fun _ => 0))), (q2, .inl (c2, 259, .inl (fun _ => 0))), (q3, .inl (c3, 259, .inl (fun _ => 0))), (q4, .inl (c4, 306, .inl (fun _ => 0)))] := hD
  refine lv_aload_n hx hb dX1_init_48 rfl (lv_at hl 0 rfl) ?_
  refine lv_iconst (v := 5) hx hb dX1_init_49 (by decide) ?_
  refine va_newa (atype := .int) (N' := 5) (a0 := (5, .inl (fun _ => 0))) (ty := .int) (n := 5) hx hb (hts (.arrayClass .int) (by decide +kernel)) rfl hK hP hD hS hA (fun _ => rfl) (by decide) (by decide) (by decide) (Nat.le_of_ble_eq_true rfl) (Nat.le_of_ble_eq_true rfl) dX1_init_50 (fun q5 c5 H hK hP hD hS => ?_)
  have hK : va_K (dC, dI) vwCl [(c0, .int), (c1, .int), (c2, .int), (c3, .int), (c4, .int), (c5, .int)] s := hK
  have hP : va_P (dC, dI) vwCl [(qm, .inr (1, [.int 0, .int 0, .int 0, .ref q0, .int 0, .ref q1, .int 0, .ref q2, .int 0, .ref q3, .int 0, .ref q4, .int 0, .null])), (q0, .inl (c0, 64, .inl (fun _ => 0))), (q1, .inl (c1, 259, .inl (fun _ => 0))), (q2, .inl (c2, 259, .inl (fun _ => 0))), (q3, .inl (c3, 259, .inl (fun _ => 0))), (q4, .inl (c4, 306, .inl (fun _ => 0))), (q5, .inl (c5, 5, .inl (fun _ => 0)))] H := hP
  have hD : va_D A [(qm, .inr (1, [.int 0, .int 0, .int 0, .ref q0, .int 0, .ref q1, .int 0, .ref q2, .int 0, .ref q3, .int 0, .ref q4, .int 0, .null])), (q0, .inl (c0, 64, .inl (fun _ => 0))), (q1, .inl (c1, 259, .inl (fun _ => 0))), (q2, .inl (c2, 259, .inl (fun _ => 0))), (q3, .inl (c3, 259, .inl (fun _ => 0))), (q4, .inl (c4, 306, .inl (fun _ => 0))), (q5, .inl (c5, 5, .inl (fun _ => 0)))] := hD
  refine W.widen (k := 6) (n := 1152) (by omega) (by omega) ?_
  refine va_putF (D := (dC, dI)) (ci := 1) (v := .ref q5) (ty := .array .int) (C := RX1) (T := TX1) (N := 14) hx hb hts hinT tyX1 tyX1_ok nmX1 hown hK hP hD hS 0 rfl rfl 13 (by decide) (hts _ (List.mem_cons_of_mem _ fl_25)) (fun _ h9 => h9) rfl hin rfl (by decide +kernel) rfl rfl (Nat.le_of_ble_eq_true rfl) dX1_init_52 (fun H locs hP hD hS => ?_)
  have hP : va_P (dC, dI) vwCl [(qm, .inr (1, [.int 0, .int 0, .int 0, .ref q0, .int 0, .ref q1, .int 0, .ref q2, .int 0, .ref q3, .int 0, .ref q4, .int 0, .ref q5])), (q0, .inl (c0, 64, .inl (fun _ => 0))), (q1, .inl (c1, 259, .inl (fun _ => 0))), (q2, .inl (c2, 259, .inl (fun _ => 0))), (q3, .inl (c3, 259, .inl (fun _ => 0))), (q4, .inl (c4, 306, .inl (fun _ => 0))), (q5, .inl (c5, 5, .inl (fun _ => 0)))] H := hP
  have hD : va_D A [(qm, .inr (1, [.int 0, .int 0, .int 0, .ref q0, .int 0, .ref q1, .int 0, .ref q2, .int 0, .ref q3, .int 0, .ref q4, .int 0, .ref q5])), (q0, .inl (c0, 64, .inl (fun _ => 0))), (q1, .inl (c1, 259, .inl (fun _ => 0))), (q2, .inl (c2, 259, .inl (fun _ => 0))), (q3, .inl (c3, 259, .inl (fun _ => 0))), (q4, .inl (c4, 306, .inl (fun _ => 0))), (q5, .inl (c5, 5, .inl (fun _ => 0)))] := hD
  have e1 : c1 = c0 := Option.some.inj ((show s.vm.findClass _ = some c1 from (hK.2 1 _ rfl).2).symm.trans (show s.vm.findClass _ = some c0 from (hK.2 0 _ rfl).2))
  have e2 : c2 = c0 := Option.some.inj ((show s.vm.findClass _ = some c2 from (hK.2 2 _ rfl).2).symm.trans (show s.vm.findClass _ = some c0 from (hK.2 0 _ rfl).2))
  have e3 : c3 = c0 := Option.some.inj ((show s.vm.findClass _ = some c3 from (hK.2 3 _ rfl).2).symm.trans (show s.vm.findClass _ = some c0 from (hK.2 0 _ rfl).2))
  have e4 : c4 = c0 := Option.some.inj ((show s.vm.findClass _ = some c4 from (hK.2 4 _ rfl).2).symm.trans (show s.vm.findClass _ = some c0 from (hK.2 0 _ rfl).2))
  have e5 : c5 = c0 := Option.some.inj ((show s.vm.findClass _ = some c5 from (hK.2 5 _ rfl).2).symm.trans (show s.vm.findClass _ = some c0 from (hK.2 0 _ rfl).2))
  subst e1
  subst e2
  subst e3
  subst e4
  subst e5
  have hK9 : va_K (dC, dI) vwCl [(_, .int)] s := hK.sub [0] rfl
  exact W.vret hx hb hr (fun t ht hW => ⟨⟨(q0, q1, q2, q3, q4, q5, _), rfl, trivial, by rw [ht]; exact hP, va_K.moved hW.alike hK9, hD⟩, hS.F ht⟩) hS.2.2 dX1_init_55
