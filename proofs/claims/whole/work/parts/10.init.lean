abbrev rmX0_init : Room := { frames := 1, cells := 5, slots := 1088, locals := 12 }
def x_init (hr hv : Nat) : x_S := (0, 0, 0, 0, hr, 0, hv, 0, 0, 0, (fun _ => 0), (fun _ => 0), (fun _ => 0), (fun _ => 0), (fun _ => 0))
set_option maxHeartbeats 4000000 in
set_option maxRecDepth 100000 in
theorem kX0_init (l : Launch) (dC : Nat → ClassId) (dI : Nat → Nat → Nat) (qx : Nat) (sz : Nat) : Met l yX0_init wsX0_init rmX0_init (va_Pc [.ref qx] (fun U => U.heap.size = sz ∧ va_P (dC, dI) vwCl [(qx, .inr (0, [.int 0, .int 0, .long 0, .int 0, .null, .int 0, .null, .int 0, .null, .null, .int 0, .null, .int 0]))] U.heap ∧ va_K (dC, dI) vwCl [] U ∧ va_D (fun _ => True) [(qx, .inr (0, [.int 0, .int 0, .long 0, .int 0, .null, .int 0, .null, .int 0, .null, .null, .int 0, .null, .int 0]))])) (va_Qv (fun _ => True) (fun (w : Nat × Nat × Nat × Nat × Nat × ClassId) t => x_At dC dI (va_A [(qx, .inr (0, [.int 0, .int 0, .long 0, .int 0, .null, .int 0, .null, .int 0, .null, .null, .int 0, .null, .int 0]))] sz) qx w.2.2.1 w.2.2.2.1 w.2.2.2.2.1 w.2.2.2.2.2 (x_init w.1 w.2.1) t) (va_A [(qx, .inr (0, [.int 0, .int 0, .long 0, .int 0, .null, .int 0, .null, .int 0, .null, .null, .int 0, .null, .int 0]))] sz)) 5 1088 (va_A [(qx, .inr (0, [.int 0, .int 0, .long 0, .int 0, .null, .int 0, .null, .int 0, .null, .null, .int 0, .null, .int 0]))] sz) := by
  refine Met.ofW (cc := cX0_init) (maxL := 1) (ret := none) (by decide) rfl ?_
  intro p e s m args below meth c s₁ B hml hv
  obtain ⟨rfl, hsz, hP, hK, hD0⟩ := hv
  have hx := B.exec
  have hb := B.bytes
  have hr := B.returns
  have hts := atoms_spec (ws := wsX0_init) B.pre
  have hown : s.vm.findClass RX0 = some m.cls := findClass_of_methodNamed B.named
  have hlocks := B.notSynchronized
  have hin : meth.name = "<init>" := (name_of_methodNamed B.named B.method).1
  have hinT : ∀ w ∈ wsX00, w ∈ wsX0_init := by decide +kernel
  subst hsz
  have hD := hD0.self (sz := s.heap.size)
  generalize hAe : va_A [(qx, .inr (0, [.int 0, .int 0, .long 0, .int 0, .null, .int 0, .null, .int 0, .null, .null, .int 0, .null, .int 0]))] s.heap.size = A at hD ⊢
  have hA : ∀ q : Nat, s.heap.size ≤ q → A q := fun q h => by rw [← hAe]; exact Or.inr h
  have hS : va_S A s.heap s.heap [] := va_S.rf
  have hP : va_P (dC, dI) vwCl [(qx, .inr (0, [.int 0, .int 0, .long 0, .int 0, .null, .int 0, .null, .int 0, .null, .null, .int 0, .null, .int 0]))] s.heap := hP
  have hl := lv_entry ([.ref qx]) (n := 1) (Nat.le_of_ble_eq_true rfl)
  rw [lg_entry_eq]
  generalize (lg_sl ([.ref qx]) ++ List.replicate (1 - (lg_sl ([.ref qx])).length) Slot.unset).toArray = ls at hl ⊢
  have hl : lv_has ls 1 [(0, .ref qx)] := hl
  refine lv_aload_n hx hb dX0_init_0 rfl (lv_at hl 0 rfl) ?_
  refine W.objInit hx hb hown (hts (.methodLink RX0 3 objectInit) (by decide +kernel)) (hts (.instanceMethod objectInit) (by decide +kernel)) (hts _ (List.mem_cons_of_mem _ (List.mem_append_left _ (List.mem_of_getElem? (i := 2) rfl)))) rfl (by rw [hml]; exact hl.1) rfl dX0_init_1 (Nat.le_of_ble_eq_true rfl) (Nat.le_of_ble_eq_true rfl) ?_
  refine W.eq (g2 := F0 m 4 ls []) rfl ?_
  refine lv_aload_n hx hb dX0_init_4 rfl (lv_at hl 0 rfl) ?_
  refine lv_iconst (v := 0) hx hb dX0_init_5 (by decide) ?_
  refine va_put (D := (dC, dI)) (ci := 0) (v := .int 0) (ty := .int) (C := RX0) (T := TX0) (N := 13) hx hb hts hinT tyX0 tyX0_ok nmX0 hown hK hP hD hS 0 rfl rfl 0 (by decide) (hts (.fieldLink RX0 9 "CodeBlocks" "state" "I") (by decide +kernel)) (fun _ h9 => h9) rfl (by decide +kernel) rfl rfl (Nat.le_of_ble_eq_true rfl) dX0_init_6 (fun H locs hP hD hS => ?_)
  have hP : va_P (dC, dI) vwCl [(qx, .inr (0, [.int 0, .int 0, .long 0, .int 0, .null, .int 0, .null, .int 0, .null, .null, .int 0, .null, .int 0]))] H := hP
  have hD : va_D A [(qx, .inr (0, [.int 0, .int 0, .long 0, .int 0, .null, .int 0, .null, .int 0, .null, .null, .int 0, .null, .int 0]))] := hD
  refine lv_aload_n hx hb dX0_init_9 rfl (lv_at hl 0 rfl) ?_
  refine lv_sipush (v := 259) hx hb dX0_init_10 (by decide) ?_
  refine va_newa (atype := .int) (N' := 259) (a0 := (259, .inl (fun _ => 0))) (ty := .int) (n := 259) hx hb (hts (.arrayClass .int) (by decide +kernel)) rfl hK hP hD hS hA (fun _ => rfl) (by decide) (by decide) (by decide) (Nat.le_of_ble_eq_true rfl) (Nat.le_of_ble_eq_true rfl) dX0_init_13 (fun q0 c0 H hK hP hD hS => ?_)
  have hK : va_K (dC, dI) vwCl [(c0, .int)] s := hK
  have hP : va_P (dC, dI) vwCl [(qx, .inr (0, [.int 0, .int 0, .long 0, .int 0, .null, .int 0, .null, .int 0, .null, .null, .int 0, .null, .int 0])), (q0, .inl (c0, 259, .inl (fun _ => 0)))] H := hP
  have hD : va_D A [(qx, .inr (0, [.int 0, .int 0, .long 0, .int 0, .null, .int 0, .null, .int 0, .null, .null, .int 0, .null, .int 0])), (q0, .inl (c0, 259, .inl (fun _ => 0)))] := hD
  refine W.widen (k := 1) (n := 259) (by omega) (by omega) ?_
  refine va_put (D := (dC, dI)) (ci := 0) (v := .ref q0) (ty := .array .int) (C := RX0) (T := TX0) (N := 13) hx hb hts hinT tyX0 tyX0_ok nmX0 hown hK hP hD hS 0 rfl rfl 4 (by decide) (hts (.fieldLink RX0 13 "CodeBlocks" "row" "[I") (by decide +kernel)) (fun _ h9 => h9) rfl (by decide +kernel) rfl rfl (Nat.le_of_ble_eq_true rfl) dX0_init_15 (fun H locs hP hD hS => ?_)
  have hP : va_P (dC, dI) vwCl [(qx, .inr (0, [.int 0, .int 0, .long 0, .int 0, .ref q0, .int 0, .null, .int 0, .null, .null, .int 0, .null, .int 0])), (q0, .inl (c0, 259, .inl (fun _ => 0)))] H := hP
  have hD : va_D A [(qx, .inr (0, [.int 0, .int 0, .long 0, .int 0, .ref q0, .int 0, .null, .int 0, .null, .null, .int 0, .null, .int 0])), (q0, .inl (c0, 259, .inl (fun _ => 0)))] := hD
  refine lv_aload_n hx hb dX0_init_18 rfl (lv_at hl 0 rfl) ?_
  refine lv_sipush (v := 259) hx hb dX0_init_19 (by decide) ?_
  refine va_newa (atype := .int) (N' := 259) (a0 := (259, .inl (fun _ => 0))) (ty := .int) (n := 259) hx hb (hts (.arrayClass .int) (by decide +kernel)) rfl hK hP hD hS hA (fun _ => rfl) (by decide) (by decide) (by decide) (Nat.le_of_ble_eq_true rfl) (Nat.le_of_ble_eq_true rfl) dX0_init_22 (fun q1 c1 H hK hP hD hS => ?_)
  have hK : va_K (dC, dI) vwCl [(c0, .int), (c1, .int)] s := hK
  have hP : va_P (dC, dI) vwCl [(qx, .inr (0, [.int 0, .int 0, .long 0, .int 0, .ref q0, .int 0, .null, .int 0, .null, .null, .int 0, .null, .int 0])), (q0, .inl (c0, 259, .inl (fun _ => 0))), (q1, .inl (c1, 259, .inl (fun _ => 0)))] H := hP
  have hD : va_D A [(qx, .inr (0, [.int 0, .int 0, .long 0, .int 0, .ref q0, .int 0, .null, .int 0, .null, .null, .int 0, .null, .int 0])), (q0, .inl (c0, 259, .inl (fun _ => 0))), (q1, .inl (c1, 259, .inl (fun _ => 0)))] := hD
  refine W.widen (k := 2) (n := 518) (by omega) (by omega) ?_
  refine va_put (D := (dC, dI)) (ci := 0) (v := .ref q1) (ty := .array .int) (C := RX0) (T := TX0) (N := 13) hx hb hts hinT tyX0 tyX0_ok nmX0 hown hK hP hD hS 0 rfl rfl 6 (by decide) (hts (.fieldLink RX0 17 "CodeBlocks" "received" "[I") (by decide +kernel)) (fun _ h9 => h9) rfl (by decide +kernel) rfl rfl (Nat.le_of_ble_eq_true rfl) dX0_init_24 (fun H locs hP hD hS => ?_)
  have hP : va_P (dC, dI) vwCl [(qx, .inr (0, [.int 0, .int 0, .long 0, .int 0, .ref q0, .int 0, .ref q1, .int 0, .null, .null, .int 0, .null, .int 0])), (q0, .inl (c0, 259, .inl (fun _ => 0))), (q1, .inl (c1, 259, .inl (fun _ => 0)))] H := hP
  have hD : va_D A [(qx, .inr (0, [.int 0, .int 0, .long 0, .int 0, .ref q0, .int 0, .ref q1, .int 0, .null, .null, .int 0, .null, .int 0])), (q0, .inl (c0, 259, .inl (fun _ => 0))), (q1, .inl (c1, 259, .inl (fun _ => 0)))] := hD
  refine lv_aload_n hx hb dX0_init_27 rfl (lv_at hl 0 rfl) ?_
  refine lv_iconst (v := 5) hx hb dX0_init_28 (by decide) ?_
  refine va_newa (atype := .int) (N' := 5) (a0 := (5, .inl (fun _ => 0))) (ty := .int) (n := 5) hx hb (hts (.arrayClass .int) (by decide +kernel)) rfl hK hP hD hS hA (fun _ => rfl) (by decide) (by decide) (by decide) (Nat.le_of_ble_eq_true rfl) (Nat.le_of_ble_eq_true rfl) dX0_init_29 (fun q2 c2 H hK hP hD hS => ?_)
  have hK : va_K (dC, dI) vwCl [(c0, .int), (c1, .int), (c2, .int)] s := hK
  have hP : va_P (dC, dI) vwCl [(qx, .inr (0, [.int 0, .int 0, .long 0, .int 0, .ref q0, .int 0, .ref q1, .int 0, .null, .null, .int 0, .null, .int 0])), (q0, .inl (c0, 259, .inl (fun _ => 0))), (q1, .inl (c1, 259, .inl (fun _ => 0))), (q2, .inl (c2, 5, .inl (fun _ => 0)))] H := hP
  have hD : va_D A [(qx, .inr (0, [.int 0, .int 0, .long 0, .int 0, .ref q0, .int 0, .ref q1, .int 0, .null, .null, .int 0, .null, .int 0])), (q0, .inl (c0, 259, .inl (fun _ => 0))), (q1, .inl (c1, 259, .inl (fun _ => 0))), (q2, .inl (c2, 5, .inl (fun _ => 0)))] := hD
  refine W.widen (k := 3) (n := 523) (by omega) (by omega) ?_
  refine va_putF (D := (dC, dI)) (ci := 0) (v := .ref q2) (ty := .array .int) (C := RX0) (T := TX0) (N := 13) hx hb hts hinT tyX0 tyX0_ok nmX0 hown hK hP hD hS 0 rfl rfl 8 (by decide) (hts (.fieldLink RX0 20 "CodeBlocks" "counts" "[I") (by decide +kernel)) (fun _ h9 => h9) rfl hin rfl (by decide +kernel) rfl rfl (Nat.le_of_ble_eq_true rfl) dX0_init_31 (fun H locs hP hD hS => ?_)
  have hP : va_P (dC, dI) vwCl [(qx, .inr (0, [.int 0, .int 0, .long 0, .int 0, .ref q0, .int 0, .ref q1, .int 0, .ref q2, .null, .int 0, .null, .int 0])), (q0, .inl (c0, 259, .inl (fun _ => 0))), (q1, .inl (c1, 259, .inl (fun _ => 0))), (q2, .inl (c2, 5, .inl (fun _ => 0)))] H := hP
  have hD : va_D A [(qx, .inr (0, [.int 0, .int 0, .long 0, .int 0, .ref q0, .int 0, .ref q1, .int 0, .ref q2, .null, .int 0, .null, .int 0])), (q0, .inl (c0, 259, .inl (fun _ => 0))), (q1, .inl (c1, 259, .inl (fun _ => 0))), (q2, .inl (c2, 5, .inl (fun _ => 0)))] := hD
  refine lv_aload_n hx hb dX0_init_34 rfl (lv_at hl 0 rfl) ?_
  refine lv_sipush (v := 259) hx hb dX0_init_35 (by decide) ?_
  refine va_newa (atype := .int) (N' := 259) (a0 := (259, .inl (fun _ => 0))) (ty := .int) (n := 259) hx hb (hts (.arrayClass .int) (by decide +kernel)) rfl hK hP hD hS hA (fun _ => rfl) (by decide) (by decide) (by decide) (Nat.le_of_ble_eq_true rfl) (Nat.le_of_ble_eq_true rfl) dX0_init_38 (fun q3 c3 H hK hP hD hS => ?_)
  have hK : va_K (dC, dI) vwCl [(c0, .int), (c1, .int), (c2, .int), (c3, .int)] s := hK
  have hP : va_P (dC, dI) vwCl [(qx, .inr (0, [.int 0, .int 0, .long 0, .int 0, .ref q0, .int 0, .ref q1, .int 0, .ref q2, .null, .int 0, .null, .int 0])), (q0, .inl (c0, 259, .inl (fun _ => 0))), (q1, .inl (c1, 259, .inl (fun _ => 0))), (q2, .inl (c2, 5, .inl (fun _ => 0))), (q3, .inl (c3, 259, .inl (fun _ => 0)))] H := hP
  have hD : va_D A [(qx, .inr (0, [.int 0, .int 0, .long 0, .int 0, .ref q0, .int 0, .ref q1, .int 0, .ref q2, .null, .int 0, .null, .int 0])), (q0, .inl (c0, 259, .inl (fun _ => 0))), (q1, .inl (c1, 259, .inl (fun _ => 0))), (q2, .inl (c2, 5, .inl (fun _ => 0))), (q3, .inl (c3, 259, .inl (fun _ => 0)))] := hD
  refine W.widen (k := 4) (n := 782) (by omega) (by omega) ?_
  refine va_putF (D := (dC, dI)) (ci := 0) (v := .ref q3) (ty := .array .int) (C := RX0) (T := TX0) (N := 13) hx hb hts hinT tyX0 tyX0_ok nmX0 hown hK hP hD hS 0 rfl rfl 9 (by decide) (hts (.fieldLink RX0 23 "CodeBlocks" "waiting" "[I") (by decide +kernel)) (fun _ h9 => h9) rfl hin rfl (by decide +kernel) rfl rfl (Nat.le_of_ble_eq_true rfl) dX0_init_40 (fun H locs hP hD hS => ?_)
  have hP : va_P (dC, dI) vwCl [(qx, .inr (0, [.int 0, .int 0, .long 0, .int 0, .ref q0, .int 0, .ref q1, .int 0, .ref q2, .ref q3, .int 0, .null, .int 0])), (q0, .inl (c0, 259, .inl (fun _ => 0))), (q1, .inl (c1, 259, .inl (fun _ => 0))), (q2, .inl (c2, 5, .inl (fun _ => 0))), (q3, .inl (c3, 259, .inl (fun _ => 0)))] H := hP
  have hD : va_D A [(qx, .inr (0, [.int 0, .int 0, .long 0, .int 0, .ref q0, .int 0, .ref q1, .int 0, .ref q2, .ref q3, .int 0, .null, .int 0])), (q0, .inl (c0, 259, .inl (fun _ => 0))), (q1, .inl (c1, 259, .inl (fun _ => 0))), (q2, .inl (c2, 5, .inl (fun _ => 0))), (q3, .inl (c3, 259, .inl (fun _ => 0)))] := hD
  refine lv_aload_n hx hb dX0_init_43 rfl (lv_at hl 0 rfl) ?_
  refine lv_sipush (v := 306) hx hb dX0_init_44 (by decide) ?_
  refine va_newa (atype := .int) (N' := 306) (a0 := (306, .inl (fun _ => 0))) (ty := .int) (n := 306) hx hb (hts (.arrayClass .int) (by decide +kernel)) rfl hK hP hD hS hA (fun _ => rfl) (by decide) (by decide) (by decide) (Nat.le_of_ble_eq_true rfl) (Nat.le_of_ble_eq_true rfl) dX0_init_47 (fun q4 c4 H hK hP hD hS => ?_)
  have hK : va_K (dC, dI) vwCl [(c0, .int), (c1, .int), (c2, .int), (c3, .int), (c4, .int)] s := hK
  have hP : va_P (dC, dI) vwCl [(qx, .inr (0, [.int 0, .int 0, .long 0, .int 0, .ref q0, .int 0, .ref q1, .int 0, .ref q2, .ref q3, .int 0, .null, .int 0])), (q0, .inl (c0, 259, .inl (fun _ => 0))), (q1, .inl (c1, 259, .inl (fun _ => 0))), (q2, .inl (c2, 5, .inl (fun _ => 0))), (q3, .inl (c3, 259, .inl (fun _ => 0))), (q4, .inl (c4, 306, .inl (fun _ => 0)))] H := hP
  have hD : va_D A [(qx, .inr (0, [.int 0, .int 0, .long 0, .int 0, .ref q0, .int 0, .ref q1, .int 0, .ref q2, .ref q3, .int 0, .null, .int 0])), (q0, .inl (c0, 259, .inl (fun _ => 0))), (q1, .inl (c1, 259, .inl (fun _ => 0))), (q2, .inl (c2, 5, .inl (fun _ => 0))), (q3, .inl (c3, 259, .inl (fun _ => 0))), (q4, .inl (c4, 306, .inl (fun _ => 0)))] := hD
  refine W.widen (k := 5) (n := 1088) (by omega) (by omega) ?_
  refine va_putF (D := (dC, dI)) (ci := 0) (v := .ref q4) (ty := .array .int) (C := RX0) (T := TX0) (N := 13) hx hb hts hinT tyX0 tyX0_ok nmX0 hown hK hP hD hS 0 rfl rfl 11 (by decide) (hts (.fieldLink RX0 26 "CodeBlocks" "sent" "[I") (by decide +kernel)) (fun _ h9 => h9) rfl hin rfl (by decide +kernel) rfl rfl (Nat.le_of_ble_eq_true rfl) dX0_init_49 (fun H locs hP hD hS => ?_)
  have hP : va_P (dC, dI) vwCl [(qx, .inr (0, [.int 0, .int 0, .long 0, .int 0, .ref q0, .int 0, .ref q1, .int 0, .ref q2, .ref q3, .int 0, .ref q4, .int 0])), (q0, .inl (c0, 259, .inl (fun _ => 0))), (q1, .inl (c1, 259, .inl (fun _ => 0))), (q2, .inl (c2, 5, .inl (fun _ => 0))), (q3, .inl (c3, 259, .inl (fun _ => 0))), (q4, .inl (c4, 306, .inl (fun _ => 0)))] H := hP
  have hD : va_D A [(qx, .inr (0, [.int 0, .int 0, .long 0, .int 0, .ref q0, .int 0, .ref q1, .int 0, .ref q2, .ref q3, .int 0, .ref q4, .int 0])), (q0, .inl (c0, 259, .inl (fun _ => 0))), (q1, .inl (c1, 259, .inl (fun _ => 0))), (q2, .inl (c2, 5, .inl (fun _ => 0))), (q3, .inl (c3, 259, .inl (fun _ => 0))), (q4, .inl (c4, 306, .inl (fun _ => 0)))] := hD
  have e1 : c1 = c0 := Option.some.inj ((show s.vm.findClass _ = some c1 from (hK.2 1 _ rfl).2).symm.trans (show s.vm.findClass _ = some c0 from (hK.2 0 _ rfl).2))
  have e2 : c2 = c0 := Option.some.inj ((show s.vm.findClass _ = some c2 from (hK.2 2 _ rfl).2).symm.trans (show s.vm.findClass _ = some c0 from (hK.2 0 _ rfl).2))
  have e3 : c3 = c0 := Option.some.inj ((show s.vm.findClass _ = some c3 from (hK.2 3 _ rfl).2).symm.trans (show s.vm.findClass _ = some c0 from (hK.2 0 _ rfl).2))
  have e4 : c4 = c0 := Option.some.inj ((show s.vm.findClass _ = some c4 from (hK.2 4 _ rfl).2).symm.trans (show s.vm.findClass _ = some c0 from (hK.2 0 _ rfl).2))
  subst e1
  subst e2
  subst e3
  subst e4
  have hK9 : va_K (dC, dI) vwCl [(_, .int)] s := hK.sub [0] rfl
  exact W.vret hx hb hr (fun t ht hW => ⟨⟨(q0, q1, q2, q3, q4, _), rfl, trivial, by rw [ht]; exact hP, va_K.moved hW.alike hK9, hD⟩, hS.F ht⟩) hS.2.2 dX0_init_52
