abbrev rmX1_turn : Room := { frames := 1, cells := 0, slots := 0, locals := 21 }
def m_turn (u : m_S) (b : Bool) : m_S := if (m_st u) = 0 then (if (j_b b) = 0 then (0, m_st u, m_md u, m_mn u, m_rw u, m_sz u, m_wn u, m_sn u, m_bi u, m_ro u, m_rc u, m_wt u, m_se u, m_cn u) else (m_begins (0, m_st u, m_md u, m_mn u, 0, m_sz u, m_wn u, m_sn u, m_bi u, m_ro u, m_rc u, m_wt u, m_se u, m_cn u) 1)) else (if (j_b b) = 1 then (0, m_st u, m_md u, m_mn u, m_rw u, m_sz u, m_wn u, m_sn u, m_bi u, m_ro u, m_rc u, m_wt u, m_se u, m_cn u) else (if (j_b b) = 0 then (m_begins (0, m_st u, m_md u, m_mn u, 0, m_sz u, m_wn u, m_sn u, m_bi u, m_ro u, m_rc u, m_wt u, m_se u, m_cn u) 0) else (m_begins (0, m_st u, m_md u, m_mn u, 0, m_sz u, m_wn u, m_sn u, m_bi u, m_ro u, m_rc u, m_wt u, m_se u, m_cn u) 1)))
def m_turn_r (u : m_S) (b : Bool) : Int32 := if (m_st u) = 0 then (if (j_b b) = 0 then 0 else 1) else (if (j_b b) = 1 then 0 else (if (j_b b) = 0 then 1 else 1))
set_option maxHeartbeats 4000000 in
set_option maxRecDepth 100000 in
theorem kX1_turn (l : Launch) (dC : Nat → ClassId) (dI : Nat → Nat → Nat) (qm pb pr pv pw ps pc : Nat) (cI : ClassId) (sz : Nat) (u : m_S) (b : Bool) : Met l yX1_turn vX1_turn rmX1_turn (va_Pc [.ref qm, .int (j_b b)] (fun U => U.heap.size = sz ∧ va_P (dC, dI) vwCl (m_W qm pb pr pv pw ps pc cI u) U.heap ∧ va_K (dC, dI) vwCl [(cI, .int)] U ∧ va_D (fun _ => True) (m_W qm pb pr pv pw ps pc cI u))) (va_Qi (fun r u2 => r = m_turn_r u b ∧ u2 = m_turn u b) (m_At dC dI (va_A (m_W qm pb pr pv pw ps pc cI u) sz) qm pb pr pv pw ps pc cI) (va_A (m_W qm pb pr pv pw ps pc cI u) sz)) 0 0 (va_A (m_W qm pb pr pv pw ps pc cI u) sz) := by
  refine Met.ofW (cc := cX1_turn) (maxL := 2) (ret := some .boolean) (by decide) rfl ?_
  intro p e s m args below meth c s₁ B hml hv
  obtain ⟨rfl, hsz, hP, hK, hD0⟩ := hv
  have hx := B.exec
  have hb := B.bytes
  have hr := B.returns
  have hts := atoms_spec (ws := vX1_turn) B.pre
  have hown : s.vm.findClass RX1 = some m.cls := findClass_of_methodNamed B.named
  have hlocks := B.notSynchronized
  have hinT : ∀ w ∈ wsX10, w ∈ vX1_turn := fun w h => List.mem_cons_of_mem _ (inM w h)
  subst hsz
  have hD := hD0.self (sz := s.heap.size)
  generalize hAe : va_A (m_W qm pb pr pv pw ps pc cI u) s.heap.size = A at hD ⊢
  have hA : ∀ q : Nat, s.heap.size ≤ q → A q := fun q h => by rw [← hAe]; exact Or.inr h
  have hS : va_S A s.heap s.heap [] := va_S.rf
  have hD : va_D A [(qm, .inr (1, [.int (m_th u), .int (m_st u), .int (m_md u), .ref pb, .int (nI (m_mn u)), .ref pr, .int (nI (m_rw u)), .ref pv, .int (nI (m_sz u)), .ref pw, .int (nI (m_wn u)), .ref ps, .int (nI (m_sn u)), .ref pc])), (pb, .inl (cI, 64, .inl (m_bi u))), (pr, .inl (cI, 259, .inl (m_ro u))), (pv, .inl (cI, 259, .inl (m_rc u))), (pw, .inl (cI, 259, .inl (m_wt u))), (ps, .inl (cI, 306, .inl (m_se u))), (pc, .inl (cI, 5, .inl (m_cn u)))] := hD
  have hP : va_P (dC, dI) vwCl [(qm, .inr (1, [.int (m_th u), .int (m_st u), .int (m_md u), .ref pb, .int (nI (m_mn u)), .ref pr, .int (nI (m_rw u)), .ref pv, .int (nI (m_sz u)), .ref pw, .int (nI (m_wn u)), .ref ps, .int (nI (m_sn u)), .ref pc])), (pb, .inl (cI, 64, .inl (m_bi u))), (pr, .inl (cI, 259, .inl (m_ro u))), (pv, .inl (cI, 259, .inl (m_rc u))), (pw, .inl (cI, 259, .inl (m_wt u))), (ps, .inl (cI, 306, .inl (m_se u))), (pc, .inl (cI, 5, .inl (m_cn u)))] s.heap := hP
  have hl := lv_entry ([.ref qm, .int (j_b b)]) (n := 2) (Nat.le_of_ble_eq_true rfl)
  rw [lg_entry_eq]
  generalize (lg_sl ([.ref qm, .int (j_b b)]) ++ List.replicate (2 - (lg_sl ([.ref qm, .int (j_b b)])).length) Slot.unset).toArray = ls at hl ⊢
  have hl : lv_has ls 2 [(0, .ref qm), (1, .int (j_b b))] := hl
  refine lv_aload_n hx hb dX1_turn_0 rfl (lv_at hl 0 rfl) ?_
  refine lv_iconst (v := 0) hx hb dX1_turn_1 (by decide) ?_
  refine va_put (D := (dC, dI)) (ci := 1) (v := .int 0) (ty := .int) (C := RX1) (T := TX1) (N := 14) hx hb hts hinT tyX1 tyX1_ok nmX1 hown hK hP hD hS 0 rfl rfl 0 (by decide) (hts _ (List.mem_cons_of_mem _ fl_28)) (fun _ h9 => h9) rfl (by decide +kernel) rfl rfl (Nat.le_of_ble_eq_true rfl) dX1_turn_2 (fun H locs hP hD hS => ?_)
  have hP : va_P (dC, dI) vwCl [(qm, .inr (1, [.int 0, .int (m_st u), .int (m_md u), .ref pb, .int (nI (m_mn u)), .ref pr, .int (nI (m_rw u)), .ref pv, .int (nI (m_sz u)), .ref pw, .int (nI (m_wn u)), .ref ps, .int (nI (m_sn u)), .ref pc])), (pb, .inl (cI, 64, .inl (m_bi u))), (pr, .inl (cI, 259, .inl (m_ro u))), (pv, .inl (cI, 259, .inl (m_rc u))), (pw, .inl (cI, 259, .inl (m_wt u))), (ps, .inl (cI, 306, .inl (m_se u))), (pc, .inl (cI, 5, .inl (m_cn u)))] H := hP
  have hD : va_D A [(qm, .inr (1, [.int 0, .int (m_st u), .int (m_md u), .ref pb, .int (nI (m_mn u)), .ref pr, .int (nI (m_rw u)), .ref pv, .int (nI (m_sz u)), .ref pw, .int (nI (m_wn u)), .ref ps, .int (nI (m_sn u)), .ref pc])), (pb, .inl (cI, 64, .inl (m_bi u))), (pr, .inl (cI, 259, .inl (m_ro u))), (pv, .inl (cI, 259, .inl (m_rc u))), (pw, .inl (cI, 259, .inl (m_wt u))), (ps, .inl (cI, 306, .inl (m_se u))), (pc, .inl (cI, 5, .inl (m_cn u)))] := hD
  refine lv_iload_n hx hb dX1_turn_5 rfl (lv_at hl 1 rfl) ?_
  refine lv_aload_n hx hb dX1_turn_6 rfl (lv_at hl 0 rfl) ?_
  refine va_get (D := (dC, dI)) (ci := 1) (v := .int (m_st u)) (C := RX1) (T := TX1) (N := 14) hx hb hts hinT hown hK hP 0 rfl rfl 1 (by decide) (hts _ (List.mem_cons_of_mem _ fl_40)) (fun _ h9 => h9) rfl dX1_turn_7 ?_
  refine lv_if_eq (tgt := 17) hx hb dX1_turn_10 (by decide) (fun c_1 => ?_) (fun c_1 => ?_)
  · refine lv_iconst (v := 0) hx hb dX1_turn_17 (by decide) ?_
    refine lv_icmp_ne (tgt := 23) hx hb dX1_turn_18 (by decide) (fun c_2 => ?_) (fun c_2 => ?_)
    · refine lv_aload_n hx hb dX1_turn_23 rfl (lv_at hl 0 rfl) ?_
      refine lv_iconst (v := 0) hx hb dX1_turn_24 (by decide) ?_
      refine va_put (D := (dC, dI)) (ci := 1) (v := .int 0) (ty := .int) (C := RX1) (T := TX1) (N := 14) hx hb hts hinT tyX1 tyX1_ok nmX1 hown hK hP hD hS 0 rfl rfl 6 (by decide) (hts _ (List.mem_cons_of_mem _ fl_46)) (fun _ h9 => h9) rfl (by decide +kernel) rfl rfl (Nat.le_of_ble_eq_true rfl) dX1_turn_25 (fun H locs hP hD hS => ?_)
      have hP : va_P (dC, dI) vwCl [(qm, .inr (1, [.int 0, .int (m_st u), .int (m_md u), .ref pb, .int (nI (m_mn u)), .ref pr, .int 0, .ref pv, .int (nI (m_sz u)), .ref pw, .int (nI (m_wn u)), .ref ps, .int (nI (m_sn u)), .ref pc])), (pb, .inl (cI, 64, .inl (m_bi u))), (pr, .inl (cI, 259, .inl (m_ro u))), (pv, .inl (cI, 259, .inl (m_rc u))), (pw, .inl (cI, 259, .inl (m_wt u))), (ps, .inl (cI, 306, .inl (m_se u))), (pc, .inl (cI, 5, .inl (m_cn u)))] H := hP
      have hD : va_D A [(qm, .inr (1, [.int 0, .int (m_st u), .int (m_md u), .ref pb, .int (nI (m_mn u)), .ref pr, .int 0, .ref pv, .int (nI (m_sz u)), .ref pw, .int (nI (m_wn u)), .ref ps, .int (nI (m_sn u)), .ref pc])), (pb, .inl (cI, 64, .inl (m_bi u))), (pr, .inl (cI, 259, .inl (m_ro u))), (pv, .inl (cI, 259, .inl (m_rc u))), (pw, .inl (cI, 259, .inl (m_wt u))), (ps, .inl (cI, 306, .inl (m_se u))), (pc, .inl (cI, 5, .inl (m_cn u)))] := hD
      refine lv_aload_n hx hb dX1_turn_28 rfl (lv_at hl 0 rfl) ?_
      refine lv_iload_n hx hb dX1_turn_29 rfl (lv_at hl 1 rfl) ?_
      refine lv_if_eq (tgt := 37) hx hb dX1_turn_30 (by decide) (fun c_3 => absurd c_3 (c_2)) (fun c_3 => ?_)
      refine lv_iconst (v := 1) hx hb dX1_turn_33 (by decide) ?_
      refine lv_goto (tgt := 38) hx hb dX1_turn_34 (by decide) ?_
      have hPc : va_P (dC, dI) vwCl (m_W qm pb pr pv pw ps pc cI (0, m_st u, m_md u, m_mn u, 0, m_sz u, m_wn u, m_sn u, m_bi u, m_ro u, m_rc u, m_wt u, m_se u, m_cn u)) H := hP
      have hDc : va_D A (m_W qm pb pr pv pw ps pc cI (0, m_st u, m_md u, m_mn u, 0, m_sz u, m_wn u, m_sn u, m_bi u, m_ro u, m_rc u, m_wt u, m_se u, m_cn u)) := hD
      have hFc := va_free (wc := (m_W qm pb pr pv pw ps pc cI (0, m_st u, m_md u, m_mn u, 0, m_sz u, m_wn u, m_sn u, m_bi u, m_ro u, m_rc u, m_wt u, m_se u, m_cn u))) hD hS hA [0, 1, 2, 3, 4, 5, 6] rfl
      refine va_callv (va_runV (As := [.int 1]) (rest := []) ⟨hx, hb, hml, hown, hts⟩ (kX1_begins l dC dI qm pb pr pv pw ps pc cI H.size (0, m_st u, m_md u, m_mn u, 0, m_sz u, m_wn u, m_sn u, m_bi u, m_ro u, m_rc u, m_wt u, m_se u, m_cn u) 1 ) (cwV 1 hts gM_X1_begins rfl rfl rfl (by decide +kernel) ⟨Nat.le_of_ble_eq_true rfl, Nat.le_of_ble_eq_true rfl⟩) ⟨fun a U g mk q => by obtain ⟨q0, q1, qP, qK, qD⟩ := q; exact ⟨q0, q1, qP, va_K.moved (u := U) (U := U.calling g mk a) (Vm.Alike.refl U.vm) qK, qD⟩, va_recv hK hP (ci := 1) (q0 := 0) rfl rfl, fun U hU hW => ⟨rfl, by rw [hU], by rw [hU]; exact hPc, va_K.moved hW.alike hK, hDc.weaken (fun _ _ _ _ => trivial)⟩⟩ rfl rfl hl.1 rfl (lv_room (Nat.le_of_ble_eq_true rfl)) dX1_turn_38 ⟨Nat.le_of_ble_eq_true rfl, Nat.le_of_ble_eq_true rfl⟩) hS (fun q _ h => hFc q h) hFc (fun  u_4 t H1 locs ht hvm hu_4 hB hz1 hk1 hS => ?_)
      obtain ⟨hP1, -, hD1⟩ := hB
      rw [ht] at hP1
      have hP : va_P (dC, dI) vwCl [(qm, .inr (1, [.int (m_th u_4), .int (m_st u_4), .int (m_md u_4), .ref pb, .int (nI (m_mn u_4)), .ref pr, .int (nI (m_rw u_4)), .ref pv, .int (nI (m_sz u_4)), .ref pw, .int (nI (m_wn u_4)), .ref ps, .int (nI (m_sn u_4)), .ref pc])), (pb, .inl (cI, 64, .inl (m_bi u_4))), (pr, .inl (cI, 259, .inl (m_ro u_4))), (pv, .inl (cI, 259, .inl (m_rc u_4))), (pw, .inl (cI, 259, .inl (m_wt u_4))), (ps, .inl (cI, 306, .inl (m_se u_4))), (pc, .inl (cI, 5, .inl (m_cn u_4)))] H1 := hP1
      have hD : va_D A [(qm, .inr (1, [.int (m_th u_4), .int (m_st u_4), .int (m_md u_4), .ref pb, .int (nI (m_mn u_4)), .ref pr, .int (nI (m_rw u_4)), .ref pv, .int (nI (m_sz u_4)), .ref pw, .int (nI (m_wn u_4)), .ref ps, .int (nI (m_sn u_4)), .ref pc])), (pb, .inl (cI, 64, .inl (m_bi u_4))), (pr, .inl (cI, 259, .inl (m_ro u_4))), (pv, .inl (cI, 259, .inl (m_rc u_4))), (pw, .inl (cI, 259, .inl (m_wt u_4))), (ps, .inl (cI, 306, .inl (m_se u_4))), (pc, .inl (cI, 5, .inl (m_cn u_4)))] := hD1.weaken (fun k q _ h => hFc q.1 h)
      generalize H1 = H at hP hS ⊢
      refine lv_iconst (v := 1) hx hb dX1_turn_41 (by decide) ?_
      have hP9 : va_P (dC, dI) vwCl (m_W qm pb pr pv pw ps pc cI u_4) H := hP
      have hD9 : va_D A (m_W qm pb pr pv pw ps pc cI u_4) := hD
      exact W.zret (v := 1) hx hb hr (by first | rfl | decide) (fun t ht hW => ⟨⟨_, u_4, rfl, ⟨(by subst hu_4; unfold m_turn_r; rw [if_pos c_1, if_neg c_2]), (by subst hu_4; unfold m_turn; rw [if_pos c_1, if_neg c_2])⟩, by rw [ht]; exact hP9, va_K.moved hW.alike hK, hD9⟩, hS.F ht⟩) hS.2.2 dX1_turn_42
    · refine lv_iconst (v := 0) hx hb dX1_turn_21 (by decide) ?_
      have hP9 : va_P (dC, dI) vwCl (m_W qm pb pr pv pw ps pc cI (0, m_st u, m_md u, m_mn u, m_rw u, m_sz u, m_wn u, m_sn u, m_bi u, m_ro u, m_rc u, m_wt u, m_se u, m_cn u)) H := hP
      have hD9 : va_D A (m_W qm pb pr pv pw ps pc cI (0, m_st u, m_md u, m_mn u, m_rw u, m_sz u, m_wn u, m_sn u, m_bi u, m_ro u, m_rc u, m_wt u, m_se u, m_cn u)) := hD
      exact W.zret (v := 0) hx hb hr (by first | rfl | decide) (fun t ht hW => ⟨⟨_, (0, m_st u, m_md u, m_mn u, m_rw u, m_sz u, m_wn u, m_sn u, m_bi u, m_ro u, m_rc u, m_wt u, m_se u, m_cn u), rfl, ⟨(by unfold m_turn_r; rw [if_pos c_1, if_pos c_2]), (by unfold m_turn; rw [if_pos c_1, if_pos c_2])⟩, by rw [ht]; exact hP9, va_K.moved hW.alike hK, hD9⟩, hS.F ht⟩) hS.2.2 dX1_turn_22
  · refine lv_iconst (v := 1) hx hb dX1_turn_13 (by decide) ?_
    refine lv_goto (tgt := 18) hx hb dX1_turn_14 (by decide) ?_
    refine lv_icmp_ne (tgt := 23) hx hb dX1_turn_18 (by decide) (fun c_5 => ?_) (fun c_5 => ?_)
    · refine lv_aload_n hx hb dX1_turn_23 rfl (lv_at hl 0 rfl) ?_
      refine lv_iconst (v := 0) hx hb dX1_turn_24 (by decide) ?_
      refine va_put (D := (dC, dI)) (ci := 1) (v := .int 0) (ty := .int) (C := RX1) (T := TX1) (N := 14) hx hb hts hinT tyX1 tyX1_ok nmX1 hown hK hP hD hS 0 rfl rfl 6 (by decide) (hts _ (List.mem_cons_of_mem _ fl_46)) (fun _ h9 => h9) rfl (by decide +kernel) rfl rfl (Nat.le_of_ble_eq_true rfl) dX1_turn_25 (fun H locs hP hD hS => ?_)
      have hP : va_P (dC, dI) vwCl [(qm, .inr (1, [.int 0, .int (m_st u), .int (m_md u), .ref pb, .int (nI (m_mn u)), .ref pr, .int 0, .ref pv, .int (nI (m_sz u)), .ref pw, .int (nI (m_wn u)), .ref ps, .int (nI (m_sn u)), .ref pc])), (pb, .inl (cI, 64, .inl (m_bi u))), (pr, .inl (cI, 259, .inl (m_ro u))), (pv, .inl (cI, 259, .inl (m_rc u))), (pw, .inl (cI, 259, .inl (m_wt u))), (ps, .inl (cI, 306, .inl (m_se u))), (pc, .inl (cI, 5, .inl (m_cn u)))] H := hP
      have hD : va_D A [(qm, .inr (1, [.int 0, .int (m_st u), .int (m_md u), .ref pb, .int (nI (m_mn u)), .ref pr, .int 0, .ref pv, .int (nI (m_sz u)), .ref pw, .int (nI (m_wn u)), .ref ps, .int (nI (m_sn u)), .ref pc])), (pb, .inl (cI, 64, .inl (m_bi u))), (pr, .inl (cI, 259, .inl (m_ro u))), (pv, .inl (cI, 259, .inl (m_rc u))), (pw, .inl (cI, 259, .inl (m_wt u))), (ps, .inl (cI, 306, .inl (m_se u))), (pc, .inl (cI, 5, .inl (m_cn u)))] := hD
      refine lv_aload_n hx hb dX1_turn_28 rfl (lv_at hl 0 rfl) ?_
      refine lv_iload_n hx hb dX1_turn_29 rfl (lv_at hl 1 rfl) ?_
      refine lv_if_eq (tgt := 37) hx hb dX1_turn_30 (by decide) (fun c_6 => ?_) (fun c_6 => ?_)
      · refine lv_iconst (v := 0) hx hb dX1_turn_37 (by decide) ?_
        have hPc : va_P (dC, dI) vwCl (m_W qm pb pr pv pw ps pc cI (0, m_st u, m_md u, m_mn u, 0, m_sz u, m_wn u, m_sn u, m_bi u, m_ro u, m_rc u, m_wt u, m_se u, m_cn u)) H := hP
        have hDc : va_D A (m_W qm pb pr pv pw ps pc cI (0, m_st u, m_md u, m_mn u, 0, m_sz u, m_wn u, m_sn u, m_bi u, m_ro u, m_rc u, m_wt u, m_se u, m_cn u)) := hD
        have hFc := va_free (wc := (m_W qm pb pr pv pw ps pc cI (0, m_st u, m_md u, m_mn u, 0, m_sz u, m_wn u, m_sn u, m_bi u, m_ro u, m_rc u, m_wt u, m_se u, m_cn u))) hD hS hA [0, 1, 2, 3, 4, 5, 6] rfl
        refine va_callv (va_runV (As := [.int 0]) (rest := []) ⟨hx, hb, hml, hown, hts⟩ (kX1_begins l dC dI qm pb pr pv pw ps pc cI H.size (0, m_st u, m_md u, m_mn u, 0, m_sz u, m_wn u, m_sn u, m_bi u, m_ro u, m_rc u, m_wt u, m_se u, m_cn u) 0 ) (cwV 1 hts gM_X1_begins rfl rfl rfl (by decide +kernel) ⟨Nat.le_of_ble_eq_true rfl, Nat.le_of_ble_eq_true rfl⟩) ⟨fun a U g mk q => by obtain ⟨q0, q1, qP, qK, qD⟩ := q; exact ⟨q0, q1, qP, va_K.moved (u := U) (U := U.calling g mk a) (Vm.Alike.refl U.vm) qK, qD⟩, va_recv hK hP (ci := 1) (q0 := 0) rfl rfl, fun U hU hW => ⟨rfl, by rw [hU], by rw [hU]; exact hPc, va_K.moved hW.alike hK, hDc.weaken (fun _ _ _ _ => trivial)⟩⟩ rfl rfl hl.1 rfl (lv_room (Nat.le_of_ble_eq_true rfl)) dX1_turn_38 ⟨Nat.le_of_ble_eq_true rfl, Nat.le_of_ble_eq_true rfl⟩) hS (fun q _ h => hFc q h) hFc (fun  u_7 t H1 locs ht hvm hu_7 hB hz1 hk1 hS => ?_)
        obtain ⟨hP1, -, hD1⟩ := hB
        rw [ht] at hP1
        have hP : va_P (dC, dI) vwCl [(qm, .inr (1, [.int (m_th u_7), .int (m_st u_7), .int (m_md u_7), .ref pb, .int (nI (m_mn u_7)), .ref pr, .int (nI (m_rw u_7)), .ref pv, .int (nI (m_sz u_7)), .ref pw, .int (nI (m_wn u_7)), .ref ps, .int (nI (m_sn u_7)), .ref pc])), (pb, .inl (cI, 64, .inl (m_bi u_7))), (pr, .inl (cI, 259, .inl (m_ro u_7))), (pv, .inl (cI, 259, .inl (m_rc u_7))), (pw, .inl (cI, 259, .inl (m_wt u_7))), (ps, .inl (cI, 306, .inl (m_se u_7))), (pc, .inl (cI, 5, .inl (m_cn u_7)))] H1 := hP1
        have hD : va_D A [(qm, .inr (1, [.int (m_th u_7), .int (m_st u_7), .int (m_md u_7), .ref pb, .int (nI (m_mn u_7)), .ref pr, .int (nI (m_rw u_7)), .ref pv, .int (nI (m_sz u_7)), .ref pw, .int (nI (m_wn u_7)), .ref ps, .int (nI (m_sn u_7)), .ref pc])), (pb, .inl (cI, 64, .inl (m_bi u_7))), (pr, .inl (cI, 259, .inl (m_ro u_7))), (pv, .inl (cI, 259, .inl (m_rc u_7))), (pw, .inl (cI, 259, .inl (m_wt u_7))), (ps, .inl (cI, 306, .inl (m_se u_7))), (pc, .inl (cI, 5, .inl (m_cn u_7)))] := hD1.weaken (fun k q _ h => hFc q.1 h)
        generalize H1 = H at hP hS ⊢
        refine lv_iconst (v := 1) hx hb dX1_turn_41 (by decide) ?_
        have hP9 : va_P (dC, dI) vwCl (m_W qm pb pr pv pw ps pc cI u_7) H := hP
        have hD9 : va_D A (m_W qm pb pr pv pw ps pc cI u_7) := hD
        exact W.zret (v := 1) hx hb hr (by first | rfl | decide) (fun t ht hW => ⟨⟨_, u_7, rfl, ⟨(by subst hu_7; unfold m_turn_r; rw [if_neg c_1, if_neg c_5, if_pos c_6]), (by subst hu_7; unfold m_turn; rw [if_neg c_1, if_neg c_5, if_pos c_6])⟩, by rw [ht]; exact hP9, va_K.moved hW.alike hK, hD9⟩, hS.F ht⟩) hS.2.2 dX1_turn_42
      · refine lv_iconst (v := 1) hx hb dX1_turn_33 (by decide) ?_
        refine lv_goto (tgt := 38) hx hb dX1_turn_34 (by decide) ?_
        have hPc : va_P (dC, dI) vwCl (m_W qm pb pr pv pw ps pc cI (0, m_st u, m_md u, m_mn u, 0, m_sz u, m_wn u, m_sn u, m_bi u, m_ro u, m_rc u, m_wt u, m_se u, m_cn u)) H := hP
        have hDc : va_D A (m_W qm pb pr pv pw ps pc cI (0, m_st u, m_md u, m_mn u, 0, m_sz u, m_wn u, m_sn u, m_bi u, m_ro u, m_rc u, m_wt u, m_se u, m_cn u)) := hD
        have hFc := va_free (wc := (m_W qm pb pr pv pw ps pc cI (0, m_st u, m_md u, m_mn u, 0, m_sz u, m_wn u, m_sn u, m_bi u, m_ro u, m_rc u, m_wt u, m_se u, m_cn u))) hD hS hA [0, 1, 2, 3, 4, 5, 6] rfl
        refine va_callv (va_runV (As := [.int 1]) (rest := []) ⟨hx, hb, hml, hown, hts⟩ (kX1_begins l dC dI qm pb pr pv pw ps pc cI H.size (0, m_st u, m_md u, m_mn u, 0, m_sz u, m_wn u, m_sn u, m_bi u, m_ro u, m_rc u, m_wt u, m_se u, m_cn u) 1 ) (cwV 1 hts gM_X1_begins rfl rfl rfl (by decide +kernel) ⟨Nat.le_of_ble_eq_true rfl, Nat.le_of_ble_eq_true rfl⟩) ⟨fun a U g mk q => by obtain ⟨q0, q1, qP, qK, qD⟩ := q; exact ⟨q0, q1, qP, va_K.moved (u := U) (U := U.calling g mk a) (Vm.Alike.refl U.vm) qK, qD⟩, va_recv hK hP (ci := 1) (q0 := 0) rfl rfl, fun U hU hW => ⟨rfl, by rw [hU], by rw [hU]; exact hPc, va_K.moved hW.alike hK, hDc.weaken (fun _ _ _ _ => trivial)⟩⟩ rfl rfl hl.1 rfl (lv_room (Nat.le_of_ble_eq_true rfl)) dX1_turn_38 ⟨Nat.le_of_ble_eq_true rfl, Nat.le_of_ble_eq_true rfl⟩) hS (fun q _ h => hFc q h) hFc (fun  u_8 t H1 locs ht hvm hu_8 hB hz1 hk1 hS => ?_)
        obtain ⟨hP1, -, hD1⟩ := hB
        rw [ht] at hP1
        have hP : va_P (dC, dI) vwCl [(qm, .inr (1, [.int (m_th u_8), .int (m_st u_8), .int (m_md u_8), .ref pb, .int (nI (m_mn u_8)), .ref pr, .int (nI (m_rw u_8)), .ref pv, .int (nI (m_sz u_8)), .ref pw, .int (nI (m_wn u_8)), .ref ps, .int (nI (m_sn u_8)), .ref pc])), (pb, .inl (cI, 64, .inl (m_bi u_8))), (pr, .inl (cI, 259, .inl (m_ro u_8))), (pv, .inl (cI, 259, .inl (m_rc u_8))), (pw, .inl (cI, 259, .inl (m_wt u_8))), (ps, .inl (cI, 306, .inl (m_se u_8))), (pc, .inl (cI, 5, .inl (m_cn u_8)))] H1 := hP1
        have hD : va_D A [(qm, .inr (1, [.int (m_th u_8), .int (m_st u_8), .int (m_md u_8), .ref pb, .int (nI (m_mn u_8)), .ref pr, .int (nI (m_rw u_8)), .ref pv, .int (nI (m_sz u_8)), .ref pw, .int (nI (m_wn u_8)), .ref ps, .int (nI (m_sn u_8)), .ref pc])), (pb, .inl (cI, 64, .inl (m_bi u_8))), (pr, .inl (cI, 259, .inl (m_ro u_8))), (pv, .inl (cI, 259, .inl (m_rc u_8))), (pw, .inl (cI, 259, .inl (m_wt u_8))), (ps, .inl (cI, 306, .inl (m_se u_8))), (pc, .inl (cI, 5, .inl (m_cn u_8)))] := hD1.weaken (fun k q _ h => hFc q.1 h)
        generalize H1 = H at hP hS ⊢
        refine lv_iconst (v := 1) hx hb dX1_turn_41 (by decide) ?_
        have hP9 : va_P (dC, dI) vwCl (m_W qm pb pr pv pw ps pc cI u_8) H := hP
        have hD9 : va_D A (m_W qm pb pr pv pw ps pc cI u_8) := hD
        exact W.zret (v := 1) hx hb hr (by first | rfl | decide) (fun t ht hW => ⟨⟨_, u_8, rfl, ⟨(by subst hu_8; unfold m_turn_r; rw [if_neg c_1, if_neg c_5, if_neg c_6]), (by subst hu_8; unfold m_turn; rw [if_neg c_1, if_neg c_5, if_neg c_6])⟩, by rw [ht]; exact hP9, va_K.moved hW.alike hK, hD9⟩, hS.F ht⟩) hS.2.2 dX1_turn_42
    · refine lv_iconst (v := 0) hx hb dX1_turn_21 (by decide) ?_
      have hP9 : va_P (dC, dI) vwCl (m_W qm pb pr pv pw ps pc cI (0, m_st u, m_md u, m_mn u, m_rw u, m_sz u, m_wn u, m_sn u, m_bi u, m_ro u, m_rc u, m_wt u, m_se u, m_cn u)) H := hP
      have hD9 : va_D A (m_W qm pb pr pv pw ps pc cI (0, m_st u, m_md u, m_mn u, m_rw u, m_sz u, m_wn u, m_sn u, m_bi u, m_ro u, m_rc u, m_wt u, m_se u, m_cn u)) := hD
      exact W.zret (v := 0) hx hb hr (by first | rfl | decide) (fun t ht hW => ⟨⟨_, (0, m_st u, m_md u, m_mn u, m_rw u, m_sz u, m_wn u, m_sn u, m_bi u, m_ro u, m_rc u, m_wt u, m_se u, m_cn u), rfl, ⟨(by unfold m_turn_r; rw [if_neg c_1, if_pos c_5]), (by unfold m_turn; rw [if_neg c_1, if_pos c_5])⟩, by rw [ht]; exact hP9, va_K.moved hW.alike hK, hD9⟩, hS.F ht⟩) hS.2.2 dX1_turn_22

abbrev rmX1_mending : Room := { frames := 0, cells := 0, slots := 0, locals := 0 }
def m_mending (u : m_S) (b : Bool) : m_S := (0, m_st u, j_b b, m_mn u, m_rw u, m_sz u, m_wn u, m_sn u, m_bi u, m_ro u, m_rc u, m_wt u, m_se u, m_cn u)
set_option maxHeartbeats 4000000 in
set_option maxRecDepth 100000 in
theorem kX1_mending (l : Launch) (dC : Nat → ClassId) (dI : Nat → Nat → Nat) (qm pb pr pv pw ps pc : Nat) (cI : ClassId) (sz : Nat) (u : m_S) (b : Bool) : Met l yX1_mending vX1_mending rmX1_mending (va_Pc [.ref qm, .int (j_b b)] (fun U => U.heap.size = sz ∧ va_P (dC, dI) vwCl (m_W qm pb pr pv pw ps pc cI u) U.heap ∧ va_K (dC, dI) vwCl [(cI, .int)] U ∧ va_D (fun _ => True) (m_W qm pb pr pv pw ps pc cI u))) (va_Qv (fun u2 => u2 = m_mending u b) (m_At dC dI (va_A (m_W qm pb pr pv pw ps pc cI u) sz) qm pb pr pv pw ps pc cI) (va_A (m_W qm pb pr pv pw ps pc cI u) sz)) 0 0 (va_A (m_W qm pb pr pv pw ps pc cI u) sz) := by
  refine Met.ofW (cc := cX1_mending) (maxL := 2) (ret := none) (by decide) rfl ?_
  intro p e s m args below meth c s₁ B hml hv
  obtain ⟨rfl, hsz, hP, hK, hD0⟩ := hv
  have hx := B.exec
  have hb := B.bytes
  have hr := B.returns
  have hts := atoms_spec (ws := vX1_mending) B.pre
  have hown : s.vm.findClass RX1 = some m.cls := findClass_of_methodNamed B.named
  have hlocks := B.notSynchronized
  have hinT : ∀ w ∈ wsX10, w ∈ vX1_mending := fun w h => List.mem_cons_of_mem _ (inM w h)
  subst hsz
  have hD := hD0.self (sz := s.heap.size)
  generalize hAe : va_A (m_W qm pb pr pv pw ps pc cI u) s.heap.size = A at hD ⊢
  have hA : ∀ q : Nat, s.heap.size ≤ q → A q := fun q h => by rw [← hAe]; exact Or.inr h
  have hS : va_S A s.heap s.heap [] := va_S.rf
  have hD : va_D A [(qm, .inr (1, [.int (m_th u), .int (m_st u), .int (m_md u), .ref pb, .int (nI (m_mn u)), .ref pr, .int (nI (m_rw u)), .ref pv, .int (nI (m_sz u)), .ref pw, .int (nI (m_wn u)), .ref ps, .int (nI (m_sn u)), .ref pc])), (pb, .inl (cI, 64, .inl (m_bi u))), (pr, .inl (cI, 259, .inl (m_ro u))), (pv, .inl (cI, 259, .inl (m_rc u))), (pw, .inl (cI, 259, .inl (m_wt u))), (ps, .inl (cI, 306, .inl (m_se u))), (pc, .inl (cI, 5, .inl (m_cn u)))] := hD
  have hP : va_P (dC, dI) vwCl [(qm, .inr (1, [.int (m_th u), .int (m_st u), .int (m_md u), .ref pb, .int (nI (m_mn u)), .ref pr, .int (nI (m_rw u)), .ref pv, .int (nI (m_sz u)), .ref pw, .int (nI (m_wn u)), .ref ps, .int (nI (m_sn u)), .ref pc])), (pb, .inl (cI, 64, .inl (m_bi u))), (pr, .inl (cI, 259, .inl (m_ro u))), (pv, .inl (cI, 259, .inl (m_rc u))), (pw, .inl (cI, 259, .inl (m_wt u))), (ps, .inl (cI, 306, .inl (m_se u))), (pc, .inl (cI, 5, .inl (m_cn u)))] s.heap := hP
  have hl := lv_entry ([.ref qm, .int (j_b b)]) (n := 2) (Nat.le_of_ble_eq_true rfl)
  rw [lg_entry_eq]
  generalize (lg_sl ([.ref qm, .int (j_b b)]) ++ List.replicate (2 - (lg_sl ([.ref qm, .int (j_b b)])).length) Slot.unset).toArray = ls at hl ⊢
  have hl : lv_has ls 2 [(0, .ref qm), (1, .int (j_b b))] := hl
  refine lv_aload_n hx hb dX1_mending_0 rfl (lv_at hl 0 rfl) ?_
  refine lv_iconst (v := 0) hx hb dX1_mending_1 (by decide) ?_
  refine va_put (D := (dC, dI)) (ci := 1) (v := .int 0) (ty := .int) (C := RX1) (T := TX1) (N := 14) hx hb hts hinT tyX1 tyX1_ok nmX1 hown hK hP hD hS 0 rfl rfl 0 (by decide) (hts _ (List.mem_cons_of_mem _ fl_28)) (fun _ h9 => h9) rfl (by decide +kernel) rfl rfl (Nat.le_of_ble_eq_true rfl) dX1_mending_2 (fun H locs hP hD hS => ?_)
  have hP : va_P (dC, dI) vwCl [(qm, .inr (1, [.int 0, .int (m_st u), .int (m_md u), .ref pb, .int (nI (m_mn u)), .ref pr, .int (nI (m_rw u)), .ref pv, .int (nI (m_sz u)), .ref pw, .int (nI (m_wn u)), .ref ps, .int (nI (m_sn u)), .ref pc])), (pb, .inl (cI, 64, .inl (m_bi u))), (pr, .inl (cI, 259, .inl (m_ro u))), (pv, .inl (cI, 259, .inl (m_rc u))), (pw, .inl (cI, 259, .inl (m_wt u))), (ps, .inl (cI, 306, .inl (m_se u))), (pc, .inl (cI, 5, .inl (m_cn u)))] H := hP
  have hD : va_D A [(qm, .inr (1, [.int 0, .int (m_st u), .int (m_md u), .ref pb, .int (nI (m_mn u)), .ref pr, .int (nI (m_rw u)), .ref pv, .int (nI (m_sz u)), .ref pw, .int (nI (m_wn u)), .ref ps, .int (nI (m_sn u)), .ref pc])), (pb, .inl (cI, 64, .inl (m_bi u))), (pr, .inl (cI, 259, .inl (m_ro u))), (pv, .inl (cI, 259, .inl (m_rc u))), (pw, .inl (cI, 259, .inl (m_wt u))), (ps, .inl (cI, 306, .inl (m_se u))), (pc, .inl (cI, 5, .inl (m_cn u)))] := hD
  refine lv_aload_n hx hb dX1_mending_5 rfl (lv_at hl 0 rfl) ?_
  refine lv_iload_n hx hb dX1_mending_6 rfl (lv_at hl 1 rfl) ?_
  refine va_put (D := (dC, dI)) (ci := 1) (v := .int (j_b b)) (ty := .boolean) (C := RX1) (T := TX1) (N := 14) hx hb hts hinT tyX1 tyX1_ok nmX1 hown hK hP hD hS 0 rfl rfl 2 (by decide) (hts _ (List.mem_cons_of_mem _ fl_36)) (fun _ h9 => h9) rfl (by decide +kernel) (by cases b <;> rfl) (by cases b <;> rfl) (Nat.le_of_ble_eq_true rfl) dX1_mending_7 (fun H locs hP hD hS => ?_)
  have hP : va_P (dC, dI) vwCl [(qm, .inr (1, [.int 0, .int (m_st u), .int (j_b b), .ref pb, .int (nI (m_mn u)), .ref pr, .int (nI (m_rw u)), .ref pv, .int (nI (m_sz u)), .ref pw, .int (nI (m_wn u)), .ref ps, .int (nI (m_sn u)), .ref pc])), (pb, .inl (cI, 64, .inl (m_bi u))), (pr, .inl (cI, 259, .inl (m_ro u))), (pv, .inl (cI, 259, .inl (m_rc u))), (pw, .inl (cI, 259, .inl (m_wt u))), (ps, .inl (cI, 306, .inl (m_se u))), (pc, .inl (cI, 5, .inl (m_cn u)))] H := hP
  have hD : va_D A [(qm, .inr (1, [.int 0, .int (m_st u), .int (j_b b), .ref pb, .int (nI (m_mn u)), .ref pr, .int (nI (m_rw u)), .ref pv, .int (nI (m_sz u)), .ref pw, .int (nI (m_wn u)), .ref ps, .int (nI (m_sn u)), .ref pc])), (pb, .inl (cI, 64, .inl (m_bi u))), (pr, .inl (cI, 259, .inl (m_ro u))), (pv, .inl (cI, 259, .inl (m_rc u))), (pw, .inl (cI, 259, .inl (m_wt u))), (ps, .inl (cI, 306, .inl (m_se u))), (pc, .inl (cI, 5, .inl (m_cn u)))] := hD
  have hP9 : va_P (dC, dI) vwCl (m_W qm pb pr pv pw ps pc cI (0, m_st u, j_b b, m_mn u, m_rw u, m_sz u, m_wn u, m_sn u, m_bi u, m_ro u, m_rc u, m_wt u, m_se u, m_cn u)) H := hP
  have hD9 : va_D A (m_W qm pb pr pv pw ps pc cI (0, m_st u, j_b b, m_mn u, m_rw u, m_sz u, m_wn u, m_sn u, m_bi u, m_ro u, m_rc u, m_wt u, m_se u, m_cn u)) := hD
  exact W.vret hx hb hr (fun t ht hW => ⟨⟨(0, m_st u, j_b b, m_mn u, m_rw u, m_sz u, m_wn u, m_sn u, m_bi u, m_ro u, m_rc u, m_wt u, m_se u, m_cn u), rfl, (rfl), by rw [ht]; exact hP9, va_K.moved hW.alike hK, hD9⟩, hS.F ht⟩) hS.2.2 dX1_mending_10

abbrev rmX1_state : Room := { frames := 0, cells := 0, slots := 0, locals := 0 }
def m_state (u : m_S)  : m_S := (0, m_st u, m_md u, m_mn u, m_rw u, m_sz u, m_wn u, m_sn u, m_bi u, m_ro u, m_rc u, m_wt u, m_se u, m_cn u)
def m_state_r (u : m_S)  : Int32 := m_st u
set_option maxHeartbeats 4000000 in
set_option maxRecDepth 100000 in
theorem kX1_state (l : Launch) (dC : Nat → ClassId) (dI : Nat → Nat → Nat) (qm pb pr pv pw ps pc : Nat) (cI : ClassId) (sz : Nat) (u : m_S)  : Met l yX1_state vX1_state rmX1_state (va_Pc [.ref qm] (fun U => U.heap.size = sz ∧ va_P (dC, dI) vwCl (m_W qm pb pr pv pw ps pc cI u) U.heap ∧ va_K (dC, dI) vwCl [(cI, .int)] U ∧ va_D (fun _ => True) (m_W qm pb pr pv pw ps pc cI u))) (va_Qi (fun r u2 => r = m_state_r u ∧ u2 = m_state u) (m_At dC dI (va_A (m_W qm pb pr pv pw ps pc cI u) sz) qm pb pr pv pw ps pc cI) (va_A (m_W qm pb pr pv pw ps pc cI u) sz)) 0 0 (va_A (m_W qm pb pr pv pw ps pc cI u) sz) := by
  refine Met.ofW (cc := cX1_state) (maxL := 1) (ret := some .int) (by decide) rfl ?_
  intro p e s m args below meth c s₁ B hml hv
  obtain ⟨rfl, hsz, hP, hK, hD0⟩ := hv
  have hx := B.exec
  have hb := B.bytes
  have hr := B.returns
  have hts := atoms_spec (ws := vX1_state) B.pre
  have hown : s.vm.findClass RX1 = some m.cls := findClass_of_methodNamed B.named
  have hlocks := B.notSynchronized
  have hinT : ∀ w ∈ wsX10, w ∈ vX1_state := fun w h => List.mem_cons_of_mem _ (inM w h)
  subst hsz
  have hD := hD0.self (sz := s.heap.size)
  generalize hAe : va_A (m_W qm pb pr pv pw ps pc cI u) s.heap.size = A at hD ⊢
  have hA : ∀ q : Nat, s.heap.size ≤ q → A q := fun q h => by rw [← hAe]; exact Or.inr h
  have hS : va_S A s.heap s.heap [] := va_S.rf
  have hD : va_D A [(qm, .inr (1, [.int (m_th u), .int (m_st u), .int (m_md u), .ref pb, .int (nI (m_mn u)), .ref pr, .int (nI (m_rw u)), .ref pv, .int (nI (m_sz u)), .ref pw, .int (nI (m_wn u)), .ref ps, .int (nI (m_sn u)), .ref pc])), (pb, .inl (cI, 64, .inl (m_bi u))), (pr, .inl (cI, 259, .inl (m_ro u))), (pv, .inl (cI, 259, .inl (m_rc u))), (pw, .inl (cI, 259, .inl (m_wt u))), (ps, .inl (cI, 306, .inl (m_se u))), (pc, .inl (cI, 5, .inl (m_cn u)))] := hD
  have hP : va_P (dC, dI) vwCl [(qm, .inr (1, [.int (m_th u), .int (m_st u), .int (m_md u), .ref pb, .int (nI (m_mn u)), .ref pr, .int (nI (m_rw u)), .ref pv, .int (nI (m_sz u)), .ref pw, .int (nI (m_wn u)), .ref ps, .int (nI (m_sn u)), .ref pc])), (pb, .inl (cI, 64, .inl (m_bi u))), (pr, .inl (cI, 259, .inl (m_ro u))), (pv, .inl (cI, 259, .inl (m_rc u))), (pw, .inl (cI, 259, .inl (m_wt u))), (ps, .inl (cI, 306, .inl (m_se u))), (pc, .inl (cI, 5, .inl (m_cn u)))] s.heap := hP
  have hl := lv_entry ([.ref qm]) (n := 1) (Nat.le_of_ble_eq_true rfl)
  rw [lg_entry_eq]
  generalize (lg_sl ([.ref qm]) ++ List.replicate (1 - (lg_sl ([.ref qm])).length) Slot.unset).toArray = ls at hl ⊢
  have hl : lv_has ls 1 [(0, .ref qm)] := hl
  refine lv_aload_n hx hb dX1_state_0 rfl (lv_at hl 0 rfl) ?_
  refine lv_iconst (v := 0) hx hb dX1_state_1 (by decide) ?_
  refine va_put (D := (dC, dI)) (ci := 1) (v := .int 0) (ty := .int) (C := RX1) (T := TX1) (N := 14) hx hb hts hinT tyX1 tyX1_ok nmX1 hown hK hP hD hS 0 rfl rfl 0 (by decide) (hts _ (List.mem_cons_of_mem _ fl_28)) (fun _ h9 => h9) rfl (by decide +kernel) rfl rfl (Nat.le_of_ble_eq_true rfl) dX1_state_2 (fun H locs hP hD hS => ?_)
  have hP : va_P (dC, dI) vwCl [(qm, .inr (1, [.int 0, .int (m_st u), .int (m_md u), .ref pb, .int (nI (m_mn u)), .ref pr, .int (nI (m_rw u)), .ref pv, .int (nI (m_sz u)), .ref pw, .int (nI (m_wn u)), .ref ps, .int (nI (m_sn u)), .ref pc])), (pb, .inl (cI, 64, .inl (m_bi u))), (pr, .inl (cI, 259, .inl (m_ro u))), (pv, .inl (cI, 259, .inl (m_rc u))), (pw, .inl (cI, 259, .inl (m_wt u))), (ps, .inl (cI, 306, .inl (m_se u))), (pc, .inl (cI, 5, .inl (m_cn u)))] H := hP
  have hD : va_D A [(qm, .inr (1, [.int 0, .int (m_st u), .int (m_md u), .ref pb, .int (nI (m_mn u)), .ref pr, .int (nI (m_rw u)), .ref pv, .int (nI (m_sz u)), .ref pw, .int (nI (m_wn u)), .ref ps, .int (nI (m_sn u)), .ref pc])), (pb, .inl (cI, 64, .inl (m_bi u))), (pr, .inl (cI, 259, .inl (m_ro u))), (pv, .inl (cI, 259, .inl (m_rc u))), (pw, .inl (cI, 259, .inl (m_wt u))), (ps, .inl (cI, 306, .inl (m_se u))), (pc, .inl (cI, 5, .inl (m_cn u)))] := hD
  refine lv_aload_n hx hb dX1_state_5 rfl (lv_at hl 0 rfl) ?_
  refine va_get (D := (dC, dI)) (ci := 1) (v := .int (m_st u)) (C := RX1) (T := TX1) (N := 14) hx hb hts hinT hown hK hP 0 rfl rfl 1 (by decide) (hts _ (List.mem_cons_of_mem _ fl_40)) (fun _ h9 => h9) rfl dX1_state_6 ?_
  have hP9 : va_P (dC, dI) vwCl (m_W qm pb pr pv pw ps pc cI (0, m_st u, m_md u, m_mn u, m_rw u, m_sz u, m_wn u, m_sn u, m_bi u, m_ro u, m_rc u, m_wt u, m_se u, m_cn u)) H := hP
  have hD9 : va_D A (m_W qm pb pr pv pw ps pc cI (0, m_st u, m_md u, m_mn u, m_rw u, m_sz u, m_wn u, m_sn u, m_bi u, m_ro u, m_rc u, m_wt u, m_se u, m_cn u)) := hD
  exact W.iret (v := m_st u) hx hb hr (fun t ht hW => ⟨⟨_, (0, m_st u, m_md u, m_mn u, m_rw u, m_sz u, m_wn u, m_sn u, m_bi u, m_ro u, m_rc u, m_wt u, m_se u, m_cn u), rfl, ⟨(rfl), (rfl)⟩, by rw [ht]; exact hP9, va_K.moved hW.alike hK, hD9⟩, hS.F ht⟩) hS.2.2 dX1_state_9

abbrev rmX1_count : Room := { frames := 0, cells := 0, slots := 0, locals := 0 }
def m_count (u : m_S) (a0 : Int32) : m_S := if a0 < 0 then (0, m_st u, m_md u, m_mn u, m_rw u, m_sz u, m_wn u, m_sn u, m_bi u, m_ro u, m_rc u, m_wt u, m_se u, m_cn u) else (if a0 ≤ 4 then (0, m_st u, m_md u, m_mn u, m_rw u, m_sz u, m_wn u, m_sn u, m_bi u, m_ro u, m_rc u, m_wt u, m_se u, m_cn u) else (0, m_st u, m_md u, m_mn u, m_rw u, m_sz u, m_wn u, m_sn u, m_bi u, m_ro u, m_rc u, m_wt u, m_se u, m_cn u))
def m_count_r (u : m_S) (a0 : Int32) : Int32 := if a0 < 0 then (-1) else (if a0 ≤ 4 then ((m_cn u) a0.toNatClampNeg) else (-1))
set_option maxHeartbeats 4000000 in
set_option maxRecDepth 100000 in
theorem kX1_count (l : Launch) (dC : Nat → ClassId) (dI : Nat → Nat → Nat) (qm pb pr pv pw ps pc : Nat) (cI : ClassId) (sz : Nat) (u : m_S) (a0 : Int32) : Met l yX1_count vX1_count rmX1_count (va_Pc [.ref qm, .int a0] (fun U => U.heap.size = sz ∧ va_P (dC, dI) vwCl (m_W qm pb pr pv pw ps pc cI u) U.heap ∧ va_K (dC, dI) vwCl [(cI, .int)] U ∧ va_D (fun _ => True) (m_W qm pb pr pv pw ps pc cI u))) (va_Qi (fun r u2 => r = m_count_r u a0 ∧ u2 = m_count u a0) (m_At dC dI (va_A (m_W qm pb pr pv pw ps pc cI u) sz) qm pb pr pv pw ps pc cI) (va_A (m_W qm pb pr pv pw ps pc cI u) sz)) 0 0 (va_A (m_W qm pb pr pv pw ps pc cI u) sz) := by
  refine Met.ofW (cc := cX1_count) (maxL := 2) (ret := some .int) (by decide) rfl ?_
  intro p e s m args below meth c s₁ B hml hv
  obtain ⟨rfl, hsz, hP, hK, hD0⟩ := hv
  have hx := B.exec
  have hb := B.bytes
  have hr := B.returns
  have hts := atoms_spec (ws := vX1_count) B.pre
  have hown : s.vm.findClass RX1 = some m.cls := findClass_of_methodNamed B.named
  have hlocks := B.notSynchronized
  have hinT : ∀ w ∈ wsX10, w ∈ vX1_count := fun w h => List.mem_cons_of_mem _ (inM w h)
  subst hsz
  have hD := hD0.self (sz := s.heap.size)
  generalize hAe : va_A (m_W qm pb pr pv pw ps pc cI u) s.heap.size = A at hD ⊢
  have hA : ∀ q : Nat, s.heap.size ≤ q → A q := fun q h => by rw [← hAe]; exact Or.inr h
  have hS : va_S A s.heap s.heap [] := va_S.rf
  have hD : va_D A [(qm, .inr (1, [.int (m_th u), .int (m_st u), .int (m_md u), .ref pb, .int (nI (m_mn u)), .ref pr, .int (nI (m_rw u)), .ref pv, .int (nI (m_sz u)), .ref pw, .int (nI (m_wn u)), .ref ps, .int (nI (m_sn u)), .ref pc])), (pb, .inl (cI, 64, .inl (m_bi u))), (pr, .inl (cI, 259, .inl (m_ro u))), (pv, .inl (cI, 259, .inl (m_rc u))), (pw, .inl (cI, 259, .inl (m_wt u))), (ps, .inl (cI, 306, .inl (m_se u))), (pc, .inl (cI, 5, .inl (m_cn u)))] := hD
  have hP : va_P (dC, dI) vwCl [(qm, .inr (1, [.int (m_th u), .int (m_st u), .int (m_md u), .ref pb, .int (nI (m_mn u)), .ref pr, .int (nI (m_rw u)), .ref pv, .int (nI (m_sz u)), .ref pw, .int (nI (m_wn u)), .ref ps, .int (nI (m_sn u)), .ref pc])), (pb, .inl (cI, 64, .inl (m_bi u))), (pr, .inl (cI, 259, .inl (m_ro u))), (pv, .inl (cI, 259, .inl (m_rc u))), (pw, .inl (cI, 259, .inl (m_wt u))), (ps, .inl (cI, 306, .inl (m_se u))), (pc, .inl (cI, 5, .inl (m_cn u)))] s.heap := hP
  have hl := lv_entry ([.ref qm, .int a0]) (n := 2) (Nat.le_of_ble_eq_true rfl)
  rw [lg_entry_eq]
  generalize (lg_sl ([.ref qm, .int a0]) ++ List.replicate (2 - (lg_sl ([.ref qm, .int a0])).length) Slot.unset).toArray = ls at hl ⊢
  have hl : lv_has ls 2 [(0, .ref qm), (1, .int a0)] := hl
  refine lv_aload_n hx hb dX1_count_0 rfl (lv_at hl 0 rfl) ?_
  refine lv_iconst (v := 0) hx hb dX1_count_1 (by decide) ?_
  refine va_put (D := (dC, dI)) (ci := 1) (v := .int 0) (ty := .int) (C := RX1) (T := TX1) (N := 14) hx hb hts hinT tyX1 tyX1_ok nmX1 hown hK hP hD hS 0 rfl rfl 0 (by decide) (hts _ (List.mem_cons_of_mem _ fl_28)) (fun _ h9 => h9) rfl (by decide +kernel) rfl rfl (Nat.le_of_ble_eq_true rfl) dX1_count_2 (fun H locs hP hD hS => ?_)
  have hP : va_P (dC, dI) vwCl [(qm, .inr (1, [.int 0, .int (m_st u), .int (m_md u), .ref pb, .int (nI (m_mn u)), .ref pr, .int (nI (m_rw u)), .ref pv, .int (nI (m_sz u)), .ref pw, .int (nI (m_wn u)), .ref ps, .int (nI (m_sn u)), .ref pc])), (pb, .inl (cI, 64, .inl (m_bi u))), (pr, .inl (cI, 259, .inl (m_ro u))), (pv, .inl (cI, 259, .inl (m_rc u))), (pw, .inl (cI, 259, .inl (m_wt u))), (ps, .inl (cI, 306, .inl (m_se u))), (pc, .inl (cI, 5, .inl (m_cn u)))] H := hP
  have hD : va_D A [(qm, .inr (1, [.int 0, .int (m_st u), .int (m_md u), .ref pb, .int (nI (m_mn u)), .ref pr, .int (nI (m_rw u)), .ref pv, .int (nI (m_sz u)), .ref pw, .int (nI (m_wn u)), .ref ps, .int (nI (m_sn u)), .ref pc])), (pb, .inl (cI, 64, .inl (m_bi u))), (pr, .inl (cI, 259, .inl (m_ro u))), (pv, .inl (cI, 259, .inl (m_rc u))), (pw, .inl (cI, 259, .inl (m_wt u))), (ps, .inl (cI, 306, .inl (m_se u))), (pc, .inl (cI, 5, .inl (m_cn u)))] := hD
  refine lv_iload_n hx hb dX1_count_5 rfl (lv_at hl 1 rfl) ?_
  refine lv_if_lt (tgt := 14) hx hb dX1_count_6 (by decide) (fun c_1 => ?_) (fun c_1 => ?_)
  · refine lv_iconst (v := (-1)) hx hb dX1_count_14 (by decide) ?_
    refine lv_goto (tgt := 24) hx hb dX1_count_15 (by decide) ?_
    have hP9 : va_P (dC, dI) vwCl (m_W qm pb pr pv pw ps pc cI (0, m_st u, m_md u, m_mn u, m_rw u, m_sz u, m_wn u, m_sn u, m_bi u, m_ro u, m_rc u, m_wt u, m_se u, m_cn u)) H := hP
    have hD9 : va_D A (m_W qm pb pr pv pw ps pc cI (0, m_st u, m_md u, m_mn u, m_rw u, m_sz u, m_wn u, m_sn u, m_bi u, m_ro u, m_rc u, m_wt u, m_se u, m_cn u)) := hD
    exact W.iret (v := (-1)) hx hb hr (fun t ht hW => ⟨⟨_, (0, m_st u, m_md u, m_mn u, m_rw u, m_sz u, m_wn u, m_sn u, m_bi u, m_ro u, m_rc u, m_wt u, m_se u, m_cn u), rfl, ⟨(by unfold m_count_r; rw [if_pos c_1]), (by unfold m_count; rw [if_pos c_1])⟩, by rw [ht]; exact hP9, va_K.moved hW.alike hK, hD9⟩, hS.F ht⟩) hS.2.2 dX1_count_24
  · refine lv_iload_n hx hb dX1_count_9 rfl (lv_at hl 1 rfl) ?_
    refine lv_iconst (v := 4) hx hb dX1_count_10 (by decide) ?_
    refine lv_icmp_le (tgt := 18) hx hb dX1_count_11 (by decide) (fun c_2 => ?_) (fun c_2 => ?_)
    · refine lv_aload_n hx hb dX1_count_18 rfl (lv_at hl 0 rfl) ?_
      refine va_get (D := (dC, dI)) (ci := 1) (v := .ref pc) (C := RX1) (T := TX1) (N := 14) hx hb hts hinT hown hK hP 0 rfl rfl 13 (by decide) (hts _ (List.mem_cons_of_mem _ fl_25)) (fun _ h9 => h9) rfl dX1_count_19 ?_
      refine lv_iload_n hx hb dX1_count_22 rfl (lv_at hl 1 rfl) ?_
      refine va_iald hx hb hK hP 6 0 rfl rfl (j_in4 (by decide) c_1 c_2) dX1_count_23 ?_
      have hP9 : va_P (dC, dI) vwCl (m_W qm pb pr pv pw ps pc cI (0, m_st u, m_md u, m_mn u, m_rw u, m_sz u, m_wn u, m_sn u, m_bi u, m_ro u, m_rc u, m_wt u, m_se u, m_cn u)) H := hP
      have hD9 : va_D A (m_W qm pb pr pv pw ps pc cI (0, m_st u, m_md u, m_mn u, m_rw u, m_sz u, m_wn u, m_sn u, m_bi u, m_ro u, m_rc u, m_wt u, m_se u, m_cn u)) := hD
      exact W.iret (v := (m_cn u) a0.toNatClampNeg) hx hb hr (fun t ht hW => ⟨⟨_, (0, m_st u, m_md u, m_mn u, m_rw u, m_sz u, m_wn u, m_sn u, m_bi u, m_ro u, m_rc u, m_wt u, m_se u, m_cn u), rfl, ⟨(by unfold m_count_r; rw [if_neg c_1, if_pos c_2]), (by unfold m_count; rw [if_neg c_1, if_pos c_2])⟩, by rw [ht]; exact hP9, va_K.moved hW.alike hK, hD9⟩, hS.F ht⟩) hS.2.2 dX1_count_24
    · refine lv_iconst (v := (-1)) hx hb dX1_count_14 (by decide) ?_
      refine lv_goto (tgt := 24) hx hb dX1_count_15 (by decide) ?_
      have hP9 : va_P (dC, dI) vwCl (m_W qm pb pr pv pw ps pc cI (0, m_st u, m_md u, m_mn u, m_rw u, m_sz u, m_wn u, m_sn u, m_bi u, m_ro u, m_rc u, m_wt u, m_se u, m_cn u)) H := hP
      have hD9 : va_D A (m_W qm pb pr pv pw ps pc cI (0, m_st u, m_md u, m_mn u, m_rw u, m_sz u, m_wn u, m_sn u, m_bi u, m_ro u, m_rc u, m_wt u, m_se u, m_cn u)) := hD
      exact W.iret (v := (-1)) hx hb hr (fun t ht hW => ⟨⟨_, (0, m_st u, m_md u, m_mn u, m_rw u, m_sz u, m_wn u, m_sn u, m_bi u, m_ro u, m_rc u, m_wt u, m_se u, m_cn u), rfl, ⟨(by unfold m_count_r; rw [if_neg c_1, if_neg c_2]), (by unfold m_count; rw [if_neg c_1, if_neg c_2])⟩, by rw [ht]; exact hP9, va_K.moved hW.alike hK, hD9⟩, hS.F ht⟩) hS.2.2 dX1_count_24

abbrev rmX1_size : Room := { frames := 0, cells := 0, slots := 0, locals := 0 }
def m_size (u : m_S)  : m_S := (0, m_st u, m_md u, m_mn u, m_rw u, m_sz u, m_wn u, m_sn u, m_bi u, m_ro u, m_rc u, m_wt u, m_se u, m_cn u)
def m_size_r (u : m_S)  : Int32 := nI (m_sz u)
set_option maxHeartbeats 4000000 in
set_option maxRecDepth 100000 in
theorem kX1_size (l : Launch) (dC : Nat → ClassId) (dI : Nat → Nat → Nat) (qm pb pr pv pw ps pc : Nat) (cI : ClassId) (sz : Nat) (u : m_S)  : Met l yX1_size vX1_size rmX1_size (va_Pc [.ref qm] (fun U => U.heap.size = sz ∧ va_P (dC, dI) vwCl (m_W qm pb pr pv pw ps pc cI u) U.heap ∧ va_K (dC, dI) vwCl [(cI, .int)] U ∧ va_D (fun _ => True) (m_W qm pb pr pv pw ps pc cI u))) (va_Qi (fun r u2 => r = m_size_r u ∧ u2 = m_size u) (m_At dC dI (va_A (m_W qm pb pr pv pw ps pc cI u) sz) qm pb pr pv pw ps pc cI) (va_A (m_W qm pb pr pv pw ps pc cI u) sz)) 0 0 (va_A (m_W qm pb pr pv pw ps pc cI u) sz) := by
  refine Met.ofW (cc := cX1_size) (maxL := 1) (ret := some .int) (by decide) rfl ?_
  intro p e s m args below meth c s₁ B hml hv
  obtain ⟨rfl, hsz, hP, hK, hD0⟩ := hv
  have hx := B.exec
  have hb := B.bytes
  have hr := B.returns
  have hts := atoms_spec (ws := vX1_size) B.pre
  have hown : s.vm.findClass RX1 = some m.cls := findClass_of_methodNamed B.named
  have hlocks := B.notSynchronized
  have hinT : ∀ w ∈ wsX10, w ∈ vX1_size := fun w h => List.mem_cons_of_mem _ (inM w h)
  subst hsz
  have hD := hD0.self (sz := s.heap.size)
  generalize hAe : va_A (m_W qm pb pr pv pw ps pc cI u) s.heap.size = A at hD ⊢
  have hA : ∀ q : Nat, s.heap.size ≤ q → A q := fun q h => by rw [← hAe]; exact Or.inr h
  have hS : va_S A s.heap s.heap [] := va_S.rf
  have hD : va_D A [(qm, .inr (1, [.int (m_th u), .int (m_st u), .int (m_md u), .ref pb, .int (nI (m_mn u)), .ref pr, .int (nI (m_rw u)), .ref pv, .int (nI (m_sz u)), .ref pw, .int (nI (m_wn u)), .ref ps, .int (nI (m_sn u)), .ref pc])), (pb, .inl (cI, 64, .inl (m_bi u))), (pr, .inl (cI, 259, .inl (m_ro u))), (pv, .inl (cI, 259, .inl (m_rc u))), (pw, .inl (cI, 259, .inl (m_wt u))), (ps, .inl (cI, 306, .inl (m_se u))), (pc, .inl (cI, 5, .inl (m_cn u)))] := hD
  have hP : va_P (dC, dI) vwCl [(qm, .inr (1, [.int (m_th u), .int (m_st u), .int (m_md u), .ref pb, .int (nI (m_mn u)), .ref pr, .int (nI (m_rw u)), .ref pv, .int (nI (m_sz u)), .ref pw, .int (nI (m_wn u)), .ref ps, .int (nI (m_sn u)), .ref pc])), (pb, .inl (cI, 64, .inl (m_bi u))), (pr, .inl (cI, 259, .inl (m_ro u))), (pv, .inl (cI, 259, .inl (m_rc u))), (pw, .inl (cI, 259, .inl (m_wt u))), (ps, .inl (cI, 306, .inl (m_se u))), (pc, .inl (cI, 5, .inl (m_cn u)))] s.heap := hP
  have hl := lv_entry ([.ref qm]) (n := 1) (Nat.le_of_ble_eq_true rfl)
  rw [lg_entry_eq]
  generalize (lg_sl ([.ref qm]) ++ List.replicate (1 - (lg_sl ([.ref qm])).length) Slot.unset).toArray = ls at hl ⊢
  have hl : lv_has ls 1 [(0, .ref qm)] := hl
  refine lv_aload_n hx hb dX1_size_0 rfl (lv_at hl 0 rfl) ?_
  refine lv_iconst (v := 0) hx hb dX1_size_1 (by decide) ?_
  refine va_put (D := (dC, dI)) (ci := 1) (v := .int 0) (ty := .int) (C := RX1) (T := TX1) (N := 14) hx hb hts hinT tyX1 tyX1_ok nmX1 hown hK hP hD hS 0 rfl rfl 0 (by decide) (hts _ (List.mem_cons_of_mem _ fl_28)) (fun _ h9 => h9) rfl (by decide +kernel) rfl rfl (Nat.le_of_ble_eq_true rfl) dX1_size_2 (fun H locs hP hD hS => ?_)
  have hP : va_P (dC, dI) vwCl [(qm, .inr (1, [.int 0, .int (m_st u), .int (m_md u), .ref pb, .int (nI (m_mn u)), .ref pr, .int (nI (m_rw u)), .ref pv, .int (nI (m_sz u)), .ref pw, .int (nI (m_wn u)), .ref ps, .int (nI (m_sn u)), .ref pc])), (pb, .inl (cI, 64, .inl (m_bi u))), (pr, .inl (cI, 259, .inl (m_ro u))), (pv, .inl (cI, 259, .inl (m_rc u))), (pw, .inl (cI, 259, .inl (m_wt u))), (ps, .inl (cI, 306, .inl (m_se u))), (pc, .inl (cI, 5, .inl (m_cn u)))] H := hP
  have hD : va_D A [(qm, .inr (1, [.int 0, .int (m_st u), .int (m_md u), .ref pb, .int (nI (m_mn u)), .ref pr, .int (nI (m_rw u)), .ref pv, .int (nI (m_sz u)), .ref pw, .int (nI (m_wn u)), .ref ps, .int (nI (m_sn u)), .ref pc])), (pb, .inl (cI, 64, .inl (m_bi u))), (pr, .inl (cI, 259, .inl (m_ro u))), (pv, .inl (cI, 259, .inl (m_rc u))), (pw, .inl (cI, 259, .inl (m_wt u))), (ps, .inl (cI, 306, .inl (m_se u))), (pc, .inl (cI, 5, .inl (m_cn u)))] := hD
  refine lv_aload_n hx hb dX1_size_5 rfl (lv_at hl 0 rfl) ?_
  refine va_get (D := (dC, dI)) (ci := 1) (v := .int (nI (m_sz u))) (C := RX1) (T := TX1) (N := 14) hx hb hts hinT hown hK hP 0 rfl rfl 8 (by decide) (hts _ (List.mem_cons_of_mem _ fl_49)) (fun _ h9 => h9) rfl dX1_size_6 ?_
  have hP9 : va_P (dC, dI) vwCl (m_W qm pb pr pv pw ps pc cI (0, m_st u, m_md u, m_mn u, m_rw u, m_sz u, m_wn u, m_sn u, m_bi u, m_ro u, m_rc u, m_wt u, m_se u, m_cn u)) H := hP
  have hD9 : va_D A (m_W qm pb pr pv pw ps pc cI (0, m_st u, m_md u, m_mn u, m_rw u, m_sz u, m_wn u, m_sn u, m_bi u, m_ro u, m_rc u, m_wt u, m_se u, m_cn u)) := hD
  exact W.iret (v := nI (m_sz u)) hx hb hr (fun t ht hW => ⟨⟨_, (0, m_st u, m_md u, m_mn u, m_rw u, m_sz u, m_wn u, m_sn u, m_bi u, m_ro u, m_rc u, m_wt u, m_se u, m_cn u), rfl, ⟨(rfl), (rfl)⟩, by rw [ht]; exact hP9, va_K.moved hW.alike hK, hD9⟩, hS.F ht⟩) hS.2.2 dX1_size_9

abbrev rmX1_byteAt : Room := { frames := 0, cells := 0, slots := 0, locals := 0 }
def m_byteAt (u : m_S) (a0 : Int32) : m_S := if a0 < 0 then (0, m_st u, m_md u, m_mn u, m_rw u, m_sz u, m_wn u, m_sn u, m_bi u, m_ro u, m_rc u, m_wt u, m_se u, m_cn u) else (if a0 < (nI (m_sz u)) then (0, m_st u, m_md u, m_mn u, m_rw u, m_sz u, m_wn u, m_sn u, m_bi u, m_ro u, m_rc u, m_wt u, m_se u, m_cn u) else (0, m_st u, m_md u, m_mn u, m_rw u, m_sz u, m_wn u, m_sn u, m_bi u, m_ro u, m_rc u, m_wt u, m_se u, m_cn u))
def m_byteAt_r (u : m_S) (a0 : Int32) : Int32 := if a0 < 0 then (-1) else (if a0 < (nI (m_sz u)) then ((m_rc u) a0.toNatClampNeg) else (-1))
set_option maxHeartbeats 4000000 in
set_option maxRecDepth 100000 in
theorem kX1_byteAt (l : Launch) (dC : Nat → ClassId) (dI : Nat → Nat → Nat) (qm pb pr pv pw ps pc : Nat) (cI : ClassId) (sz : Nat) (u : m_S) (a0 : Int32) (hsz : m_sz u ≤ 259) : Met l yX1_byteAt vX1_byteAt rmX1_byteAt (va_Pc [.ref qm, .int a0] (fun U => U.heap.size = sz ∧ va_P (dC, dI) vwCl (m_W qm pb pr pv pw ps pc cI u) U.heap ∧ va_K (dC, dI) vwCl [(cI, .int)] U ∧ va_D (fun _ => True) (m_W qm pb pr pv pw ps pc cI u))) (va_Qi (fun r u2 => r = m_byteAt_r u a0 ∧ u2 = m_byteAt u a0) (m_At dC dI (va_A (m_W qm pb pr pv pw ps pc cI u) sz) qm pb pr pv pw ps pc cI) (va_A (m_W qm pb pr pv pw ps pc cI u) sz)) 0 0 (va_A (m_W qm pb pr pv pw ps pc cI u) sz) := by
  refine Met.ofW (cc := cX1_byteAt) (maxL := 2) (ret := some .int) (by decide) rfl ?_
  intro p e s m args below meth c s₁ B hml hv
  obtain ⟨rfl, hsz, hP, hK, hD0⟩ := hv
  have hx := B.exec
  have hb := B.bytes
  have hr := B.returns
  have hts := atoms_spec (ws := vX1_byteAt) B.pre
  have hown : s.vm.findClass RX1 = some m.cls := findClass_of_methodNamed B.named
  have hlocks := B.notSynchronized
  have hinT : ∀ w ∈ wsX10, w ∈ vX1_byteAt := fun w h => List.mem_cons_of_mem _ (inM w h)
  subst hsz
  have hD := hD0.self (sz := s.heap.size)
  generalize hAe : va_A (m_W qm pb pr pv pw ps pc cI u) s.heap.size = A at hD ⊢
  have hA : ∀ q : Nat, s.heap.size ≤ q → A q := fun q h => by rw [← hAe]; exact Or.inr h
  have hS : va_S A s.heap s.heap [] := va_S.rf
  have hD : va_D A [(qm, .inr (1, [.int (m_th u), .int (m_st u), .int (m_md u), .ref pb, .int (nI (m_mn u)), .ref pr, .int (nI (m_rw u)), .ref pv, .int (nI (m_sz u)), .ref pw, .int (nI (m_wn u)), .ref ps, .int (nI (m_sn u)), .ref pc])), (pb, .inl (cI, 64, .inl (m_bi u))), (pr, .inl (cI, 259, .inl (m_ro u))), (pv, .inl (cI, 259, .inl (m_rc u))), (pw, .inl (cI, 259, .inl (m_wt u))), (ps, .inl (cI, 306, .inl (m_se u))), (pc, .inl (cI, 5, .inl (m_cn u)))] := hD
  have hP : va_P (dC, dI) vwCl [(qm, .inr (1, [.int (m_th u), .int (m_st u), .int (m_md u), .ref pb, .int (nI (m_mn u)), .ref pr, .int (nI (m_rw u)), .ref pv, .int (nI (m_sz u)), .ref pw, .int (nI (m_wn u)), .ref ps, .int (nI (m_sn u)), .ref pc])), (pb, .inl (cI, 64, .inl (m_bi u))), (pr, .inl (cI, 259, .inl (m_ro u))), (pv, .inl (cI, 259, .inl (m_rc u))), (pw, .inl (cI, 259, .inl (m_wt u))), (ps, .inl (cI, 306, .inl (m_se u))), (pc, .inl (cI, 5, .inl (m_cn u)))] s.heap := hP
  have hl := lv_entry ([.ref qm, .int a0]) (n := 2) (Nat.le_of_ble_eq_true rfl)
  rw [lg_entry_eq]
  generalize (lg_sl ([.ref qm, .int a0]) ++ List.replicate (2 - (lg_sl ([.ref qm, .int a0])).length) Slot.unset).toArray = ls at hl ⊢
  have hl : lv_has ls 2 [(0, .ref qm), (1, .int a0)] := hl
  refine lv_aload_n hx hb dX1_byteAt_0 rfl (lv_at hl 0 rfl) ?_
  refine lv_iconst (v := 0) hx hb dX1_byteAt_1 (by decide) ?_
  refine va_put (D := (dC, dI)) (ci := 1) (v := .int 0) (ty := .int) (C := RX1) (T := TX1) (N := 14) hx hb hts hinT tyX1 tyX1_ok nmX1 hown hK hP hD hS 0 rfl rfl 0 (by decide) (hts _ (List.mem_cons_of_mem _ fl_28)) (fun _ h9 => h9) rfl (by decide +kernel) rfl rfl (Nat.le_of_ble_eq_true rfl) dX1_byteAt_2 (fun H locs hP hD hS => ?_)
  have hP : va_P (dC, dI) vwCl [(qm, .inr (1, [.int 0, .int (m_st u), .int (m_md u), .ref pb, .int (nI (m_mn u)), .ref pr, .int (nI (m_rw u)), .ref pv, .int (nI (m_sz u)), .ref pw, .int (nI (m_wn u)), .ref ps, .int (nI (m_sn u)), .ref pc])), (pb, .inl (cI, 64, .inl (m_bi u))), (pr, .inl (cI, 259, .inl (m_ro u))), (pv, .inl (cI, 259, .inl (m_rc u))), (pw, .inl (cI, 259, .inl (m_wt u))), (ps, .inl (cI, 306, .inl (m_se u))), (pc, .inl (cI, 5, .inl (m_cn u)))] H := hP
  have hD : va_D A [(qm, .inr (1, [.int 0, .int (m_st u), .int (m_md u), .ref pb, .int (nI (m_mn u)), .ref pr, .int (nI (m_rw u)), .ref pv, .int (nI (m_sz u)), .ref pw, .int (nI (m_wn u)), .ref ps, .int (nI (m_sn u)), .ref pc])), (pb, .inl (cI, 64, .inl (m_bi u))), (pr, .inl (cI, 259, .inl (m_ro u))), (pv, .inl (cI, 259, .inl (m_rc u))), (pw, .inl (cI, 259, .inl (m_wt u))), (ps, .inl (cI, 306, .inl (m_se u))), (pc, .inl (cI, 5, .inl (m_cn u)))] := hD
  refine lv_iload_n hx hb dX1_byteAt_5 rfl (lv_at hl 1 rfl) ?_
  refine lv_if_lt (tgt := 17) hx hb dX1_byteAt_6 (by decide) (fun c_1 => ?_) (fun c_1 => ?_)
  · refine lv_iconst (v := (-1)) hx hb dX1_byteAt_17 (by decide) ?_
    refine lv_goto (tgt := 27) hx hb dX1_byteAt_18 (by decide) ?_
    have hP9 : va_P (dC, dI) vwCl (m_W qm pb pr pv pw ps pc cI (0, m_st u, m_md u, m_mn u, m_rw u, m_sz u, m_wn u, m_sn u, m_bi u, m_ro u, m_rc u, m_wt u, m_se u, m_cn u)) H := hP
    have hD9 : va_D A (m_W qm pb pr pv pw ps pc cI (0, m_st u, m_md u, m_mn u, m_rw u, m_sz u, m_wn u, m_sn u, m_bi u, m_ro u, m_rc u, m_wt u, m_se u, m_cn u)) := hD
    exact W.iret (v := (-1)) hx hb hr (fun t ht hW => ⟨⟨_, (0, m_st u, m_md u, m_mn u, m_rw u, m_sz u, m_wn u, m_sn u, m_bi u, m_ro u, m_rc u, m_wt u, m_se u, m_cn u), rfl, ⟨(by unfold m_byteAt_r; rw [if_pos c_1]), (by unfold m_byteAt; rw [if_pos c_1])⟩, by rw [ht]; exact hP9, va_K.moved hW.alike hK, hD9⟩, hS.F ht⟩) hS.2.2 dX1_byteAt_27
  · refine lv_iload_n hx hb dX1_byteAt_9 rfl (lv_at hl 1 rfl) ?_
    refine lv_aload_n hx hb dX1_byteAt_10 rfl (lv_at hl 0 rfl) ?_
    refine va_get (D := (dC, dI)) (ci := 1) (v := .int (nI (m_sz u))) (C := RX1) (T := TX1) (N := 14) hx hb hts hinT hown hK hP 0 rfl rfl 8 (by decide) (hts _ (List.mem_cons_of_mem _ fl_49)) (fun _ h9 => h9) rfl dX1_byteAt_11 ?_
    refine lv_icmp_lt (tgt := 21) hx hb dX1_byteAt_14 (by decide) (fun c_2 => ?_) (fun c_2 => ?_)
    · refine lv_aload_n hx hb dX1_byteAt_21 rfl (lv_at hl 0 rfl) ?_
      refine va_get (D := (dC, dI)) (ci := 1) (v := .ref pv) (C := RX1) (T := TX1) (N := 14) hx hb hts hinT hown hK hP 0 rfl rfl 7 (by decide) (hts _ (List.mem_cons_of_mem _ fl_16)) (fun _ h9 => h9) rfl dX1_byteAt_22 ?_
      refine lv_iload_n hx hb dX1_byteAt_25 rfl (lv_at hl 1 rfl) ?_
      refine va_iald hx hb hK hP 3 0 rfl rfl (j_in5 ⟨hsz, by decide⟩ c_1 c_2) dX1_byteAt_26 ?_
      have hP9 : va_P (dC, dI) vwCl (m_W qm pb pr pv pw ps pc cI (0, m_st u, m_md u, m_mn u, m_rw u, m_sz u, m_wn u, m_sn u, m_bi u, m_ro u, m_rc u, m_wt u, m_se u, m_cn u)) H := hP
      have hD9 : va_D A (m_W qm pb pr pv pw ps pc cI (0, m_st u, m_md u, m_mn u, m_rw u, m_sz u, m_wn u, m_sn u, m_bi u, m_ro u, m_rc u, m_wt u, m_se u, m_cn u)) := hD
      exact W.iret (v := (m_rc u) a0.toNatClampNeg) hx hb hr (fun t ht hW => ⟨⟨_, (0, m_st u, m_md u, m_mn u, m_rw u, m_sz u, m_wn u, m_sn u, m_bi u, m_ro u, m_rc u, m_wt u, m_se u, m_cn u), rfl, ⟨(by unfold m_byteAt_r; rw [if_neg c_1, if_pos c_2]), (by unfold m_byteAt; rw [if_neg c_1, if_pos c_2])⟩, by rw [ht]; exact hP9, va_K.moved hW.alike hK, hD9⟩, hS.F ht⟩) hS.2.2 dX1_byteAt_27
    · refine lv_iconst (v := (-1)) hx hb dX1_byteAt_17 (by decide) ?_
      refine lv_goto (tgt := 27) hx hb dX1_byteAt_18 (by decide) ?_
      have hP9 : va_P (dC, dI) vwCl (m_W qm pb pr pv pw ps pc cI (0, m_st u, m_md u, m_mn u, m_rw u, m_sz u, m_wn u, m_sn u, m_bi u, m_ro u, m_rc u, m_wt u, m_se u, m_cn u)) H := hP
      have hD9 : va_D A (m_W qm pb pr pv pw ps pc cI (0, m_st u, m_md u, m_mn u, m_rw u, m_sz u, m_wn u, m_sn u, m_bi u, m_ro u, m_rc u, m_wt u, m_se u, m_cn u)) := hD
      exact W.iret (v := (-1)) hx hb hr (fun t ht hW => ⟨⟨_, (0, m_st u, m_md u, m_mn u, m_rw u, m_sz u, m_wn u, m_sn u, m_bi u, m_ro u, m_rc u, m_wt u, m_se u, m_cn u), rfl, ⟨(by unfold m_byteAt_r; rw [if_neg c_1, if_neg c_2]), (by unfold m_byteAt; rw [if_neg c_1, if_neg c_2])⟩, by rw [ht]; exact hP9, va_K.moved hW.alike hK, hD9⟩, hS.F ht⟩) hS.2.2 dX1_byteAt_27

abbrev rmX1_sent : Room := { frames := 0, cells := 0, slots := 0, locals := 0 }
def m_sent (u : m_S) (a0 : Int32) : m_S := if a0 < 0 then (0, m_st u, m_md u, m_mn u, m_rw u, m_sz u, m_wn u, m_sn u, m_bi u, m_ro u, m_rc u, m_wt u, m_se u, m_cn u) else (if a0 < (nI (m_sn u)) then (0, m_st u, m_md u, m_mn u, m_rw u, m_sz u, m_wn u, m_sn u, m_bi u, m_ro u, m_rc u, m_wt u, m_se u, m_cn u) else (0, m_st u, m_md u, m_mn u, m_rw u, m_sz u, m_wn u, m_sn u, m_bi u, m_ro u, m_rc u, m_wt u, m_se u, m_cn u))
def m_sent_r (u : m_S) (a0 : Int32) : Int32 := if a0 < 0 then (-1) else (if a0 < (nI (m_sn u)) then ((m_se u) a0.toNatClampNeg) else (-1))
set_option maxHeartbeats 4000000 in
set_option maxRecDepth 100000 in
theorem kX1_sent (l : Launch) (dC : Nat → ClassId) (dI : Nat → Nat → Nat) (qm pb pr pv pw ps pc : Nat) (cI : ClassId) (sz : Nat) (u : m_S) (a0 : Int32) (hsz : m_sn u ≤ 306) : Met l yX1_sent vX1_sent rmX1_sent (va_Pc [.ref qm, .int a0] (fun U => U.heap.size = sz ∧ va_P (dC, dI) vwCl (m_W qm pb pr pv pw ps pc cI u) U.heap ∧ va_K (dC, dI) vwCl [(cI, .int)] U ∧ va_D (fun _ => True) (m_W qm pb pr pv pw ps pc cI u))) (va_Qi (fun r u2 => r = m_sent_r u a0 ∧ u2 = m_sent u a0) (m_At dC dI (va_A (m_W qm pb pr pv pw ps pc cI u) sz) qm pb pr pv pw ps pc cI) (va_A (m_W qm pb pr pv pw ps pc cI u) sz)) 0 0 (va_A (m_W qm pb pr pv pw ps pc cI u) sz) := by
  refine Met.ofW (cc := cX1_sent) (maxL := 2) (ret := some .int) (by decide) rfl ?_
  intro p e s m args below meth c s₁ B hml hv
  obtain ⟨rfl, hsz, hP, hK, hD0⟩ := hv
  have hx := B.exec
  have hb := B.bytes
  have hr := B.returns
  have hts := atoms_spec (ws := vX1_sent) B.pre
  have hown : s.vm.findClass RX1 = some m.cls := findClass_of_methodNamed B.named
  have hlocks := B.notSynchronized
  have hinT : ∀ w ∈ wsX10, w ∈ vX1_sent := fun w h => List.mem_cons_of_mem _ (inM w h)
  subst hsz
  have hD := hD0.self (sz := s.heap.size)
  generalize hAe : va_A (m_W qm pb pr pv pw ps pc cI u) s.heap.size = A at hD ⊢
  have hA : ∀ q : Nat, s.heap.size ≤ q → A q := fun q h => by rw [← hAe]; exact Or.inr h
  have hS : va_S A s.heap s.heap [] := va_S.rf
  have hD : va_D A [(qm, .inr (1, [.int (m_th u), .int (m_st u), .int (m_md u), .ref pb, .int (nI (m_mn u)), .ref pr, .int (nI (m_rw u)), .ref pv, .int (nI (m_sz u)), .ref pw, .int (nI (m_wn u)), .ref ps, .int (nI (m_sn u)), .ref pc])), (pb, .inl (cI, 64, .inl (m_bi u))), (pr, .inl (cI, 259, .inl (m_ro u))), (pv, .inl (cI, 259, .inl (m_rc u))), (pw, .inl (cI, 259, .inl (m_wt u))), (ps, .inl (cI, 306, .inl (m_se u))), (pc, .inl (cI, 5, .inl (m_cn u)))] := hD
  have hP : va_P (dC, dI) vwCl [(qm, .inr (1, [.int (m_th u), .int (m_st u), .int (m_md u), .ref pb, .int (nI (m_mn u)), .ref pr, .int (nI (m_rw u)), .ref pv, .int (nI (m_sz u)), .ref pw, .int (nI (m_wn u)), .ref ps, .int (nI (m_sn u)), .ref pc])), (pb, .inl (cI, 64, .inl (m_bi u))), (pr, .inl (cI, 259, .inl (m_ro u))), (pv, .inl (cI, 259, .inl (m_rc u))), (pw, .inl (cI, 259, .inl (m_wt u))), (ps, .inl (cI, 306, .inl (m_se u))), (pc, .inl (cI, 5, .inl (m_cn u)))] s.heap := hP
  have hl := lv_entry ([.ref qm, .int a0]) (n := 2) (Nat.le_of_ble_eq_true rfl)
  rw [lg_entry_eq]
  generalize (lg_sl ([.ref qm, .int a0]) ++ List.replicate (2 - (lg_sl ([.ref qm, .int a0])).length) Slot.unset).toArray = ls at hl ⊢
  have hl : lv_has ls 2 [(0, .ref qm), (1, .int a0)] := hl
  refine lv_aload_n hx hb dX1_sent_0 rfl (lv_at hl 0 rfl) ?_
  refine lv_iconst (v := 0) hx hb dX1_sent_1 (by decide) ?_
  refine va_put (D := (dC, dI)) (ci := 1) (v := .int 0) (ty := .int) (C := RX1) (T := TX1) (N := 14) hx hb hts hinT tyX1 tyX1_ok nmX1 hown hK hP hD hS 0 rfl rfl 0 (by decide) (hts _ (List.mem_cons_of_mem _ fl_28)) (fun _ h9 => h9) rfl (by decide +kernel) rfl rfl (Nat.le_of_ble_eq_true rfl) dX1_sent_2 (fun H locs hP hD hS => ?_)
  have hP : va_P (dC, dI) vwCl [(qm, .inr (1, [.int 0, .int (m_st u), .int (m_md u), .ref pb, .int (nI (m_mn u)), .ref pr, .int (nI (m_rw u)), .ref pv, .int (nI (m_sz u)), .ref pw, .int (nI (m_wn u)), .ref ps, .int (nI (m_sn u)), .ref pc])), (pb, .inl (cI, 64, .inl (m_bi u))), (pr, .inl (cI, 259, .inl (m_ro u))), (pv, .inl (cI, 259, .inl (m_rc u))), (pw, .inl (cI, 259, .inl (m_wt u))), (ps, .inl (cI, 306, .inl (m_se u))), (pc, .inl (cI, 5, .inl (m_cn u)))] H := hP
  have hD : va_D A [(qm, .inr (1, [.int 0, .int (m_st u), .int (m_md u), .ref pb, .int (nI (m_mn u)), .ref pr, .int (nI (m_rw u)), .ref pv, .int (nI (m_sz u)), .ref pw, .int (nI (m_wn u)), .ref ps, .int (nI (m_sn u)), .ref pc])), (pb, .inl (cI, 64, .inl (m_bi u))), (pr, .inl (cI, 259, .inl (m_ro u))), (pv, .inl (cI, 259, .inl (m_rc u))), (pw, .inl (cI, 259, .inl (m_wt u))), (ps, .inl (cI, 306, .inl (m_se u))), (pc, .inl (cI, 5, .inl (m_cn u)))] := hD
  refine lv_iload_n hx hb dX1_sent_5 rfl (lv_at hl 1 rfl) ?_
  refine lv_if_lt (tgt := 17) hx hb dX1_sent_6 (by decide) (fun c_1 => ?_) (fun c_1 => ?_)
  · refine lv_iconst (v := (-1)) hx hb dX1_sent_17 (by decide) ?_
    refine lv_goto (tgt := 27) hx hb dX1_sent_18 (by decide) ?_
    have hP9 : va_P (dC, dI) vwCl (m_W qm pb pr pv pw ps pc cI (0, m_st u, m_md u, m_mn u, m_rw u, m_sz u, m_wn u, m_sn u, m_bi u, m_ro u, m_rc u, m_wt u, m_se u, m_cn u)) H := hP
    have hD9 : va_D A (m_W qm pb pr pv pw ps pc cI (0, m_st u, m_md u, m_mn u, m_rw u, m_sz u, m_wn u, m_sn u, m_bi u, m_ro u, m_rc u, m_wt u, m_se u, m_cn u)) := hD
    exact W.iret (v := (-1)) hx hb hr (fun t ht hW => ⟨⟨_, (0, m_st u, m_md u, m_mn u, m_rw u, m_sz u, m_wn u, m_sn u, m_bi u, m_ro u, m_rc u, m_wt u, m_se u, m_cn u), rfl, ⟨(by unfold m_sent_r; rw [if_pos c_1]), (by unfold m_sent; rw [if_pos c_1])⟩, by rw [ht]; exact hP9, va_K.moved hW.alike hK, hD9⟩, hS.F ht⟩) hS.2.2 dX1_sent_27
  · refine lv_iload_n hx hb dX1_sent_9 rfl (lv_at hl 1 rfl) ?_
    refine lv_aload_n hx hb dX1_sent_10 rfl (lv_at hl 0 rfl) ?_
    refine va_get (D := (dC, dI)) (ci := 1) (v := .int (nI (m_sn u))) (C := RX1) (T := TX1) (N := 14) hx hb hts hinT hown hK hP 0 rfl rfl 12 (by decide) (hts _ (List.mem_cons_of_mem _ fl_77)) (fun _ h9 => h9) rfl dX1_sent_11 ?_
    refine lv_icmp_lt (tgt := 21) hx hb dX1_sent_14 (by decide) (fun c_2 => ?_) (fun c_2 => ?_)
    · refine lv_aload_n hx hb dX1_sent_21 rfl (lv_at hl 0 rfl) ?_
      refine va_get (D := (dC, dI)) (ci := 1) (v := .ref ps) (C := RX1) (T := TX1) (N := 14) hx hb hts hinT hown hK hP 0 rfl rfl 11 (by decide) (hts _ (List.mem_cons_of_mem _ fl_22)) (fun _ h9 => h9) rfl dX1_sent_22 ?_
      refine lv_iload_n hx hb dX1_sent_25 rfl (lv_at hl 1 rfl) ?_
      refine va_iald hx hb hK hP 5 0 rfl rfl (j_in5 ⟨hsz, by decide⟩ c_1 c_2) dX1_sent_26 ?_
      have hP9 : va_P (dC, dI) vwCl (m_W qm pb pr pv pw ps pc cI (0, m_st u, m_md u, m_mn u, m_rw u, m_sz u, m_wn u, m_sn u, m_bi u, m_ro u, m_rc u, m_wt u, m_se u, m_cn u)) H := hP
      have hD9 : va_D A (m_W qm pb pr pv pw ps pc cI (0, m_st u, m_md u, m_mn u, m_rw u, m_sz u, m_wn u, m_sn u, m_bi u, m_ro u, m_rc u, m_wt u, m_se u, m_cn u)) := hD
      exact W.iret (v := (m_se u) a0.toNatClampNeg) hx hb hr (fun t ht hW => ⟨⟨_, (0, m_st u, m_md u, m_mn u, m_rw u, m_sz u, m_wn u, m_sn u, m_bi u, m_ro u, m_rc u, m_wt u, m_se u, m_cn u), rfl, ⟨(by unfold m_sent_r; rw [if_neg c_1, if_pos c_2]), (by unfold m_sent; rw [if_neg c_1, if_pos c_2])⟩, by rw [ht]; exact hP9, va_K.moved hW.alike hK, hD9⟩, hS.F ht⟩) hS.2.2 dX1_sent_27
    · refine lv_iconst (v := (-1)) hx hb dX1_sent_17 (by decide) ?_
      refine lv_goto (tgt := 27) hx hb dX1_sent_18 (by decide) ?_
      have hP9 : va_P (dC, dI) vwCl (m_W qm pb pr pv pw ps pc cI (0, m_st u, m_md u, m_mn u, m_rw u, m_sz u, m_wn u, m_sn u, m_bi u, m_ro u, m_rc u, m_wt u, m_se u, m_cn u)) H := hP
      have hD9 : va_D A (m_W qm pb pr pv pw ps pc cI (0, m_st u, m_md u, m_mn u, m_rw u, m_sz u, m_wn u, m_sn u, m_bi u, m_ro u, m_rc u, m_wt u, m_se u, m_cn u)) := hD
      exact W.iret (v := (-1)) hx hb hr (fun t ht hW => ⟨⟨_, (0, m_st u, m_md u, m_mn u, m_rw u, m_sz u, m_wn u, m_sn u, m_bi u, m_ro u, m_rc u, m_wt u, m_se u, m_cn u), rfl, ⟨(by unfold m_sent_r; rw [if_neg c_1, if_neg c_2]), (by unfold m_sent; rw [if_neg c_1, if_neg c_2])⟩, by rw [ht]; exact hP9, va_K.moved hW.alike hK, hD9⟩, hS.F ht⟩) hS.2.2 dX1_sent_27

abbrev rmX1_put : Room := { frames := 0, cells := 0, slots := 0, locals := 0 }
def m_put (u : m_S) (a0 : Int32) : m_S := if (nI (m_wn u)) = 259 then (0, m_st u, m_md u, m_mn u, m_rw u, m_sz u, m_wn u, m_sn u, m_bi u, m_ro u, m_rc u, m_wt u, m_se u, m_cn u) else (0, m_st u, m_md u, m_mn u, m_rw u, m_sz u, m_wn u + 1, m_sn u, m_bi u, m_ro u, m_rc u, upd (m_wt u) (m_wn u) (a0 &&& 255), m_se u, m_cn u)
def m_put_r (u : m_S) (a0 : Int32) : Int32 := if (nI (m_wn u)) = 259 then (-1) else (nI (m_wn u + 1))
set_option maxHeartbeats 4000000 in
set_option maxRecDepth 100000 in
theorem kX1_put (l : Launch) (dC : Nat → ClassId) (dI : Nat → Nat → Nat) (qm pb pr pv pw ps pc : Nat) (cI : ClassId) (sz : Nat) (u : m_S) (a0 : Int32) (hwn : m_wn u ≤ 259) : Met l yX1_put vX1_put rmX1_put (va_Pc [.ref qm, .int a0] (fun U => U.heap.size = sz ∧ va_P (dC, dI) vwCl (m_W qm pb pr pv pw ps pc cI u) U.heap ∧ va_K (dC, dI) vwCl [(cI, .int)] U ∧ va_D (fun _ => True) (m_W qm pb pr pv pw ps pc cI u))) (va_Qi (fun r u2 => r = m_put_r u a0 ∧ u2 = m_put u a0) (m_At dC dI (va_A (m_W qm pb pr pv pw ps pc cI u) sz) qm pb pr pv pw ps pc cI) (va_A (m_W qm pb pr pv pw ps pc cI u) sz)) 0 0 (va_A (m_W qm pb pr pv pw ps pc cI u) sz) := by
  refine Met.ofW (cc := cX1_put) (maxL := 2) (ret := some .int) (by decide) rfl ?_
  intro p e s m args below meth c s₁ B hml hv
  obtain ⟨rfl, hsz, hP, hK, hD0⟩ := hv
  have hx := B.exec
  have hb := B.bytes
  have hr := B.returns
  have hts := atoms_spec (ws := vX1_put) B.pre
  have hown : s.vm.findClass RX1 = some m.cls := findClass_of_methodNamed B.named
  have hlocks := B.notSynchronized
  have hinT : ∀ w ∈ wsX10, w ∈ vX1_put := fun w h => List.mem_cons_of_mem _ (inM w h)
  subst hsz
  have hD := hD0.self (sz := s.heap.size)
  generalize hAe : va_A (m_W qm pb pr pv pw ps pc cI u) s.heap.size = A at hD ⊢
  have hA : ∀ q : Nat, s.heap.size ≤ q → A q := fun q h => by rw [← hAe]; exact Or.inr h
  have hS : va_S A s.heap s.heap [] := va_S.rf
  have hD : va_D A [(qm, .inr (1, [.int (m_th u), .int (m_st u), .int (m_md u), .ref pb, .int (nI (m_mn u)), .ref pr, .int (nI (m_rw u)), .ref pv, .int (nI (m_sz u)), .ref pw, .int (nI (m_wn u)), .ref ps, .int (nI (m_sn u)), .ref pc])), (pb, .inl (cI, 64, .inl (m_bi u))), (pr, .inl (cI, 259, .inl (m_ro u))), (pv, .inl (cI, 259, .inl (m_rc u))), (pw, .inl (cI, 259, .inl (m_wt u))), (ps, .inl (cI, 306, .inl (m_se u))), (pc, .inl (cI, 5, .inl (m_cn u)))] := hD
  have hP : va_P (dC, dI) vwCl [(qm, .inr (1, [.int (m_th u), .int (m_st u), .int (m_md u), .ref pb, .int (nI (m_mn u)), .ref pr, .int (nI (m_rw u)), .ref pv, .int (nI (m_sz u)), .ref pw, .int (nI (m_wn u)), .ref ps, .int (nI (m_sn u)), .ref pc])), (pb, .inl (cI, 64, .inl (m_bi u))), (pr, .inl (cI, 259, .inl (m_ro u))), (pv, .inl (cI, 259, .inl (m_rc u))), (pw, .inl (cI, 259, .inl (m_wt u))), (ps, .inl (cI, 306, .inl (m_se u))), (pc, .inl (cI, 5, .inl (m_cn u)))] s.heap := hP
  have hl := lv_entry ([.ref qm, .int a0]) (n := 2) (Nat.le_of_ble_eq_true rfl)
  rw [lg_entry_eq]
  generalize (lg_sl ([.ref qm, .int a0]) ++ List.replicate (2 - (lg_sl ([.ref qm, .int a0])).length) Slot.unset).toArray = ls at hl ⊢
  have hl : lv_has ls 2 [(0, .ref qm), (1, .int a0)] := hl
  refine lv_aload_n hx hb dX1_put_0 rfl (lv_at hl 0 rfl) ?_
  refine lv_iconst (v := 0) hx hb dX1_put_1 (by decide) ?_
  refine va_put (D := (dC, dI)) (ci := 1) (v := .int 0) (ty := .int) (C := RX1) (T := TX1) (N := 14) hx hb hts hinT tyX1 tyX1_ok nmX1 hown hK hP hD hS 0 rfl rfl 0 (by decide) (hts _ (List.mem_cons_of_mem _ fl_28)) (fun _ h9 => h9) rfl (by decide +kernel) rfl rfl (Nat.le_of_ble_eq_true rfl) dX1_put_2 (fun H locs hP hD hS => ?_)
  have hP : va_P (dC, dI) vwCl [(qm, .inr (1, [.int 0, .int (m_st u), .int (m_md u), .ref pb, .int (nI (m_mn u)), .ref pr, .int (nI (m_rw u)), .ref pv, .int (nI (m_sz u)), .ref pw, .int (nI (m_wn u)), .ref ps, .int (nI (m_sn u)), .ref pc])), (pb, .inl (cI, 64, .inl (m_bi u))), (pr, .inl (cI, 259, .inl (m_ro u))), (pv, .inl (cI, 259, .inl (m_rc u))), (pw, .inl (cI, 259, .inl (m_wt u))), (ps, .inl (cI, 306, .inl (m_se u))), (pc, .inl (cI, 5, .inl (m_cn u)))] H := hP
  have hD : va_D A [(qm, .inr (1, [.int 0, .int (m_st u), .int (m_md u), .ref pb, .int (nI (m_mn u)), .ref pr, .int (nI (m_rw u)), .ref pv, .int (nI (m_sz u)), .ref pw, .int (nI (m_wn u)), .ref ps, .int (nI (m_sn u)), .ref pc])), (pb, .inl (cI, 64, .inl (m_bi u))), (pr, .inl (cI, 259, .inl (m_ro u))), (pv, .inl (cI, 259, .inl (m_rc u))), (pw, .inl (cI, 259, .inl (m_wt u))), (ps, .inl (cI, 306, .inl (m_se u))), (pc, .inl (cI, 5, .inl (m_cn u)))] := hD
  refine lv_aload_n hx hb dX1_put_5 rfl (lv_at hl 0 rfl) ?_
  refine va_get (D := (dC, dI)) (ci := 1) (v := .int (nI (m_wn u))) (C := RX1) (T := TX1) (N := 14) hx hb hts hinT hown hK hP 0 rfl rfl 10 (by decide) (hts _ (List.mem_cons_of_mem _ fl_74)) (fun _ h9 => h9) rfl dX1_put_6 ?_
  refine lv_sipush (v := 259) hx hb dX1_put_9 (by decide) ?_
  refine lv_icmp_ne (tgt := 17) hx hb dX1_put_12 (by decide) (fun c_1 => ?_) (fun c_1 => ?_)
  · have hlt : m_wn u < 259 := by have h5 : m_wn u ≠ 259 := fun e => c_1 (by rw [e]; rfl); omega
    refine lv_aload_n hx hb dX1_put_17 rfl (lv_at hl 0 rfl) ?_
    refine va_get (D := (dC, dI)) (ci := 1) (v := .ref pw) (C := RX1) (T := TX1) (N := 14) hx hb hts hinT hown hK hP 0 rfl rfl 9 (by decide) (hts _ (List.mem_cons_of_mem _ fl_19)) (fun _ h9 => h9) rfl dX1_put_18 ?_
    refine lv_aload_n hx hb dX1_put_21 rfl (lv_at hl 0 rfl) ?_
    refine va_get (D := (dC, dI)) (ci := 1) (v := .int (nI (m_wn u))) (C := RX1) (T := TX1) (N := 14) hx hb hts hinT hown hK hP 0 rfl rfl 10 (by decide) (hts _ (List.mem_cons_of_mem _ fl_74)) (fun _ h9 => h9) rfl dX1_put_22 ?_
    refine lv_iload_n hx hb dX1_put_25 rfl (lv_at hl 1 rfl) ?_
    refine lv_sipush (v := 255) hx hb dX1_put_26 (by decide) ?_
    refine lv_iand hx hb dX1_put_29 ?_
    refine va_iast hx hb hK hP hD hS 4 0 rfl rfl (vp_in_nI (by omega) (by decide)) dX1_put_30 (fun H locs hP hD hS => ?_)
    rw [show (nI (m_wn u) : Int32).toNatClampNeg = m_wn u from (nI_clamp (by omega))] at hP hD
    have hP : va_P (dC, dI) vwCl [(qm, .inr (1, [.int 0, .int (m_st u), .int (m_md u), .ref pb, .int (nI (m_mn u)), .ref pr, .int (nI (m_rw u)), .ref pv, .int (nI (m_sz u)), .ref pw, .int (nI (m_wn u)), .ref ps, .int (nI (m_sn u)), .ref pc])), (pb, .inl (cI, 64, .inl (m_bi u))), (pr, .inl (cI, 259, .inl (m_ro u))), (pv, .inl (cI, 259, .inl (m_rc u))), (pw, .inl (cI, 259, .inl (upd (m_wt u) (m_wn u) (a0 &&& 255)))), (ps, .inl (cI, 306, .inl (m_se u))), (pc, .inl (cI, 5, .inl (m_cn u)))] H := hP
    have hD : va_D A [(qm, .inr (1, [.int 0, .int (m_st u), .int (m_md u), .ref pb, .int (nI (m_mn u)), .ref pr, .int (nI (m_rw u)), .ref pv, .int (nI (m_sz u)), .ref pw, .int (nI (m_wn u)), .ref ps, .int (nI (m_sn u)), .ref pc])), (pb, .inl (cI, 64, .inl (m_bi u))), (pr, .inl (cI, 259, .inl (m_ro u))), (pv, .inl (cI, 259, .inl (m_rc u))), (pw, .inl (cI, 259, .inl (upd (m_wt u) (m_wn u) (a0 &&& 255)))), (ps, .inl (cI, 306, .inl (m_se u))), (pc, .inl (cI, 5, .inl (m_cn u)))] := hD
    refine lv_aload_n hx hb dX1_put_31 rfl (lv_at hl 0 rfl) ?_
    refine lv_dup hx hb dX1_put_32 rfl ?_
    refine va_get (D := (dC, dI)) (ci := 1) (v := .int (nI (m_wn u))) (C := RX1) (T := TX1) (N := 14) hx hb hts hinT hown hK hP 0 rfl rfl 10 (by decide) (hts _ (List.mem_cons_of_mem _ fl_74)) (fun _ h9 => h9) rfl dX1_put_33 ?_
    refine lv_iconst (v := 1) hx hb dX1_put_36 (by decide) ?_
    refine lv_iadd hx hb dX1_put_37 ?_
    refine W.eq (congrArg (fun z => F0 m 38 ls (.int z :: [.ref qm])) (show (nI (m_wn u)) + 1 = nI (m_wn u + 1) from (nI_add _ _))) ?_
    refine va_put (D := (dC, dI)) (ci := 1) (v := .int (nI (m_wn u + 1))) (ty := .int) (C := RX1) (T := TX1) (N := 14) hx hb hts hinT tyX1 tyX1_ok nmX1 hown hK hP hD hS 0 rfl rfl 10 (by decide) (hts _ (List.mem_cons_of_mem _ fl_74)) (fun _ h9 => h9) rfl (by decide +kernel) rfl rfl (Nat.le_of_ble_eq_true rfl) dX1_put_38 (fun H locs hP hD hS => ?_)
    have hP : va_P (dC, dI) vwCl [(qm, .inr (1, [.int 0, .int (m_st u), .int (m_md u), .ref pb, .int (nI (m_mn u)), .ref pr, .int (nI (m_rw u)), .ref pv, .int (nI (m_sz u)), .ref pw, .int (nI (m_wn u + 1)), .ref ps, .int (nI (m_sn u)), .ref pc])), (pb, .inl (cI, 64, .inl (m_bi u))), (pr, .inl (cI, 259, .inl (m_ro u))), (pv, .inl (cI, 259, .inl (m_rc u))), (pw, .inl (cI, 259, .inl (upd (m_wt u) (m_wn u) (a0 &&& 255)))), (ps, .inl (cI, 306, .inl (m_se u))), (pc, .inl (cI, 5, .inl (m_cn u)))] H := hP
    have hD : va_D A [(qm, .inr (1, [.int 0, .int (m_st u), .int (m_md u), .ref pb, .int (nI (m_mn u)), .ref pr, .int (nI (m_rw u)), .ref pv, .int (nI (m_sz u)), .ref pw, .int (nI (m_wn u + 1)), .ref ps, .int (nI (m_sn u)), .ref pc])), (pb, .inl (cI, 64, .inl (m_bi u))), (pr, .inl (cI, 259, .inl (m_ro u))), (pv, .inl (cI, 259, .inl (m_rc u))), (pw, .inl (cI, 259, .inl (upd (m_wt u) (m_wn u) (a0 &&& 255)))), (ps, .inl (cI, 306, .inl (m_se u))), (pc, .inl (cI, 5, .inl (m_cn u)))] := hD
    refine lv_aload_n hx hb dX1_put_41 rfl (lv_at hl 0 rfl) ?_
    refine va_get (D := (dC, dI)) (ci := 1) (v := .int (nI (m_wn u + 1))) (C := RX1) (T := TX1) (N := 14) hx hb hts hinT hown hK hP 0 rfl rfl 10 (by decide) (hts _ (List.mem_cons_of_mem _ fl_74)) (fun _ h9 => h9) rfl dX1_put_42 ?_
    have hP9 : va_P (dC, dI) vwCl (m_W qm pb pr pv pw ps pc cI (0, m_st u, m_md u, m_mn u, m_rw u, m_sz u, m_wn u + 1, m_sn u, m_bi u, m_ro u, m_rc u, upd (m_wt u) (m_wn u) (a0 &&& 255), m_se u, m_cn u)) H := hP
    have hD9 : va_D A (m_W qm pb pr pv pw ps pc cI (0, m_st u, m_md u, m_mn u, m_rw u, m_sz u, m_wn u + 1, m_sn u, m_bi u, m_ro u, m_rc u, upd (m_wt u) (m_wn u) (a0 &&& 255), m_se u, m_cn u)) := hD
    exact W.iret (v := nI (m_wn u + 1)) hx hb hr (fun t ht hW => ⟨⟨_, (0, m_st u, m_md u, m_mn u, m_rw u, m_sz u, m_wn u + 1, m_sn u, m_bi u, m_ro u, m_rc u, upd (m_wt u) (m_wn u) (a0 &&& 255), m_se u, m_cn u), rfl, ⟨(by unfold m_put_r; rw [if_neg c_1]), (by unfold m_put; rw [if_neg c_1])⟩, by rw [ht]; exact hP9, va_K.moved hW.alike hK, hD9⟩, hS.F ht⟩) hS.2.2 dX1_put_45
  · refine lv_iconst (v := (-1)) hx hb dX1_put_15 (by decide) ?_
    have hP9 : va_P (dC, dI) vwCl (m_W qm pb pr pv pw ps pc cI (0, m_st u, m_md u, m_mn u, m_rw u, m_sz u, m_wn u, m_sn u, m_bi u, m_ro u, m_rc u, m_wt u, m_se u, m_cn u)) H := hP
    have hD9 : va_D A (m_W qm pb pr pv pw ps pc cI (0, m_st u, m_md u, m_mn u, m_rw u, m_sz u, m_wn u, m_sn u, m_bi u, m_ro u, m_rc u, m_wt u, m_se u, m_cn u)) := hD
    exact W.iret (v := (-1)) hx hb hr (fun t ht hW => ⟨⟨_, (0, m_st u, m_md u, m_mn u, m_rw u, m_sz u, m_wn u, m_sn u, m_bi u, m_ro u, m_rc u, m_wt u, m_se u, m_cn u), rfl, ⟨(by unfold m_put_r; rw [if_pos c_1]), (by unfold m_put; rw [if_pos c_1])⟩, by rw [ht]; exact hP9, va_K.moved hW.alike hK, hD9⟩, hS.F ht⟩) hS.2.2 dX1_put_16

abbrev rmX1_out : Room := { frames := 0, cells := 0, slots := 0, locals := 0 }
def m_out (u : m_S) (a0 : Int32) : m_S := (m_th u, m_st u, m_md u, m_mn u, m_rw u, m_sz u, m_wn u, m_sn u + 1, m_bi u, m_ro u, m_rc u, m_wt u, upd (m_se u) (m_sn u) a0, m_cn u)
set_option maxHeartbeats 4000000 in
set_option maxRecDepth 100000 in
theorem kX1_out (l : Launch) (dC : Nat → ClassId) (dI : Nat → Nat → Nat) (qm pb pr pv pw ps pc : Nat) (cI : ClassId) (sz : Nat) (u : m_S) (a0 : Int32) (hsn : m_sn u < 306) : Met l yX1_out vX1_out rmX1_out (va_Pc [.ref qm, .int a0] (fun U => U.heap.size = sz ∧ va_P (dC, dI) vwCl (m_W qm pb pr pv pw ps pc cI u) U.heap ∧ va_K (dC, dI) vwCl [(cI, .int)] U ∧ va_D (fun _ => True) (m_W qm pb pr pv pw ps pc cI u))) (va_Qv (fun u2 => u2 = m_out u a0) (m_At dC dI (va_A (m_W qm pb pr pv pw ps pc cI u) sz) qm pb pr pv pw ps pc cI) (va_A (m_W qm pb pr pv pw ps pc cI u) sz)) 0 0 (va_A (m_W qm pb pr pv pw ps pc cI u) sz) := by
  refine Met.ofW (cc := cX1_out) (maxL := 2) (ret := none) (by decide) rfl ?_
  intro p e s m args below meth c s₁ B hml hv
  obtain ⟨rfl, hsz, hP, hK, hD0⟩ := hv
  have hx := B.exec
  have hb := B.bytes
  have hr := B.returns
  have hts := atoms_spec (ws := vX1_out) B.pre
  have hown : s.vm.findClass RX1 = some m.cls := findClass_of_methodNamed B.named
  have hlocks := B.notSynchronized
  have hinT : ∀ w ∈ wsX10, w ∈ vX1_out := fun w h => List.mem_cons_of_mem _ (inM w h)
  subst hsz
  have hD := hD0.self (sz := s.heap.size)
  generalize hAe : va_A (m_W qm pb pr pv pw ps pc cI u) s.heap.size = A at hD ⊢
  have hA : ∀ q : Nat, s.heap.size ≤ q → A q := fun q h => by rw [← hAe]; exact Or.inr h
  have hS : va_S A s.heap s.heap [] := va_S.rf
  have hD : va_D A [(qm, .inr (1, [.int (m_th u), .int (m_st u), .int (m_md u), .ref pb, .int (nI (m_mn u)), .ref pr, .int (nI (m_rw u)), .ref pv, .int (nI (m_sz u)), .ref pw, .int (nI (m_wn u)), .ref ps, .int (nI (m_sn u)), .ref pc])), (pb, .inl (cI, 64, .inl (m_bi u))), (pr, .inl (cI, 259, .inl (m_ro u))), (pv, .inl (cI, 259, .inl (m_rc u))), (pw, .inl (cI, 259, .inl (m_wt u))), (ps, .inl (cI, 306, .inl (m_se u))), (pc, .inl (cI, 5, .inl (m_cn u)))] := hD
  have hP : va_P (dC, dI) vwCl [(qm, .inr (1, [.int (m_th u), .int (m_st u), .int (m_md u), .ref pb, .int (nI (m_mn u)), .ref pr, .int (nI (m_rw u)), .ref pv, .int (nI (m_sz u)), .ref pw, .int (nI (m_wn u)), .ref ps, .int (nI (m_sn u)), .ref pc])), (pb, .inl (cI, 64, .inl (m_bi u))), (pr, .inl (cI, 259, .inl (m_ro u))), (pv, .inl (cI, 259, .inl (m_rc u))), (pw, .inl (cI, 259, .inl (m_wt u))), (ps, .inl (cI, 306, .inl (m_se u))), (pc, .inl (cI, 5, .inl (m_cn u)))] s.heap := hP
  have hl := lv_entry ([.ref qm, .int a0]) (n := 2) (Nat.le_of_ble_eq_true rfl)
  rw [lg_entry_eq]
  generalize (lg_sl ([.ref qm, .int a0]) ++ List.replicate (2 - (lg_sl ([.ref qm, .int a0])).length) Slot.unset).toArray = ls at hl ⊢
  have hl : lv_has ls 2 [(0, .ref qm), (1, .int a0)] := hl
  refine lv_aload_n hx hb dX1_out_0 rfl (lv_at hl 0 rfl) ?_
  refine va_get (D := (dC, dI)) (ci := 1) (v := .ref ps) (C := RX1) (T := TX1) (N := 14) hx hb hts hinT hown hK hP 0 rfl rfl 11 (by decide) (hts _ (List.mem_cons_of_mem _ fl_22)) (fun _ h9 => h9) rfl dX1_out_1 ?_
  refine lv_aload_n hx hb dX1_out_4 rfl (lv_at hl 0 rfl) ?_
  refine va_get (D := (dC, dI)) (ci := 1) (v := .int (nI (m_sn u))) (C := RX1) (T := TX1) (N := 14) hx hb hts hinT hown hK hP 0 rfl rfl 12 (by decide) (hts _ (List.mem_cons_of_mem _ fl_77)) (fun _ h9 => h9) rfl dX1_out_5 ?_
  refine lv_iload_n hx hb dX1_out_8 rfl (lv_at hl 1 rfl) ?_
  refine va_iast hx hb hK hP hD hS 5 0 rfl rfl (vp_in_nI (by omega) (by decide)) dX1_out_9 (fun H locs hP hD hS => ?_)
  rw [show (nI (m_sn u) : Int32).toNatClampNeg = m_sn u from (nI_clamp (by omega))] at hP hD
  have hP : va_P (dC, dI) vwCl [(qm, .inr (1, [.int (m_th u), .int (m_st u), .int (m_md u), .ref pb, .int (nI (m_mn u)), .ref pr, .int (nI (m_rw u)), .ref pv, .int (nI (m_sz u)), .ref pw, .int (nI (m_wn u)), .ref ps, .int (nI (m_sn u)), .ref pc])), (pb, .inl (cI, 64, .inl (m_bi u))), (pr, .inl (cI, 259, .inl (m_ro u))), (pv, .inl (cI, 259, .inl (m_rc u))), (pw, .inl (cI, 259, .inl (m_wt u))), (ps, .inl (cI, 306, .inl (upd (m_se u) (m_sn u) a0))), (pc, .inl (cI, 5, .inl (m_cn u)))] H := hP
  have hD : va_D A [(qm, .inr (1, [.int (m_th u), .int (m_st u), .int (m_md u), .ref pb, .int (nI (m_mn u)), .ref pr, .int (nI (m_rw u)), .ref pv, .int (nI (m_sz u)), .ref pw, .int (nI (m_wn u)), .ref ps, .int (nI (m_sn u)), .ref pc])), (pb, .inl (cI, 64, .inl (m_bi u))), (pr, .inl (cI, 259, .inl (m_ro u))), (pv, .inl (cI, 259, .inl (m_rc u))), (pw, .inl (cI, 259, .inl (m_wt u))), (ps, .inl (cI, 306, .inl (upd (m_se u) (m_sn u) a0))), (pc, .inl (cI, 5, .inl (m_cn u)))] := hD
  refine lv_aload_n hx hb dX1_out_10 rfl (lv_at hl 0 rfl) ?_
  refine lv_dup hx hb dX1_out_11 rfl ?_
  refine va_get (D := (dC, dI)) (ci := 1) (v := .int (nI (m_sn u))) (C := RX1) (T := TX1) (N := 14) hx hb hts hinT hown hK hP 0 rfl rfl 12 (by decide) (hts _ (List.mem_cons_of_mem _ fl_77)) (fun _ h9 => h9) rfl dX1_out_12 ?_
  refine lv_iconst (v := 1) hx hb dX1_out_15 (by decide) ?_
  refine lv_iadd hx hb dX1_out_16 ?_
  refine W.eq (congrArg (fun z => F0 m 17 ls (.int z :: [.ref qm])) (show (nI (m_sn u)) + 1 = nI (m_sn u + 1) from (nI_add _ _))) ?_
  refine va_put (D := (dC, dI)) (ci := 1) (v := .int (nI (m_sn u + 1))) (ty := .int) (C := RX1) (T := TX1) (N := 14) hx hb hts hinT tyX1 tyX1_ok nmX1 hown hK hP hD hS 0 rfl rfl 12 (by decide) (hts _ (List.mem_cons_of_mem _ fl_77)) (fun _ h9 => h9) rfl (by decide +kernel) rfl rfl (Nat.le_of_ble_eq_true rfl) dX1_out_17 (fun H locs hP hD hS => ?_)
  have hP : va_P (dC, dI) vwCl [(qm, .inr (1, [.int (m_th u), .int (m_st u), .int (m_md u), .ref pb, .int (nI (m_mn u)), .ref pr, .int (nI (m_rw u)), .ref pv, .int (nI (m_sz u)), .ref pw, .int (nI (m_wn u)), .ref ps, .int (nI (m_sn u + 1)), .ref pc])), (pb, .inl (cI, 64, .inl (m_bi u))), (pr, .inl (cI, 259, .inl (m_ro u))), (pv, .inl (cI, 259, .inl (m_rc u))), (pw, .inl (cI, 259, .inl (m_wt u))), (ps, .inl (cI, 306, .inl (upd (m_se u) (m_sn u) a0))), (pc, .inl (cI, 5, .inl (m_cn u)))] H := hP
  have hD : va_D A [(qm, .inr (1, [.int (m_th u), .int (m_st u), .int (m_md u), .ref pb, .int (nI (m_mn u)), .ref pr, .int (nI (m_rw u)), .ref pv, .int (nI (m_sz u)), .ref pw, .int (nI (m_wn u)), .ref ps, .int (nI (m_sn u + 1)), .ref pc])), (pb, .inl (cI, 64, .inl (m_bi u))), (pr, .inl (cI, 259, .inl (m_ro u))), (pv, .inl (cI, 259, .inl (m_rc u))), (pw, .inl (cI, 259, .inl (m_wt u))), (ps, .inl (cI, 306, .inl (upd (m_se u) (m_sn u) a0))), (pc, .inl (cI, 5, .inl (m_cn u)))] := hD
  have hP9 : va_P (dC, dI) vwCl (m_W qm pb pr pv pw ps pc cI (m_th u, m_st u, m_md u, m_mn u, m_rw u, m_sz u, m_wn u, m_sn u + 1, m_bi u, m_ro u, m_rc u, m_wt u, upd (m_se u) (m_sn u) a0, m_cn u)) H := hP
  have hD9 : va_D A (m_W qm pb pr pv pw ps pc cI (m_th u, m_st u, m_md u, m_mn u, m_rw u, m_sz u, m_wn u, m_sn u + 1, m_bi u, m_ro u, m_rc u, m_wt u, upd (m_se u) (m_sn u) a0, m_cn u)) := hD
  exact W.vret hx hb hr (fun t ht hW => ⟨⟨(m_th u, m_st u, m_md u, m_mn u, m_rw u, m_sz u, m_wn u, m_sn u + 1, m_bi u, m_ro u, m_rc u, m_wt u, upd (m_se u) (m_sn u) a0, m_cn u), rfl, (rfl), by rw [ht]; exact hP9, va_K.moved hW.alike hK, hD9⟩, hS.F ht⟩) hS.2.2 dX1_out_20
