abbrev rmX1_take : Room := { frames := 4, cells := 0, slots := 0, locals := 92 }
abbrev m_tb (w : Int64) (n : Nat) : Int32 := (j_lshr w (nI n)).toInt32 &&& 1
def m_tkF (w : Int64) : Nat → m_S → m_S
  | 0, u => u
  | n + 1, u => m_tkF w n (m_bit u (m_tb w n))
def m_tkE (w : Int64) : Nat → m_S → Int32 → Int32
  | 0, _, z => z
  | n + 1, u, z => m_tkE w n (m_bit u (m_tb w n)) (z + m_bit_r u (m_tb w n))
set_option maxHeartbeats 4000000 in
set_option maxRecDepth 100000 in
theorem lpX1_take {p : Program} {l : Launch} {e : Env} {s : State} {m : MethodId} {args : Array Value} {below : List Frame} {meth : Method} {c : Code} {Q : State → Prop} (dC : Nat → ClassId) (dI : Nat → Nat → Nat) (qm pb pr pv pw ps pc : Nat) (cI : ClassId) (w : Int64) (hx : p.tables.exec = Jvm.exec) (hb : c.code = cX1_take) (hml : c.maxLocals = 6) (hown : s.vm.findClass RX1 = some m.cls) (hts : ∀ w ∈ vX1_take, w.before args s = true) (A : Nat → Prop) (hA : ∀ q : Nat, s.heap.size ≤ q → A q) (hK : va_K (dC, dI) vwCl [(cI, .int)] s) : ∀ (n : Nat) (u : m_S) (x : Int32) (z : Int32) (H : Heap) (locs : List Loc) (ls : Array Slot), x = nI n + (-1) → n ≤ 64 → m_I u → va_P (dC, dI) vwCl (m_W qm pb pr pv pw ps pc cI u) H → va_D A (m_W qm pb pr pv pw ps pc cI u) → va_S A s.heap H locs → lv_has ls 6 [(0, .ref qm), (2, .long w), (4, .int z), (5, .int x)] → (∀ (H : Heap) (locs : List Loc) (ls : Array Slot), va_P (dC, dI) vwCl (m_W qm pb pr pv pw ps pc cI (m_tkF w n u)) H → va_D A (m_W qm pb pr pv pw ps pc cI (m_tkF w n u)) → va_S A s.heap H locs → lv_has ls 6 [(0, .ref qm), (4, .int (m_tkE w n u z))] → W p l e (headSpec vX1_take rmX1_take).room s m args below meth c H locs 0 0 Q (F0 m 60 ls [])) → W p l e (headSpec vX1_take rmX1_take).room s m args below meth c H locs 0 0 Q (F0 m 33 ls []) := by
  have hinT : ∀ w ∈ wsX10, w ∈ vX1_take := fun w h => List.mem_cons_of_mem _ (inM w h)
  intro n
  induction n with
  | zero =>
    intro u x z H locs ls ex hn hI hP hD hS hl kk
    have ex : x = (-1) := by rw [ex]; decide
    subst ex
    have hP : va_P (dC, dI) vwCl [(qm, .inr (1, [.int (m_th u), .int (m_st u), .int (m_md u), .ref pb, .int (nI (m_mn u)), .ref pr, .int (nI (m_rw u)), .ref pv, .int (nI (m_sz u)), .ref pw, .int (nI (m_wn u)), .ref ps, .int (nI (m_sn u)), .ref pc])), (pb, .inl (cI, 64, .inl (m_bi u))), (pr, .inl (cI, 259, .inl (m_ro u))), (pv, .inl (cI, 259, .inl (m_rc u))), (pw, .inl (cI, 259, .inl (m_wt u))), (ps, .inl (cI, 306, .inl (m_se u))), (pc, .inl (cI, 5, .inl (m_cn u)))] H := hP
    have hD : va_D A [(qm, .inr (1, [.int (m_th u), .int (m_st u), .int (m_md u), .ref pb, .int (nI (m_mn u)), .ref pr, .int (nI (m_rw u)), .ref pv, .int (nI (m_sz u)), .ref pw, .int (nI (m_wn u)), .ref ps, .int (nI (m_sn u)), .ref pc])), (pb, .inl (cI, 64, .inl (m_bi u))), (pr, .inl (cI, 259, .inl (m_ro u))), (pv, .inl (cI, 259, .inl (m_rc u))), (pw, .inl (cI, 259, .inl (m_wt u))), (ps, .inl (cI, 306, .inl (m_se u))), (pc, .inl (cI, 5, .inl (m_cn u)))] := hD
    have hl : lv_has ls 6 [(0, .ref qm), (2, .long w), (4, .int z), (5, .int (-1))] := hl
    refine lv_iload hx hb dX1_take_33 (lv_at hl 3 rfl) ?_
    refine lv_if_lt (tgt := 60) hx hb dX1_take_35 (by decide) (fun c_1 => ?_) (fun c_1 => absurd (by decide) c_1)
    exact kk H locs ls hP hD hS (lv_sub hl [0, 2] rfl)
  | succ n ih =>
    intro u x z H locs ls ex hn hI hP hD hS hl kk
    have ex : x = nI n := by rw [ex]; exact pk_m1 n
    subst ex
    have hP : va_P (dC, dI) vwCl [(qm, .inr (1, [.int (m_th u), .int (m_st u), .int (m_md u), .ref pb, .int (nI (m_mn u)), .ref pr, .int (nI (m_rw u)), .ref pv, .int (nI (m_sz u)), .ref pw, .int (nI (m_wn u)), .ref ps, .int (nI (m_sn u)), .ref pc])), (pb, .inl (cI, 64, .inl (m_bi u))), (pr, .inl (cI, 259, .inl (m_ro u))), (pv, .inl (cI, 259, .inl (m_rc u))), (pw, .inl (cI, 259, .inl (m_wt u))), (ps, .inl (cI, 306, .inl (m_se u))), (pc, .inl (cI, 5, .inl (m_cn u)))] H := hP
    have hD : va_D A [(qm, .inr (1, [.int (m_th u), .int (m_st u), .int (m_md u), .ref pb, .int (nI (m_mn u)), .ref pr, .int (nI (m_rw u)), .ref pv, .int (nI (m_sz u)), .ref pw, .int (nI (m_wn u)), .ref ps, .int (nI (m_sn u)), .ref pc])), (pb, .inl (cI, 64, .inl (m_bi u))), (pr, .inl (cI, 259, .inl (m_ro u))), (pv, .inl (cI, 259, .inl (m_rc u))), (pw, .inl (cI, 259, .inl (m_wt u))), (ps, .inl (cI, 306, .inl (m_se u))), (pc, .inl (cI, 5, .inl (m_cn u)))] := hD
    have hl : lv_has ls 6 [(0, .ref qm), (2, .long w), (4, .int z), (5, .int (nI n))] := hl
    refine lv_iload hx hb dX1_take_33 (lv_at hl 3 rfl) ?_
    refine lv_if_lt (tgt := 60) hx hb dX1_take_35 (by decide) (fun c_1 => absurd c_1 (nI_pos (by omega))) (fun c_1 => ?_)
    refine lv_iload hx hb dX1_take_38 (lv_at hl 2 rfl) ?_
    refine lv_aload_n hx hb dX1_take_40 rfl (lv_at hl 0 rfl) ?_
    refine lv_lload_n hx hb dX1_take_41 rfl (lv_at hl 1 rfl) ?_
    refine lv_iload hx hb dX1_take_42 (lv_at hl 3 rfl) ?_
    refine lv_lshr (v := j_lshr w (nI n)) hx hb dX1_take_44 rfl ?_
    refine lv_l2i (v := (j_lshr w (nI n)).toInt32) hx hb dX1_take_45 rfl ?_
    refine lv_iconst (v := 1) hx hb dX1_take_46 (by decide) ?_
    refine lv_iand hx hb dX1_take_47 ?_
    have hPc : va_P (dC, dI) vwCl (m_W qm pb pr pv pw ps pc cI u) H := hP
    have hDc : va_D A (m_W qm pb pr pv pw ps pc cI u) := hD
    have hFc := va_free (wc := (m_W qm pb pr pv pw ps pc cI u)) hD hS hA [0, 1, 2, 3, 4, 5, 6] rfl
    refine va_calli (va_runV (As := [.int (((j_lshr w (nI n)).toInt32) &&& 1)]) (rest := [.int z]) ⟨hx, hb, hml, hown, hts⟩ (kX1_bit l dC dI qm pb pr pv pw ps pc cI H.size u (((j_lshr w (nI n)).toInt32) &&& 1) hI.1 hI.2.1 (m_I_rw hI)) (cwV 1 hts gM_X1_bit rfl rfl rfl (by decide +kernel) ⟨Nat.le_of_ble_eq_true rfl, Nat.le_of_ble_eq_true rfl⟩) ⟨fun a U g mk q => by obtain ⟨q0, q1, qP, qK, qD⟩ := q; exact ⟨q0, q1, qP, va_K.moved (u := U) (U := U.calling g mk a) (Vm.Alike.refl U.vm) qK, qD⟩, va_recv hK hP (ci := 1) (q0 := 0) rfl rfl, fun U hU hW => ⟨rfl, by rw [hU], by rw [hU]; exact hPc, va_K.moved hW.alike hK, hDc.weaken (fun _ _ _ _ => trivial)⟩⟩ rfl rfl hl.1 rfl (lv_room (Nat.le_of_ble_eq_true rfl)) dX1_take_48 ⟨Nat.le_of_ble_eq_true rfl, Nat.le_of_ble_eq_true rfl⟩) hS (fun q _ h => hFc q h) hFc (fun r_3 u_2 t H1 locs ht hvm hu_2 hB hz1 hk1 hS => ?_)
    obtain ⟨hP1, -, hD1⟩ := hB
    rw [ht] at hP1
    obtain ⟨hr_3, hu_2⟩ := hu_2
    subst hr_3
    have hP : va_P (dC, dI) vwCl [(qm, .inr (1, [.int (m_th u_2), .int (m_st u_2), .int (m_md u_2), .ref pb, .int (nI (m_mn u_2)), .ref pr, .int (nI (m_rw u_2)), .ref pv, .int (nI (m_sz u_2)), .ref pw, .int (nI (m_wn u_2)), .ref ps, .int (nI (m_sn u_2)), .ref pc])), (pb, .inl (cI, 64, .inl (m_bi u_2))), (pr, .inl (cI, 259, .inl (m_ro u_2))), (pv, .inl (cI, 259, .inl (m_rc u_2))), (pw, .inl (cI, 259, .inl (m_wt u_2))), (ps, .inl (cI, 306, .inl (m_se u_2))), (pc, .inl (cI, 5, .inl (m_cn u_2)))] H1 := hP1
    have hD : va_D A [(qm, .inr (1, [.int (m_th u_2), .int (m_st u_2), .int (m_md u_2), .ref pb, .int (nI (m_mn u_2)), .ref pr, .int (nI (m_rw u_2)), .ref pv, .int (nI (m_sz u_2)), .ref pw, .int (nI (m_wn u_2)), .ref ps, .int (nI (m_sn u_2)), .ref pc])), (pb, .inl (cI, 64, .inl (m_bi u_2))), (pr, .inl (cI, 259, .inl (m_ro u_2))), (pv, .inl (cI, 259, .inl (m_rc u_2))), (pw, .inl (cI, 259, .inl (m_wt u_2))), (ps, .inl (cI, 306, .inl (m_se u_2))), (pc, .inl (cI, 5, .inl (m_cn u_2)))] := hD1.weaken (fun k q _ h => hFc q.1 h)
    generalize H1 = H at hP hS ⊢
    refine lv_iadd hx hb dX1_take_51 ?_
    refine lv_istore (lv' := [(4, .int (z + (m_bit_r u (((j_lshr w (nI n)).toInt32) &&& 1)))), (0, .ref qm), (2, .long w), (5, .int (nI n))]) hx hb dX1_take_52 hl (by decide) rfl (fun ls hl => ?_)
    refine lv_iinc (v := (nI n) + (-1)) (lv' := [(5, .int ((nI n) + (-1))), (4, .int (z + (m_bit_r u (((j_lshr w (nI n)).toInt32) &&& 1)))), (0, .ref qm), (2, .long w)]) hx hb dX1_take_54 hl (k := 3) rfl (by rw [show Int32.ofInt (-1) = (-1 : Int32) from by decide]) (by decide) rfl (fun ls hl => ?_)
    refine lv_goto (tgt := 33) hx hb dX1_take_57 (by decide) ?_
    subst hu_2
    have eF : m_tkF w (n + 1) u = m_tkF w n (m_bit u (((j_lshr w (nI n)).toInt32) &&& 1)) := by rw [m_tkF]
    have eG : m_tkE w (n + 1) u z = m_tkE w n (m_bit u (m_tb w n)) (z + m_bit_r u (m_tb w n)) := by rw [m_tkE]
    exact ih (m_bit u (((j_lshr w (nI n)).toInt32) &&& 1)) ((nI n) + (-1)) (z + (m_bit_r u (((j_lshr w (nI n)).toInt32) &&& 1))) H locs ls rfl (by omega) (m_bit_I hI _) hP hD hS (lv_sub hl [2, 3, 1, 0] rfl) (fun H locs ls hP hD hS hl => kk H locs ls (by rw [eF]; exact hP) (by rw [eF]; exact hD) hS (by rw [eG]; exact hl))
def m_take (u : m_S) (a0 : Int32) (a1 : Int64) : m_S := if (m_st u) = 0 then (0, m_st u, m_md u, m_mn u, m_rw u, m_sz u, m_wn u, m_sn u, m_bi u, m_ro u, m_rc u, m_wt u, m_se u, m_cn u) else (if a0 < 1 then (0, m_st u, m_md u, m_mn u, m_rw u, m_sz u, m_wn u, m_sn u, m_bi u, m_ro u, m_rc u, m_wt u, m_se u, m_cn u) else (if a0 ≤ 64 then (m_tkF a1 a0.toNatClampNeg (0, m_st u, m_md u, m_mn u, m_rw u, m_sz u, m_wn u, m_sn u, m_bi u, m_ro u, m_rc u, m_wt u, m_se u, m_cn u)) else (0, m_st u, m_md u, m_mn u, m_rw u, m_sz u, m_wn u, m_sn u, m_bi u, m_ro u, m_rc u, m_wt u, m_se u, m_cn u)))
def m_take_r (u : m_S) (a0 : Int32) (a1 : Int64) : Int32 := if (m_st u) = 0 then (-1) else (if a0 < 1 then (-1) else (if a0 ≤ 64 then (m_tkE a1 a0.toNatClampNeg (0, m_st u, m_md u, m_mn u, m_rw u, m_sz u, m_wn u, m_sn u, m_bi u, m_ro u, m_rc u, m_wt u, m_se u, m_cn u) 0) else (-1)))
set_option maxHeartbeats 4000000 in
set_option maxRecDepth 100000 in
theorem kX1_take (l : Launch) (dC : Nat → ClassId) (dI : Nat → Nat → Nat) (qm pb pr pv pw ps pc : Nat) (cI : ClassId) (sz : Nat) (u : m_S) (a0 : Int32) (a1 : Int64) (hI : m_I u) : Met l yX1_take vX1_take rmX1_take (va_Pc [.ref qm, .int a0, .long a1] (fun U => U.heap.size = sz ∧ va_P (dC, dI) vwCl (m_W qm pb pr pv pw ps pc cI u) U.heap ∧ va_K (dC, dI) vwCl [(cI, .int)] U ∧ va_D (fun _ => True) (m_W qm pb pr pv pw ps pc cI u))) (va_Qi (fun r u2 => r = m_take_r u a0 a1 ∧ u2 = m_take u a0 a1) (m_At dC dI (va_A (m_W qm pb pr pv pw ps pc cI u) sz) qm pb pr pv pw ps pc cI) (va_A (m_W qm pb pr pv pw ps pc cI u) sz)) 0 0 (va_A (m_W qm pb pr pv pw ps pc cI u) sz) := by
  refine Met.ofW (cc := cX1_take) (maxL := 6) (ret := some .int) (by decide) rfl ?_
  intro p e s m args below meth c s₁ B hml hv
  obtain ⟨rfl, hsz, hP, hK, hD0⟩ := hv
  have hx := B.exec
  have hb := B.bytes
  have hr := B.returns
  have hts := atoms_spec (ws := vX1_take) B.pre
  have hown : s.vm.findClass RX1 = some m.cls := findClass_of_methodNamed B.named
  have hlocks := B.notSynchronized
  have hinT : ∀ w ∈ wsX10, w ∈ vX1_take := fun w h => List.mem_cons_of_mem _ (inM w h)
  subst hsz
  have hD := hD0.self (sz := s.heap.size)
  generalize hAe : va_A (m_W qm pb pr pv pw ps pc cI u) s.heap.size = A at hD ⊢
  have hA : ∀ q : Nat, s.heap.size ≤ q → A q := fun q h => by rw [← hAe]; exact Or.inr h
  have hS : va_S A s.heap s.heap [] := va_S.rf
  have hD : va_D A [(qm, .inr (1, [.int (m_th u), .int (m_st u), .int (m_md u), .ref pb, .int (nI (m_mn u)), .ref pr, .int (nI (m_rw u)), .ref pv, .int (nI (m_sz u)), .ref pw, .int (nI (m_wn u)), .ref ps, .int (nI (m_sn u)), .ref pc])), (pb, .inl (cI, 64, .inl (m_bi u))), (pr, .inl (cI, 259, .inl (m_ro u))), (pv, .inl (cI, 259, .inl (m_rc u))), (pw, .inl (cI, 259, .inl (m_wt u))), (ps, .inl (cI, 306, .inl (m_se u))), (pc, .inl (cI, 5, .inl (m_cn u)))] := hD
  have hP : va_P (dC, dI) vwCl [(qm, .inr (1, [.int (m_th u), .int (m_st u), .int (m_md u), .ref pb, .int (nI (m_mn u)), .ref pr, .int (nI (m_rw u)), .ref pv, .int (nI (m_sz u)), .ref pw, .int (nI (m_wn u)), .ref ps, .int (nI (m_sn u)), .ref pc])), (pb, .inl (cI, 64, .inl (m_bi u))), (pr, .inl (cI, 259, .inl (m_ro u))), (pv, .inl (cI, 259, .inl (m_rc u))), (pw, .inl (cI, 259, .inl (m_wt u))), (ps, .inl (cI, 306, .inl (m_se u))), (pc, .inl (cI, 5, .inl (m_cn u)))] s.heap := hP
  have hl := lv_entry ([.ref qm, .int a0, .long a1]) (n := 6) (Nat.le_of_ble_eq_true rfl)
  rw [lg_entry_eq]
  generalize (lg_sl ([.ref qm, .int a0, .long a1]) ++ List.replicate (6 - (lg_sl ([.ref qm, .int a0, .long a1])).length) Slot.unset).toArray = ls at hl ⊢
  have hl : lv_has ls 6 [(0, .ref qm), (1, .int a0), (2, .long a1)] := hl
  refine lv_aload_n hx hb dX1_take_0 rfl (lv_at hl 0 rfl) ?_
  refine lv_iconst (v := 0) hx hb dX1_take_1 (by decide) ?_
  refine va_put (D := (dC, dI)) (ci := 1) (v := .int 0) (ty := .int) (C := RX1) (T := TX1) (N := 14) hx hb hts hinT tyX1 tyX1_ok nmX1 hown hK hP hD hS 0 rfl rfl 0 (by decide) (hts _ (List.mem_cons_of_mem _ fl_28)) (fun _ h9 => h9) rfl (by decide +kernel) rfl rfl (Nat.le_of_ble_eq_true rfl) dX1_take_2 (fun H locs hP hD hS => ?_)
  have hP : va_P (dC, dI) vwCl [(qm, .inr (1, [.int 0, .int (m_st u), .int (m_md u), .ref pb, .int (nI (m_mn u)), .ref pr, .int (nI (m_rw u)), .ref pv, .int (nI (m_sz u)), .ref pw, .int (nI (m_wn u)), .ref ps, .int (nI (m_sn u)), .ref pc])), (pb, .inl (cI, 64, .inl (m_bi u))), (pr, .inl (cI, 259, .inl (m_ro u))), (pv, .inl (cI, 259, .inl (m_rc u))), (pw, .inl (cI, 259, .inl (m_wt u))), (ps, .inl (cI, 306, .inl (m_se u))), (pc, .inl (cI, 5, .inl (m_cn u)))] H := hP
  have hD : va_D A [(qm, .inr (1, [.int 0, .int (m_st u), .int (m_md u), .ref pb, .int (nI (m_mn u)), .ref pr, .int (nI (m_rw u)), .ref pv, .int (nI (m_sz u)), .ref pw, .int (nI (m_wn u)), .ref ps, .int (nI (m_sn u)), .ref pc])), (pb, .inl (cI, 64, .inl (m_bi u))), (pr, .inl (cI, 259, .inl (m_ro u))), (pv, .inl (cI, 259, .inl (m_rc u))), (pw, .inl (cI, 259, .inl (m_wt u))), (ps, .inl (cI, 306, .inl (m_se u))), (pc, .inl (cI, 5, .inl (m_cn u)))] := hD
  refine lv_aload_n hx hb dX1_take_5 rfl (lv_at hl 0 rfl) ?_
  refine va_get (D := (dC, dI)) (ci := 1) (v := .int (m_st u)) (C := RX1) (T := TX1) (N := 14) hx hb hts hinT hown hK hP 0 rfl rfl 1 (by decide) (hts _ (List.mem_cons_of_mem _ fl_40)) (fun _ h9 => h9) rfl dX1_take_6 ?_
  refine lv_if_eq (tgt := 23) hx hb dX1_take_9 (by decide) (fun c_1 => ?_) (fun c_1 => ?_)
  · refine lv_iconst (v := (-1)) hx hb dX1_take_23 (by decide) ?_
    have hP9 : va_P (dC, dI) vwCl (m_W qm pb pr pv pw ps pc cI (0, m_st u, m_md u, m_mn u, m_rw u, m_sz u, m_wn u, m_sn u, m_bi u, m_ro u, m_rc u, m_wt u, m_se u, m_cn u)) H := hP
    have hD9 : va_D A (m_W qm pb pr pv pw ps pc cI (0, m_st u, m_md u, m_mn u, m_rw u, m_sz u, m_wn u, m_sn u, m_bi u, m_ro u, m_rc u, m_wt u, m_se u, m_cn u)) := hD
    exact W.iret (v := (-1)) hx hb hr (fun t ht hW => ⟨⟨_, (0, m_st u, m_md u, m_mn u, m_rw u, m_sz u, m_wn u, m_sn u, m_bi u, m_ro u, m_rc u, m_wt u, m_se u, m_cn u), rfl, ⟨(by unfold m_take_r; rw [if_pos c_1]), (by unfold m_take; rw [if_pos c_1])⟩, by rw [ht]; exact hP9, va_K.moved hW.alike hK, hD9⟩, hS.F ht⟩) hS.2.2 dX1_take_24
  · refine lv_iload_n hx hb dX1_take_12 rfl (lv_at hl 1 rfl) ?_
    refine lv_iconst (v := 1) hx hb dX1_take_13 (by decide) ?_
    refine lv_icmp_lt (tgt := 23) hx hb dX1_take_14 (by decide) (fun c_2 => ?_) (fun c_2 => ?_)
    · refine lv_iconst (v := (-1)) hx hb dX1_take_23 (by decide) ?_
      have hP9 : va_P (dC, dI) vwCl (m_W qm pb pr pv pw ps pc cI (0, m_st u, m_md u, m_mn u, m_rw u, m_sz u, m_wn u, m_sn u, m_bi u, m_ro u, m_rc u, m_wt u, m_se u, m_cn u)) H := hP
      have hD9 : va_D A (m_W qm pb pr pv pw ps pc cI (0, m_st u, m_md u, m_mn u, m_rw u, m_sz u, m_wn u, m_sn u, m_bi u, m_ro u, m_rc u, m_wt u, m_se u, m_cn u)) := hD
      exact W.iret (v := (-1)) hx hb hr (fun t ht hW => ⟨⟨_, (0, m_st u, m_md u, m_mn u, m_rw u, m_sz u, m_wn u, m_sn u, m_bi u, m_ro u, m_rc u, m_wt u, m_se u, m_cn u), rfl, ⟨(by unfold m_take_r; rw [if_neg c_1, if_pos c_2]), (by unfold m_take; rw [if_neg c_1, if_pos c_2])⟩, by rw [ht]; exact hP9, va_K.moved hW.alike hK, hD9⟩, hS.F ht⟩) hS.2.2 dX1_take_24
    · refine lv_iload_n hx hb dX1_take_17 rfl (lv_at hl 1 rfl) ?_
      refine lv_bipush (v := 64) hx hb dX1_take_18 (by decide) ?_
      refine lv_icmp_le (tgt := 25) hx hb dX1_take_20 (by decide) (fun c_3 => ?_) (fun c_3 => ?_)
      · refine lv_iconst (v := 0) hx hb dX1_take_25 (by decide) ?_
        refine lv_istore (lv' := [(4, .int 0), (0, .ref qm), (1, .int a0), (2, .long a1)]) hx hb dX1_take_26 hl (by decide) rfl (fun ls hl => ?_)
        refine lv_iload_n hx hb dX1_take_28 rfl (lv_at hl 2 rfl) ?_
        refine lv_iconst (v := 1) hx hb dX1_take_29 (by decide) ?_
        refine lv_isub hx hb dX1_take_30 ?_
        refine lv_istore (lv' := [(5, .int (a0 - 1)), (4, .int 0), (0, .ref qm), (1, .int a0), (2, .long a1)]) hx hb dX1_take_31 hl (by decide) rfl (fun ls hl => ?_)
        obtain ⟨ea, ha⟩ := j_take c_2 c_3
        refine lpX1_take (l := l) dC dI qm pb pr pv pw ps pc cI a1 hx hb hml hown hts A hA hK  a0.toNatClampNeg (0, m_st u, m_md u, m_mn u, m_rw u, m_sz u, m_wn u, m_sn u, m_bi u, m_ro u, m_rc u, m_wt u, m_se u, m_cn u) (a0 - 1) 0 H locs ls (by rw [← ea]; exact j_sub1 _) ha hI hP hD hS (lv_sub hl [2, 4, 1, 0] rfl) (fun H locs ls hP hD hS hl => ?_)
        obtain ⟨v_4, hv_4⟩ : ∃ z, z = m_tkF a1 a0.toNatClampNeg (0, m_st u, m_md u, m_mn u, m_rw u, m_sz u, m_wn u, m_sn u, m_bi u, m_ro u, m_rc u, m_wt u, m_se u, m_cn u) := ⟨_, rfl⟩
        rw [← hv_4] at hP hD
        have hP : va_P (dC, dI) vwCl [(qm, .inr (1, [.int (m_th v_4), .int (m_st v_4), .int (m_md v_4), .ref pb, .int (nI (m_mn v_4)), .ref pr, .int (nI (m_rw v_4)), .ref pv, .int (nI (m_sz v_4)), .ref pw, .int (nI (m_wn v_4)), .ref ps, .int (nI (m_sn v_4)), .ref pc])), (pb, .inl (cI, 64, .inl (m_bi v_4))), (pr, .inl (cI, 259, .inl (m_ro v_4))), (pv, .inl (cI, 259, .inl (m_rc v_4))), (pw, .inl (cI, 259, .inl (m_wt v_4))), (ps, .inl (cI, 306, .inl (m_se v_4))), (pc, .inl (cI, 5, .inl (m_cn v_4)))] H := hP
        have hD : va_D A [(qm, .inr (1, [.int (m_th v_4), .int (m_st v_4), .int (m_md v_4), .ref pb, .int (nI (m_mn v_4)), .ref pr, .int (nI (m_rw v_4)), .ref pv, .int (nI (m_sz v_4)), .ref pw, .int (nI (m_wn v_4)), .ref ps, .int (nI (m_sn v_4)), .ref pc])), (pb, .inl (cI, 64, .inl (m_bi v_4))), (pr, .inl (cI, 259, .inl (m_ro v_4))), (pv, .inl (cI, 259, .inl (m_rc v_4))), (pw, .inl (cI, 259, .inl (m_wt v_4))), (ps, .inl (cI, 306, .inl (m_se v_4))), (pc, .inl (cI, 5, .inl (m_cn v_4)))] := hD
        refine lv_iload hx hb dX1_take_60 (lv_at hl 1 rfl) ?_
        have hP9 : va_P (dC, dI) vwCl (m_W qm pb pr pv pw ps pc cI v_4) H := hP
        have hD9 : va_D A (m_W qm pb pr pv pw ps pc cI v_4) := hD
        exact W.iret (v := m_tkE a1 a0.toNatClampNeg (0, m_st u, m_md u, m_mn u, m_rw u, m_sz u, m_wn u, m_sn u, m_bi u, m_ro u, m_rc u, m_wt u, m_se u, m_cn u) 0) hx hb hr (fun t ht hW => ⟨⟨_, v_4, rfl, ⟨(by subst hv_4; unfold m_take_r; rw [if_neg c_1, if_neg c_2, if_pos c_3]), (by subst hv_4; unfold m_take; rw [if_neg c_1, if_neg c_2, if_pos c_3])⟩, by rw [ht]; exact hP9, va_K.moved hW.alike hK, hD9⟩, hS.F ht⟩) hS.2.2 dX1_take_62
      · refine lv_iconst (v := (-1)) hx hb dX1_take_23 (by decide) ?_
        have hP9 : va_P (dC, dI) vwCl (m_W qm pb pr pv pw ps pc cI (0, m_st u, m_md u, m_mn u, m_rw u, m_sz u, m_wn u, m_sn u, m_bi u, m_ro u, m_rc u, m_wt u, m_se u, m_cn u)) H := hP
        have hD9 : va_D A (m_W qm pb pr pv pw ps pc cI (0, m_st u, m_md u, m_mn u, m_rw u, m_sz u, m_wn u, m_sn u, m_bi u, m_ro u, m_rc u, m_wt u, m_se u, m_cn u)) := hD
        exact W.iret (v := (-1)) hx hb hr (fun t ht hW => ⟨⟨_, (0, m_st u, m_md u, m_mn u, m_rw u, m_sz u, m_wn u, m_sn u, m_bi u, m_ro u, m_rc u, m_wt u, m_se u, m_cn u), rfl, ⟨(by unfold m_take_r; rw [if_neg c_1, if_neg c_2, if_neg c_3]), (by unfold m_take; rw [if_neg c_1, if_neg c_2, if_neg c_3])⟩, by rw [ht]; exact hP9, va_K.moved hW.alike hK, hD9⟩, hS.F ht⟩) hS.2.2 dX1_take_24
