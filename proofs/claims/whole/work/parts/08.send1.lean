abbrev rmX0_fillLastBlock : Room := { frames := 1, cells := 0, slots := 0, locals := 21 }
def x_flF : Nat → x_S → x_S
  | 0, u => u
  | n + 1, u => if x_wz u - x_wz u / 7 * 7 = 0 then u else x_flF n (x_put u 85)
set_option maxHeartbeats 4000000 in
set_option maxRecDepth 100000 in
theorem lpX0_fillLastBlock {p : Program} {l : Launch} {e : Env} {s : State} {m : MethodId} {args : Array Value} {below : List Frame} {meth : Method} {c : Code} {Q : State → Prop} (dC : Nat → ClassId) (dI : Nat → Nat → Nat) (qx qc qw qs : Nat) (cI : ClassId) (hx : p.tables.exec = Jvm.exec) (hb : c.code = cX0_fillLastBlock) (hml : c.maxLocals = 2) (hown : s.vm.findClass RX0 = some m.cls) (hts : ∀ w ∈ wsX0_fillLastBlock, w.before args s = true) (A : Nat → Prop) (hA : ∀ q : Nat, s.heap.size ≤ q → A q) (hK : va_K (dC, dI) vwCl [(cI, .int)] s) : ∀ (n : Nat) (u : x_S) (k : Nat) (H : Heap) (locs : List Loc) (ls : Array Slot), k + n = 7 → va_P (dC, dI) vwCl (x_W qx qc qw qs cI u) H → va_D A (x_W qx qc qw qs cI u) → va_S A s.heap H locs → lv_has ls 2 [(0, .ref qx), (1, .int (nI k))] → (∀ (H : Heap) (locs : List Loc) (ls : Array Slot), va_P (dC, dI) vwCl (x_W qx qc qw qs cI (x_flF n u)) H → va_D A (x_W qx qc qw qs cI (x_flF n u)) → va_S A s.heap H locs → lv_has ls 2 [(0, .ref qx)] → W p l e (headSpec wsX0_fillLastBlock rmX0_fillLastBlock).room s m args below meth c H locs 0 0 Q (F0 m 31 ls [])) → W p l e (headSpec wsX0_fillLastBlock rmX0_fillLastBlock).room s m args below meth c H locs 0 0 Q (F0 m 2 ls []) := by
  have hinT : ∀ w ∈ wsX00, w ∈ wsX0_fillLastBlock := by decide +kernel
  intro n
  induction n with
  | zero =>
    intro u k H locs ls hn hP hD hS hl kk
    have hk : k = 7 := by omega
    subst hk
    have hP : va_P (dC, dI) vwCl [(qx, .inr (0, [.int (x_st u), .int (x_md u), .long (x_bt u), .int (x_cm u), .ref (x_hr u), .int (x_rs u), .ref (x_hv u), .int (x_vs u), .ref qc, .ref qw, .int (x_wz u), .ref qs, .int (x_sz u)])), (x_hr u, .inl (cI, 259, .inl (x_ro u))), (x_hv u, .inl (cI, 259, .inl (x_rc u))), (qc, .inl (cI, 5, .inl (x_cn u))), (qw, .inl (cI, 259, .inl (x_wt u))), (qs, .inl (cI, 306, .inl (x_sn u)))] H := hP
    have hD : va_D A [(qx, .inr (0, [.int (x_st u), .int (x_md u), .long (x_bt u), .int (x_cm u), .ref (x_hr u), .int (x_rs u), .ref (x_hv u), .int (x_vs u), .ref qc, .ref qw, .int (x_wz u), .ref qs, .int (x_sz u)])), (x_hr u, .inl (cI, 259, .inl (x_ro u))), (x_hv u, .inl (cI, 259, .inl (x_rc u))), (qc, .inl (cI, 5, .inl (x_cn u))), (qw, .inl (cI, 259, .inl (x_wt u))), (qs, .inl (cI, 306, .inl (x_sn u)))] := hD
    have hl : lv_has ls 2 [(0, .ref qx), (1, .int (nI 7))] := hl
    refine lv_iload_n hx hb dX0_fillLastBlock_2 rfl (lv_at hl 1 rfl) ?_
    refine lv_bipush (v := 7) hx hb dX0_fillLastBlock_3 (by decide) ?_
    refine lv_icmp_ge (tgt := 31) hx hb dX0_fillLastBlock_5 (by decide) (fun c_1 => ?_) (fun c_1 => absurd (by decide) c_1)
    exact kk H locs ls hP hD hS (lv_sub hl [0] rfl)
  | succ n ih =>
    intro u k H locs ls hn hP hD hS hl kk
    have hP : va_P (dC, dI) vwCl [(qx, .inr (0, [.int (x_st u), .int (x_md u), .long (x_bt u), .int (x_cm u), .ref (x_hr u), .int (x_rs u), .ref (x_hv u), .int (x_vs u), .ref qc, .ref qw, .int (x_wz u), .ref qs, .int (x_sz u)])), (x_hr u, .inl (cI, 259, .inl (x_ro u))), (x_hv u, .inl (cI, 259, .inl (x_rc u))), (qc, .inl (cI, 5, .inl (x_cn u))), (qw, .inl (cI, 259, .inl (x_wt u))), (qs, .inl (cI, 306, .inl (x_sn u)))] H := hP
    have hD : va_D A [(qx, .inr (0, [.int (x_st u), .int (x_md u), .long (x_bt u), .int (x_cm u), .ref (x_hr u), .int (x_rs u), .ref (x_hv u), .int (x_vs u), .ref qc, .ref qw, .int (x_wz u), .ref qs, .int (x_sz u)])), (x_hr u, .inl (cI, 259, .inl (x_ro u))), (x_hv u, .inl (cI, 259, .inl (x_rc u))), (qc, .inl (cI, 5, .inl (x_cn u))), (qw, .inl (cI, 259, .inl (x_wt u))), (qs, .inl (cI, 306, .inl (x_sn u)))] := hD
    have hl : lv_has ls 2 [(0, .ref qx), (1, .int (nI k))] := hl
    refine lv_iload_n hx hb dX0_fillLastBlock_2 rfl (lv_at hl 1 rfl) ?_
    refine lv_bipush (v := 7) hx hb dX0_fillLastBlock_3 (by decide) ?_
    refine lv_icmp_ge (tgt := 31) hx hb dX0_fillLastBlock_5 (by decide) (fun c_1 => absurd c_1 (show ¬ nI 7 ≤ nI k from nI_ge (by omega) (by decide))) (fun c_1 => ?_)
    refine lv_aload_n hx hb dX0_fillLastBlock_8 rfl (lv_at hl 0 rfl) ?_
    refine va_get (D := (dC, dI)) (ci := 0) (v := .int (x_wz u)) (C := RX0) (T := TX0) (N := 13) hx hb hts hinT hown hK hP 0 rfl rfl 10 (by decide) (hts (.fieldLink RX0 43 "CodeBlocks" "waitingSize" "I") (by decide +kernel)) (fun _ h9 => h9) rfl dX0_fillLastBlock_9 ?_
    refine lv_bipush (v := 7) hx hb dX0_fillLastBlock_12 (by decide) ?_
    refine lv_irem hx hb dX0_fillLastBlock_14 (by decide) ?_
    refine lv_if_eq (tgt := 31) hx hb dX0_fillLastBlock_15 (by decide) (fun c_2 => ?_) (fun c_2 => ?_)
    · have eF : x_flF (n + 1) u = u := by rw [x_flF, if_pos c_2]
      exact kk H locs ls (by rw [eF]; exact hP) (by rw [eF]; exact hD) hS (by exact lv_sub hl [0] rfl)
    · refine lv_aload_n hx hb dX0_fillLastBlock_18 rfl (lv_at hl 0 rfl) ?_
      refine lv_bipush (v := 85) hx hb dX0_fillLastBlock_19 (by decide) ?_
      have hPc : va_P (dC, dI) vwCl (x_W qx qc qw qs cI u) H := hP
      have hDc : va_D A (x_W qx qc qw qs cI u) := hD
      have hFc := va_free (wc := (x_W qx qc qw qs cI u)) hD hS hA [0, 1, 2, 3, 4, 5] rfl
      refine va_calli (va_runV (As := [.int 85]) (rest := []) ⟨hx, hb, hml, hown, hts⟩ (kX0_put l dC dI qx qc qw qs cI H.size u 85 ) (cwV 1 hts gX0_fillLastBlock_X0_put rfl rfl rfl (by decide +kernel) ⟨Nat.le_of_ble_eq_true rfl, Nat.le_of_ble_eq_true rfl⟩) ⟨fun a U g mk q => by obtain ⟨q0, q1, qP, qK, qD⟩ := q; exact ⟨q0, q1, qP, va_K.moved (u := U) (U := U.calling g mk a) (Vm.Alike.refl U.vm) qK, qD⟩, va_recv hK hP (ci := 0) (q0 := 0) rfl rfl, fun U hU hW => ⟨rfl, by rw [hU], by rw [hU]; exact hPc, va_K.moved hW.alike hK, hDc.weaken (fun _ _ _ _ => trivial)⟩⟩ rfl rfl hl.1 rfl (lv_room (Nat.le_of_ble_eq_true rfl)) dX0_fillLastBlock_21 ⟨Nat.le_of_ble_eq_true rfl, Nat.le_of_ble_eq_true rfl⟩) hS (fun q _ h => hFc q h) hFc (fun r_4 u_3 t H1 locs ht hvm hu_3 hB hz1 hk1 hS => ?_)
      obtain ⟨hP1, -, hD1⟩ := hB
      rw [ht] at hP1
      obtain ⟨hr_4, hu_3⟩ := hu_3
      subst hr_4
      have hP : va_P (dC, dI) vwCl [(qx, .inr (0, [.int (x_st u_3), .int (x_md u_3), .long (x_bt u_3), .int (x_cm u_3), .ref (x_hr u_3), .int (x_rs u_3), .ref (x_hv u_3), .int (x_vs u_3), .ref qc, .ref qw, .int (x_wz u_3), .ref qs, .int (x_sz u_3)])), (x_hr u_3, .inl (cI, 259, .inl (x_ro u_3))), (x_hv u_3, .inl (cI, 259, .inl (x_rc u_3))), (qc, .inl (cI, 5, .inl (x_cn u_3))), (qw, .inl (cI, 259, .inl (x_wt u_3))), (qs, .inl (cI, 306, .inl (x_sn u_3)))] H1 := hP1
      have hD : va_D A [(qx, .inr (0, [.int (x_st u_3), .int (x_md u_3), .long (x_bt u_3), .int (x_cm u_3), .ref (x_hr u_3), .int (x_rs u_3), .ref (x_hv u_3), .int (x_vs u_3), .ref qc, .ref qw, .int (x_wz u_3), .ref qs, .int (x_sz u_3)])), (x_hr u_3, .inl (cI, 259, .inl (x_ro u_3))), (x_hv u_3, .inl (cI, 259, .inl (x_rc u_3))), (qc, .inl (cI, 5, .inl (x_cn u_3))), (qw, .inl (cI, 259, .inl (x_wt u_3))), (qs, .inl (cI, 306, .inl (x_sn u_3)))] := hD1.weaken (fun k q _ h => hFc q.1 h)
      generalize H1 = H at hP hS ⊢
      refine lv_pop hx hb dX0_fillLastBlock_24 rfl ?_
      refine lv_iinc (v := nI (k + 1)) (lv' := [(1, .int (nI (k + 1))), (0, .ref qx)]) hx hb dX0_fillLastBlock_25 hl (k := 1) rfl (j_inc k 1) (by decide) rfl (fun ls hl => ?_)
      refine lv_goto (tgt := 2) hx hb dX0_fillLastBlock_28 (by decide) ?_
      subst hu_3
      have eF : x_flF (n + 1) u = x_flF n (x_put u 85) := by rw [x_flF, if_neg c_2]
      exact ih (x_put u 85) (k + 1) H locs ls (by omega) hP hD hS (lv_sub hl [1, 0] rfl) (fun H locs ls hP hD hS hl => kk H locs ls (by rw [eF]; exact hP) (by rw [eF]; exact hD) hS (by exact hl))
def x_fillLastBlock (u : x_S)  : x_S := (x_flF 6 u)
set_option maxHeartbeats 4000000 in
set_option maxRecDepth 100000 in
theorem kX0_fillLastBlock (l : Launch) (dC : Nat → ClassId) (dI : Nat → Nat → Nat) (qx qc qw qs : Nat) (cI : ClassId) (sz : Nat) (u : x_S)  : Met l yX0_fillLastBlock wsX0_fillLastBlock rmX0_fillLastBlock (va_Pc [.ref qx] (fun U => U.heap.size = sz ∧ va_P (dC, dI) vwCl (x_W qx qc qw qs cI u) U.heap ∧ va_K (dC, dI) vwCl [(cI, .int)] U ∧ va_D (fun _ => True) (x_W qx qc qw qs cI u))) (va_Qv (fun u2 => u2 = x_fillLastBlock u) (x_At dC dI (va_A (x_W qx qc qw qs cI u) sz) qx qc qw qs cI) (va_A (x_W qx qc qw qs cI u) sz)) 0 0 (va_A (x_W qx qc qw qs cI u) sz) := by
  refine Met.ofW (cc := cX0_fillLastBlock) (maxL := 2) (ret := none) (by decide) rfl ?_
  intro p e s m args below meth c s₁ B hml hv
  obtain ⟨rfl, hsz, hP, hK, hD0⟩ := hv
  have hx := B.exec
  have hb := B.bytes
  have hr := B.returns
  have hts := atoms_spec (ws := wsX0_fillLastBlock) B.pre
  have hown : s.vm.findClass RX0 = some m.cls := findClass_of_methodNamed B.named
  have hlocks := B.notSynchronized
  have hinT : ∀ w ∈ wsX00, w ∈ wsX0_fillLastBlock := by decide +kernel
  subst hsz
  have hD := hD0.self (sz := s.heap.size)
  generalize hAe : va_A (x_W qx qc qw qs cI u) s.heap.size = A at hD ⊢
  have hA : ∀ q : Nat, s.heap.size ≤ q → A q := fun q h => by rw [← hAe]; exact Or.inr h
  have hS : va_S A s.heap s.heap [] := va_S.rf
  have hD : va_D A [(qx, .inr (0, [.int (x_st u), .int (x_md u), .long (x_bt u), .int (x_cm u), .ref (x_hr u), .int (x_rs u), .ref (x_hv u), .int (x_vs u), .ref qc, .ref qw, .int (x_wz u), .ref qs, .int (x_sz u)])), (x_hr u, .inl (cI, 259, .inl (x_ro u))), (x_hv u, .inl (cI, 259, .inl (x_rc u))), (qc, .inl (cI, 5, .inl (x_cn u))), (qw, .inl (cI, 259, .inl (x_wt u))), (qs, .inl (cI, 306, .inl (x_sn u)))] := hD
  have hP : va_P (dC, dI) vwCl [(qx, .inr (0, [.int (x_st u), .int (x_md u), .long (x_bt u), .int (x_cm u), .ref (x_hr u), .int (x_rs u), .ref (x_hv u), .int (x_vs u), .ref qc, .ref qw, .int (x_wz u), .ref qs, .int (x_sz u)])), (x_hr u, .inl (cI, 259, .inl (x_ro u))), (x_hv u, .inl (cI, 259, .inl (x_rc u))), (qc, .inl (cI, 5, .inl (x_cn u))), (qw, .inl (cI, 259, .inl (x_wt u))), (qs, .inl (cI, 306, .inl (x_sn u)))] s.heap := hP
  have hl := lv_entry ([.ref qx]) (n := 2) (Nat.le_of_ble_eq_true rfl)
  rw [lg_entry_eq]
  generalize (lg_sl ([.ref qx]) ++ List.replicate (2 - (lg_sl ([.ref qx])).length) Slot.unset).toArray = ls at hl ⊢
  have hl : lv_has ls 2 [(0, .ref qx)] := hl
  refine lv_iconst (v := 1) hx hb dX0_fillLastBlock_0 (by decide) ?_
  refine lv_istore_n (lv' := [(1, .int 1), (0, .ref qx)]) hx hb dX0_fillLastBlock_1 rfl hl (by decide) rfl (fun ls hl => ?_)
  refine lpX0_fillLastBlock (l := l) dC dI qx qc qw qs cI  hx hb hml hown hts A hA hK  6 u 1 s.heap [] ls rfl hP hD hS (lv_sub hl [1, 0] rfl) (fun H locs ls hP hD hS hl => ?_)
  obtain ⟨v_1, hv_1⟩ : ∃ z, z = x_flF 6 u := ⟨_, rfl⟩
  rw [← hv_1] at hP hD
  have hP : va_P (dC, dI) vwCl [(qx, .inr (0, [.int (x_st v_1), .int (x_md v_1), .long (x_bt v_1), .int (x_cm v_1), .ref (x_hr v_1), .int (x_rs v_1), .ref (x_hv v_1), .int (x_vs v_1), .ref qc, .ref qw, .int (x_wz v_1), .ref qs, .int (x_sz v_1)])), (x_hr v_1, .inl (cI, 259, .inl (x_ro v_1))), (x_hv v_1, .inl (cI, 259, .inl (x_rc v_1))), (qc, .inl (cI, 5, .inl (x_cn v_1))), (qw, .inl (cI, 259, .inl (x_wt v_1))), (qs, .inl (cI, 306, .inl (x_sn v_1)))] H := hP
  have hD : va_D A [(qx, .inr (0, [.int (x_st v_1), .int (x_md v_1), .long (x_bt v_1), .int (x_cm v_1), .ref (x_hr v_1), .int (x_rs v_1), .ref (x_hv v_1), .int (x_vs v_1), .ref qc, .ref qw, .int (x_wz v_1), .ref qs, .int (x_sz v_1)])), (x_hr v_1, .inl (cI, 259, .inl (x_ro v_1))), (x_hv v_1, .inl (cI, 259, .inl (x_rc v_1))), (qc, .inl (cI, 5, .inl (x_cn v_1))), (qw, .inl (cI, 259, .inl (x_wt v_1))), (qs, .inl (cI, 306, .inl (x_sn v_1)))] := hD
  have hP9 : va_P (dC, dI) vwCl (x_W qx qc qw qs cI v_1) H := hP
  have hD9 : va_D A (x_W qx qc qw qs cI v_1) := hD
  exact W.vret hx hb hr (fun t ht hW => ⟨⟨v_1, rfl, (by subst hv_1; rfl), by rw [ht]; exact hP9, va_K.moved hW.alike hK, hD9⟩, hS.F ht⟩) hS.2.2 dX0_fillLastBlock_31

abbrev rmX0_waitingData : Room := { frames := 0, cells := 0, slots := 0, locals := 0 }
def x_wdF (u : x_S) : Nat → Nat → Int64 → Int64
  | 0, _, d => d
  | n + 1, j, d => x_wdF u n (j + 1) ((j_lshl d 8) ||| (x_wt u j).toInt64)
set_option maxHeartbeats 4000000 in
set_option maxRecDepth 100000 in
theorem lpX0_waitingData {p : Program} {l : Launch} {e : Env} {s : State} {m : MethodId} {args : Array Value} {below : List Frame} {meth : Method} {c : Code} {H : Heap} {locs : List Loc} {Q : State → Prop} (dC : Nat → ClassId) (dI : Nat → Nat → Nat) (qx qc qw qs : Nat) (cI : ClassId) (k : Nat) (hk : k ≤ 252) (hx : p.tables.exec = Jvm.exec) (hb : c.code = cX0_waitingData) (hml : c.maxLocals = 5) (hown : s.vm.findClass RX0 = some m.cls) (hts : ∀ w ∈ wsX0_waitingData, w.before args s = true) (u : x_S) (hP : va_P (dC, dI) vwCl (x_W qx qc qw qs cI u) H) (hK : va_K (dC, dI) vwCl [(cI, .int)] s) : ∀ (n : Nat) (j : Nat) (d : Int64) (ls : Array Slot), j + n = k + 7 → lv_has ls 5 [(0, .ref qx), (1, .int (nI k)), (2, .long d), (4, .int (nI j))] → (∀ (ls : Array Slot), lv_has ls 5 [(2, .long (x_wdF u n j d))] → W p l e (headSpec wsX0_waitingData rmX0_waitingData).room s m args below meth c H locs 0 0 Q (F0 m 49 ls [])) → W p l e (headSpec wsX0_waitingData rmX0_waitingData).room s m args below meth c H locs 0 0 Q (F0 m 5 ls []) := by
  have hinT : ∀ w ∈ wsX00, w ∈ wsX0_waitingData := by decide +kernel
  have hP : va_P (dC, dI) vwCl [(qx, .inr (0, [.int (x_st u), .int (x_md u), .long (x_bt u), .int (x_cm u), .ref (x_hr u), .int (x_rs u), .ref (x_hv u), .int (x_vs u), .ref qc, .ref qw, .int (x_wz u), .ref qs, .int (x_sz u)])), (x_hr u, .inl (cI, 259, .inl (x_ro u))), (x_hv u, .inl (cI, 259, .inl (x_rc u))), (qc, .inl (cI, 5, .inl (x_cn u))), (qw, .inl (cI, 259, .inl (x_wt u))), (qs, .inl (cI, 306, .inl (x_sn u)))] H := hP
  intro n
  induction n with
  | zero =>
    intro j d ls hn hl kk
    have hj : j = k + 7 := by omega
    subst hj
    have hl : lv_has ls 5 [(0, .ref qx), (1, .int (nI k)), (2, .long d), (4, .int (nI (k + 7)))] := hl
    refine lv_iload hx hb dX0_waitingData_5 (lv_at hl 3 rfl) ?_
    refine lv_iload_n hx hb dX0_waitingData_7 rfl (lv_at hl 1 rfl) ?_
    refine lv_bipush (v := 7) hx hb dX0_waitingData_8 (by decide) ?_
    refine lv_iadd hx hb dX0_waitingData_10 ?_
    refine lv_icmp_ge (tgt := 49) hx hb dX0_waitingData_11 (by decide) (fun c_1 => ?_) (fun c_1 => absurd ((show nI k + nI 7 ≤ nI (k + 7) from by rw [nI_add]; exact nI_le (Nat.le_refl _) (by omega))) c_1)
    exact kk ls (lv_sub hl [2] rfl)
  | succ n ih =>
    intro j d ls hn hl kk
    have hl : lv_has ls 5 [(0, .ref qx), (1, .int (nI k)), (2, .long d), (4, .int (nI j))] := hl
    refine lv_iload hx hb dX0_waitingData_5 (lv_at hl 3 rfl) ?_
    refine lv_iload_n hx hb dX0_waitingData_7 rfl (lv_at hl 1 rfl) ?_
    refine lv_bipush (v := 7) hx hb dX0_waitingData_8 (by decide) ?_
    refine lv_iadd hx hb dX0_waitingData_10 ?_
    refine lv_icmp_ge (tgt := 49) hx hb dX0_waitingData_11 (by decide) (fun c_1 => absurd c_1 ((show ¬ nI k + nI 7 ≤ nI j from by rw [nI_add]; exact nI_ge (by omega) (by omega)))) (fun c_1 => ?_)
    refine lv_iload hx hb dX0_waitingData_14 (lv_at hl 3 rfl) ?_
    refine lv_if_lt (tgt := 49) hx hb dX0_waitingData_16 (by decide) (fun c_2 => absurd c_2 (nI_pos (by omega))) (fun c_2 => ?_)
    refine lv_iload hx hb dX0_waitingData_19 (lv_at hl 3 rfl) ?_
    refine lv_aload_n hx hb dX0_waitingData_21 rfl (lv_at hl 0 rfl) ?_
    refine va_get (D := (dC, dI)) (ci := 0) (v := .ref qw) (C := RX0) (T := TX0) (N := 13) hx hb hts hinT hown hK hP 0 rfl rfl 9 (by decide) (hts (.fieldLink RX0 23 "CodeBlocks" "waiting" "[I") (by decide +kernel)) (fun _ h9 => h9) rfl dX0_waitingData_22 ?_
    refine va_alen hx hb hK hP 4 0 rfl rfl (v := 259) rfl dX0_waitingData_25 ?_
    refine lv_icmp_ge (tgt := 49) hx hb dX0_waitingData_26 (by decide) (fun c_3 => absurd c_3 ((show ¬ nI 259 ≤ nI j from nI_ge (by omega) (by decide)))) (fun c_3 => ?_)
    refine lv_lload_n hx hb dX0_waitingData_29 rfl (lv_at hl 2 rfl) ?_
    refine lv_bipush (v := 8) hx hb dX0_waitingData_30 (by decide) ?_
    refine lv_lshl (v := j_lshl d 8) hx hb dX0_waitingData_32 rfl ?_
    refine lv_aload_n hx hb dX0_waitingData_33 rfl (lv_at hl 0 rfl) ?_
    refine va_get (D := (dC, dI)) (ci := 0) (v := .ref qw) (C := RX0) (T := TX0) (N := 13) hx hb hts hinT hown hK hP 0 rfl rfl 9 (by decide) (hts (.fieldLink RX0 23 "CodeBlocks" "waiting" "[I") (by decide +kernel)) (fun _ h9 => h9) rfl dX0_waitingData_34 ?_
    refine lv_iload hx hb dX0_waitingData_37 (lv_at hl 3 rfl) ?_
    refine va_iald hx hb hK hP 4 0 rfl rfl (vp_in_nI (by omega) (by decide)) dX0_waitingData_39 ?_
    refine W.eq (g2 := F0 m 40 ls [.int ((x_wt u) j), .long (j_lshl d 8)]) (by rw [nI_clamp (by omega)]) ?_
    refine lv_i2l (v := ((x_wt u) j).toInt64) hx hb dX0_waitingData_40 rfl ?_
    refine lv_lor hx hb dX0_waitingData_41 ?_
    refine lv_lstore_n (lv' := [(2, .long ((j_lshl d 8) ||| (((x_wt u) j).toInt64))), (0, .ref qx), (1, .int (nI k)), (4, .int (nI j))]) hx hb dX0_waitingData_42 rfl hl (by decide) rfl (fun ls hl => ?_)
    refine lv_iinc (v := nI (j + 1)) (lv' := [(4, .int (nI (j + 1))), (2, .long ((j_lshl d 8) ||| (((x_wt u) j).toInt64))), (0, .ref qx), (1, .int (nI k))]) hx hb dX0_waitingData_43 hl (k := 3) rfl (j_inc j 1) (by decide) rfl (fun ls hl => ?_)
    refine lv_goto (tgt := 5) hx hb dX0_waitingData_46 (by decide) ?_
    have eF : x_wdF u (n + 1) j d = x_wdF u n (j + 1) ((j_lshl d 8) ||| (((x_wt u) j).toInt64)) := by rw [x_wdF]
    exact ih (j + 1) ((j_lshl d 8) ||| (((x_wt u) j).toInt64)) ls (by omega) (lv_sub hl [2, 3, 1, 0] rfl) (fun ls hl => kk ls (by rw [eF]; exact hl))
def x_waitingData (u : x_S) (k : Nat) : Int64 := x_wdF u 7 k 0
set_option maxHeartbeats 4000000 in
set_option maxRecDepth 100000 in
theorem kX0_waitingData (l : Launch) (dC : Nat → ClassId) (dI : Nat → Nat → Nat) (qx qc qw qs : Nat) (cI : ClassId) (u : x_S) (k : Nat) (hk : k ≤ 252) : Met l yX0_waitingData wsX0_waitingData rmX0_waitingData (va_Pc [.ref qx, .int (nI k)] (fun U => va_P (dC, dI) vwCl (x_W qx qc qw qs cI u) U.heap ∧ va_K (dC, dI) vwCl [(cI, .int)] U)) (vp_Sl (fun r => r = x_waitingData u k)) 0 0 (fun _ => False) := by
  refine Met.ofW (cc := cX0_waitingData) (maxL := 5) (ret := some .long) (by decide) rfl ?_
  intro p e s m args below meth c s₁ B hml hv
  obtain ⟨rfl, hP, hK⟩ := hv
  have hx := B.exec
  have hb := B.bytes
  have hr := B.returns
  have hts := atoms_spec (ws := wsX0_waitingData) B.pre
  have hown : s.vm.findClass RX0 = some m.cls := findClass_of_methodNamed B.named
  have hlocks := B.notSynchronized
  have hinT : ∀ w ∈ wsX00, w ∈ wsX0_waitingData := by decide +kernel
  have hP : va_P (dC, dI) vwCl [(qx, .inr (0, [.int (x_st u), .int (x_md u), .long (x_bt u), .int (x_cm u), .ref (x_hr u), .int (x_rs u), .ref (x_hv u), .int (x_vs u), .ref qc, .ref qw, .int (x_wz u), .ref qs, .int (x_sz u)])), (x_hr u, .inl (cI, 259, .inl (x_ro u))), (x_hv u, .inl (cI, 259, .inl (x_rc u))), (qc, .inl (cI, 5, .inl (x_cn u))), (qw, .inl (cI, 259, .inl (x_wt u))), (qs, .inl (cI, 306, .inl (x_sn u)))] s.heap := hP
  have hl := lv_entry ([.ref qx, .int (nI k)]) (n := 5) (Nat.le_of_ble_eq_true rfl)
  rw [lg_entry_eq]
  generalize (lg_sl ([.ref qx, .int (nI k)]) ++ List.replicate (5 - (lg_sl ([.ref qx, .int (nI k)])).length) Slot.unset).toArray = ls at hl ⊢
  have hl : lv_has ls 5 [(0, .ref qx), (1, .int (nI k))] := hl
  refine lv_lconst (v := 0) hx hb dX0_waitingData_0 (by decide) ?_
  refine lv_lstore_n (lv' := [(2, .long 0), (0, .ref qx), (1, .int (nI k))]) hx hb dX0_waitingData_1 rfl hl (by decide) rfl (fun ls hl => ?_)
  refine lv_iload_n hx hb dX0_waitingData_2 rfl (lv_at hl 2 rfl) ?_
  refine lv_istore (lv' := [(4, .int (nI k)), (2, .long 0), (0, .ref qx), (1, .int (nI k))]) hx hb dX0_waitingData_3 hl (by decide) rfl (fun ls hl => ?_)
  refine lpX0_waitingData (l := l) dC dI qx qc qw qs cI k hk hx hb hml hown hts u hP hK 7 k 0 ls rfl (lv_sub hl [2, 3, 1, 0] rfl) (fun ls hl => ?_)
  refine lv_lload_n hx hb dX0_waitingData_49 rfl (lv_at hl 0 rfl) ?_
  exact W.lret (v := x_wdF u 7 k 0) hx hb hr (fun t ht hW => ⟨_, rfl, (rfl), ht⟩) (fun q h => by cases h) dX0_waitingData_50

abbrev rmX0_sendBytes : Room := { frames := 1, cells := 0, slots := 0, locals := 22 }
def x_sbF (d : Int64) : Nat → x_S → x_S
  | 0, u => u
  | n + 1, u => if x_sz u < 0 then u else if 306 ≤ x_sz u then u else x_sbF d n (x_st u, x_md u, x_bt u, x_cm u, x_hr u, x_rs u, x_hv u, x_vs u, x_wz u, x_sz u + 1, x_ro u, x_rc u, x_cn u, x_wt u, upd (x_sn u) (x_sz u).toNatClampNeg (x_byteOf d (nI n)))
set_option maxHeartbeats 4000000 in
set_option maxRecDepth 100000 in
theorem lpX0_sendBytes {p : Program} {l : Launch} {e : Env} {s : State} {m : MethodId} {args : Array Value} {below : List Frame} {meth : Method} {c : Code} {Q : State → Prop} (dC : Nat → ClassId) (dI : Nat → Nat → Nat) (qx qc qw qs : Nat) (cI : ClassId) (d : Int64) (hx : p.tables.exec = Jvm.exec) (hb : c.code = cX0_sendBytes) (hml : c.maxLocals = 5) (hown : s.vm.findClass RX0 = some m.cls) (hts : ∀ w ∈ wsX0_sendBytes, w.before args s = true) (A : Nat → Prop) (hA : ∀ q : Nat, s.heap.size ≤ q → A q) (hK : va_K (dC, dI) vwCl [(cI, .int)] s) : ∀ (n : Nat) (u : x_S) (x : Int32) (H : Heap) (locs : List Loc) (ls : Array Slot), x = nI n + (-1) → n ≤ 64 → va_P (dC, dI) vwCl (x_W qx qc qw qs cI u) H → va_D A (x_W qx qc qw qs cI u) → va_S A s.heap H locs → lv_has ls 5 [(0, .ref qx), (1, .long d), (4, .int x)] → (∀ (H : Heap) (locs : List Loc) (ls : Array Slot), va_P (dC, dI) vwCl (x_W qx qc qw qs cI (x_sbF d n u)) H → va_D A (x_W qx qc qw qs cI (x_sbF d n u)) → va_S A s.heap H locs → lv_has ls 5 [(0, .ref qx)] → W p l e (headSpec wsX0_sendBytes rmX0_sendBytes).room s m args below meth c H locs 0 0 Q (F0 m 60 ls [])) → W p l e (headSpec wsX0_sendBytes rmX0_sendBytes).room s m args below meth c H locs 0 0 Q (F0 m 5 ls []) := by
  have hinT : ∀ w ∈ wsX00, w ∈ wsX0_sendBytes := by decide +kernel
  intro n
  induction n with
  | zero =>
    intro u x H locs ls ex hn hP hD hS hl kk
    have ex : x = (-1) := by rw [ex]; decide
    subst ex
    have hP : va_P (dC, dI) vwCl [(qx, .inr (0, [.int (x_st u), .int (x_md u), .long (x_bt u), .int (x_cm u), .ref (x_hr u), .int (x_rs u), .ref (x_hv u), .int (x_vs u), .ref qc, .ref qw, .int (x_wz u), .ref qs, .int (x_sz u)])), (x_hr u, .inl (cI, 259, .inl (x_ro u))), (x_hv u, .inl (cI, 259, .inl (x_rc u))), (qc, .inl (cI, 5, .inl (x_cn u))), (qw, .inl (cI, 259, .inl (x_wt u))), (qs, .inl (cI, 306, .inl (x_sn u)))] H := hP
    have hD : va_D A [(qx, .inr (0, [.int (x_st u), .int (x_md u), .long (x_bt u), .int (x_cm u), .ref (x_hr u), .int (x_rs u), .ref (x_hv u), .int (x_vs u), .ref qc, .ref qw, .int (x_wz u), .ref qs, .int (x_sz u)])), (x_hr u, .inl (cI, 259, .inl (x_ro u))), (x_hv u, .inl (cI, 259, .inl (x_rc u))), (qc, .inl (cI, 5, .inl (x_cn u))), (qw, .inl (cI, 259, .inl (x_wt u))), (qs, .inl (cI, 306, .inl (x_sn u)))] := hD
    have hl : lv_has ls 5 [(0, .ref qx), (1, .long d), (4, .int (-1))] := hl
    refine lv_iload hx hb dX0_sendBytes_5 (lv_at hl 2 rfl) ?_
    refine lv_if_lt (tgt := 60) hx hb dX0_sendBytes_7 (by decide) (fun c_1 => ?_) (fun c_1 => absurd (by decide) c_1)
    exact kk H locs ls hP hD hS (lv_sub hl [0] rfl)
  | succ n ih =>
    intro u x H locs ls ex hn hP hD hS hl kk
    have ex : x = nI n := by rw [ex]; exact pk_m1 n
    subst ex
    have hP : va_P (dC, dI) vwCl [(qx, .inr (0, [.int (x_st u), .int (x_md u), .long (x_bt u), .int (x_cm u), .ref (x_hr u), .int (x_rs u), .ref (x_hv u), .int (x_vs u), .ref qc, .ref qw, .int (x_wz u), .ref qs, .int (x_sz u)])), (x_hr u, .inl (cI, 259, .inl (x_ro u))), (x_hv u, .inl (cI, 259, .inl (x_rc u))), (qc, .inl (cI, 5, .inl (x_cn u))), (qw, .inl (cI, 259, .inl (x_wt u))), (qs, .inl (cI, 306, .inl (x_sn u)))] H := hP
    have hD : va_D A [(qx, .inr (0, [.int (x_st u), .int (x_md u), .long (x_bt u), .int (x_cm u), .ref (x_hr u), .int (x_rs u), .ref (x_hv u), .int (x_vs u), .ref qc, .ref qw, .int (x_wz u), .ref qs, .int (x_sz u)])), (x_hr u, .inl (cI, 259, .inl (x_ro u))), (x_hv u, .inl (cI, 259, .inl (x_rc u))), (qc, .inl (cI, 5, .inl (x_cn u))), (qw, .inl (cI, 259, .inl (x_wt u))), (qs, .inl (cI, 306, .inl (x_sn u)))] := hD
    have hl : lv_has ls 5 [(0, .ref qx), (1, .long d), (4, .int (nI n))] := hl
    refine lv_iload hx hb dX0_sendBytes_5 (lv_at hl 2 rfl) ?_
    refine lv_if_lt (tgt := 60) hx hb dX0_sendBytes_7 (by decide) (fun c_1 => absurd c_1 (nI_pos (by omega))) (fun c_1 => ?_)
    refine lv_aload_n hx hb dX0_sendBytes_10 rfl (lv_at hl 0 rfl) ?_
    refine va_get (D := (dC, dI)) (ci := 0) (v := .int (x_sz u)) (C := RX0) (T := TX0) (N := 13) hx hb hts hinT hown hK hP 0 rfl rfl 12 (by decide) (hts (.fieldLink RX0 49 "CodeBlocks" "sentSize" "I") (by decide +kernel)) (fun _ h9 => h9) rfl dX0_sendBytes_11 ?_
    refine lv_if_lt (tgt := 60) hx hb dX0_sendBytes_14 (by decide) (fun c_2 => ?_) (fun c_2 => ?_)
    · have eF : x_sbF d (n + 1) u = u := by rw [x_sbF, if_pos c_2]
      exact kk H locs ls (by rw [eF]; exact hP) (by rw [eF]; exact hD) hS (by exact lv_sub hl [0] rfl)
    · refine lv_aload_n hx hb dX0_sendBytes_17 rfl (lv_at hl 0 rfl) ?_
      refine va_get (D := (dC, dI)) (ci := 0) (v := .int (x_sz u)) (C := RX0) (T := TX0) (N := 13) hx hb hts hinT hown hK hP 0 rfl rfl 12 (by decide) (hts (.fieldLink RX0 49 "CodeBlocks" "sentSize" "I") (by decide +kernel)) (fun _ h9 => h9) rfl dX0_sendBytes_18 ?_
      refine lv_aload_n hx hb dX0_sendBytes_21 rfl (lv_at hl 0 rfl) ?_
      refine va_get (D := (dC, dI)) (ci := 0) (v := .ref qs) (C := RX0) (T := TX0) (N := 13) hx hb hts hinT hown hK hP 0 rfl rfl 11 (by decide) (hts (.fieldLink RX0 26 "CodeBlocks" "sent" "[I") (by decide +kernel)) (fun _ h9 => h9) rfl dX0_sendBytes_22 ?_
      refine va_alen hx hb hK hP 5 0 rfl rfl (v := 306) rfl dX0_sendBytes_25 ?_
      refine lv_icmp_ge (tgt := 60) hx hb dX0_sendBytes_26 (by decide) (fun c_3 => ?_) (fun c_3 => ?_)
      · have eF : x_sbF d (n + 1) u = u := by rw [x_sbF, if_neg c_2, if_pos c_3]
        exact kk H locs ls (by rw [eF]; exact hP) (by rw [eF]; exact hD) hS (by exact lv_sub hl [0] rfl)
      · refine lv_aload_n hx hb dX0_sendBytes_29 rfl (lv_at hl 0 rfl) ?_
        refine va_get (D := (dC, dI)) (ci := 0) (v := .ref qs) (C := RX0) (T := TX0) (N := 13) hx hb hts hinT hown hK hP 0 rfl rfl 11 (by decide) (hts (.fieldLink RX0 26 "CodeBlocks" "sent" "[I") (by decide +kernel)) (fun _ h9 => h9) rfl dX0_sendBytes_30 ?_
        refine lv_aload_n hx hb dX0_sendBytes_33 rfl (lv_at hl 0 rfl) ?_
        refine va_get (D := (dC, dI)) (ci := 0) (v := .int (x_sz u)) (C := RX0) (T := TX0) (N := 13) hx hb hts hinT hown hK hP 0 rfl rfl 12 (by decide) (hts (.fieldLink RX0 49 "CodeBlocks" "sentSize" "I") (by decide +kernel)) (fun _ h9 => h9) rfl dX0_sendBytes_34 ?_
        refine lv_lload_n hx hb dX0_sendBytes_37 rfl (lv_at hl 1 rfl) ?_
        refine lv_iload hx hb dX0_sendBytes_38 (lv_at hl 2 rfl) ?_
        refine vp_callSi (va_runS (As := [.long d, .int (nI n)]) (rest := [.int (x_sz u), .ref qs]) ⟨hx, hb, hml, hown, hts⟩ (kX0_byteOf l d (nI n)) (va_cwS 2 hts gX0_sendBytes_X0_byteOf rfl rfl rfl (by decide +kernel) ⟨Nat.le_of_ble_eq_true rfl, Nat.le_of_ble_eq_true rfl⟩) ⟨fun a U g mk q => q, fun U hU hW => ⟨rfl, trivial⟩⟩ rfl rfl hl.1 rfl (lv_room (Nat.le_of_ble_eq_true rfl)) dX0_sendBytes_40 ⟨Nat.le_of_ble_eq_true rfl, Nat.le_of_ble_eq_true rfl⟩).run (fun r_4 hr_4 => ?_)
        subst hr_4
        refine va_iast hx hb hK hP hD hS 5 0 rfl rfl (j_in2 (by decide) c_2 c_3) dX0_sendBytes_43 (fun H locs hP hD hS => ?_)
        have hP : va_P (dC, dI) vwCl [(qx, .inr (0, [.int (x_st u), .int (x_md u), .long (x_bt u), .int (x_cm u), .ref (x_hr u), .int (x_rs u), .ref (x_hv u), .int (x_vs u), .ref qc, .ref qw, .int (x_wz u), .ref qs, .int (x_sz u)])), (x_hr u, .inl (cI, 259, .inl (x_ro u))), (x_hv u, .inl (cI, 259, .inl (x_rc u))), (qc, .inl (cI, 5, .inl (x_cn u))), (qw, .inl (cI, 259, .inl (x_wt u))), (qs, .inl (cI, 306, .inl (upd (x_sn u) ((x_sz u).toNatClampNeg) (x_byteOf d (nI n)))))] H := hP
        have hD : va_D A [(qx, .inr (0, [.int (x_st u), .int (x_md u), .long (x_bt u), .int (x_cm u), .ref (x_hr u), .int (x_rs u), .ref (x_hv u), .int (x_vs u), .ref qc, .ref qw, .int (x_wz u), .ref qs, .int (x_sz u)])), (x_hr u, .inl (cI, 259, .inl (x_ro u))), (x_hv u, .inl (cI, 259, .inl (x_rc u))), (qc, .inl (cI, 5, .inl (x_cn u))), (qw, .inl (cI, 259, .inl (x_wt u))), (qs, .inl (cI, 306, .inl (upd (x_sn u) ((x_sz u).toNatClampNeg) (x_byteOf d (nI n)))))] := hD
        refine lv_aload_n hx hb dX0_sendBytes_44 rfl (lv_at hl 0 rfl) ?_
        refine lv_dup hx hb dX0_sendBytes_45 rfl ?_
        refine va_get (D := (dC, dI)) (ci := 0) (v := .int (x_sz u)) (C := RX0) (T := TX0) (N := 13) hx hb hts hinT hown hK hP 0 rfl rfl 12 (by decide) (hts (.fieldLink RX0 49 "CodeBlocks" "sentSize" "I") (by decide +kernel)) (fun _ h9 => h9) rfl dX0_sendBytes_46 ?_
        refine lv_iconst (v := 1) hx hb dX0_sendBytes_49 (by decide) ?_
        refine lv_iadd hx hb dX0_sendBytes_50 ?_
        refine va_put (D := (dC, dI)) (ci := 0) (v := .int ((x_sz u) + 1)) (ty := .int) (C := RX0) (T := TX0) (N := 13) hx hb hts hinT tyX0 tyX0_ok nmX0 hown hK hP hD hS 0 rfl rfl 12 (by decide) (hts (.fieldLink RX0 49 "CodeBlocks" "sentSize" "I") (by decide +kernel)) (fun _ h9 => h9) rfl (by decide +kernel) rfl rfl (Nat.le_of_ble_eq_true rfl) dX0_sendBytes_51 (fun H locs hP hD hS => ?_)
        have hP : va_P (dC, dI) vwCl [(qx, .inr (0, [.int (x_st u), .int (x_md u), .long (x_bt u), .int (x_cm u), .ref (x_hr u), .int (x_rs u), .ref (x_hv u), .int (x_vs u), .ref qc, .ref qw, .int (x_wz u), .ref qs, .int ((x_sz u) + 1)])), (x_hr u, .inl (cI, 259, .inl (x_ro u))), (x_hv u, .inl (cI, 259, .inl (x_rc u))), (qc, .inl (cI, 5, .inl (x_cn u))), (qw, .inl (cI, 259, .inl (x_wt u))), (qs, .inl (cI, 306, .inl (upd (x_sn u) ((x_sz u).toNatClampNeg) (x_byteOf d (nI n)))))] H := hP
        have hD : va_D A [(qx, .inr (0, [.int (x_st u), .int (x_md u), .long (x_bt u), .int (x_cm u), .ref (x_hr u), .int (x_rs u), .ref (x_hv u), .int (x_vs u), .ref qc, .ref qw, .int (x_wz u), .ref qs, .int ((x_sz u) + 1)])), (x_hr u, .inl (cI, 259, .inl (x_ro u))), (x_hv u, .inl (cI, 259, .inl (x_rc u))), (qc, .inl (cI, 5, .inl (x_cn u))), (qw, .inl (cI, 259, .inl (x_wt u))), (qs, .inl (cI, 306, .inl (upd (x_sn u) ((x_sz u).toNatClampNeg) (x_byteOf d (nI n)))))] := hD
        refine lv_iinc (v := (nI n) + (-1)) (lv' := [(4, .int ((nI n) + (-1))), (0, .ref qx), (1, .long d)]) hx hb dX0_sendBytes_54 hl (k := 2) rfl (by rw [show Int32.ofInt (-1) = (-1 : Int32) from by decide]) (by decide) rfl (fun ls hl => ?_)
        refine lv_goto (tgt := 5) hx hb dX0_sendBytes_57 (by decide) ?_
        have eF : x_sbF d (n + 1) u = x_sbF d n (x_st u, x_md u, x_bt u, x_cm u, x_hr u, x_rs u, x_hv u, x_vs u, x_wz u, (x_sz u) + 1, x_ro u, x_rc u, x_cn u, x_wt u, upd (x_sn u) ((x_sz u).toNatClampNeg) (x_byteOf d (nI n))) := by rw [x_sbF, if_neg c_2, if_neg c_3]
        exact ih (x_st u, x_md u, x_bt u, x_cm u, x_hr u, x_rs u, x_hv u, x_vs u, x_wz u, (x_sz u) + 1, x_ro u, x_rc u, x_cn u, x_wt u, upd (x_sn u) ((x_sz u).toNatClampNeg) (x_byteOf d (nI n))) ((nI n) + (-1)) H locs ls rfl (by omega) hP hD hS (lv_sub hl [1, 2, 0] rfl) (fun H locs ls hP hD hS hl => kk H locs ls (by rw [eF]; exact hP) (by rw [eF]; exact hD) hS (by exact hl))
def x_sendBytes (u : x_S) (a0 : Int64) (b : Nat) : x_S := (x_sbF a0 b u)
set_option maxHeartbeats 4000000 in
set_option maxRecDepth 100000 in
theorem kX0_sendBytes (l : Launch) (dC : Nat → ClassId) (dI : Nat → Nat → Nat) (qx qc qw qs : Nat) (cI : ClassId) (sz : Nat) (u : x_S) (a0 : Int64) (b : Nat) (hb8 : b ≤ 8) : Met l yX0_sendBytes wsX0_sendBytes rmX0_sendBytes (va_Pc [.ref qx, .long a0, .int (nI b)] (fun U => U.heap.size = sz ∧ va_P (dC, dI) vwCl (x_W qx qc qw qs cI u) U.heap ∧ va_K (dC, dI) vwCl [(cI, .int)] U ∧ va_D (fun _ => True) (x_W qx qc qw qs cI u))) (va_Qv (fun u2 => u2 = x_sendBytes u a0 b) (x_At dC dI (va_A (x_W qx qc qw qs cI u) sz) qx qc qw qs cI) (va_A (x_W qx qc qw qs cI u) sz)) 0 0 (va_A (x_W qx qc qw qs cI u) sz) := by
  refine Met.ofW (cc := cX0_sendBytes) (maxL := 5) (ret := none) (by decide) rfl ?_
  intro p e s m args below meth c s₁ B hml hv
  obtain ⟨rfl, hsz, hP, hK, hD0⟩ := hv
  have hx := B.exec
  have hb := B.bytes
  have hr := B.returns
  have hts := atoms_spec (ws := wsX0_sendBytes) B.pre
  have hown : s.vm.findClass RX0 = some m.cls := findClass_of_methodNamed B.named
  have hlocks := B.notSynchronized
  have hinT : ∀ w ∈ wsX00, w ∈ wsX0_sendBytes := by decide +kernel
  subst hsz
  have hD := hD0.self (sz := s.heap.size)
  generalize hAe : va_A (x_W qx qc qw qs cI u) s.heap.size = A at hD ⊢
  have hA : ∀ q : Nat, s.heap.size ≤ q → A q := fun q h => by rw [← hAe]; exact Or.inr h
  have hS : va_S A s.heap s.heap [] := va_S.rf
  have hD : va_D A [(qx, .inr (0, [.int (x_st u), .int (x_md u), .long (x_bt u), .int (x_cm u), .ref (x_hr u), .int (x_rs u), .ref (x_hv u), .int (x_vs u), .ref qc, .ref qw, .int (x_wz u), .ref qs, .int (x_sz u)])), (x_hr u, .inl (cI, 259, .inl (x_ro u))), (x_hv u, .inl (cI, 259, .inl (x_rc u))), (qc, .inl (cI, 5, .inl (x_cn u))), (qw, .inl (cI, 259, .inl (x_wt u))), (qs, .inl (cI, 306, .inl (x_sn u)))] := hD
  have hP : va_P (dC, dI) vwCl [(qx, .inr (0, [.int (x_st u), .int (x_md u), .long (x_bt u), .int (x_cm u), .ref (x_hr u), .int (x_rs u), .ref (x_hv u), .int (x_vs u), .ref qc, .ref qw, .int (x_wz u), .ref qs, .int (x_sz u)])), (x_hr u, .inl (cI, 259, .inl (x_ro u))), (x_hv u, .inl (cI, 259, .inl (x_rc u))), (qc, .inl (cI, 5, .inl (x_cn u))), (qw, .inl (cI, 259, .inl (x_wt u))), (qs, .inl (cI, 306, .inl (x_sn u)))] s.heap := hP
  have hl := lv_entry ([.ref qx, .long a0, .int (nI b)]) (n := 5) (Nat.le_of_ble_eq_true rfl)
  rw [lg_entry_eq]
  generalize (lg_sl ([.ref qx, .long a0, .int (nI b)]) ++ List.replicate (5 - (lg_sl ([.ref qx, .long a0, .int (nI b)])).length) Slot.unset).toArray = ls at hl ⊢
  have hl : lv_has ls 5 [(0, .ref qx), (1, .long a0), (3, .int (nI b))] := hl
  refine lv_iload_n hx hb dX0_sendBytes_0 rfl (lv_at hl 2 rfl) ?_
  refine lv_iconst (v := 1) hx hb dX0_sendBytes_1 (by decide) ?_
  refine lv_isub hx hb dX0_sendBytes_2 ?_
  refine lv_istore (lv' := [(4, .int ((nI b) - 1)), (0, .ref qx), (1, .long a0), (3, .int (nI b))]) hx hb dX0_sendBytes_3 hl (by decide) rfl (fun ls hl => ?_)
  refine lpX0_sendBytes (l := l) dC dI qx qc qw qs cI a0 hx hb hml hown hts A hA hK  b u ((nI b) - 1) s.heap [] ls (j_sub1 _) (by omega) hP hD hS (lv_sub hl [1, 2, 0] rfl) (fun H locs ls hP hD hS hl => ?_)
  obtain ⟨v_1, hv_1⟩ : ∃ z, z = x_sbF a0 b u := ⟨_, rfl⟩
  rw [← hv_1] at hP hD
  have hP : va_P (dC, dI) vwCl [(qx, .inr (0, [.int (x_st v_1), .int (x_md v_1), .long (x_bt v_1), .int (x_cm v_1), .ref (x_hr v_1), .int (x_rs v_1), .ref (x_hv v_1), .int (x_vs v_1), .ref qc, .ref qw, .int (x_wz v_1), .ref qs, .int (x_sz v_1)])), (x_hr v_1, .inl (cI, 259, .inl (x_ro v_1))), (x_hv v_1, .inl (cI, 259, .inl (x_rc v_1))), (qc, .inl (cI, 5, .inl (x_cn v_1))), (qw, .inl (cI, 259, .inl (x_wt v_1))), (qs, .inl (cI, 306, .inl (x_sn v_1)))] H := hP
  have hD : va_D A [(qx, .inr (0, [.int (x_st v_1), .int (x_md v_1), .long (x_bt v_1), .int (x_cm v_1), .ref (x_hr v_1), .int (x_rs v_1), .ref (x_hv v_1), .int (x_vs v_1), .ref qc, .ref qw, .int (x_wz v_1), .ref qs, .int (x_sz v_1)])), (x_hr v_1, .inl (cI, 259, .inl (x_ro v_1))), (x_hv v_1, .inl (cI, 259, .inl (x_rc v_1))), (qc, .inl (cI, 5, .inl (x_cn v_1))), (qw, .inl (cI, 259, .inl (x_wt v_1))), (qs, .inl (cI, 306, .inl (x_sn v_1)))] := hD
  have hP9 : va_P (dC, dI) vwCl (x_W qx qc qw qs cI v_1) H := hP
  have hD9 : va_D A (x_W qx qc qw qs cI v_1) := hD
  exact W.vret hx hb hr (fun t ht hW => ⟨⟨v_1, rfl, (by subst hv_1; rfl), by rw [ht]; exact hP9, va_K.moved hW.alike hK, hD9⟩, hS.F ht⟩) hS.2.2 dX0_sendBytes_60
