abbrev rmX0_send : Room := { frames := 3, cells := 0, slots := 0, locals := 66 }
def x_tl (j : Nat) : Int32 := if j = 7 then 121 else 197
abbrev x_Tl (t : Nat) (A : Nat → Prop) (U : State) : Prop := va_Z "CodeBlocks" "TAIL" "[I" (.ref t) A U U.heap ∧ va_T .int t 8 (fun j => .int (x_tl j)) A U U.heap
theorem x_sb_wz (d : Int64) : ∀ (n : Nat) (u : x_S), x_wz (x_sbF d n u) = x_wz u ∧ x_wt (x_sbF d n u) = x_wt u := by
  intro n
  induction n with
  | zero => intro u; exact ⟨rfl, rfl⟩
  | succ n ih =>
    intro u
    rw [x_sbF]
    split
    · exact ⟨rfl, rfl⟩
    · split
      · exact ⟨rfl, rfl⟩
      · exact ih _
theorem x_put_at {u : x_S} {W : Nat} (b : Int32) (e : x_wz u = nI W) (h : W < 259) : x_put u b = (x_st u, x_md u, x_bt u, x_cm u, x_hr u, x_rs u, x_hv u, x_vs u, nI (W + 1), x_sz u, x_ro u, x_rc u, x_cn u, upd (x_wt u) W (b &&& 255), x_sn u) := by
  unfold x_put
  rw [e, if_neg (nI_pos (by omega)), if_pos (show nI W < 259 from (show nI W < nI 259 from nI_lt h (by decide))), nI_clamp (by omega), nI_1]
theorem x_fl_wz : ∀ (n : Nat) (u : x_S) (W : Nat), x_wz u = nI W → W ≤ 259 → (W % 7 = 0 ∨ 7 ≤ n + W % 7) → x_wz (x_flF n u) = nI (7 * ((W + 6) / 7)) := by
  intro n
  induction n with
  | zero =>
    intro u W e h1 h2
    have : 7 * ((W + 6) / 7) = W := by omega
    rw [this]; exact e
  | succ n ih =>
    intro u W e h1 h2
    have er : x_wz u - x_wz u / 7 * 7 = nI (W % 7) := by
      rw [e]; exact pk_rem (by omega) (by decide) (by decide)
    rw [x_flF, er]
    by_cases h0 : W % 7 = 0
    · rw [h0, if_pos nI_0, e]
      have : 7 * ((W + 6) / 7) = W := by omega
      rw [this]
    · rw [if_neg (nI_ne0 (by omega) (by omega)), x_put_at 85 e (by omega)]
      rw [ih _ (W + 1) rfl (by omega) (by omega)]
      congr 2
      omega
def x_s1F : Nat → Nat → x_S → x_S
  | 0, _, u => u
  | n + 1, i, u => x_s1F n (i + 1) (x_sendBytes u (x_blockOf (x_waitingData u (7 * i))) 8)
def x_s2F : Nat → Nat → x_S → x_S
  | 0, _, u => u
  | n + 1, j, u => x_s2F n (j + 1) (x_sendBytes u (x_tl j).toInt64 1)
set_option maxHeartbeats 4000000 in
set_option maxRecDepth 100000 in
theorem lpX0_send1 {p : Program} {l : Launch} {e : Env} {s : State} {m : MethodId} {args : Array Value} {below : List Frame} {meth : Method} {c : Code} {Q : State → Prop} (dC : Nat → ClassId) (dI : Nat → Nat → Nat) (qx qc qw qs : Nat) (cI : ClassId) (q : Nat) (hq : q ≤ 37) (hx : p.tables.exec = Jvm.exec) (hb : c.code = cX0_send) (hml : c.maxLocals = 5) (hown : s.vm.findClass RX0 = some m.cls) (hts : ∀ w ∈ wsX0_send, w.before args s = true) (A : Nat → Prop) (hA : ∀ q : Nat, s.heap.size ≤ q → A q) (hK : va_K (dC, dI) vwCl [(cI, .int)] s) : ∀ (n : Nat) (u : x_S) (i : Nat) (H : Heap) (locs : List Loc) (ls : Array Slot), i + n = q → x_wz u = nI (7 * q) → va_P (dC, dI) vwCl (x_W qx qc qw qs cI u) H → va_D A (x_W qx qc qw qs cI u) → va_S A s.heap H locs → lv_has ls 5 [(0, .ref qx), (1, .int (nI (7 * i)))] → (∀ (H : Heap) (locs : List Loc) (ls : Array Slot), va_P (dC, dI) vwCl (x_W qx qc qw qs cI (x_s1F n i u)) H → va_D A (x_W qx qc qw qs cI (x_s1F n i u)) → va_S A s.heap H locs → lv_has ls 5 [(0, .ref qx)] → W p l e (headSpec wsX0_send rmX0_send).room s m args below meth c H locs 0 0 Q (F0 m 56 ls [])) → W p l e (headSpec wsX0_send rmX0_send).room s m args below meth c H locs 0 0 Q (F0 m 28 ls []) := by
  have hinT : ∀ w ∈ wsX00, w ∈ wsX0_send := by decide +kernel
  intro n
  induction n with
  | zero =>
    intro u i H locs ls hn ew hP hD hS hl kk
    have hi : i = q := by omega
    subst hi
    have hP : va_P (dC, dI) vwCl [(qx, .inr (0, [.int (x_st u), .int (x_md u), .long (x_bt u), .int (x_cm u), .ref (x_hr u), .int (x_rs u), .ref (x_hv u), .int (x_vs u), .ref qc, .ref qw, .int (x_wz u), .ref qs, .int (x_sz u)])), (x_hr u, .inl (cI, 259, .inl (x_ro u))), (x_hv u, .inl (cI, 259, .inl (x_rc u))), (qc, .inl (cI, 5, .inl (x_cn u))), (qw, .inl (cI, 259, .inl (x_wt u))), (qs, .inl (cI, 306, .inl (x_sn u)))] H := hP
    have hD : va_D A [(qx, .inr (0, [.int (x_st u), .int (x_md u), .long (x_bt u), .int (x_cm u), .ref (x_hr u), .int (x_rs u), .ref (x_hv u), .int (x_vs u), .ref qc, .ref qw, .int (x_wz u), .ref qs, .int (x_sz u)])), (x_hr u, .inl (cI, 259, .inl (x_ro u))), (x_hv u, .inl (cI, 259, .inl (x_rc u))), (qc, .inl (cI, 5, .inl (x_cn u))), (qw, .inl (cI, 259, .inl (x_wt u))), (qs, .inl (cI, 306, .inl (x_sn u)))] := hD
    have hl : lv_has ls 5 [(0, .ref qx), (1, .int (nI (7 * i)))] := hl
    refine lv_iload_n hx hb dX0_send_28 rfl (lv_at hl 1 rfl) ?_
    refine lv_aload_n hx hb dX0_send_29 rfl (lv_at hl 0 rfl) ?_
    refine va_get (D := (dC, dI)) (ci := 0) (v := .int (x_wz u)) (C := RX0) (T := TX0) (N := 13) hx hb hts hinT hown hK hP 0 rfl rfl 10 (by decide) (hts (.fieldLink RX0 43 "CodeBlocks" "waitingSize" "I") (by decide +kernel)) (fun _ h9 => h9) rfl dX0_send_30 ?_
    refine lv_icmp_ge (tgt := 56) hx hb dX0_send_33 (by decide) (fun c_1 => ?_) (fun c_1 => absurd ((by rw [ew]; exact nI_le (Nat.le_refl _) (by omega))) c_1)
    exact kk H locs ls hP hD hS (lv_sub hl [0] rfl)
  | succ n ih =>
    intro u i H locs ls hn ew hP hD hS hl kk
    have hP : va_P (dC, dI) vwCl [(qx, .inr (0, [.int (x_st u), .int (x_md u), .long (x_bt u), .int (x_cm u), .ref (x_hr u), .int (x_rs u), .ref (x_hv u), .int (x_vs u), .ref qc, .ref qw, .int (x_wz u), .ref qs, .int (x_sz u)])), (x_hr u, .inl (cI, 259, .inl (x_ro u))), (x_hv u, .inl (cI, 259, .inl (x_rc u))), (qc, .inl (cI, 5, .inl (x_cn u))), (qw, .inl (cI, 259, .inl (x_wt u))), (qs, .inl (cI, 306, .inl (x_sn u)))] H := hP
    have hD : va_D A [(qx, .inr (0, [.int (x_st u), .int (x_md u), .long (x_bt u), .int (x_cm u), .ref (x_hr u), .int (x_rs u), .ref (x_hv u), .int (x_vs u), .ref qc, .ref qw, .int (x_wz u), .ref qs, .int (x_sz u)])), (x_hr u, .inl (cI, 259, .inl (x_ro u))), (x_hv u, .inl (cI, 259, .inl (x_rc u))), (qc, .inl (cI, 5, .inl (x_cn u))), (qw, .inl (cI, 259, .inl (x_wt u))), (qs, .inl (cI, 306, .inl (x_sn u)))] := hD
    have hl : lv_has ls 5 [(0, .ref qx), (1, .int (nI (7 * i)))] := hl
    refine lv_iload_n hx hb dX0_send_28 rfl (lv_at hl 1 rfl) ?_
    refine lv_aload_n hx hb dX0_send_29 rfl (lv_at hl 0 rfl) ?_
    refine va_get (D := (dC, dI)) (ci := 0) (v := .int (x_wz u)) (C := RX0) (T := TX0) (N := 13) hx hb hts hinT hown hK hP 0 rfl rfl 10 (by decide) (hts (.fieldLink RX0 43 "CodeBlocks" "waitingSize" "I") (by decide +kernel)) (fun _ h9 => h9) rfl dX0_send_30 ?_
    refine lv_icmp_ge (tgt := 56) hx hb dX0_send_33 (by decide) (fun c_1 => absurd c_1 ((by rw [ew]; exact nI_ge (by omega) (by omega)))) (fun c_1 => ?_)
    refine lv_aload_n hx hb dX0_send_36 rfl (lv_at hl 0 rfl) ?_
    refine lv_aload_n hx hb dX0_send_37 rfl (lv_at hl 0 rfl) ?_
    refine lv_iload_n hx hb dX0_send_38 rfl (lv_at hl 1 rfl) ?_
    have hPc : va_P (dC, dI) vwCl (x_W qx qc qw qs cI u) H := hP
    refine vp_callSl (va_runV (As := [.int (nI (7 * i))]) (rest := [.ref qx]) ⟨hx, hb, hml, hown, hts⟩ (kX0_waitingData l dC dI qx qc qw qs cI u (7 * i) (by omega)) (cwV 1 hts gX0_send_X0_waitingData rfl rfl rfl (by decide +kernel) ⟨Nat.le_of_ble_eq_true rfl, Nat.le_of_ble_eq_true rfl⟩) ⟨fun a U g mk q => by obtain ⟨q0, qP, qK⟩ := q; exact ⟨q0, qP, va_K.moved (u := U) (U := U.calling g mk a) (Vm.Alike.refl U.vm) qK⟩, va_recv hK hP (ci := 0) (q0 := 0) rfl rfl, fun U hU hW => ⟨rfl, by rw [hU]; exact hPc, va_K.moved hW.alike hK⟩⟩ rfl rfl hl.1 rfl (lv_room (Nat.le_of_ble_eq_true rfl)) dX0_send_39 ⟨Nat.le_of_ble_eq_true rfl, Nat.le_of_ble_eq_true rfl⟩).run (fun r_2 hr_2 => ?_)
    subst hr_2
    refine vp_callSl (va_runS (As := [.long (x_waitingData u (7 * i))]) (rest := [.ref qx]) ⟨hx, hb, hml, hown, hts⟩ (kX0_blockOf l (x_waitingData u (7 * i))) (va_cwS 1 hts gX0_send_X0_blockOf rfl rfl rfl (by decide +kernel) ⟨Nat.le_of_ble_eq_true rfl, Nat.le_of_ble_eq_true rfl⟩) ⟨fun a U g mk q => q, fun U hU hW => ⟨rfl, trivial⟩⟩ rfl rfl hl.1 rfl (lv_room (Nat.le_of_ble_eq_true rfl)) dX0_send_42 ⟨Nat.le_of_ble_eq_true rfl, Nat.le_of_ble_eq_true rfl⟩).run (fun r_3 hr_3 => ?_)
    subst hr_3
    refine lv_bipush (v := 8) hx hb dX0_send_45 (by decide) ?_
    have hPc : va_P (dC, dI) vwCl (x_W qx qc qw qs cI u) H := hP
    have hDc : va_D A (x_W qx qc qw qs cI u) := hD
    have hFc := va_free (wc := (x_W qx qc qw qs cI u)) hD hS hA [0, 1, 2, 3, 4, 5] rfl
    refine va_callv (va_runV (As := [.long (x_blockOf (x_waitingData u (7 * i))), .int 8]) (rest := []) ⟨hx, hb, hml, hown, hts⟩ (kX0_sendBytes l dC dI qx qc qw qs cI H.size u (x_blockOf (x_waitingData u (7 * i))) 8 (by decide)) (cwV 2 hts gX0_send_X0_sendBytes rfl rfl rfl (by decide +kernel) ⟨Nat.le_of_ble_eq_true rfl, Nat.le_of_ble_eq_true rfl⟩) ⟨fun a U g mk q => by obtain ⟨q0, q1, qP, qK, qD⟩ := q; exact ⟨q0, q1, qP, va_K.moved (u := U) (U := U.calling g mk a) (Vm.Alike.refl U.vm) qK, qD⟩, va_recv hK hP (ci := 0) (q0 := 0) rfl rfl, fun U hU hW => ⟨rfl, by rw [hU], by rw [hU]; exact hPc, va_K.moved hW.alike hK, hDc.weaken (fun _ _ _ _ => trivial)⟩⟩ rfl rfl hl.1 rfl (lv_room (Nat.le_of_ble_eq_true rfl)) dX0_send_47 ⟨Nat.le_of_ble_eq_true rfl, Nat.le_of_ble_eq_true rfl⟩) hS (fun q _ h => hFc q h) hFc (fun  u_4 t H1 locs ht hvm hu_4 hB hz1 hk1 hS => ?_)
    obtain ⟨hP1, -, hD1⟩ := hB
    rw [ht] at hP1
    have hP : va_P (dC, dI) vwCl [(qx, .inr (0, [.int (x_st u_4), .int (x_md u_4), .long (x_bt u_4), .int (x_cm u_4), .ref (x_hr u_4), .int (x_rs u_4), .ref (x_hv u_4), .int (x_vs u_4), .ref qc, .ref qw, .int (x_wz u_4), .ref qs, .int (x_sz u_4)])), (x_hr u_4, .inl (cI, 259, .inl (x_ro u_4))), (x_hv u_4, .inl (cI, 259, .inl (x_rc u_4))), (qc, .inl (cI, 5, .inl (x_cn u_4))), (qw, .inl (cI, 259, .inl (x_wt u_4))), (qs, .inl (cI, 306, .inl (x_sn u_4)))] H1 := hP1
    have hD : va_D A [(qx, .inr (0, [.int (x_st u_4), .int (x_md u_4), .long (x_bt u_4), .int (x_cm u_4), .ref (x_hr u_4), .int (x_rs u_4), .ref (x_hv u_4), .int (x_vs u_4), .ref qc, .ref qw, .int (x_wz u_4), .ref qs, .int (x_sz u_4)])), (x_hr u_4, .inl (cI, 259, .inl (x_ro u_4))), (x_hv u_4, .inl (cI, 259, .inl (x_rc u_4))), (qc, .inl (cI, 5, .inl (x_cn u_4))), (qw, .inl (cI, 259, .inl (x_wt u_4))), (qs, .inl (cI, 306, .inl (x_sn u_4)))] := hD1.weaken (fun k q _ h => hFc q.1 h)
    generalize H1 = H at hP hS ⊢
    refine lv_iinc (v := nI (7 * (i + 1))) (lv' := [(1, .int (nI (7 * (i + 1)))), (0, .ref qx)]) hx hb dX0_send_50 hl (k := 1) rfl (show nI (7 * i) + nI 7 = nI (7 * (i + 1)) from by rw [nI_add]; rfl) (by decide) rfl (fun ls hl => ?_)
    refine lv_goto (tgt := 28) hx hb dX0_send_53 (by decide) ?_
    subst hu_4
    have eF : x_s1F (n + 1) i u = x_s1F n (i + 1) (x_sendBytes u (x_blockOf (x_waitingData u (7 * i))) 8) := by rw [x_s1F]
    exact ih (x_sendBytes u (x_blockOf (x_waitingData u (7 * i))) 8) (i + 1) H locs ls (by omega) ((x_sb_wz _ _ _).1.trans ew) hP hD hS (lv_sub hl [1, 0] rfl) (fun H locs ls hP hD hS hl => kk H locs ls (by rw [eF]; exact hP) (by rw [eF]; exact hD) hS (by exact hl))
set_option maxHeartbeats 4000000 in
set_option maxRecDepth 100000 in
theorem lpX0_send2 {p : Program} {l : Launch} {e : Env} {s : State} {m : MethodId} {args : Array Value} {below : List Frame} {meth : Method} {c : Code} {Q : State → Prop} (dC : Nat → ClassId) (dI : Nat → Nat → Nat) (qx qc qw qs : Nat) (cI : ClassId) (tT : Nat) (hx : p.tables.exec = Jvm.exec) (hb : c.code = cX0_send) (hml : c.maxLocals = 5) (hown : s.vm.findClass RX0 = some m.cls) (hts : ∀ w ∈ wsX0_send, w.before args s = true) (A : Nat → Prop) (hA : ∀ q : Nat, s.heap.size ≤ q → A q) (hK : va_K (dC, dI) vwCl [(cI, .int)] s) (hT : va_T .int tT 8 (fun j => .int (x_tl j)) A s s.heap) : ∀ (n : Nat) (u : x_S) (j : Nat) (H : Heap) (locs : List Loc) (ls : Array Slot), j + n = 8 → va_P (dC, dI) vwCl (x_W qx qc qw qs cI u) H → va_D A (x_W qx qc qw qs cI u) → va_S A s.heap H locs → lv_has ls 5 [(0, .ref qx), (1, .ref tT), (2, .int 8), (3, .int (nI j))] → (∀ (H : Heap) (locs : List Loc) (ls : Array Slot), va_P (dC, dI) vwCl (x_W qx qc qw qs cI (x_s2F n j u)) H → va_D A (x_W qx qc qw qs cI (x_s2F n j u)) → va_S A s.heap H locs → lv_has ls 5 [(0, .ref qx)] → W p l e (headSpec wsX0_send rmX0_send).room s m args below meth c H locs 0 0 Q (F0 m 89 ls [])) → W p l e (headSpec wsX0_send rmX0_send).room s m args below meth c H locs 0 0 Q (F0 m 65 ls []) := by
  have hinT : ∀ w ∈ wsX00, w ∈ wsX0_send := by decide +kernel
  intro n
  induction n with
  | zero =>
    intro u j H locs ls hn hP hD hS hl kk
    have hj : j = 8 := by omega
    subst hj
    have hP : va_P (dC, dI) vwCl [(qx, .inr (0, [.int (x_st u), .int (x_md u), .long (x_bt u), .int (x_cm u), .ref (x_hr u), .int (x_rs u), .ref (x_hv u), .int (x_vs u), .ref qc, .ref qw, .int (x_wz u), .ref qs, .int (x_sz u)])), (x_hr u, .inl (cI, 259, .inl (x_ro u))), (x_hv u, .inl (cI, 259, .inl (x_rc u))), (qc, .inl (cI, 5, .inl (x_cn u))), (qw, .inl (cI, 259, .inl (x_wt u))), (qs, .inl (cI, 306, .inl (x_sn u)))] H := hP
    have hD : va_D A [(qx, .inr (0, [.int (x_st u), .int (x_md u), .long (x_bt u), .int (x_cm u), .ref (x_hr u), .int (x_rs u), .ref (x_hv u), .int (x_vs u), .ref qc, .ref qw, .int (x_wz u), .ref qs, .int (x_sz u)])), (x_hr u, .inl (cI, 259, .inl (x_ro u))), (x_hv u, .inl (cI, 259, .inl (x_rc u))), (qc, .inl (cI, 5, .inl (x_cn u))), (qw, .inl (cI, 259, .inl (x_wt u))), (qs, .inl (cI, 306, .inl (x_sn u)))] := hD
    have hl : lv_has ls 5 [(0, .ref qx), (1, .ref tT), (2, .int 8), (3, .int (nI 8))] := hl
    refine lv_iload_n hx hb dX0_send_65 rfl (lv_at hl 3 rfl) ?_
    refine lv_iload_n hx hb dX0_send_66 rfl (lv_at hl 2 rfl) ?_
    refine lv_icmp_ge (tgt := 89) hx hb dX0_send_67 (by decide) (fun c_1 => ?_) (fun c_1 => absurd (by decide) c_1)
    exact kk H locs ls hP hD hS (lv_sub hl [0] rfl)
  | succ n ih =>
    intro u j H locs ls hn hP hD hS hl kk
    have hP : va_P (dC, dI) vwCl [(qx, .inr (0, [.int (x_st u), .int (x_md u), .long (x_bt u), .int (x_cm u), .ref (x_hr u), .int (x_rs u), .ref (x_hv u), .int (x_vs u), .ref qc, .ref qw, .int (x_wz u), .ref qs, .int (x_sz u)])), (x_hr u, .inl (cI, 259, .inl (x_ro u))), (x_hv u, .inl (cI, 259, .inl (x_rc u))), (qc, .inl (cI, 5, .inl (x_cn u))), (qw, .inl (cI, 259, .inl (x_wt u))), (qs, .inl (cI, 306, .inl (x_sn u)))] H := hP
    have hD : va_D A [(qx, .inr (0, [.int (x_st u), .int (x_md u), .long (x_bt u), .int (x_cm u), .ref (x_hr u), .int (x_rs u), .ref (x_hv u), .int (x_vs u), .ref qc, .ref qw, .int (x_wz u), .ref qs, .int (x_sz u)])), (x_hr u, .inl (cI, 259, .inl (x_ro u))), (x_hv u, .inl (cI, 259, .inl (x_rc u))), (qc, .inl (cI, 5, .inl (x_cn u))), (qw, .inl (cI, 259, .inl (x_wt u))), (qs, .inl (cI, 306, .inl (x_sn u)))] := hD
    have hl : lv_has ls 5 [(0, .ref qx), (1, .ref tT), (2, .int 8), (3, .int (nI j))] := hl
    refine lv_iload_n hx hb dX0_send_65 rfl (lv_at hl 3 rfl) ?_
    refine lv_iload_n hx hb dX0_send_66 rfl (lv_at hl 2 rfl) ?_
    refine lv_icmp_ge (tgt := 89) hx hb dX0_send_67 (by decide) (fun c_1 => absurd c_1 (show ¬ nI 8 ≤ nI j from nI_ge (by omega) (by decide))) (fun c_1 => ?_)
    refine lv_aload_n hx hb dX0_send_70 rfl (lv_at hl 1 rfl) ?_
    refine lv_iload_n hx hb dX0_send_71 rfl (lv_at hl 3 rfl) ?_
    refine va_ti hx hb hT hS (vp_in_nI (by omega) (by decide)) (v := .int (x_tl j)) (by rw [nI_clamp (by omega)]) dX0_send_72 ?_
    refine lv_istore (lv' := [(4, .int (x_tl j)), (0, .ref qx), (1, .ref tT), (2, .int 8), (3, .int (nI j))]) hx hb dX0_send_73 hl (by decide) rfl (fun ls hl => ?_)
    refine lv_aload_n hx hb dX0_send_75 rfl (lv_at hl 1 rfl) ?_
    refine lv_iload hx hb dX0_send_76 (lv_at hl 0 rfl) ?_
    refine lv_i2l (v := (x_tl j).toInt64) hx hb dX0_send_78 rfl ?_
    refine lv_iconst (v := 1) hx hb dX0_send_79 (by decide) ?_
    have hPc : va_P (dC, dI) vwCl (x_W qx qc qw qs cI u) H := hP
    have hDc : va_D A (x_W qx qc qw qs cI u) := hD
    have hFc := va_free (wc := (x_W qx qc qw qs cI u)) hD hS hA [0, 1, 2, 3, 4, 5] rfl
    refine va_callv (va_runV (As := [.long ((x_tl j).toInt64), .int 1]) (rest := []) ⟨hx, hb, hml, hown, hts⟩ (kX0_sendBytes l dC dI qx qc qw qs cI H.size u ((x_tl j).toInt64) 1 (by decide)) (cwV 2 hts gX0_send_X0_sendBytes rfl rfl rfl (by decide +kernel) ⟨Nat.le_of_ble_eq_true rfl, Nat.le_of_ble_eq_true rfl⟩) ⟨fun a U g mk q => by obtain ⟨q0, q1, qP, qK, qD⟩ := q; exact ⟨q0, q1, qP, va_K.moved (u := U) (U := U.calling g mk a) (Vm.Alike.refl U.vm) qK, qD⟩, va_recv hK hP (ci := 0) (q0 := 0) rfl rfl, fun U hU hW => ⟨rfl, by rw [hU], by rw [hU]; exact hPc, va_K.moved hW.alike hK, hDc.weaken (fun _ _ _ _ => trivial)⟩⟩ rfl rfl hl.1 rfl (lv_room (Nat.le_of_ble_eq_true rfl)) dX0_send_80 ⟨Nat.le_of_ble_eq_true rfl, Nat.le_of_ble_eq_true rfl⟩) hS (fun q _ h => hFc q h) hFc (fun  u_2 t H1 locs ht hvm hu_2 hB hz1 hk1 hS => ?_)
    obtain ⟨hP1, -, hD1⟩ := hB
    rw [ht] at hP1
    have hP : va_P (dC, dI) vwCl [(qx, .inr (0, [.int (x_st u_2), .int (x_md u_2), .long (x_bt u_2), .int (x_cm u_2), .ref (x_hr u_2), .int (x_rs u_2), .ref (x_hv u_2), .int (x_vs u_2), .ref qc, .ref qw, .int (x_wz u_2), .ref qs, .int (x_sz u_2)])), (x_hr u_2, .inl (cI, 259, .inl (x_ro u_2))), (x_hv u_2, .inl (cI, 259, .inl (x_rc u_2))), (qc, .inl (cI, 5, .inl (x_cn u_2))), (qw, .inl (cI, 259, .inl (x_wt u_2))), (qs, .inl (cI, 306, .inl (x_sn u_2)))] H1 := hP1
    have hD : va_D A [(qx, .inr (0, [.int (x_st u_2), .int (x_md u_2), .long (x_bt u_2), .int (x_cm u_2), .ref (x_hr u_2), .int (x_rs u_2), .ref (x_hv u_2), .int (x_vs u_2), .ref qc, .ref qw, .int (x_wz u_2), .ref qs, .int (x_sz u_2)])), (x_hr u_2, .inl (cI, 259, .inl (x_ro u_2))), (x_hv u_2, .inl (cI, 259, .inl (x_rc u_2))), (qc, .inl (cI, 5, .inl (x_cn u_2))), (qw, .inl (cI, 259, .inl (x_wt u_2))), (qs, .inl (cI, 306, .inl (x_sn u_2)))] := hD1.weaken (fun k q _ h => hFc q.1 h)
    generalize H1 = H at hP hS ⊢
    refine lv_iinc (v := nI (j + 1)) (lv' := [(3, .int (nI (j + 1))), (4, .int (x_tl j)), (0, .ref qx), (1, .ref tT), (2, .int 8)]) hx hb dX0_send_83 hl (k := 4) rfl (j_inc j 1) (by decide) rfl (fun ls hl => ?_)
    refine lv_goto (tgt := 65) hx hb dX0_send_86 (by decide) ?_
    subst hu_2
    have eF : x_s2F (n + 1) j u = x_s2F n (j + 1) (x_sendBytes u ((x_tl j).toInt64) 1) := by rw [x_s2F]
    exact ih (x_sendBytes u ((x_tl j).toInt64) 1) (j + 1) H locs ls (by omega) hP hD hS (lv_sub hl [2, 3, 4, 0] rfl) (fun H locs ls hP hD hS hl => kk H locs ls (by rw [eF]; exact hP) (by rw [eF]; exact hD) hS (by exact hl))
def x_sz0 (u : x_S) : x_S := (x_st u, x_md u, x_bt u, x_cm u, x_hr u, x_rs u, x_hv u, x_vs u, x_wz u, 0, x_ro u, x_rc u, x_cn u, x_wt u, x_sn u)
def x_wz0 (u : x_S) : x_S := (x_st u, x_md u, x_bt u, x_cm u, x_hr u, x_rs u, x_hv u, x_vs u, 0, x_sz u, x_ro u, x_rc u, x_cn u, x_wt u, x_sn u)
def x_sendT (u : x_S) (q : Nat) : x_S := x_s2F 8 0 (x_s1F q 0 (x_sendBytes (x_sz0 (x_fillLastBlock u)) 60304 2))
def x_send (u : x_S) (q : Nat) : x_S := if x_wz u = 0 then u else x_wz0 (x_sendT u q)
def x_send_r (u : x_S) (q : Nat) : Int32 := if x_wz u = 0 then (-1) else x_sz (x_sendT u q)
set_option maxHeartbeats 4000000 in
set_option maxRecDepth 100000 in
theorem kX0_send (l : Launch) (dC : Nat → ClassId) (dI : Nat → Nat → Nat) (qx qc qw qs : Nat) (cI : ClassId) (sz : Nat) (u : x_S)  (Wn : Nat) (hWn : Wn ≤ 259) (ew : x_wz u = nI Wn) (tT : Nat) : Met l yX0_send wsX0_send rmX0_send (va_Pc [.ref qx] (fun U => U.heap.size = sz ∧ va_P (dC, dI) vwCl (x_W qx qc qw qs cI u) U.heap ∧ va_K (dC, dI) vwCl [(cI, .int)] U ∧ va_D (fun _ => True) (x_W qx qc qw qs cI u) ∧ x_Tl tT (va_A (x_W qx qc qw qs cI u) sz) U)) (va_Qi (fun r u2 => r = x_send_r u ((Wn + 6) / 7) ∧ u2 = x_send u ((Wn + 6) / 7)) (x_At dC dI (va_A (x_W qx qc qw qs cI u) sz) qx qc qw qs cI) (va_A (x_W qx qc qw qs cI u) sz)) 0 0 (va_A (x_W qx qc qw qs cI u) sz) := by
  refine Met.ofW (cc := cX0_send) (maxL := 5) (ret := some .int) (by decide) rfl ?_
  intro p e s m args below meth c s₁ B hml hv
  obtain ⟨rfl, hsz, hP, hK, hD0, hXP⟩ := hv
  have hx := B.exec
  have hb := B.bytes
  have hr := B.returns
  have hts := atoms_spec (ws := wsX0_send) B.pre
  have hown : s.vm.findClass RX0 = some m.cls := findClass_of_methodNamed B.named
  have hlocks := B.notSynchronized
  have hinT : ∀ w ∈ wsX00, w ∈ wsX0_send := by decide +kernel
  subst hsz
  have hD := hD0.self (sz := s.heap.size)
  generalize hAe : va_A (x_W qx qc qw qs cI u) s.heap.size = A at hD hXP ⊢
  have hA : ∀ q : Nat, s.heap.size ≤ q → A q := fun q h => by rw [← hAe]; exact Or.inr h
  have hS : va_S A s.heap s.heap [] := va_S.rf
  have hD : va_D A [(qx, .inr (0, [.int (x_st u), .int (x_md u), .long (x_bt u), .int (x_cm u), .ref (x_hr u), .int (x_rs u), .ref (x_hv u), .int (x_vs u), .ref qc, .ref qw, .int (x_wz u), .ref qs, .int (x_sz u)])), (x_hr u, .inl (cI, 259, .inl (x_ro u))), (x_hv u, .inl (cI, 259, .inl (x_rc u))), (qc, .inl (cI, 5, .inl (x_cn u))), (qw, .inl (cI, 259, .inl (x_wt u))), (qs, .inl (cI, 306, .inl (x_sn u)))] := hD
  have hP : va_P (dC, dI) vwCl [(qx, .inr (0, [.int (x_st u), .int (x_md u), .long (x_bt u), .int (x_cm u), .ref (x_hr u), .int (x_rs u), .ref (x_hv u), .int (x_vs u), .ref qc, .ref qw, .int (x_wz u), .ref qs, .int (x_sz u)])), (x_hr u, .inl (cI, 259, .inl (x_ro u))), (x_hv u, .inl (cI, 259, .inl (x_rc u))), (qc, .inl (cI, 5, .inl (x_cn u))), (qw, .inl (cI, 259, .inl (x_wt u))), (qs, .inl (cI, 306, .inl (x_sn u)))] s.heap := hP
  have hl := lv_entry ([.ref qx]) (n := 5) (Nat.le_of_ble_eq_true rfl)
  rw [lg_entry_eq]
  generalize (lg_sl ([.ref qx]) ++ List.replicate (5 - (lg_sl ([.ref qx])).length) Slot.unset).toArray = ls at hl ⊢
  have hl : lv_has ls 5 [(0, .ref qx)] := hl
  obtain ⟨hZ, hT⟩ := hXP
  refine lv_aload_n hx hb dX0_send_0 rfl (lv_at hl 0 rfl) ?_
  refine va_get (D := (dC, dI)) (ci := 0) (v := .int (x_wz u)) (C := RX0) (T := TX0) (N := 13) hx hb hts hinT hown hK hP 0 rfl rfl 10 (by decide) (hts (.fieldLink RX0 43 "CodeBlocks" "waitingSize" "I") (by decide +kernel)) (fun _ h9 => h9) rfl dX0_send_1 ?_
  refine lv_if_ne (tgt := 9) hx hb dX0_send_4 (by decide) (fun c_1 => ?_) (fun c_1 => ?_)
  · refine lv_aload_n hx hb dX0_send_9 rfl (lv_at hl 0 rfl) ?_
    have hPc : va_P (dC, dI) vwCl (x_W qx qc qw qs cI u) s.heap := hP
    have hDc : va_D A (x_W qx qc qw qs cI u) := hD
    have hFc := va_free (wc := (x_W qx qc qw qs cI u)) hD hS hA [0, 1, 2, 3, 4, 5] rfl
    refine va_callv (va_runV (As := []) (rest := []) ⟨hx, hb, hml, hown, hts⟩ (kX0_fillLastBlock l dC dI qx qc qw qs cI s.heap.size u  ) (cwV 0 hts gX0_send_X0_fillLastBlock rfl rfl rfl (by decide +kernel) ⟨Nat.le_of_ble_eq_true rfl, Nat.le_of_ble_eq_true rfl⟩) ⟨fun a U g mk q => by obtain ⟨q0, q1, qP, qK, qD⟩ := q; exact ⟨q0, q1, qP, va_K.moved (u := U) (U := U.calling g mk a) (Vm.Alike.refl U.vm) qK, qD⟩, va_recv hK hP (ci := 0) (q0 := 0) rfl rfl, fun U hU hW => ⟨rfl, by rw [hU], by rw [hU]; exact hPc, va_K.moved hW.alike hK, hDc.weaken (fun _ _ _ _ => trivial)⟩⟩ rfl rfl hl.1 rfl (lv_room (Nat.le_of_ble_eq_true rfl)) dX0_send_10 ⟨Nat.le_of_ble_eq_true rfl, Nat.le_of_ble_eq_true rfl⟩) hS (fun q _ h => hFc q h) hFc (fun  u_2 t H1 locs ht hvm hu_2 hB hz1 hk1 hS => ?_)
    obtain ⟨hP1, -, hD1⟩ := hB
    rw [ht] at hP1
    have hP : va_P (dC, dI) vwCl [(qx, .inr (0, [.int (x_st u_2), .int (x_md u_2), .long (x_bt u_2), .int (x_cm u_2), .ref (x_hr u_2), .int (x_rs u_2), .ref (x_hv u_2), .int (x_vs u_2), .ref qc, .ref qw, .int (x_wz u_2), .ref qs, .int (x_sz u_2)])), (x_hr u_2, .inl (cI, 259, .inl (x_ro u_2))), (x_hv u_2, .inl (cI, 259, .inl (x_rc u_2))), (qc, .inl (cI, 5, .inl (x_cn u_2))), (qw, .inl (cI, 259, .inl (x_wt u_2))), (qs, .inl (cI, 306, .inl (x_sn u_2)))] H1 := hP1
    have hD : va_D A [(qx, .inr (0, [.int (x_st u_2), .int (x_md u_2), .long (x_bt u_2), .int (x_cm u_2), .ref (x_hr u_2), .int (x_rs u_2), .ref (x_hv u_2), .int (x_vs u_2), .ref qc, .ref qw, .int (x_wz u_2), .ref qs, .int (x_sz u_2)])), (x_hr u_2, .inl (cI, 259, .inl (x_ro u_2))), (x_hv u_2, .inl (cI, 259, .inl (x_rc u_2))), (qc, .inl (cI, 5, .inl (x_cn u_2))), (qw, .inl (cI, 259, .inl (x_wt u_2))), (qs, .inl (cI, 306, .inl (x_sn u_2)))] := hD1.weaken (fun k q _ h => hFc q.1 h)
    generalize H1 = H at hP hS ⊢
    refine lv_aload_n hx hb dX0_send_13 rfl (lv_at hl 0 rfl) ?_
    refine lv_iconst (v := 0) hx hb dX0_send_14 (by decide) ?_
    refine va_put (D := (dC, dI)) (ci := 0) (v := .int 0) (ty := .int) (C := RX0) (T := TX0) (N := 13) hx hb hts hinT tyX0 tyX0_ok nmX0 hown hK hP hD hS 0 rfl rfl 12 (by decide) (hts (.fieldLink RX0 49 "CodeBlocks" "sentSize" "I") (by decide +kernel)) (fun _ h9 => h9) rfl (by decide +kernel) rfl rfl (Nat.le_of_ble_eq_true rfl) dX0_send_15 (fun H locs hP hD hS => ?_)
    have hP : va_P (dC, dI) vwCl [(qx, .inr (0, [.int (x_st u_2), .int (x_md u_2), .long (x_bt u_2), .int (x_cm u_2), .ref (x_hr u_2), .int (x_rs u_2), .ref (x_hv u_2), .int (x_vs u_2), .ref qc, .ref qw, .int (x_wz u_2), .ref qs, .int 0])), (x_hr u_2, .inl (cI, 259, .inl (x_ro u_2))), (x_hv u_2, .inl (cI, 259, .inl (x_rc u_2))), (qc, .inl (cI, 5, .inl (x_cn u_2))), (qw, .inl (cI, 259, .inl (x_wt u_2))), (qs, .inl (cI, 306, .inl (x_sn u_2)))] H := hP
    have hD : va_D A [(qx, .inr (0, [.int (x_st u_2), .int (x_md u_2), .long (x_bt u_2), .int (x_cm u_2), .ref (x_hr u_2), .int (x_rs u_2), .ref (x_hv u_2), .int (x_vs u_2), .ref qc, .ref qw, .int (x_wz u_2), .ref qs, .int 0])), (x_hr u_2, .inl (cI, 259, .inl (x_ro u_2))), (x_hv u_2, .inl (cI, 259, .inl (x_rc u_2))), (qc, .inl (cI, 5, .inl (x_cn u_2))), (qw, .inl (cI, 259, .inl (x_wt u_2))), (qs, .inl (cI, 306, .inl (x_sn u_2)))] := hD
    refine lv_aload_n hx hb dX0_send_18 rfl (lv_at hl 0 rfl) ?_
    refine lv_ldc2 hx hb hown (hts (.constantLong RX0 52 60304) (by decide +kernel)) dX0_send_19 ?_
    refine lv_iconst (v := 2) hx hb dX0_send_22 (by decide) ?_
    have hPc : va_P (dC, dI) vwCl (x_W qx qc qw qs cI (x_st u_2, x_md u_2, x_bt u_2, x_cm u_2, x_hr u_2, x_rs u_2, x_hv u_2, x_vs u_2, x_wz u_2, 0, x_ro u_2, x_rc u_2, x_cn u_2, x_wt u_2, x_sn u_2)) H := hP
    have hDc : va_D A (x_W qx qc qw qs cI (x_st u_2, x_md u_2, x_bt u_2, x_cm u_2, x_hr u_2, x_rs u_2, x_hv u_2, x_vs u_2, x_wz u_2, 0, x_ro u_2, x_rc u_2, x_cn u_2, x_wt u_2, x_sn u_2)) := hD
    have hFc := va_free (wc := (x_W qx qc qw qs cI (x_st u_2, x_md u_2, x_bt u_2, x_cm u_2, x_hr u_2, x_rs u_2, x_hv u_2, x_vs u_2, x_wz u_2, 0, x_ro u_2, x_rc u_2, x_cn u_2, x_wt u_2, x_sn u_2))) hD hS hA [0, 1, 2, 3, 4, 5] rfl
    refine va_callv (va_runV (As := [.long 60304, .int 2]) (rest := []) ⟨hx, hb, hml, hown, hts⟩ (kX0_sendBytes l dC dI qx qc qw qs cI H.size (x_st u_2, x_md u_2, x_bt u_2, x_cm u_2, x_hr u_2, x_rs u_2, x_hv u_2, x_vs u_2, x_wz u_2, 0, x_ro u_2, x_rc u_2, x_cn u_2, x_wt u_2, x_sn u_2) 60304 2 (by decide)) (cwV 2 hts gX0_send_X0_sendBytes rfl rfl rfl (by decide +kernel) ⟨Nat.le_of_ble_eq_true rfl, Nat.le_of_ble_eq_true rfl⟩) ⟨fun a U g mk q => by obtain ⟨q0, q1, qP, qK, qD⟩ := q; exact ⟨q0, q1, qP, va_K.moved (u := U) (U := U.calling g mk a) (Vm.Alike.refl U.vm) qK, qD⟩, va_recv hK hP (ci := 0) (q0 := 0) rfl rfl, fun U hU hW => ⟨rfl, by rw [hU], by rw [hU]; exact hPc, va_K.moved hW.alike hK, hDc.weaken (fun _ _ _ _ => trivial)⟩⟩ rfl rfl hl.1 rfl (lv_room (Nat.le_of_ble_eq_true rfl)) dX0_send_23 ⟨Nat.le_of_ble_eq_true rfl, Nat.le_of_ble_eq_true rfl⟩) hS (fun q _ h => hFc q h) hFc (fun  u_3 t H1 locs ht hvm hu_3 hB hz1 hk1 hS => ?_)
    obtain ⟨hP1, -, hD1⟩ := hB
    rw [ht] at hP1
    have hP : va_P (dC, dI) vwCl [(qx, .inr (0, [.int (x_st u_3), .int (x_md u_3), .long (x_bt u_3), .int (x_cm u_3), .ref (x_hr u_3), .int (x_rs u_3), .ref (x_hv u_3), .int (x_vs u_3), .ref qc, .ref qw, .int (x_wz u_3), .ref qs, .int (x_sz u_3)])), (x_hr u_3, .inl (cI, 259, .inl (x_ro u_3))), (x_hv u_3, .inl (cI, 259, .inl (x_rc u_3))), (qc, .inl (cI, 5, .inl (x_cn u_3))), (qw, .inl (cI, 259, .inl (x_wt u_3))), (qs, .inl (cI, 306, .inl (x_sn u_3)))] H1 := hP1
    have hD : va_D A [(qx, .inr (0, [.int (x_st u_3), .int (x_md u_3), .long (x_bt u_3), .int (x_cm u_3), .ref (x_hr u_3), .int (x_rs u_3), .ref (x_hv u_3), .int (x_vs u_3), .ref qc, .ref qw, .int (x_wz u_3), .ref qs, .int (x_sz u_3)])), (x_hr u_3, .inl (cI, 259, .inl (x_ro u_3))), (x_hv u_3, .inl (cI, 259, .inl (x_rc u_3))), (qc, .inl (cI, 5, .inl (x_cn u_3))), (qw, .inl (cI, 259, .inl (x_wt u_3))), (qs, .inl (cI, 306, .inl (x_sn u_3)))] := hD1.weaken (fun k q _ h => hFc q.1 h)
    generalize H1 = H at hP hS ⊢
    refine lv_iconst (v := 0) hx hb dX0_send_26 (by decide) ?_
    refine lv_istore_n (lv' := [(1, .int 0), (0, .ref qx)]) hx hb dX0_send_27 rfl hl (by decide) rfl (fun ls hl => ?_)
    have ew1 : x_wz u_3 = nI (7 * ((Wn + 6) / 7)) := by rw [hu_3]; exact (x_sb_wz _ _ _).1.trans (by rw [hu_2]; exact x_fl_wz 6 u Wn ew hWn (by omega))
    refine lpX0_send1 (l := l) dC dI qx qc qw qs cI ((Wn + 6) / 7) (by omega) hx hb hml hown hts A hA hK  ((Wn + 6) / 7) u_3 0 H locs ls (by omega) ew1 hP hD hS (lv_sub hl [1, 0] rfl) (fun H locs ls hP hD hS hl => ?_)
    obtain ⟨v_4, hv_4⟩ : ∃ z, z = x_s1F ((Wn + 6) / 7) 0 u_3 := ⟨_, rfl⟩
    rw [← hv_4] at hP hD
    have hP : va_P (dC, dI) vwCl [(qx, .inr (0, [.int (x_st v_4), .int (x_md v_4), .long (x_bt v_4), .int (x_cm v_4), .ref (x_hr v_4), .int (x_rs v_4), .ref (x_hv v_4), .int (x_vs v_4), .ref qc, .ref qw, .int (x_wz v_4), .ref qs, .int (x_sz v_4)])), (x_hr v_4, .inl (cI, 259, .inl (x_ro v_4))), (x_hv v_4, .inl (cI, 259, .inl (x_rc v_4))), (qc, .inl (cI, 5, .inl (x_cn v_4))), (qw, .inl (cI, 259, .inl (x_wt v_4))), (qs, .inl (cI, 306, .inl (x_sn v_4)))] H := hP
    have hD : va_D A [(qx, .inr (0, [.int (x_st v_4), .int (x_md v_4), .long (x_bt v_4), .int (x_cm v_4), .ref (x_hr v_4), .int (x_rs v_4), .ref (x_hv v_4), .int (x_vs v_4), .ref qc, .ref qw, .int (x_wz v_4), .ref qs, .int (x_sz v_4)])), (x_hr v_4, .inl (cI, 259, .inl (x_ro v_4))), (x_hv v_4, .inl (cI, 259, .inl (x_rc v_4))), (qc, .inl (cI, 5, .inl (x_cn v_4))), (qw, .inl (cI, 259, .inl (x_wt v_4))), (qs, .inl (cI, 306, .inl (x_sn v_4)))] := hD
    refine va_gets hx hb hZ hS hown (hts (.fieldLink RX0 66 "CodeBlocks" "TAIL" "[I") (by decide +kernel)) (fun _ h9 => h9) dX0_send_56 ?_
    refine lv_astore_n (lv' := [(1, .ref tT), (0, .ref qx)]) hx hb dX0_send_59 rfl hl (by decide) rfl (fun ls hl => ?_)
    refine lv_aload_n hx hb dX0_send_60 rfl (lv_at hl 0 rfl) ?_
    refine va_tlen hx hb hT hS (v := 8) rfl dX0_send_61 ?_
    refine lv_istore_n (lv' := [(2, .int 8), (1, .ref tT), (0, .ref qx)]) hx hb dX0_send_62 rfl hl (by decide) rfl (fun ls hl => ?_)
    refine lv_iconst (v := 0) hx hb dX0_send_63 (by decide) ?_
    refine lv_istore_n (lv' := [(3, .int 0), (2, .int 8), (1, .ref tT), (0, .ref qx)]) hx hb dX0_send_64 rfl hl (by decide) rfl (fun ls hl => ?_)
    refine lpX0_send2 (l := l) dC dI qx qc qw qs cI tT hx hb hml hown hts A hA hK hT 8 v_4 0 H locs ls rfl hP hD hS (lv_sub hl [3, 2, 1, 0] rfl) (fun H locs ls hP hD hS hl => ?_)
    obtain ⟨v_5, hv_5⟩ : ∃ z, z = x_s2F 8 0 v_4 := ⟨_, rfl⟩
    rw [← hv_5] at hP hD
    have hP : va_P (dC, dI) vwCl [(qx, .inr (0, [.int (x_st v_5), .int (x_md v_5), .long (x_bt v_5), .int (x_cm v_5), .ref (x_hr v_5), .int (x_rs v_5), .ref (x_hv v_5), .int (x_vs v_5), .ref qc, .ref qw, .int (x_wz v_5), .ref qs, .int (x_sz v_5)])), (x_hr v_5, .inl (cI, 259, .inl (x_ro v_5))), (x_hv v_5, .inl (cI, 259, .inl (x_rc v_5))), (qc, .inl (cI, 5, .inl (x_cn v_5))), (qw, .inl (cI, 259, .inl (x_wt v_5))), (qs, .inl (cI, 306, .inl (x_sn v_5)))] H := hP
    have hD : va_D A [(qx, .inr (0, [.int (x_st v_5), .int (x_md v_5), .long (x_bt v_5), .int (x_cm v_5), .ref (x_hr v_5), .int (x_rs v_5), .ref (x_hv v_5), .int (x_vs v_5), .ref qc, .ref qw, .int (x_wz v_5), .ref qs, .int (x_sz v_5)])), (x_hr v_5, .inl (cI, 259, .inl (x_ro v_5))), (x_hv v_5, .inl (cI, 259, .inl (x_rc v_5))), (qc, .inl (cI, 5, .inl (x_cn v_5))), (qw, .inl (cI, 259, .inl (x_wt v_5))), (qs, .inl (cI, 306, .inl (x_sn v_5)))] := hD
    refine lv_aload_n hx hb dX0_send_89 rfl (lv_at hl 0 rfl) ?_
    refine lv_iconst (v := 0) hx hb dX0_send_90 (by decide) ?_
    refine va_put (D := (dC, dI)) (ci := 0) (v := .int 0) (ty := .int) (C := RX0) (T := TX0) (N := 13) hx hb hts hinT tyX0 tyX0_ok nmX0 hown hK hP hD hS 0 rfl rfl 10 (by decide) (hts (.fieldLink RX0 43 "CodeBlocks" "waitingSize" "I") (by decide +kernel)) (fun _ h9 => h9) rfl (by decide +kernel) rfl rfl (Nat.le_of_ble_eq_true rfl) dX0_send_91 (fun H locs hP hD hS => ?_)
    have hP : va_P (dC, dI) vwCl [(qx, .inr (0, [.int (x_st v_5), .int (x_md v_5), .long (x_bt v_5), .int (x_cm v_5), .ref (x_hr v_5), .int (x_rs v_5), .ref (x_hv v_5), .int (x_vs v_5), .ref qc, .ref qw, .int 0, .ref qs, .int (x_sz v_5)])), (x_hr v_5, .inl (cI, 259, .inl (x_ro v_5))), (x_hv v_5, .inl (cI, 259, .inl (x_rc v_5))), (qc, .inl (cI, 5, .inl (x_cn v_5))), (qw, .inl (cI, 259, .inl (x_wt v_5))), (qs, .inl (cI, 306, .inl (x_sn v_5)))] H := hP
    have hD : va_D A [(qx, .inr (0, [.int (x_st v_5), .int (x_md v_5), .long (x_bt v_5), .int (x_cm v_5), .ref (x_hr v_5), .int (x_rs v_5), .ref (x_hv v_5), .int (x_vs v_5), .ref qc, .ref qw, .int 0, .ref qs, .int (x_sz v_5)])), (x_hr v_5, .inl (cI, 259, .inl (x_ro v_5))), (x_hv v_5, .inl (cI, 259, .inl (x_rc v_5))), (qc, .inl (cI, 5, .inl (x_cn v_5))), (qw, .inl (cI, 259, .inl (x_wt v_5))), (qs, .inl (cI, 306, .inl (x_sn v_5)))] := hD
    refine lv_aload_n hx hb dX0_send_94 rfl (lv_at hl 0 rfl) ?_
    refine va_get (D := (dC, dI)) (ci := 0) (v := .int (x_sz v_5)) (C := RX0) (T := TX0) (N := 13) hx hb hts hinT hown hK hP 0 rfl rfl 12 (by decide) (hts (.fieldLink RX0 49 "CodeBlocks" "sentSize" "I") (by decide +kernel)) (fun _ h9 => h9) rfl dX0_send_95 ?_
    have e5 : v_5 = x_sendT u ((Wn + 6) / 7) := by rw [hv_5, hv_4, hu_3, hu_2, x_sendT, x_sz0]
    have hP9 : va_P (dC, dI) vwCl (x_W qx qc qw qs cI (x_st v_5, x_md v_5, x_bt v_5, x_cm v_5, x_hr v_5, x_rs v_5, x_hv v_5, x_vs v_5, 0, x_sz v_5, x_ro v_5, x_rc v_5, x_cn v_5, x_wt v_5, x_sn v_5)) H := hP
    have hD9 : va_D A (x_W qx qc qw qs cI (x_st v_5, x_md v_5, x_bt v_5, x_cm v_5, x_hr v_5, x_rs v_5, x_hv v_5, x_vs v_5, 0, x_sz v_5, x_ro v_5, x_rc v_5, x_cn v_5, x_wt v_5, x_sn v_5)) := hD
    exact W.iret (v := x_sz v_5) hx hb hr (fun t ht hW => ⟨⟨_, (x_st v_5, x_md v_5, x_bt v_5, x_cm v_5, x_hr v_5, x_rs v_5, x_hv v_5, x_vs v_5, 0, x_sz v_5, x_ro v_5, x_rc v_5, x_cn v_5, x_wt v_5, x_sn v_5), rfl, ⟨(by rw [e5]; unfold x_send_r; rw [if_neg c_1]), ((show _ = x_wz0 v_5 from rfl).trans (by rw [e5]; unfold x_send; rw [if_neg c_1]))⟩, by rw [ht]; exact hP9, va_K.moved hW.alike hK, hD9⟩, hS.F ht⟩) hS.2.2 dX0_send_98
  · refine lv_iconst (v := (-1)) hx hb dX0_send_7 (by decide) ?_
    have hP9 : va_P (dC, dI) vwCl (x_W qx qc qw qs cI u) s.heap := hP
    have hD9 : va_D A (x_W qx qc qw qs cI u) := hD
    exact W.iret (v := (-1)) hx hb hr (fun t ht hW => ⟨⟨_, u, rfl, ⟨(by unfold x_send_r; rw [if_pos c_1]), (by unfold x_send; rw [if_pos c_1])⟩, by rw [ht]; exact hP9, va_K.moved hW.alike hK, hD9⟩, hS.F ht⟩) hS.2.2 dX0_send_8
