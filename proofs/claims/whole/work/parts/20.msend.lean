abbrev rmX1_send : Room := { frames := 1, cells := 0, slots := 0, locals := 26 }
def m_waF : Nat → m_S → m_S
  | 0, u => u
  | n + 1, u => if nI (m_wn u % 7) = 0 then u else m_waF n (m_th u, m_st u, m_md u, m_mn u, m_rw u, m_sz u, m_wn u + 1, m_sn u, m_bi u, m_ro u, m_rc u, upd (m_wt u) (m_wn u) 85, m_se u, m_cn u)
def m_ocF (i : Nat) : Nat → Nat → m_S → m_S
  | 0, _, u => u
  | n + 1, k, u => m_ocF i n (k + 1) (m_out u ((m_wt u) ((7 * i) + k)))
def m_sB : Nat → Nat → m_S → m_S
  | 0, _, u => u
  | n + 1, i, u => m_sB n (i + 1) (m_out (m_ocF i 7 0 u) (m_check (m_ocF i 7 0 u) (7 * i)))
def m_odF : Nat → Nat → m_S → m_S
  | 0, _, u => u
  | n + 1, k, u => m_odF n (k + 1) (m_out u 197)
def m_th0 (u : m_S) : m_S := (0, m_st u, m_md u, m_mn u, m_rw u, m_sz u, m_wn u, m_sn u, m_bi u, m_ro u, m_rc u, m_wt u, m_se u, m_cn u)
def m_sn0 (u : m_S) : m_S := (m_th u, m_st u, m_md u, m_mn u, m_rw u, m_sz u, m_wn u, 0, m_bi u, m_ro u, m_rc u, m_wt u, m_se u, m_cn u)
def m_wn0 (u : m_S) : m_S := (m_th u, m_st u, m_md u, m_mn u, m_rw u, m_sz u, 0, m_sn u, m_bi u, m_ro u, m_rc u, m_wt u, m_se u, m_cn u)
def m_sendA (u : m_S) : m_S := m_out (m_out (m_sn0 (m_waF 7 (m_th0 u))) 235) 144
def m_sendT (u : m_S) : m_S := m_out (m_odF 7 0 (m_sB ((m_wn u + 6) / 7) 0 (m_sendA u))) 121
theorem m_wa_wn : ∀ (n : Nat) (u : m_S), m_wn u ≤ 259 → (m_wn u % 7 = 0 ∨ 7 ≤ n + m_wn u % 7) → m_wn (m_waF n u) = 7 * ((m_wn u + 6) / 7) := by
  intro n
  induction n with
  | zero =>
    intro u h1 h2
    show m_wn u = _
    omega
  | succ n ih =>
    intro u h1 h2
    rw [m_waF]
    by_cases h0 : m_wn u % 7 = 0
    · rw [h0, if_pos nI_0]; omega
    · rw [if_neg (nI_ne0 (by omega) (by omega)), ih _ (show m_wn u + 1 ≤ 259 by omega) (show (m_wn u + 1) % 7 = 0 ∨ 7 ≤ n + (m_wn u + 1) % 7 by omega)]
      show 7 * ((m_wn u + 1 + 6) / 7) = 7 * ((m_wn u + 6) / 7)
      omega
theorem m_oc_f (i : Nat) : ∀ (n k : Nat) (u : m_S), m_wn (m_ocF i n k u) = m_wn u ∧ m_sn (m_ocF i n k u) = m_sn u + n := by
  intro n
  induction n with
  | zero => intro k u; exact ⟨rfl, rfl⟩
  | succ n ih =>
    intro k u
    rw [m_ocF]
    obtain ⟨h1, h2⟩ := ih (k + 1) (m_out u ((m_wt u) ((7 * i) + k)))
    refine ⟨h1, h2.trans ?_⟩
    show m_sn u + 1 + n = m_sn u + (n + 1)
    omega
theorem m_sB_f : ∀ (n i : Nat) (u : m_S), m_wn (m_sB n i u) = m_wn u ∧ m_sn (m_sB n i u) = m_sn u + 8 * n := by
  intro n
  induction n with
  | zero => intro i u; exact ⟨rfl, rfl⟩
  | succ n ih =>
    intro i u
    rw [m_sB]
    obtain ⟨h1, h2⟩ := ih (i + 1) (m_out (m_ocF i 7 0 u) (m_check (m_ocF i 7 0 u) (7 * i)))
    refine ⟨h1.trans (m_oc_f i 7 0 u).1, h2.trans ?_⟩
    show m_sn (m_ocF i 7 0 u) + 1 + 8 * n = m_sn u + 8 * (n + 1)
    rw [(m_oc_f i 7 0 u).2]
    omega
theorem m_od_f : ∀ (n k : Nat) (u : m_S), m_sn (m_odF n k u) = m_sn u + n := by
  intro n
  induction n with
  | zero => intro k u; rfl
  | succ n ih =>
    intro k u
    rw [m_odF, ih]
    show m_sn u + 1 + n = m_sn u + (n + 1)
    omega
set_option maxHeartbeats 4000000 in
set_option maxRecDepth 100000 in
theorem lpX1_sendA {p : Program} {l : Launch} {e : Env} {s : State} {m : MethodId} {args : Array Value} {below : List Frame} {meth : Method} {c : Code} {Q : State → Prop} (dC : Nat → ClassId) (dI : Nat → Nat → Nat) (qm pb pr pv pw ps pc : Nat) (cI : ClassId) (hx : p.tables.exec = Jvm.exec) (hb : c.code = cX1_send) (hml : c.maxLocals = 3) (hown : s.vm.findClass RX1 = some m.cls) (hts : ∀ w ∈ vX1_send, w.before args s = true) (A : Nat → Prop) (hA : ∀ q : Nat, s.heap.size ≤ q → A q) (hK : va_K (dC, dI) vwCl [(cI, .int)] s) : ∀ (n : Nat) (u : m_S) (H : Heap) (locs : List Loc) (ls : Array Slot), m_wn u ≤ 259 → (m_wn u % 7 = 0 ∨ 7 ≤ n + m_wn u % 7) → va_P (dC, dI) vwCl (m_W qm pb pr pv pw ps pc cI u) H → va_D A (m_W qm pb pr pv pw ps pc cI u) → va_S A s.heap H locs → lv_has ls 3 [(0, .ref qm)] → (∀ (H : Heap) (locs : List Loc) (ls : Array Slot), va_P (dC, dI) vwCl (m_W qm pb pr pv pw ps pc cI (m_waF n u)) H → va_D A (m_W qm pb pr pv pw ps pc cI (m_waF n u)) → va_S A s.heap H locs → lv_has ls 3 [(0, .ref qm)] → W p l e (headSpec vX1_send rmX1_send).room s m args below meth c H locs 0 0 Q (F0 m 48 ls [])) → W p l e (headSpec vX1_send rmX1_send).room s m args below meth c H locs 0 0 Q (F0 m 14 ls []) := by
  have hinT : ∀ w ∈ wsX10, w ∈ vX1_send := fun w h => List.mem_cons_of_mem _ (inM w h)
  intro n
  induction n with
  | zero =>
    intro u H locs ls hwn hf hP hD hS hl kk
    have hP : va_P (dC, dI) vwCl [(qm, .inr (1, [.int (m_th u), .int (m_st u), .int (m_md u), .ref pb, .int (nI (m_mn u)), .ref pr, .int (nI (m_rw u)), .ref pv, .int (nI (m_sz u)), .ref pw, .int (nI (m_wn u)), .ref ps, .int (nI (m_sn u)), .ref pc])), (pb, .inl (cI, 64, .inl (m_bi u))), (pr, .inl (cI, 259, .inl (m_ro u))), (pv, .inl (cI, 259, .inl (m_rc u))), (pw, .inl (cI, 259, .inl (m_wt u))), (ps, .inl (cI, 306, .inl (m_se u))), (pc, .inl (cI, 5, .inl (m_cn u)))] H := hP
    have hD : va_D A [(qm, .inr (1, [.int (m_th u), .int (m_st u), .int (m_md u), .ref pb, .int (nI (m_mn u)), .ref pr, .int (nI (m_rw u)), .ref pv, .int (nI (m_sz u)), .ref pw, .int (nI (m_wn u)), .ref ps, .int (nI (m_sn u)), .ref pc])), (pb, .inl (cI, 64, .inl (m_bi u))), (pr, .inl (cI, 259, .inl (m_ro u))), (pv, .inl (cI, 259, .inl (m_rc u))), (pw, .inl (cI, 259, .inl (m_wt u))), (ps, .inl (cI, 306, .inl (m_se u))), (pc, .inl (cI, 5, .inl (m_cn u)))] := hD
    have hl : lv_has ls 3 [(0, .ref qm)] := hl
    refine lv_aload_n hx hb dX1_send_14 rfl (lv_at hl 0 rfl) ?_
    refine va_get (D := (dC, dI)) (ci := 1) (v := .int (nI (m_wn u))) (C := RX1) (T := TX1) (N := 14) hx hb hts hinT hown hK hP 0 rfl rfl 10 (by decide) (hts _ (List.mem_cons_of_mem _ fl_74)) (fun _ h9 => h9) rfl dX1_send_15 ?_
    refine lv_bipush (v := 7) hx hb dX1_send_18 (by decide) ?_
    refine lv_irem hx hb dX1_send_20 (by decide) ?_
    refine W.eq (congrArg (fun z => F0 m 21 ls (.int z :: [])) (show (nI (m_wn u)) - (nI (m_wn u)) / 7 * 7 = nI ((m_wn u) % 7) from (pk_rem (by omega) (by decide) (by decide)))) ?_
    refine lv_if_eq (tgt := 48) hx hb dX1_send_21 (by decide) (fun c_1 => ?_) (fun c_1 => absurd ((by rw [show m_wn u % 7 = 0 from by omega]; rfl)) c_1)
    exact kk H locs ls hP hD hS (lv_sub hl [0] rfl)
  | succ n ih =>
    intro u H locs ls hwn hf hP hD hS hl kk
    have hP : va_P (dC, dI) vwCl [(qm, .inr (1, [.int (m_th u), .int (m_st u), .int (m_md u), .ref pb, .int (nI (m_mn u)), .ref pr, .int (nI (m_rw u)), .ref pv, .int (nI (m_sz u)), .ref pw, .int (nI (m_wn u)), .ref ps, .int (nI (m_sn u)), .ref pc])), (pb, .inl (cI, 64, .inl (m_bi u))), (pr, .inl (cI, 259, .inl (m_ro u))), (pv, .inl (cI, 259, .inl (m_rc u))), (pw, .inl (cI, 259, .inl (m_wt u))), (ps, .inl (cI, 306, .inl (m_se u))), (pc, .inl (cI, 5, .inl (m_cn u)))] H := hP
    have hD : va_D A [(qm, .inr (1, [.int (m_th u), .int (m_st u), .int (m_md u), .ref pb, .int (nI (m_mn u)), .ref pr, .int (nI (m_rw u)), .ref pv, .int (nI (m_sz u)), .ref pw, .int (nI (m_wn u)), .ref ps, .int (nI (m_sn u)), .ref pc])), (pb, .inl (cI, 64, .inl (m_bi u))), (pr, .inl (cI, 259, .inl (m_ro u))), (pv, .inl (cI, 259, .inl (m_rc u))), (pw, .inl (cI, 259, .inl (m_wt u))), (ps, .inl (cI, 306, .inl (m_se u))), (pc, .inl (cI, 5, .inl (m_cn u)))] := hD
    have hl : lv_has ls 3 [(0, .ref qm)] := hl
    refine lv_aload_n hx hb dX1_send_14 rfl (lv_at hl 0 rfl) ?_
    refine va_get (D := (dC, dI)) (ci := 1) (v := .int (nI (m_wn u))) (C := RX1) (T := TX1) (N := 14) hx hb hts hinT hown hK hP 0 rfl rfl 10 (by decide) (hts _ (List.mem_cons_of_mem _ fl_74)) (fun _ h9 => h9) rfl dX1_send_15 ?_
    refine lv_bipush (v := 7) hx hb dX1_send_18 (by decide) ?_
    refine lv_irem hx hb dX1_send_20 (by decide) ?_
    refine W.eq (congrArg (fun z => F0 m 21 ls (.int z :: [])) (show (nI (m_wn u)) - (nI (m_wn u)) / 7 * 7 = nI ((m_wn u) % 7) from (pk_rem (by omega) (by decide) (by decide)))) ?_
    refine lv_if_eq (tgt := 48) hx hb dX1_send_21 (by decide) (fun c_1 => ?_) (fun c_1 => ?_)
    · have eF : m_waF (n + 1) u = u := by rw [m_waF, if_pos c_1]
      exact kk H locs ls (by rw [eF]; exact hP) (by rw [eF]; exact hD) hS (by exact lv_sub hl [0] rfl)
    · have h7 : m_wn u % 7 ≠ 0 := fun e => c_1 (by rw [e]; rfl)
      refine lv_aload_n hx hb dX1_send_24 rfl (lv_at hl 0 rfl) ?_
      refine va_get (D := (dC, dI)) (ci := 1) (v := .ref pw) (C := RX1) (T := TX1) (N := 14) hx hb hts hinT hown hK hP 0 rfl rfl 9 (by decide) (hts _ (List.mem_cons_of_mem _ fl_19)) (fun _ h9 => h9) rfl dX1_send_25 ?_
      refine lv_aload_n hx hb dX1_send_28 rfl (lv_at hl 0 rfl) ?_
      refine va_get (D := (dC, dI)) (ci := 1) (v := .int (nI (m_wn u))) (C := RX1) (T := TX1) (N := 14) hx hb hts hinT hown hK hP 0 rfl rfl 10 (by decide) (hts _ (List.mem_cons_of_mem _ fl_74)) (fun _ h9 => h9) rfl dX1_send_29 ?_
      refine lv_bipush (v := 85) hx hb dX1_send_32 (by decide) ?_
      refine va_iast hx hb hK hP hD hS 4 0 rfl rfl (vp_in_nI (by omega) (by decide)) dX1_send_34 (fun H locs hP hD hS => ?_)
      rw [show (nI (m_wn u) : Int32).toNatClampNeg = m_wn u from (nI_clamp (by omega))] at hP hD
      have hP : va_P (dC, dI) vwCl [(qm, .inr (1, [.int (m_th u), .int (m_st u), .int (m_md u), .ref pb, .int (nI (m_mn u)), .ref pr, .int (nI (m_rw u)), .ref pv, .int (nI (m_sz u)), .ref pw, .int (nI (m_wn u)), .ref ps, .int (nI (m_sn u)), .ref pc])), (pb, .inl (cI, 64, .inl (m_bi u))), (pr, .inl (cI, 259, .inl (m_ro u))), (pv, .inl (cI, 259, .inl (m_rc u))), (pw, .inl (cI, 259, .inl (upd (m_wt u) (m_wn u) 85))), (ps, .inl (cI, 306, .inl (m_se u))), (pc, .inl (cI, 5, .inl (m_cn u)))] H := hP
      have hD : va_D A [(qm, .inr (1, [.int (m_th u), .int (m_st u), .int (m_md u), .ref pb, .int (nI (m_mn u)), .ref pr, .int (nI (m_rw u)), .ref pv, .int (nI (m_sz u)), .ref pw, .int (nI (m_wn u)), .ref ps, .int (nI (m_sn u)), .ref pc])), (pb, .inl (cI, 64, .inl (m_bi u))), (pr, .inl (cI, 259, .inl (m_ro u))), (pv, .inl (cI, 259, .inl (m_rc u))), (pw, .inl (cI, 259, .inl (upd (m_wt u) (m_wn u) 85))), (ps, .inl (cI, 306, .inl (m_se u))), (pc, .inl (cI, 5, .inl (m_cn u)))] := hD
      refine lv_aload_n hx hb dX1_send_35 rfl (lv_at hl 0 rfl) ?_
      refine lv_dup hx hb dX1_send_36 rfl ?_
      refine va_get (D := (dC, dI)) (ci := 1) (v := .int (nI (m_wn u))) (C := RX1) (T := TX1) (N := 14) hx hb hts hinT hown hK hP 0 rfl rfl 10 (by decide) (hts _ (List.mem_cons_of_mem _ fl_74)) (fun _ h9 => h9) rfl dX1_send_37 ?_
      refine lv_iconst (v := 1) hx hb dX1_send_40 (by decide) ?_
      refine lv_iadd hx hb dX1_send_41 ?_
      refine W.eq (congrArg (fun z => F0 m 42 ls (.int z :: [.ref qm])) (show (nI (m_wn u)) + 1 = nI (m_wn u + 1) from (nI_add _ _))) ?_
      refine va_put (D := (dC, dI)) (ci := 1) (v := .int (nI (m_wn u + 1))) (ty := .int) (C := RX1) (T := TX1) (N := 14) hx hb hts hinT tyX1 tyX1_ok nmX1 hown hK hP hD hS 0 rfl rfl 10 (by decide) (hts _ (List.mem_cons_of_mem _ fl_74)) (fun _ h9 => h9) rfl (by decide +kernel) rfl rfl (Nat.le_of_ble_eq_true rfl) dX1_send_42 (fun H locs hP hD hS => ?_)
      have hP : va_P (dC, dI) vwCl [(qm, .inr (1, [.int (m_th u), .int (m_st u), .int (m_md u), .ref pb, .int (nI (m_mn u)), .ref pr, .int (nI (m_rw u)), .ref pv, .int (nI (m_sz u)), .ref pw, .int (nI (m_wn u + 1)), .ref ps, .int (nI (m_sn u)), .ref pc])), (pb, .inl (cI, 64, .inl (m_bi u))), (pr, .inl (cI, 259, .inl (m_ro u))), (pv, .inl (cI, 259, .inl (m_rc u))), (pw, .inl (cI, 259, .inl (upd (m_wt u) (m_wn u) 85))), (ps, .inl (cI, 306, .inl (m_se u))), (pc, .inl (cI, 5, .inl (m_cn u)))] H := hP
      have hD : va_D A [(qm, .inr (1, [.int (m_th u), .int (m_st u), .int (m_md u), .ref pb, .int (nI (m_mn u)), .ref pr, .int (nI (m_rw u)), .ref pv, .int (nI (m_sz u)), .ref pw, .int (nI (m_wn u + 1)), .ref ps, .int (nI (m_sn u)), .ref pc])), (pb, .inl (cI, 64, .inl (m_bi u))), (pr, .inl (cI, 259, .inl (m_ro u))), (pv, .inl (cI, 259, .inl (m_rc u))), (pw, .inl (cI, 259, .inl (upd (m_wt u) (m_wn u) 85))), (ps, .inl (cI, 306, .inl (m_se u))), (pc, .inl (cI, 5, .inl (m_cn u)))] := hD
      refine lv_goto (tgt := 14) hx hb dX1_send_45 (by decide) ?_
      have eF : m_waF (n + 1) u = m_waF n (m_th u, m_st u, m_md u, m_mn u, m_rw u, m_sz u, m_wn u + 1, m_sn u, m_bi u, m_ro u, m_rc u, upd (m_wt u) (m_wn u) 85, m_se u, m_cn u) := by rw [m_waF, if_neg c_1]
      exact ih (m_th u, m_st u, m_md u, m_mn u, m_rw u, m_sz u, m_wn u + 1, m_sn u, m_bi u, m_ro u, m_rc u, upd (m_wt u) (m_wn u) 85, m_se u, m_cn u) H locs ls (show m_wn u + 1 ≤ 259 by omega) (show (m_wn u + 1) % 7 = 0 ∨ 7 ≤ n + (m_wn u + 1) % 7 by omega) hP hD hS (lv_sub hl [0] rfl) (fun H locs ls hP hD hS hl => kk H locs ls (by rw [eF]; exact hP) (by rw [eF]; exact hD) hS (by exact hl))
set_option maxHeartbeats 4000000 in
set_option maxRecDepth 100000 in
theorem lpX1_sendC {p : Program} {l : Launch} {e : Env} {s : State} {m : MethodId} {args : Array Value} {below : List Frame} {meth : Method} {c : Code} {Q : State → Prop} (dC : Nat → ClassId) (dI : Nat → Nat → Nat) (qm pb pr pv pw ps pc : Nat) (cI : ClassId) (i : Nat) (hi : i < 37) (hx : p.tables.exec = Jvm.exec) (hb : c.code = cX1_send) (hml : c.maxLocals = 3) (hown : s.vm.findClass RX1 = some m.cls) (hts : ∀ w ∈ vX1_send, w.before args s = true) (A : Nat → Prop) (hA : ∀ q : Nat, s.heap.size ≤ q → A q) (hK : va_K (dC, dI) vwCl [(cI, .int)] s) : ∀ (n : Nat) (u : m_S) (k : Nat) (H : Heap) (locs : List Loc) (ls : Array Slot), k + n = 7 → m_sn u + n ≤ 300 → va_P (dC, dI) vwCl (m_W qm pb pr pv pw ps pc cI u) H → va_D A (m_W qm pb pr pv pw ps pc cI u) → va_S A s.heap H locs → lv_has ls 3 [(0, .ref qm), (1, .int (nI (7 * i))), (2, .int (nI k))] → (∀ (H : Heap) (locs : List Loc) (ls : Array Slot), va_P (dC, dI) vwCl (m_W qm pb pr pv pw ps pc cI (m_ocF i n k u)) H → va_D A (m_W qm pb pr pv pw ps pc cI (m_ocF i n k u)) → va_S A s.heap H locs → lv_has ls 3 [(0, .ref qm), (1, .int (nI (7 * i)))] → W p l e (headSpec vX1_send rmX1_send).room s m args below meth c H locs 0 0 Q (F0 m 103 ls [])) → W p l e (headSpec vX1_send rmX1_send).room s m args below meth c H locs 0 0 Q (F0 m 79 ls []) := by
  have hinT : ∀ w ∈ wsX10, w ∈ vX1_send := fun w h => List.mem_cons_of_mem _ (inM w h)
  intro n
  induction n with
  | zero =>
    intro u k H locs ls hn hsn hP hD hS hl kk
    have hk : k = 7 := by omega
    subst hk
    have hP : va_P (dC, dI) vwCl [(qm, .inr (1, [.int (m_th u), .int (m_st u), .int (m_md u), .ref pb, .int (nI (m_mn u)), .ref pr, .int (nI (m_rw u)), .ref pv, .int (nI (m_sz u)), .ref pw, .int (nI (m_wn u)), .ref ps, .int (nI (m_sn u)), .ref pc])), (pb, .inl (cI, 64, .inl (m_bi u))), (pr, .inl (cI, 259, .inl (m_ro u))), (pv, .inl (cI, 259, .inl (m_rc u))), (pw, .inl (cI, 259, .inl (m_wt u))), (ps, .inl (cI, 306, .inl (m_se u))), (pc, .inl (cI, 5, .inl (m_cn u)))] H := hP
    have hD : va_D A [(qm, .inr (1, [.int (m_th u), .int (m_st u), .int (m_md u), .ref pb, .int (nI (m_mn u)), .ref pr, .int (nI (m_rw u)), .ref pv, .int (nI (m_sz u)), .ref pw, .int (nI (m_wn u)), .ref ps, .int (nI (m_sn u)), .ref pc])), (pb, .inl (cI, 64, .inl (m_bi u))), (pr, .inl (cI, 259, .inl (m_ro u))), (pv, .inl (cI, 259, .inl (m_rc u))), (pw, .inl (cI, 259, .inl (m_wt u))), (ps, .inl (cI, 306, .inl (m_se u))), (pc, .inl (cI, 5, .inl (m_cn u)))] := hD
    have hl : lv_has ls 3 [(0, .ref qm), (1, .int (nI (7 * i))), (2, .int (nI 7))] := hl
    refine lv_iload_n hx hb dX1_send_79 rfl (lv_at hl 2 rfl) ?_
    refine lv_bipush (v := 7) hx hb dX1_send_80 (by decide) ?_
    refine lv_icmp_ge (tgt := 103) hx hb dX1_send_82 (by decide) (fun c_1 => ?_) (fun c_1 => absurd (by decide) c_1)
    exact kk H locs ls hP hD hS (lv_sub hl [0, 1] rfl)
  | succ n ih =>
    intro u k H locs ls hn hsn hP hD hS hl kk
    have hP : va_P (dC, dI) vwCl [(qm, .inr (1, [.int (m_th u), .int (m_st u), .int (m_md u), .ref pb, .int (nI (m_mn u)), .ref pr, .int (nI (m_rw u)), .ref pv, .int (nI (m_sz u)), .ref pw, .int (nI (m_wn u)), .ref ps, .int (nI (m_sn u)), .ref pc])), (pb, .inl (cI, 64, .inl (m_bi u))), (pr, .inl (cI, 259, .inl (m_ro u))), (pv, .inl (cI, 259, .inl (m_rc u))), (pw, .inl (cI, 259, .inl (m_wt u))), (ps, .inl (cI, 306, .inl (m_se u))), (pc, .inl (cI, 5, .inl (m_cn u)))] H := hP
    have hD : va_D A [(qm, .inr (1, [.int (m_th u), .int (m_st u), .int (m_md u), .ref pb, .int (nI (m_mn u)), .ref pr, .int (nI (m_rw u)), .ref pv, .int (nI (m_sz u)), .ref pw, .int (nI (m_wn u)), .ref ps, .int (nI (m_sn u)), .ref pc])), (pb, .inl (cI, 64, .inl (m_bi u))), (pr, .inl (cI, 259, .inl (m_ro u))), (pv, .inl (cI, 259, .inl (m_rc u))), (pw, .inl (cI, 259, .inl (m_wt u))), (ps, .inl (cI, 306, .inl (m_se u))), (pc, .inl (cI, 5, .inl (m_cn u)))] := hD
    have hl : lv_has ls 3 [(0, .ref qm), (1, .int (nI (7 * i))), (2, .int (nI k))] := hl
    refine lv_iload_n hx hb dX1_send_79 rfl (lv_at hl 2 rfl) ?_
    refine lv_bipush (v := 7) hx hb dX1_send_80 (by decide) ?_
    refine lv_icmp_ge (tgt := 103) hx hb dX1_send_82 (by decide) (fun c_1 => absurd c_1 (show ¬ nI 7 ≤ nI k from nI_ge (by omega) (by decide))) (fun c_1 => ?_)
    refine lv_aload_n hx hb dX1_send_85 rfl (lv_at hl 0 rfl) ?_
    refine lv_aload_n hx hb dX1_send_86 rfl (lv_at hl 0 rfl) ?_
    refine va_get (D := (dC, dI)) (ci := 1) (v := .ref pw) (C := RX1) (T := TX1) (N := 14) hx hb hts hinT hown hK hP 0 rfl rfl 9 (by decide) (hts _ (List.mem_cons_of_mem _ fl_19)) (fun _ h9 => h9) rfl dX1_send_87 ?_
    refine lv_iload_n hx hb dX1_send_90 rfl (lv_at hl 1 rfl) ?_
    refine lv_iload_n hx hb dX1_send_91 rfl (lv_at hl 2 rfl) ?_
    refine lv_iadd hx hb dX1_send_92 ?_
    refine W.eq (congrArg (fun z => F0 m 93 ls (.int z :: [.ref pw, .ref qm])) (show (nI (7 * i)) + (nI k) = nI ((7 * i) + k) from (nI_add _ _))) ?_
    refine va_iald hx hb hK hP 4 0 rfl rfl (vp_in_nI (by omega) (by decide)) dX1_send_93 ?_
    refine W.eq (g2 := F0 m 94 ls [.int ((m_wt u) ((7 * i) + k)), .ref qm]) (by rw [nI_clamp (by omega)]) ?_
    have hPc : va_P (dC, dI) vwCl (m_W qm pb pr pv pw ps pc cI u) H := hP
    have hDc : va_D A (m_W qm pb pr pv pw ps pc cI u) := hD
    have hFc := va_free (wc := (m_W qm pb pr pv pw ps pc cI u)) hD hS hA [0, 1, 2, 3, 4, 5, 6] rfl
    refine va_callv (va_runV (As := [.int ((m_wt u) ((7 * i) + k))]) (rest := []) ⟨hx, hb, hml, hown, hts⟩ (kX1_out l dC dI qm pb pr pv pw ps pc cI H.size u ((m_wt u) ((7 * i) + k)) (by omega)) (cwV 1 hts gM_X1_out rfl rfl rfl (by decide +kernel) ⟨Nat.le_of_ble_eq_true rfl, Nat.le_of_ble_eq_true rfl⟩) ⟨fun a U g mk q => by obtain ⟨q0, q1, qP, qK, qD⟩ := q; exact ⟨q0, q1, qP, va_K.moved (u := U) (U := U.calling g mk a) (Vm.Alike.refl U.vm) qK, qD⟩, va_recv hK hP (ci := 1) (q0 := 0) rfl rfl, fun U hU hW => ⟨rfl, by rw [hU], by rw [hU]; exact hPc, va_K.moved hW.alike hK, hDc.weaken (fun _ _ _ _ => trivial)⟩⟩ rfl rfl hl.1 rfl (lv_room (Nat.le_of_ble_eq_true rfl)) dX1_send_94 ⟨Nat.le_of_ble_eq_true rfl, Nat.le_of_ble_eq_true rfl⟩) hS (fun q _ h => hFc q h) hFc (fun  u_2 t H1 locs ht hvm hu_2 hB hz1 hk1 hS => ?_)
    obtain ⟨hP1, -, hD1⟩ := hB
    rw [ht] at hP1
    have hP : va_P (dC, dI) vwCl [(qm, .inr (1, [.int (m_th u_2), .int (m_st u_2), .int (m_md u_2), .ref pb, .int (nI (m_mn u_2)), .ref pr, .int (nI (m_rw u_2)), .ref pv, .int (nI (m_sz u_2)), .ref pw, .int (nI (m_wn u_2)), .ref ps, .int (nI (m_sn u_2)), .ref pc])), (pb, .inl (cI, 64, .inl (m_bi u_2))), (pr, .inl (cI, 259, .inl (m_ro u_2))), (pv, .inl (cI, 259, .inl (m_rc u_2))), (pw, .inl (cI, 259, .inl (m_wt u_2))), (ps, .inl (cI, 306, .inl (m_se u_2))), (pc, .inl (cI, 5, .inl (m_cn u_2)))] H1 := hP1
    have hD : va_D A [(qm, .inr (1, [.int (m_th u_2), .int (m_st u_2), .int (m_md u_2), .ref pb, .int (nI (m_mn u_2)), .ref pr, .int (nI (m_rw u_2)), .ref pv, .int (nI (m_sz u_2)), .ref pw, .int (nI (m_wn u_2)), .ref ps, .int (nI (m_sn u_2)), .ref pc])), (pb, .inl (cI, 64, .inl (m_bi u_2))), (pr, .inl (cI, 259, .inl (m_ro u_2))), (pv, .inl (cI, 259, .inl (m_rc u_2))), (pw, .inl (cI, 259, .inl (m_wt u_2))), (ps, .inl (cI, 306, .inl (m_se u_2))), (pc, .inl (cI, 5, .inl (m_cn u_2)))] := hD1.weaken (fun k q _ h => hFc q.1 h)
    generalize H1 = H at hP hS ⊢
    refine lv_iinc (v := nI (k + 1)) (lv' := [(2, .int (nI (k + 1))), (0, .ref qm), (1, .int (nI (7 * i)))]) hx hb dX1_send_97 hl (k := 2) rfl (show nI k + nI 1 = nI (k + 1) from nI_add _ _) (by decide) rfl (fun ls hl => ?_)
    refine lv_goto (tgt := 79) hx hb dX1_send_100 (by decide) ?_
    subst hu_2
    have eF : m_ocF i (n + 1) k u = m_ocF i n (k + 1) (m_out u ((m_wt u) ((7 * i) + k))) := by rw [m_ocF]
    exact ih (m_out u ((m_wt u) ((7 * i) + k))) (k + 1) H locs ls (by omega) (show m_sn u + 1 + n ≤ 300 by omega) hP hD hS (lv_sub hl [1, 2, 0] rfl) (fun H locs ls hP hD hS hl => kk H locs ls (by rw [eF]; exact hP) (by rw [eF]; exact hD) hS (by exact hl))
set_option maxHeartbeats 4000000 in
set_option maxRecDepth 100000 in
theorem lpX1_sendB {p : Program} {l : Launch} {e : Env} {s : State} {m : MethodId} {args : Array Value} {below : List Frame} {meth : Method} {c : Code} {Q : State → Prop} (dC : Nat → ClassId) (dI : Nat → Nat → Nat) (qm pb pr pv pw ps pc : Nat) (cI : ClassId) (q : Nat) (hq : q ≤ 37) (hx : p.tables.exec = Jvm.exec) (hb : c.code = cX1_send) (hml : c.maxLocals = 3) (hown : s.vm.findClass RX1 = some m.cls) (hts : ∀ w ∈ vX1_send, w.before args s = true) (A : Nat → Prop) (hA : ∀ q : Nat, s.heap.size ≤ q → A q) (hK : va_K (dC, dI) vwCl [(cI, .int)] s) : ∀ (n : Nat) (u : m_S) (i : Nat) (H : Heap) (locs : List Loc) (ls : Array Slot), i + n = q → m_wn u = 7 * q → m_sn u + 8 * n ≤ 298 → va_P (dC, dI) vwCl (m_W qm pb pr pv pw ps pc cI u) H → va_D A (m_W qm pb pr pv pw ps pc cI u) → va_S A s.heap H locs → lv_has ls 3 [(0, .ref qm), (1, .int (nI (7 * i)))] → (∀ (H : Heap) (locs : List Loc) (ls : Array Slot), va_P (dC, dI) vwCl (m_W qm pb pr pv pw ps pc cI (m_sB n i u)) H → va_D A (m_W qm pb pr pv pw ps pc cI (m_sB n i u)) → va_S A s.heap H locs → lv_has ls 3 [(0, .ref qm)] → W p l e (headSpec vX1_send rmX1_send).room s m args below meth c H locs 0 0 Q (F0 m 118 ls [])) → W p l e (headSpec vX1_send rmX1_send).room s m args below meth c H locs 0 0 Q (F0 m 69 ls []) := by
  have hinT : ∀ w ∈ wsX10, w ∈ vX1_send := fun w h => List.mem_cons_of_mem _ (inM w h)
  intro n
  induction n with
  | zero =>
    intro u i H locs ls hn hwq hsn hP hD hS hl kk
    have hi : i = q := by omega
    subst hi
    have hP : va_P (dC, dI) vwCl [(qm, .inr (1, [.int (m_th u), .int (m_st u), .int (m_md u), .ref pb, .int (nI (m_mn u)), .ref pr, .int (nI (m_rw u)), .ref pv, .int (nI (m_sz u)), .ref pw, .int (nI (m_wn u)), .ref ps, .int (nI (m_sn u)), .ref pc])), (pb, .inl (cI, 64, .inl (m_bi u))), (pr, .inl (cI, 259, .inl (m_ro u))), (pv, .inl (cI, 259, .inl (m_rc u))), (pw, .inl (cI, 259, .inl (m_wt u))), (ps, .inl (cI, 306, .inl (m_se u))), (pc, .inl (cI, 5, .inl (m_cn u)))] H := hP
    have hD : va_D A [(qm, .inr (1, [.int (m_th u), .int (m_st u), .int (m_md u), .ref pb, .int (nI (m_mn u)), .ref pr, .int (nI (m_rw u)), .ref pv, .int (nI (m_sz u)), .ref pw, .int (nI (m_wn u)), .ref ps, .int (nI (m_sn u)), .ref pc])), (pb, .inl (cI, 64, .inl (m_bi u))), (pr, .inl (cI, 259, .inl (m_ro u))), (pv, .inl (cI, 259, .inl (m_rc u))), (pw, .inl (cI, 259, .inl (m_wt u))), (ps, .inl (cI, 306, .inl (m_se u))), (pc, .inl (cI, 5, .inl (m_cn u)))] := hD
    have hl : lv_has ls 3 [(0, .ref qm), (1, .int (nI (7 * i)))] := hl
    refine lv_iload_n hx hb dX1_send_69 rfl (lv_at hl 1 rfl) ?_
    refine lv_aload_n hx hb dX1_send_70 rfl (lv_at hl 0 rfl) ?_
    refine va_get (D := (dC, dI)) (ci := 1) (v := .int (nI (m_wn u))) (C := RX1) (T := TX1) (N := 14) hx hb hts hinT hown hK hP 0 rfl rfl 10 (by decide) (hts _ (List.mem_cons_of_mem _ fl_74)) (fun _ h9 => h9) rfl dX1_send_71 ?_
    refine lv_icmp_ge (tgt := 118) hx hb dX1_send_74 (by decide) (fun c_1 => ?_) (fun c_1 => absurd ((by rw [hwq]; exact nI_le (Nat.le_refl _) (by omega))) c_1)
    exact kk H locs ls hP hD hS (lv_sub hl [0] rfl)
  | succ n ih =>
    intro u i H locs ls hn hwq hsn hP hD hS hl kk
    have hP : va_P (dC, dI) vwCl [(qm, .inr (1, [.int (m_th u), .int (m_st u), .int (m_md u), .ref pb, .int (nI (m_mn u)), .ref pr, .int (nI (m_rw u)), .ref pv, .int (nI (m_sz u)), .ref pw, .int (nI (m_wn u)), .ref ps, .int (nI (m_sn u)), .ref pc])), (pb, .inl (cI, 64, .inl (m_bi u))), (pr, .inl (cI, 259, .inl (m_ro u))), (pv, .inl (cI, 259, .inl (m_rc u))), (pw, .inl (cI, 259, .inl (m_wt u))), (ps, .inl (cI, 306, .inl (m_se u))), (pc, .inl (cI, 5, .inl (m_cn u)))] H := hP
    have hD : va_D A [(qm, .inr (1, [.int (m_th u), .int (m_st u), .int (m_md u), .ref pb, .int (nI (m_mn u)), .ref pr, .int (nI (m_rw u)), .ref pv, .int (nI (m_sz u)), .ref pw, .int (nI (m_wn u)), .ref ps, .int (nI (m_sn u)), .ref pc])), (pb, .inl (cI, 64, .inl (m_bi u))), (pr, .inl (cI, 259, .inl (m_ro u))), (pv, .inl (cI, 259, .inl (m_rc u))), (pw, .inl (cI, 259, .inl (m_wt u))), (ps, .inl (cI, 306, .inl (m_se u))), (pc, .inl (cI, 5, .inl (m_cn u)))] := hD
    have hl : lv_has ls 3 [(0, .ref qm), (1, .int (nI (7 * i)))] := hl
    refine lv_iload_n hx hb dX1_send_69 rfl (lv_at hl 1 rfl) ?_
    refine lv_aload_n hx hb dX1_send_70 rfl (lv_at hl 0 rfl) ?_
    refine va_get (D := (dC, dI)) (ci := 1) (v := .int (nI (m_wn u))) (C := RX1) (T := TX1) (N := 14) hx hb hts hinT hown hK hP 0 rfl rfl 10 (by decide) (hts _ (List.mem_cons_of_mem _ fl_74)) (fun _ h9 => h9) rfl dX1_send_71 ?_
    refine lv_icmp_ge (tgt := 118) hx hb dX1_send_74 (by decide) (fun c_1 => absurd c_1 ((by rw [hwq]; exact nI_ge (by omega) (by omega)))) (fun c_1 => ?_)
    refine lv_iconst (v := 0) hx hb dX1_send_77 (by decide) ?_
    refine lv_istore_n (lv' := [(2, .int 0), (0, .ref qm), (1, .int (nI (7 * i)))]) hx hb dX1_send_78 rfl hl (by decide) rfl (fun ls hl => ?_)
    refine lpX1_sendC (l := l) dC dI qm pb pr pv pw ps pc cI i (by omega) hx hb hml hown hts A hA hK  7 u 0 H locs ls rfl (by omega) hP hD hS (lv_sub hl [1, 2, 0] rfl) (fun H locs ls hP hD hS hl => ?_)
    obtain ⟨v_2, hv_2⟩ : ∃ z, z = m_ocF i 7 0 u := ⟨_, rfl⟩
    rw [← hv_2] at hP hD
    have hP : va_P (dC, dI) vwCl [(qm, .inr (1, [.int (m_th v_2), .int (m_st v_2), .int (m_md v_2), .ref pb, .int (nI (m_mn v_2)), .ref pr, .int (nI (m_rw v_2)), .ref pv, .int (nI (m_sz v_2)), .ref pw, .int (nI (m_wn v_2)), .ref ps, .int (nI (m_sn v_2)), .ref pc])), (pb, .inl (cI, 64, .inl (m_bi v_2))), (pr, .inl (cI, 259, .inl (m_ro v_2))), (pv, .inl (cI, 259, .inl (m_rc v_2))), (pw, .inl (cI, 259, .inl (m_wt v_2))), (ps, .inl (cI, 306, .inl (m_se v_2))), (pc, .inl (cI, 5, .inl (m_cn v_2)))] H := hP
    have hD : va_D A [(qm, .inr (1, [.int (m_th v_2), .int (m_st v_2), .int (m_md v_2), .ref pb, .int (nI (m_mn v_2)), .ref pr, .int (nI (m_rw v_2)), .ref pv, .int (nI (m_sz v_2)), .ref pw, .int (nI (m_wn v_2)), .ref ps, .int (nI (m_sn v_2)), .ref pc])), (pb, .inl (cI, 64, .inl (m_bi v_2))), (pr, .inl (cI, 259, .inl (m_ro v_2))), (pv, .inl (cI, 259, .inl (m_rc v_2))), (pw, .inl (cI, 259, .inl (m_wt v_2))), (ps, .inl (cI, 306, .inl (m_se v_2))), (pc, .inl (cI, 5, .inl (m_cn v_2)))] := hD
    refine lv_aload_n hx hb dX1_send_103 rfl (lv_at hl 0 rfl) ?_
    refine lv_aload_n hx hb dX1_send_104 rfl (lv_at hl 0 rfl) ?_
    refine lv_iload_n hx hb dX1_send_105 rfl (lv_at hl 1 rfl) ?_
    have hPc : va_P (dC, dI) vwCl (m_W qm pb pr pv pw ps pc cI v_2) H := hP
    refine vp_callSi (va_runV (As := [.int (nI (7 * i))]) (rest := [.ref qm]) ⟨hx, hb, hml, hown, hts⟩ (kX1_check l dC dI qm pb pr pv pw ps pc cI v_2 (7 * i) (by omega)) (cwV 1 hts gM_X1_check rfl rfl rfl (by decide +kernel) ⟨Nat.le_of_ble_eq_true rfl, Nat.le_of_ble_eq_true rfl⟩) ⟨fun a U g mk q => by obtain ⟨q0, qP, qK⟩ := q; exact ⟨q0, qP, va_K.moved (u := U) (U := U.calling g mk a) (Vm.Alike.refl U.vm) qK⟩, va_recv hK hP (ci := 1) (q0 := 0) rfl rfl, fun U hU hW => ⟨rfl, by rw [hU]; exact hPc, va_K.moved hW.alike hK⟩⟩ rfl rfl hl.1 rfl (lv_room (Nat.le_of_ble_eq_true rfl)) dX1_send_106 ⟨Nat.le_of_ble_eq_true rfl, Nat.le_of_ble_eq_true rfl⟩).run (fun r_3 hr_3 => ?_)
    rw [hr_3]
    have hPc : va_P (dC, dI) vwCl (m_W qm pb pr pv pw ps pc cI v_2) H := hP
    have hDc : va_D A (m_W qm pb pr pv pw ps pc cI v_2) := hD
    have hFc := va_free (wc := (m_W qm pb pr pv pw ps pc cI v_2)) hD hS hA [0, 1, 2, 3, 4, 5, 6] rfl
    refine va_callv (va_runV (As := [.int (m_check v_2 (7 * i))]) (rest := []) ⟨hx, hb, hml, hown, hts⟩ (kX1_out l dC dI qm pb pr pv pw ps pc cI H.size v_2 (m_check v_2 (7 * i)) (show m_sn v_2 < 306 by rw [hv_2, (m_oc_f i 7 0 u).2]; omega)) (cwV 1 hts gM_X1_out rfl rfl rfl (by decide +kernel) ⟨Nat.le_of_ble_eq_true rfl, Nat.le_of_ble_eq_true rfl⟩) ⟨fun a U g mk q => by obtain ⟨q0, q1, qP, qK, qD⟩ := q; exact ⟨q0, q1, qP, va_K.moved (u := U) (U := U.calling g mk a) (Vm.Alike.refl U.vm) qK, qD⟩, va_recv hK hP (ci := 1) (q0 := 0) rfl rfl, fun U hU hW => ⟨rfl, by rw [hU], by rw [hU]; exact hPc, va_K.moved hW.alike hK, hDc.weaken (fun _ _ _ _ => trivial)⟩⟩ rfl rfl hl.1 rfl (lv_room (Nat.le_of_ble_eq_true rfl)) dX1_send_109 ⟨Nat.le_of_ble_eq_true rfl, Nat.le_of_ble_eq_true rfl⟩) hS (fun q _ h => hFc q h) hFc (fun  u_4 t H1 locs ht hvm hu_4 hB hz1 hk1 hS => ?_)
    obtain ⟨hP1, -, hD1⟩ := hB
    rw [ht] at hP1
    have hP : va_P (dC, dI) vwCl [(qm, .inr (1, [.int (m_th u_4), .int (m_st u_4), .int (m_md u_4), .ref pb, .int (nI (m_mn u_4)), .ref pr, .int (nI (m_rw u_4)), .ref pv, .int (nI (m_sz u_4)), .ref pw, .int (nI (m_wn u_4)), .ref ps, .int (nI (m_sn u_4)), .ref pc])), (pb, .inl (cI, 64, .inl (m_bi u_4))), (pr, .inl (cI, 259, .inl (m_ro u_4))), (pv, .inl (cI, 259, .inl (m_rc u_4))), (pw, .inl (cI, 259, .inl (m_wt u_4))), (ps, .inl (cI, 306, .inl (m_se u_4))), (pc, .inl (cI, 5, .inl (m_cn u_4)))] H1 := hP1
    have hD : va_D A [(qm, .inr (1, [.int (m_th u_4), .int (m_st u_4), .int (m_md u_4), .ref pb, .int (nI (m_mn u_4)), .ref pr, .int (nI (m_rw u_4)), .ref pv, .int (nI (m_sz u_4)), .ref pw, .int (nI (m_wn u_4)), .ref ps, .int (nI (m_sn u_4)), .ref pc])), (pb, .inl (cI, 64, .inl (m_bi u_4))), (pr, .inl (cI, 259, .inl (m_ro u_4))), (pv, .inl (cI, 259, .inl (m_rc u_4))), (pw, .inl (cI, 259, .inl (m_wt u_4))), (ps, .inl (cI, 306, .inl (m_se u_4))), (pc, .inl (cI, 5, .inl (m_cn u_4)))] := hD1.weaken (fun k q _ h => hFc q.1 h)
    generalize H1 = H at hP hS ⊢
    refine lv_iinc (v := nI (7 * (i + 1))) (lv' := [(1, .int (nI (7 * (i + 1)))), (0, .ref qm)]) hx hb dX1_send_112 hl (k := 1) rfl (show nI (7 * i) + nI 7 = nI (7 * (i + 1)) from (by rw [nI_add]; rfl)) (by decide) rfl (fun ls hl => ?_)
    refine lv_goto (tgt := 69) hx hb dX1_send_115 (by decide) ?_
    subst hu_4
    subst hv_2
    have eF : m_sB (n + 1) i u = m_sB n (i + 1) (m_out (m_ocF i 7 0 u) (m_check (m_ocF i 7 0 u) (7 * i))) := by rw [m_sB]
    exact ih (m_out (m_ocF i 7 0 u) (m_check (m_ocF i 7 0 u) (7 * i))) (i + 1) H locs ls (by omega) ((m_oc_f i 7 0 u).1.trans hwq) (show m_sn (m_ocF i 7 0 u) + 1 + 8 * n ≤ 298 by rw [(m_oc_f i 7 0 u).2]; omega) hP hD hS (lv_sub hl [1, 0] rfl) (fun H locs ls hP hD hS hl => kk H locs ls (by rw [eF]; exact hP) (by rw [eF]; exact hD) hS (by exact hl))
set_option maxHeartbeats 4000000 in
set_option maxRecDepth 100000 in
theorem lpX1_sendD {p : Program} {l : Launch} {e : Env} {s : State} {m : MethodId} {args : Array Value} {below : List Frame} {meth : Method} {c : Code} {Q : State → Prop} (dC : Nat → ClassId) (dI : Nat → Nat → Nat) (qm pb pr pv pw ps pc : Nat) (cI : ClassId) (hx : p.tables.exec = Jvm.exec) (hb : c.code = cX1_send) (hml : c.maxLocals = 3) (hown : s.vm.findClass RX1 = some m.cls) (hts : ∀ w ∈ vX1_send, w.before args s = true) (A : Nat → Prop) (hA : ∀ q : Nat, s.heap.size ≤ q → A q) (hK : va_K (dC, dI) vwCl [(cI, .int)] s) : ∀ (n : Nat) (u : m_S) (k : Nat) (H : Heap) (locs : List Loc) (ls : Array Slot), k + n = 7 → m_sn u + n ≤ 305 → va_P (dC, dI) vwCl (m_W qm pb pr pv pw ps pc cI u) H → va_D A (m_W qm pb pr pv pw ps pc cI u) → va_S A s.heap H locs → lv_has ls 3 [(0, .ref qm), (1, .int (nI k))] → (∀ (H : Heap) (locs : List Loc) (ls : Array Slot), va_P (dC, dI) vwCl (m_W qm pb pr pv pw ps pc cI (m_odF n k u)) H → va_D A (m_W qm pb pr pv pw ps pc cI (m_odF n k u)) → va_S A s.heap H locs → lv_has ls 3 [(0, .ref qm)] → W p l e (headSpec vX1_send rmX1_send).room s m args below meth c H locs 0 0 Q (F0 m 139 ls [])) → W p l e (headSpec vX1_send rmX1_send).room s m args below meth c H locs 0 0 Q (F0 m 120 ls []) := by
  have hinT : ∀ w ∈ wsX10, w ∈ vX1_send := fun w h => List.mem_cons_of_mem _ (inM w h)
  intro n
  induction n with
  | zero =>
    intro u k H locs ls hn hsn hP hD hS hl kk
    have hk : k = 7 := by omega
    subst hk
    have hP : va_P (dC, dI) vwCl [(qm, .inr (1, [.int (m_th u), .int (m_st u), .int (m_md u), .ref pb, .int (nI (m_mn u)), .ref pr, .int (nI (m_rw u)), .ref pv, .int (nI (m_sz u)), .ref pw, .int (nI (m_wn u)), .ref ps, .int (nI (m_sn u)), .ref pc])), (pb, .inl (cI, 64, .inl (m_bi u))), (pr, .inl (cI, 259, .inl (m_ro u))), (pv, .inl (cI, 259, .inl (m_rc u))), (pw, .inl (cI, 259, .inl (m_wt u))), (ps, .inl (cI, 306, .inl (m_se u))), (pc, .inl (cI, 5, .inl (m_cn u)))] H := hP
    have hD : va_D A [(qm, .inr (1, [.int (m_th u), .int (m_st u), .int (m_md u), .ref pb, .int (nI (m_mn u)), .ref pr, .int (nI (m_rw u)), .ref pv, .int (nI (m_sz u)), .ref pw, .int (nI (m_wn u)), .ref ps, .int (nI (m_sn u)), .ref pc])), (pb, .inl (cI, 64, .inl (m_bi u))), (pr, .inl (cI, 259, .inl (m_ro u))), (pv, .inl (cI, 259, .inl (m_rc u))), (pw, .inl (cI, 259, .inl (m_wt u))), (ps, .inl (cI, 306, .inl (m_se u))), (pc, .inl (cI, 5, .inl (m_cn u)))] := hD
    have hl : lv_has ls 3 [(0, .ref qm), (1, .int (nI 7))] := hl
    refine lv_iload_n hx hb dX1_send_120 rfl (lv_at hl 1 rfl) ?_
    refine lv_bipush (v := 7) hx hb dX1_send_121 (by decide) ?_
    refine lv_icmp_ge (tgt := 139) hx hb dX1_send_123 (by decide) (fun c_1 => ?_) (fun c_1 => absurd (by decide) c_1)
    exact kk H locs ls hP hD hS (lv_sub hl [0] rfl)
  | succ n ih =>
    intro u k H locs ls hn hsn hP hD hS hl kk
    have hP : va_P (dC, dI) vwCl [(qm, .inr (1, [.int (m_th u), .int (m_st u), .int (m_md u), .ref pb, .int (nI (m_mn u)), .ref pr, .int (nI (m_rw u)), .ref pv, .int (nI (m_sz u)), .ref pw, .int (nI (m_wn u)), .ref ps, .int (nI (m_sn u)), .ref pc])), (pb, .inl (cI, 64, .inl (m_bi u))), (pr, .inl (cI, 259, .inl (m_ro u))), (pv, .inl (cI, 259, .inl (m_rc u))), (pw, .inl (cI, 259, .inl (m_wt u))), (ps, .inl (cI, 306, .inl (m_se u))), (pc, .inl (cI, 5, .inl (m_cn u)))] H := hP
    have hD : va_D A [(qm, .inr (1, [.int (m_th u), .int (m_st u), .int (m_md u), .ref pb, .int (nI (m_mn u)), .ref pr, .int (nI (m_rw u)), .ref pv, .int (nI (m_sz u)), .ref pw, .int (nI (m_wn u)), .ref ps, .int (nI (m_sn u)), .ref pc])), (pb, .inl (cI, 64, .inl (m_bi u))), (pr, .inl (cI, 259, .inl (m_ro u))), (pv, .inl (cI, 259, .inl (m_rc u))), (pw, .inl (cI, 259, .inl (m_wt u))), (ps, .inl (cI, 306, .inl (m_se u))), (pc, .inl (cI, 5, .inl (m_cn u)))] := hD
    have hl : lv_has ls 3 [(0, .ref qm), (1, .int (nI k))] := hl
    refine lv_iload_n hx hb dX1_send_120 rfl (lv_at hl 1 rfl) ?_
    refine lv_bipush (v := 7) hx hb dX1_send_121 (by decide) ?_
    refine lv_icmp_ge (tgt := 139) hx hb dX1_send_123 (by decide) (fun c_1 => absurd c_1 (show ¬ nI 7 ≤ nI k from nI_ge (by omega) (by decide))) (fun c_1 => ?_)
    refine lv_aload_n hx hb dX1_send_126 rfl (lv_at hl 0 rfl) ?_
    refine lv_sipush (v := 197) hx hb dX1_send_127 (by decide) ?_
    have hPc : va_P (dC, dI) vwCl (m_W qm pb pr pv pw ps pc cI u) H := hP
    have hDc : va_D A (m_W qm pb pr pv pw ps pc cI u) := hD
    have hFc := va_free (wc := (m_W qm pb pr pv pw ps pc cI u)) hD hS hA [0, 1, 2, 3, 4, 5, 6] rfl
    refine va_callv (va_runV (As := [.int 197]) (rest := []) ⟨hx, hb, hml, hown, hts⟩ (kX1_out l dC dI qm pb pr pv pw ps pc cI H.size u 197 (by omega)) (cwV 1 hts gM_X1_out rfl rfl rfl (by decide +kernel) ⟨Nat.le_of_ble_eq_true rfl, Nat.le_of_ble_eq_true rfl⟩) ⟨fun a U g mk q => by obtain ⟨q0, q1, qP, qK, qD⟩ := q; exact ⟨q0, q1, qP, va_K.moved (u := U) (U := U.calling g mk a) (Vm.Alike.refl U.vm) qK, qD⟩, va_recv hK hP (ci := 1) (q0 := 0) rfl rfl, fun U hU hW => ⟨rfl, by rw [hU], by rw [hU]; exact hPc, va_K.moved hW.alike hK, hDc.weaken (fun _ _ _ _ => trivial)⟩⟩ rfl rfl hl.1 rfl (lv_room (Nat.le_of_ble_eq_true rfl)) dX1_send_130 ⟨Nat.le_of_ble_eq_true rfl, Nat.le_of_ble_eq_true rfl⟩) hS (fun q _ h => hFc q h) hFc (fun  u_2 t H1 locs ht hvm hu_2 hB hz1 hk1 hS => ?_)
    obtain ⟨hP1, -, hD1⟩ := hB
    rw [ht] at hP1
    have hP : va_P (dC, dI) vwCl [(qm, .inr (1, [.int (m_th u_2), .int (m_st u_2), .int (m_md u_2), .ref pb, .int (nI (m_mn u_2)), .ref pr, .int (nI (m_rw u_2)), .ref pv, .int (nI (m_sz u_2)), .ref pw, .int (nI (m_wn u_2)), .ref ps, .int (nI (m_sn u_2)), .ref pc])), (pb, .inl (cI, 64, .inl (m_bi u_2))), (pr, .inl (cI, 259, .inl (m_ro u_2))), (pv, .inl (cI, 259, .inl (m_rc u_2))), (pw, .inl (cI, 259, .inl (m_wt u_2))), (ps, .inl (cI, 306, .inl (m_se u_2))), (pc, .inl (cI, 5, .inl (m_cn u_2)))] H1 := hP1
    have hD : va_D A [(qm, .inr (1, [.int (m_th u_2), .int (m_st u_2), .int (m_md u_2), .ref pb, .int (nI (m_mn u_2)), .ref pr, .int (nI (m_rw u_2)), .ref pv, .int (nI (m_sz u_2)), .ref pw, .int (nI (m_wn u_2)), .ref ps, .int (nI (m_sn u_2)), .ref pc])), (pb, .inl (cI, 64, .inl (m_bi u_2))), (pr, .inl (cI, 259, .inl (m_ro u_2))), (pv, .inl (cI, 259, .inl (m_rc u_2))), (pw, .inl (cI, 259, .inl (m_wt u_2))), (ps, .inl (cI, 306, .inl (m_se u_2))), (pc, .inl (cI, 5, .inl (m_cn u_2)))] := hD1.weaken (fun k q _ h => hFc q.1 h)
    generalize H1 = H at hP hS ⊢
    refine lv_iinc (v := nI (k + 1)) (lv' := [(1, .int (nI (k + 1))), (0, .ref qm)]) hx hb dX1_send_133 hl (k := 1) rfl (show nI k + nI 1 = nI (k + 1) from nI_add _ _) (by decide) rfl (fun ls hl => ?_)
    refine lv_goto (tgt := 120) hx hb dX1_send_136 (by decide) ?_
    subst hu_2
    have eF : m_odF (n + 1) k u = m_odF n (k + 1) (m_out u 197) := by rw [m_odF]
    exact ih (m_out u 197) (k + 1) H locs ls (by omega) (show m_sn u + 1 + n ≤ 305 by omega) hP hD hS (lv_sub hl [1, 0] rfl) (fun H locs ls hP hD hS hl => kk H locs ls (by rw [eF]; exact hP) (by rw [eF]; exact hD) hS (by exact hl))
def m_send (u : m_S) : m_S := if nI (m_wn u) = 0 then m_th0 u else m_wn0 (m_sendT u)
def m_send_r (u : m_S) : Int32 := if nI (m_wn u) = 0 then (-1) else nI (m_sn (m_sendT u))
set_option maxHeartbeats 4000000 in
set_option maxRecDepth 100000 in
theorem kX1_send (l : Launch) (dC : Nat → ClassId) (dI : Nat → Nat → Nat) (qm pb pr pv pw ps pc : Nat) (cI : ClassId) (sz : Nat) (u : m_S)  (hwn : m_wn u ≤ 259) : Met l yX1_send vX1_send rmX1_send (va_Pc [.ref qm] (fun U => U.heap.size = sz ∧ va_P (dC, dI) vwCl (m_W qm pb pr pv pw ps pc cI u) U.heap ∧ va_K (dC, dI) vwCl [(cI, .int)] U ∧ va_D (fun _ => True) (m_W qm pb pr pv pw ps pc cI u))) (va_Qi (fun r u2 => r = m_send_r u ∧ u2 = m_send u) (m_At dC dI (va_A (m_W qm pb pr pv pw ps pc cI u) sz) qm pb pr pv pw ps pc cI) (va_A (m_W qm pb pr pv pw ps pc cI u) sz)) 0 0 (va_A (m_W qm pb pr pv pw ps pc cI u) sz) := by
  refine Met.ofW (cc := cX1_send) (maxL := 3) (ret := some .int) (by decide) rfl ?_
  intro p e s m args below meth c s₁ B hml hv
  obtain ⟨rfl, hsz, hP, hK, hD0⟩ := hv
  have hx := B.exec
  have hb := B.bytes
  have hr := B.returns
  have hts := atoms_spec (ws := vX1_send) B.pre
  have hown : s.vm.findClass RX1 = some m.cls := findClass_of_methodNamed B.named
  have hlocks := B.notSynchronized
  have hinT : ∀ w ∈ wsX10, w ∈ vX1_send := fun w h => List.mem_cons_of_mem _ (inM w h)
  subst hsz
  have hD := hD0.self (sz := s.heap.size)
  generalize hAe : va_A (m_W qm pb pr pv pw ps pc cI u) s.heap.size = A at hD ⊢
  have hA : ∀ q : Nat, s.heap.size ≤ q → A q := fun q h => by rw [← hAe]; exact Or.inr h
  have hS : va_S A s.heap s.heap [] := va_S.rf
  have hD : va_D A [(qm, .inr (1, [.int (m_th u), .int (m_st u), .int (m_md u), .ref pb, .int (nI (m_mn u)), .ref pr, .int (nI (m_rw u)), .ref pv, .int (nI (m_sz u)), .ref pw, .int (nI (m_wn u)), .ref ps, .int (nI (m_sn u)), .ref pc])), (pb, .inl (cI, 64, .inl (m_bi u))), (pr, .inl (cI, 259, .inl (m_ro u))), (pv, .inl (cI, 259, .inl (m_rc u))), (pw, .inl (cI, 259, .inl (m_wt u))), (ps, .inl (cI, 306, .inl (m_se u))), (pc, .inl (cI, 5, .inl (m_cn u)))] := hD
  have hP : va_P (dC, dI) vwCl [(qm, .inr (1, [.int (m_th u), .int (m_st u), .int (m_md u), .ref pb, .int (nI (m_mn u)), .ref pr, .int (nI (m_rw u)), .ref pv, .int (nI (m_sz u)), .ref pw, .int (nI (m_wn u)), .ref ps, .int (nI (m_sn u)), .ref pc])), (pb, .inl (cI, 64, .inl (m_bi u))), (pr, .inl (cI, 259, .inl (m_ro u))), (pv, .inl (cI, 259, .inl (m_rc u))), (pw, .inl (cI, 259, .inl (m_wt u))), (ps, .inl (cI, 306, .inl (m_se u))), (pc, .inl (cI, 5, .inl (m_cn u)))] s.heap := hP
  have hl := lv_entry ([.ref qm]) (n := 3) (Nat.le_of_ble_eq_true rfl)
  rw [lg_entry_eq]
  generalize (lg_sl ([.ref qm]) ++ List.replicate (3 - (lg_sl ([.ref qm])).length) Slot.unset).toArray = ls at hl ⊢
  have hl : lv_has ls 3 [(0, .ref qm)] := hl
  refine lv_aload_n hx hb dX1_send_0 rfl (lv_at hl 0 rfl) ?_
  refine lv_iconst (v := 0) hx hb dX1_send_1 (by decide) ?_
  refine va_put (D := (dC, dI)) (ci := 1) (v := .int 0) (ty := .int) (C := RX1) (T := TX1) (N := 14) hx hb hts hinT tyX1 tyX1_ok nmX1 hown hK hP hD hS 0 rfl rfl 0 (by decide) (hts _ (List.mem_cons_of_mem _ fl_28)) (fun _ h9 => h9) rfl (by decide +kernel) rfl rfl (Nat.le_of_ble_eq_true rfl) dX1_send_2 (fun H locs hP hD hS => ?_)
  have hP : va_P (dC, dI) vwCl [(qm, .inr (1, [.int 0, .int (m_st u), .int (m_md u), .ref pb, .int (nI (m_mn u)), .ref pr, .int (nI (m_rw u)), .ref pv, .int (nI (m_sz u)), .ref pw, .int (nI (m_wn u)), .ref ps, .int (nI (m_sn u)), .ref pc])), (pb, .inl (cI, 64, .inl (m_bi u))), (pr, .inl (cI, 259, .inl (m_ro u))), (pv, .inl (cI, 259, .inl (m_rc u))), (pw, .inl (cI, 259, .inl (m_wt u))), (ps, .inl (cI, 306, .inl (m_se u))), (pc, .inl (cI, 5, .inl (m_cn u)))] H := hP
  have hD : va_D A [(qm, .inr (1, [.int 0, .int (m_st u), .int (m_md u), .ref pb, .int (nI (m_mn u)), .ref pr, .int (nI (m_rw u)), .ref pv, .int (nI (m_sz u)), .ref pw, .int (nI (m_wn u)), .ref ps, .int (nI (m_sn u)), .ref pc])), (pb, .inl (cI, 64, .inl (m_bi u))), (pr, .inl (cI, 259, .inl (m_ro u))), (pv, .inl (cI, 259, .inl (m_rc u))), (pw, .inl (cI, 259, .inl (m_wt u))), (ps, .inl (cI, 306, .inl (m_se u))), (pc, .inl (cI, 5, .inl (m_cn u)))] := hD
  refine lv_aload_n hx hb dX1_send_5 rfl (lv_at hl 0 rfl) ?_
  refine va_get (D := (dC, dI)) (ci := 1) (v := .int (nI (m_wn u))) (C := RX1) (T := TX1) (N := 14) hx hb hts hinT hown hK hP 0 rfl rfl 10 (by decide) (hts _ (List.mem_cons_of_mem _ fl_74)) (fun _ h9 => h9) rfl dX1_send_6 ?_
  refine lv_if_ne (tgt := 14) hx hb dX1_send_9 (by decide) (fun c_1 => ?_) (fun c_1 => ?_)
  · refine lpX1_sendA (l := l) dC dI qm pb pr pv pw ps pc cI  hx hb hml hown hts A hA hK  7 (0, m_st u, m_md u, m_mn u, m_rw u, m_sz u, m_wn u, m_sn u, m_bi u, m_ro u, m_rc u, m_wt u, m_se u, m_cn u) H locs ls hwn (show m_wn u % 7 = 0 ∨ 7 ≤ 7 + m_wn u % 7 by omega) hP hD hS (lv_sub hl [0] rfl) (fun H locs ls hP hD hS hl => ?_)
    obtain ⟨v_2, hv_2⟩ : ∃ z, z = m_waF 7 (0, m_st u, m_md u, m_mn u, m_rw u, m_sz u, m_wn u, m_sn u, m_bi u, m_ro u, m_rc u, m_wt u, m_se u, m_cn u) := ⟨_, rfl⟩
    rw [← hv_2] at hP hD
    have hP : va_P (dC, dI) vwCl [(qm, .inr (1, [.int (m_th v_2), .int (m_st v_2), .int (m_md v_2), .ref pb, .int (nI (m_mn v_2)), .ref pr, .int (nI (m_rw v_2)), .ref pv, .int (nI (m_sz v_2)), .ref pw, .int (nI (m_wn v_2)), .ref ps, .int (nI (m_sn v_2)), .ref pc])), (pb, .inl (cI, 64, .inl (m_bi v_2))), (pr, .inl (cI, 259, .inl (m_ro v_2))), (pv, .inl (cI, 259, .inl (m_rc v_2))), (pw, .inl (cI, 259, .inl (m_wt v_2))), (ps, .inl (cI, 306, .inl (m_se v_2))), (pc, .inl (cI, 5, .inl (m_cn v_2)))] H := hP
    have hD : va_D A [(qm, .inr (1, [.int (m_th v_2), .int (m_st v_2), .int (m_md v_2), .ref pb, .int (nI (m_mn v_2)), .ref pr, .int (nI (m_rw v_2)), .ref pv, .int (nI (m_sz v_2)), .ref pw, .int (nI (m_wn v_2)), .ref ps, .int (nI (m_sn v_2)), .ref pc])), (pb, .inl (cI, 64, .inl (m_bi v_2))), (pr, .inl (cI, 259, .inl (m_ro v_2))), (pv, .inl (cI, 259, .inl (m_rc v_2))), (pw, .inl (cI, 259, .inl (m_wt v_2))), (ps, .inl (cI, 306, .inl (m_se v_2))), (pc, .inl (cI, 5, .inl (m_cn v_2)))] := hD
    refine lv_aload_n hx hb dX1_send_48 rfl (lv_at hl 0 rfl) ?_
    refine lv_iconst (v := 0) hx hb dX1_send_49 (by decide) ?_
    refine va_put (D := (dC, dI)) (ci := 1) (v := .int 0) (ty := .int) (C := RX1) (T := TX1) (N := 14) hx hb hts hinT tyX1 tyX1_ok nmX1 hown hK hP hD hS 0 rfl rfl 12 (by decide) (hts _ (List.mem_cons_of_mem _ fl_77)) (fun _ h9 => h9) rfl (by decide +kernel) rfl rfl (Nat.le_of_ble_eq_true rfl) dX1_send_50 (fun H locs hP hD hS => ?_)
    have hP : va_P (dC, dI) vwCl [(qm, .inr (1, [.int (m_th v_2), .int (m_st v_2), .int (m_md v_2), .ref pb, .int (nI (m_mn v_2)), .ref pr, .int (nI (m_rw v_2)), .ref pv, .int (nI (m_sz v_2)), .ref pw, .int (nI (m_wn v_2)), .ref ps, .int 0, .ref pc])), (pb, .inl (cI, 64, .inl (m_bi v_2))), (pr, .inl (cI, 259, .inl (m_ro v_2))), (pv, .inl (cI, 259, .inl (m_rc v_2))), (pw, .inl (cI, 259, .inl (m_wt v_2))), (ps, .inl (cI, 306, .inl (m_se v_2))), (pc, .inl (cI, 5, .inl (m_cn v_2)))] H := hP
    have hD : va_D A [(qm, .inr (1, [.int (m_th v_2), .int (m_st v_2), .int (m_md v_2), .ref pb, .int (nI (m_mn v_2)), .ref pr, .int (nI (m_rw v_2)), .ref pv, .int (nI (m_sz v_2)), .ref pw, .int (nI (m_wn v_2)), .ref ps, .int 0, .ref pc])), (pb, .inl (cI, 64, .inl (m_bi v_2))), (pr, .inl (cI, 259, .inl (m_ro v_2))), (pv, .inl (cI, 259, .inl (m_rc v_2))), (pw, .inl (cI, 259, .inl (m_wt v_2))), (ps, .inl (cI, 306, .inl (m_se v_2))), (pc, .inl (cI, 5, .inl (m_cn v_2)))] := hD
    refine lv_aload_n hx hb dX1_send_53 rfl (lv_at hl 0 rfl) ?_
    refine lv_sipush (v := 235) hx hb dX1_send_54 (by decide) ?_
    have hPc : va_P (dC, dI) vwCl (m_W qm pb pr pv pw ps pc cI (m_th v_2, m_st v_2, m_md v_2, m_mn v_2, m_rw v_2, m_sz v_2, m_wn v_2, 0, m_bi v_2, m_ro v_2, m_rc v_2, m_wt v_2, m_se v_2, m_cn v_2)) H := hP
    have hDc : va_D A (m_W qm pb pr pv pw ps pc cI (m_th v_2, m_st v_2, m_md v_2, m_mn v_2, m_rw v_2, m_sz v_2, m_wn v_2, 0, m_bi v_2, m_ro v_2, m_rc v_2, m_wt v_2, m_se v_2, m_cn v_2)) := hD
    have hFc := va_free (wc := (m_W qm pb pr pv pw ps pc cI (m_th v_2, m_st v_2, m_md v_2, m_mn v_2, m_rw v_2, m_sz v_2, m_wn v_2, 0, m_bi v_2, m_ro v_2, m_rc v_2, m_wt v_2, m_se v_2, m_cn v_2))) hD hS hA [0, 1, 2, 3, 4, 5, 6] rfl
    refine va_callv (va_runV (As := [.int 235]) (rest := []) ⟨hx, hb, hml, hown, hts⟩ (kX1_out l dC dI qm pb pr pv pw ps pc cI H.size (m_th v_2, m_st v_2, m_md v_2, m_mn v_2, m_rw v_2, m_sz v_2, m_wn v_2, 0, m_bi v_2, m_ro v_2, m_rc v_2, m_wt v_2, m_se v_2, m_cn v_2) 235 (show 0 < 306 by decide)) (cwV 1 hts gM_X1_out rfl rfl rfl (by decide +kernel) ⟨Nat.le_of_ble_eq_true rfl, Nat.le_of_ble_eq_true rfl⟩) ⟨fun a U g mk q => by obtain ⟨q0, q1, qP, qK, qD⟩ := q; exact ⟨q0, q1, qP, va_K.moved (u := U) (U := U.calling g mk a) (Vm.Alike.refl U.vm) qK, qD⟩, va_recv hK hP (ci := 1) (q0 := 0) rfl rfl, fun U hU hW => ⟨rfl, by rw [hU], by rw [hU]; exact hPc, va_K.moved hW.alike hK, hDc.weaken (fun _ _ _ _ => trivial)⟩⟩ rfl rfl hl.1 rfl (lv_room (Nat.le_of_ble_eq_true rfl)) dX1_send_57 ⟨Nat.le_of_ble_eq_true rfl, Nat.le_of_ble_eq_true rfl⟩) hS (fun q _ h => hFc q h) hFc (fun  u_3 t H1 locs ht hvm hu_3 hB hz1 hk1 hS => ?_)
    obtain ⟨hP1, -, hD1⟩ := hB
    rw [ht] at hP1
    have hP : va_P (dC, dI) vwCl [(qm, .inr (1, [.int (m_th u_3), .int (m_st u_3), .int (m_md u_3), .ref pb, .int (nI (m_mn u_3)), .ref pr, .int (nI (m_rw u_3)), .ref pv, .int (nI (m_sz u_3)), .ref pw, .int (nI (m_wn u_3)), .ref ps, .int (nI (m_sn u_3)), .ref pc])), (pb, .inl (cI, 64, .inl (m_bi u_3))), (pr, .inl (cI, 259, .inl (m_ro u_3))), (pv, .inl (cI, 259, .inl (m_rc u_3))), (pw, .inl (cI, 259, .inl (m_wt u_3))), (ps, .inl (cI, 306, .inl (m_se u_3))), (pc, .inl (cI, 5, .inl (m_cn u_3)))] H1 := hP1
    have hD : va_D A [(qm, .inr (1, [.int (m_th u_3), .int (m_st u_3), .int (m_md u_3), .ref pb, .int (nI (m_mn u_3)), .ref pr, .int (nI (m_rw u_3)), .ref pv, .int (nI (m_sz u_3)), .ref pw, .int (nI (m_wn u_3)), .ref ps, .int (nI (m_sn u_3)), .ref pc])), (pb, .inl (cI, 64, .inl (m_bi u_3))), (pr, .inl (cI, 259, .inl (m_ro u_3))), (pv, .inl (cI, 259, .inl (m_rc u_3))), (pw, .inl (cI, 259, .inl (m_wt u_3))), (ps, .inl (cI, 306, .inl (m_se u_3))), (pc, .inl (cI, 5, .inl (m_cn u_3)))] := hD1.weaken (fun k q _ h => hFc q.1 h)
    generalize H1 = H at hP hS ⊢
    refine lv_aload_n hx hb dX1_send_60 rfl (lv_at hl 0 rfl) ?_
    refine lv_sipush (v := 144) hx hb dX1_send_61 (by decide) ?_
    have hPc : va_P (dC, dI) vwCl (m_W qm pb pr pv pw ps pc cI u_3) H := hP
    have hDc : va_D A (m_W qm pb pr pv pw ps pc cI u_3) := hD
    have hFc := va_free (wc := (m_W qm pb pr pv pw ps pc cI u_3)) hD hS hA [0, 1, 2, 3, 4, 5, 6] rfl
    refine va_callv (va_runV (As := [.int 144]) (rest := []) ⟨hx, hb, hml, hown, hts⟩ (kX1_out l dC dI qm pb pr pv pw ps pc cI H.size u_3 144 (show m_sn u_3 < 306 by rw [hu_3]; show 0 + 1 < 306; decide)) (cwV 1 hts gM_X1_out rfl rfl rfl (by decide +kernel) ⟨Nat.le_of_ble_eq_true rfl, Nat.le_of_ble_eq_true rfl⟩) ⟨fun a U g mk q => by obtain ⟨q0, q1, qP, qK, qD⟩ := q; exact ⟨q0, q1, qP, va_K.moved (u := U) (U := U.calling g mk a) (Vm.Alike.refl U.vm) qK, qD⟩, va_recv hK hP (ci := 1) (q0 := 0) rfl rfl, fun U hU hW => ⟨rfl, by rw [hU], by rw [hU]; exact hPc, va_K.moved hW.alike hK, hDc.weaken (fun _ _ _ _ => trivial)⟩⟩ rfl rfl hl.1 rfl (lv_room (Nat.le_of_ble_eq_true rfl)) dX1_send_64 ⟨Nat.le_of_ble_eq_true rfl, Nat.le_of_ble_eq_true rfl⟩) hS (fun q _ h => hFc q h) hFc (fun  u_4 t H1 locs ht hvm hu_4 hB hz1 hk1 hS => ?_)
    obtain ⟨hP1, -, hD1⟩ := hB
    rw [ht] at hP1
    have hP : va_P (dC, dI) vwCl [(qm, .inr (1, [.int (m_th u_4), .int (m_st u_4), .int (m_md u_4), .ref pb, .int (nI (m_mn u_4)), .ref pr, .int (nI (m_rw u_4)), .ref pv, .int (nI (m_sz u_4)), .ref pw, .int (nI (m_wn u_4)), .ref ps, .int (nI (m_sn u_4)), .ref pc])), (pb, .inl (cI, 64, .inl (m_bi u_4))), (pr, .inl (cI, 259, .inl (m_ro u_4))), (pv, .inl (cI, 259, .inl (m_rc u_4))), (pw, .inl (cI, 259, .inl (m_wt u_4))), (ps, .inl (cI, 306, .inl (m_se u_4))), (pc, .inl (cI, 5, .inl (m_cn u_4)))] H1 := hP1
    have hD : va_D A [(qm, .inr (1, [.int (m_th u_4), .int (m_st u_4), .int (m_md u_4), .ref pb, .int (nI (m_mn u_4)), .ref pr, .int (nI (m_rw u_4)), .ref pv, .int (nI (m_sz u_4)), .ref pw, .int (nI (m_wn u_4)), .ref ps, .int (nI (m_sn u_4)), .ref pc])), (pb, .inl (cI, 64, .inl (m_bi u_4))), (pr, .inl (cI, 259, .inl (m_ro u_4))), (pv, .inl (cI, 259, .inl (m_rc u_4))), (pw, .inl (cI, 259, .inl (m_wt u_4))), (ps, .inl (cI, 306, .inl (m_se u_4))), (pc, .inl (cI, 5, .inl (m_cn u_4)))] := hD1.weaken (fun k q _ h => hFc q.1 h)
    generalize H1 = H at hP hS ⊢
    refine lv_iconst (v := 0) hx hb dX1_send_67 (by decide) ?_
    refine lv_istore_n (lv' := [(1, .int 0), (0, .ref qm)]) hx hb dX1_send_68 rfl hl (by decide) rfl (fun ls hl => ?_)
    have eA : u_4 = m_sendA u := by rw [hu_4, hu_3, hv_2, m_sendA, m_sn0, m_th0]
    have ewn : m_wn u_4 = 7 * ((m_wn u + 6) / 7) := by rw [eA]; exact m_wa_wn 7 (m_th0 u) hwn (show m_wn u % 7 = 0 ∨ 7 ≤ 7 + m_wn u % 7 by omega)
    have esn : m_sn u_4 = 2 := by rw [eA]; rfl
    refine lpX1_sendB (l := l) dC dI qm pb pr pv pw ps pc cI ((m_wn u + 6) / 7) (by omega) hx hb hml hown hts A hA hK  ((m_wn u + 6) / 7) u_4 0 H locs ls (Nat.zero_add _) ewn (by rw [esn]; omega) hP hD hS (lv_sub hl [1, 0] rfl) (fun H locs ls hP hD hS hl => ?_)
    obtain ⟨v_5, hv_5⟩ : ∃ z, z = m_sB ((m_wn u + 6) / 7) 0 u_4 := ⟨_, rfl⟩
    rw [← hv_5] at hP hD
    have hP : va_P (dC, dI) vwCl [(qm, .inr (1, [.int (m_th v_5), .int (m_st v_5), .int (m_md v_5), .ref pb, .int (nI (m_mn v_5)), .ref pr, .int (nI (m_rw v_5)), .ref pv, .int (nI (m_sz v_5)), .ref pw, .int (nI (m_wn v_5)), .ref ps, .int (nI (m_sn v_5)), .ref pc])), (pb, .inl (cI, 64, .inl (m_bi v_5))), (pr, .inl (cI, 259, .inl (m_ro v_5))), (pv, .inl (cI, 259, .inl (m_rc v_5))), (pw, .inl (cI, 259, .inl (m_wt v_5))), (ps, .inl (cI, 306, .inl (m_se v_5))), (pc, .inl (cI, 5, .inl (m_cn v_5)))] H := hP
    have hD : va_D A [(qm, .inr (1, [.int (m_th v_5), .int (m_st v_5), .int (m_md v_5), .ref pb, .int (nI (m_mn v_5)), .ref pr, .int (nI (m_rw v_5)), .ref pv, .int (nI (m_sz v_5)), .ref pw, .int (nI (m_wn v_5)), .ref ps, .int (nI (m_sn v_5)), .ref pc])), (pb, .inl (cI, 64, .inl (m_bi v_5))), (pr, .inl (cI, 259, .inl (m_ro v_5))), (pv, .inl (cI, 259, .inl (m_rc v_5))), (pw, .inl (cI, 259, .inl (m_wt v_5))), (ps, .inl (cI, 306, .inl (m_se v_5))), (pc, .inl (cI, 5, .inl (m_cn v_5)))] := hD
    refine lv_iconst (v := 0) hx hb dX1_send_118 (by decide) ?_
    refine lv_istore_n (lv' := [(1, .int 0), (0, .ref qm)]) hx hb dX1_send_119 rfl hl (by decide) rfl (fun ls hl => ?_)
    have esB : m_sn v_5 = 2 + 8 * ((m_wn u + 6) / 7) := by rw [hv_5, (m_sB_f _ _ _).2, esn]
    refine lpX1_sendD (l := l) dC dI qm pb pr pv pw ps pc cI  hx hb hml hown hts A hA hK  7 v_5 0 H locs ls rfl (by rw [esB]; omega) hP hD hS (lv_sub hl [1, 0] rfl) (fun H locs ls hP hD hS hl => ?_)
    obtain ⟨v_6, hv_6⟩ : ∃ z, z = m_odF 7 0 v_5 := ⟨_, rfl⟩
    rw [← hv_6] at hP hD
    have hP : va_P (dC, dI) vwCl [(qm, .inr (1, [.int (m_th v_6), .int (m_st v_6), .int (m_md v_6), .ref pb, .int (nI (m_mn v_6)), .ref pr, .int (nI (m_rw v_6)), .ref pv, .int (nI (m_sz v_6)), .ref pw, .int (nI (m_wn v_6)), .ref ps, .int (nI (m_sn v_6)), .ref pc])), (pb, .inl (cI, 64, .inl (m_bi v_6))), (pr, .inl (cI, 259, .inl (m_ro v_6))), (pv, .inl (cI, 259, .inl (m_rc v_6))), (pw, .inl (cI, 259, .inl (m_wt v_6))), (ps, .inl (cI, 306, .inl (m_se v_6))), (pc, .inl (cI, 5, .inl (m_cn v_6)))] H := hP
    have hD : va_D A [(qm, .inr (1, [.int (m_th v_6), .int (m_st v_6), .int (m_md v_6), .ref pb, .int (nI (m_mn v_6)), .ref pr, .int (nI (m_rw v_6)), .ref pv, .int (nI (m_sz v_6)), .ref pw, .int (nI (m_wn v_6)), .ref ps, .int (nI (m_sn v_6)), .ref pc])), (pb, .inl (cI, 64, .inl (m_bi v_6))), (pr, .inl (cI, 259, .inl (m_ro v_6))), (pv, .inl (cI, 259, .inl (m_rc v_6))), (pw, .inl (cI, 259, .inl (m_wt v_6))), (ps, .inl (cI, 306, .inl (m_se v_6))), (pc, .inl (cI, 5, .inl (m_cn v_6)))] := hD
    refine lv_aload_n hx hb dX1_send_139 rfl (lv_at hl 0 rfl) ?_
    refine lv_bipush (v := 121) hx hb dX1_send_140 (by decide) ?_
    have hPc : va_P (dC, dI) vwCl (m_W qm pb pr pv pw ps pc cI v_6) H := hP
    have hDc : va_D A (m_W qm pb pr pv pw ps pc cI v_6) := hD
    have hFc := va_free (wc := (m_W qm pb pr pv pw ps pc cI v_6)) hD hS hA [0, 1, 2, 3, 4, 5, 6] rfl
    refine va_callv (va_runV (As := [.int 121]) (rest := []) ⟨hx, hb, hml, hown, hts⟩ (kX1_out l dC dI qm pb pr pv pw ps pc cI H.size v_6 121 (show m_sn v_6 < 306 by rw [hv_6, m_od_f, esB]; omega)) (cwV 1 hts gM_X1_out rfl rfl rfl (by decide +kernel) ⟨Nat.le_of_ble_eq_true rfl, Nat.le_of_ble_eq_true rfl⟩) ⟨fun a U g mk q => by obtain ⟨q0, q1, qP, qK, qD⟩ := q; exact ⟨q0, q1, qP, va_K.moved (u := U) (U := U.calling g mk a) (Vm.Alike.refl U.vm) qK, qD⟩, va_recv hK hP (ci := 1) (q0 := 0) rfl rfl, fun U hU hW => ⟨rfl, by rw [hU], by rw [hU]; exact hPc, va_K.moved hW.alike hK, hDc.weaken (fun _ _ _ _ => trivial)⟩⟩ rfl rfl hl.1 rfl (lv_room (Nat.le_of_ble_eq_true rfl)) dX1_send_142 ⟨Nat.le_of_ble_eq_true rfl, Nat.le_of_ble_eq_true rfl⟩) hS (fun q _ h => hFc q h) hFc (fun  u_7 t H1 locs ht hvm hu_7 hB hz1 hk1 hS => ?_)
    obtain ⟨hP1, -, hD1⟩ := hB
    rw [ht] at hP1
    have hP : va_P (dC, dI) vwCl [(qm, .inr (1, [.int (m_th u_7), .int (m_st u_7), .int (m_md u_7), .ref pb, .int (nI (m_mn u_7)), .ref pr, .int (nI (m_rw u_7)), .ref pv, .int (nI (m_sz u_7)), .ref pw, .int (nI (m_wn u_7)), .ref ps, .int (nI (m_sn u_7)), .ref pc])), (pb, .inl (cI, 64, .inl (m_bi u_7))), (pr, .inl (cI, 259, .inl (m_ro u_7))), (pv, .inl (cI, 259, .inl (m_rc u_7))), (pw, .inl (cI, 259, .inl (m_wt u_7))), (ps, .inl (cI, 306, .inl (m_se u_7))), (pc, .inl (cI, 5, .inl (m_cn u_7)))] H1 := hP1
    have hD : va_D A [(qm, .inr (1, [.int (m_th u_7), .int (m_st u_7), .int (m_md u_7), .ref pb, .int (nI (m_mn u_7)), .ref pr, .int (nI (m_rw u_7)), .ref pv, .int (nI (m_sz u_7)), .ref pw, .int (nI (m_wn u_7)), .ref ps, .int (nI (m_sn u_7)), .ref pc])), (pb, .inl (cI, 64, .inl (m_bi u_7))), (pr, .inl (cI, 259, .inl (m_ro u_7))), (pv, .inl (cI, 259, .inl (m_rc u_7))), (pw, .inl (cI, 259, .inl (m_wt u_7))), (ps, .inl (cI, 306, .inl (m_se u_7))), (pc, .inl (cI, 5, .inl (m_cn u_7)))] := hD1.weaken (fun k q _ h => hFc q.1 h)
    generalize H1 = H at hP hS ⊢
    refine lv_aload_n hx hb dX1_send_145 rfl (lv_at hl 0 rfl) ?_
    refine lv_iconst (v := 0) hx hb dX1_send_146 (by decide) ?_
    refine va_put (D := (dC, dI)) (ci := 1) (v := .int 0) (ty := .int) (C := RX1) (T := TX1) (N := 14) hx hb hts hinT tyX1 tyX1_ok nmX1 hown hK hP hD hS 0 rfl rfl 10 (by decide) (hts _ (List.mem_cons_of_mem _ fl_74)) (fun _ h9 => h9) rfl (by decide +kernel) rfl rfl (Nat.le_of_ble_eq_true rfl) dX1_send_147 (fun H locs hP hD hS => ?_)
    have hP : va_P (dC, dI) vwCl [(qm, .inr (1, [.int (m_th u_7), .int (m_st u_7), .int (m_md u_7), .ref pb, .int (nI (m_mn u_7)), .ref pr, .int (nI (m_rw u_7)), .ref pv, .int (nI (m_sz u_7)), .ref pw, .int 0, .ref ps, .int (nI (m_sn u_7)), .ref pc])), (pb, .inl (cI, 64, .inl (m_bi u_7))), (pr, .inl (cI, 259, .inl (m_ro u_7))), (pv, .inl (cI, 259, .inl (m_rc u_7))), (pw, .inl (cI, 259, .inl (m_wt u_7))), (ps, .inl (cI, 306, .inl (m_se u_7))), (pc, .inl (cI, 5, .inl (m_cn u_7)))] H := hP
    have hD : va_D A [(qm, .inr (1, [.int (m_th u_7), .int (m_st u_7), .int (m_md u_7), .ref pb, .int (nI (m_mn u_7)), .ref pr, .int (nI (m_rw u_7)), .ref pv, .int (nI (m_sz u_7)), .ref pw, .int 0, .ref ps, .int (nI (m_sn u_7)), .ref pc])), (pb, .inl (cI, 64, .inl (m_bi u_7))), (pr, .inl (cI, 259, .inl (m_ro u_7))), (pv, .inl (cI, 259, .inl (m_rc u_7))), (pw, .inl (cI, 259, .inl (m_wt u_7))), (ps, .inl (cI, 306, .inl (m_se u_7))), (pc, .inl (cI, 5, .inl (m_cn u_7)))] := hD
    refine lv_aload_n hx hb dX1_send_150 rfl (lv_at hl 0 rfl) ?_
    refine va_get (D := (dC, dI)) (ci := 1) (v := .int (nI (m_sn u_7))) (C := RX1) (T := TX1) (N := 14) hx hb hts hinT hown hK hP 0 rfl rfl 12 (by decide) (hts _ (List.mem_cons_of_mem _ fl_77)) (fun _ h9 => h9) rfl dX1_send_151 ?_
    have e5 : u_7 = m_sendT u := by rw [hu_7, hv_6, hv_5, eA, m_sendT]
    have hP9 : va_P (dC, dI) vwCl (m_W qm pb pr pv pw ps pc cI (m_th u_7, m_st u_7, m_md u_7, m_mn u_7, m_rw u_7, m_sz u_7, 0, m_sn u_7, m_bi u_7, m_ro u_7, m_rc u_7, m_wt u_7, m_se u_7, m_cn u_7)) H := hP
    have hD9 : va_D A (m_W qm pb pr pv pw ps pc cI (m_th u_7, m_st u_7, m_md u_7, m_mn u_7, m_rw u_7, m_sz u_7, 0, m_sn u_7, m_bi u_7, m_ro u_7, m_rc u_7, m_wt u_7, m_se u_7, m_cn u_7)) := hD
    exact W.iret (v := nI (m_sn u_7)) hx hb hr (fun t ht hW => ⟨⟨_, (m_th u_7, m_st u_7, m_md u_7, m_mn u_7, m_rw u_7, m_sz u_7, 0, m_sn u_7, m_bi u_7, m_ro u_7, m_rc u_7, m_wt u_7, m_se u_7, m_cn u_7), rfl, ⟨(by rw [e5]; unfold m_send_r; rw [if_neg c_1]), ((show _ = m_wn0 u_7 from rfl).trans (by rw [e5]; unfold m_send; rw [if_neg c_1]))⟩, by rw [ht]; exact hP9, va_K.moved hW.alike hK, hD9⟩, hS.F ht⟩) hS.2.2 dX1_send_154
  · refine lv_iconst (v := (-1)) hx hb dX1_send_12 (by decide) ?_
    have hP9 : va_P (dC, dI) vwCl (m_W qm pb pr pv pw ps pc cI (0, m_st u, m_md u, m_mn u, m_rw u, m_sz u, m_wn u, m_sn u, m_bi u, m_ro u, m_rc u, m_wt u, m_se u, m_cn u)) H := hP
    have hD9 : va_D A (m_W qm pb pr pv pw ps pc cI (0, m_st u, m_md u, m_mn u, m_rw u, m_sz u, m_wn u, m_sn u, m_bi u, m_ro u, m_rc u, m_wt u, m_se u, m_cn u)) := hD
    exact W.iret (v := (-1)) hx hb hr (fun t ht hW => ⟨⟨_, (0, m_st u, m_md u, m_mn u, m_rw u, m_sz u, m_wn u, m_sn u, m_bi u, m_ro u, m_rc u, m_wt u, m_se u, m_cn u), rfl, ⟨(by unfold m_send_r; rw [if_pos c_1]), ((show _ = m_th0 u from rfl).trans (by unfold m_send; rw [if_pos c_1]))⟩, by rw [ht]; exact hP9, va_K.moved hW.alike hK, hD9⟩, hS.F ht⟩) hS.2.2 dX1_send_13
