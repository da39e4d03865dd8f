abbrev rmX1_look : Room := { frames := 1, cells := 0, slots := 0, locals := 21 }
def m_lkF (u : m_S) : Nat → Nat → Int32 → Int32
  | 0, _, d => d
  | n + 1, k, d => m_lkF u n (k + 1) (d + (if (m_bi u) k = ((60304 >>> ((15 - (nI k)) &&& 31)) &&& 1) then 0 else 1))
set_option maxHeartbeats 4000000 in
set_option maxRecDepth 100000 in
theorem lpX1_look {p : Program} {l : Launch} {e : Env} {s : State} {m : MethodId} {args : Array Value} {below : List Frame} {meth : Method} {c : Code} {H : Heap} {locs : List Loc} {Q : State → Prop} (dC : Nat → ClassId) (dI : Nat → Nat → Nat) (qm pb pr pv pw ps pc : Nat) (cI : ClassId) (hx : p.tables.exec = Jvm.exec) (hb : c.code = cX1_look) (hml : c.maxLocals = 3) (hown : s.vm.findClass RX1 = some m.cls) (hts : ∀ w ∈ vX1_look, w.before args s = true) (u : m_S) (hP : va_P (dC, dI) vwCl (m_W qm pb pr pv pw ps pc cI u) H) (hK : va_K (dC, dI) vwCl [(cI, .int)] s) : ∀ (n : Nat) (k : Nat) (d : Int32) (ls : Array Slot), k + n = 16 → lv_has ls 3 [(0, .ref qm), (1, .int d), (2, .int (nI k))] → (∀ (ls : Array Slot), lv_has ls 3 [(0, .ref qm), (1, .int (m_lkF u n k d))] → W p l e (headSpec vX1_look rmX1_look).room s m args below meth c H locs 0 0 Q (F0 m 42 ls [])) → W p l e (headSpec vX1_look rmX1_look).room s m args below meth c H locs 0 0 Q (F0 m 4 ls []) := by
  have hinT : ∀ w ∈ wsX10, w ∈ vX1_look := fun w h => List.mem_cons_of_mem _ (inM w h)
  have hP : va_P (dC, dI) vwCl [(qm, .inr (1, [.int (m_th u), .int (m_st u), .int (m_md u), .ref pb, .int (nI (m_mn u)), .ref pr, .int (nI (m_rw u)), .ref pv, .int (nI (m_sz u)), .ref pw, .int (nI (m_wn u)), .ref ps, .int (nI (m_sn u)), .ref pc])), (pb, .inl (cI, 64, .inl (m_bi u))), (pr, .inl (cI, 259, .inl (m_ro u))), (pv, .inl (cI, 259, .inl (m_rc u))), (pw, .inl (cI, 259, .inl (m_wt u))), (ps, .inl (cI, 306, .inl (m_se u))), (pc, .inl (cI, 5, .inl (m_cn u)))] H := hP
  intro n
  induction n with
  | zero =>
    intro k d ls hn hl kk
    have hk : k = 16 := by omega
    subst hk
    have hl : lv_has ls 3 [(0, .ref qm), (1, .int d), (2, .int (nI 16))] := hl
    refine lv_iload_n hx hb dX1_look_4 rfl (lv_at hl 2 rfl) ?_
    refine lv_bipush (v := 16) hx hb dX1_look_5 (by decide) ?_
    refine lv_icmp_ge (tgt := 42) hx hb dX1_look_7 (by decide) (fun c_1 => ?_) (fun c_1 => absurd (by decide) c_1)
    exact kk ls (lv_sub hl [0, 1] rfl)
  | succ n ih =>
    intro k d ls hn hl kk
    have hl : lv_has ls 3 [(0, .ref qm), (1, .int d), (2, .int (nI k))] := hl
    refine lv_iload_n hx hb dX1_look_4 rfl (lv_at hl 2 rfl) ?_
    refine lv_bipush (v := 16) hx hb dX1_look_5 (by decide) ?_
    refine lv_icmp_ge (tgt := 42) hx hb dX1_look_7 (by decide) (fun c_1 => absurd c_1 (show ¬ nI 16 ≤ nI k from nI_ge (by omega) (by decide))) (fun c_1 => ?_)
    refine lv_iload_n hx hb dX1_look_10 rfl (lv_at hl 1 rfl) ?_
    refine lv_aload_n hx hb dX1_look_11 rfl (lv_at hl 0 rfl) ?_
    refine va_get (D := (dC, dI)) (ci := 1) (v := .ref pb) (C := RX1) (T := TX1) (N := 14) hx hb hts hinT hown hK hP 0 rfl rfl 3 (by decide) (hts _ (List.mem_cons_of_mem _ fl_7)) (fun _ h9 => h9) rfl dX1_look_12 ?_
    refine lv_iload_n hx hb dX1_look_15 rfl (lv_at hl 2 rfl) ?_
    refine va_iald hx hb hK hP 1 0 rfl rfl (vp_in_nI (by omega) (by decide)) dX1_look_16 ?_
    refine W.eq (g2 := F0 m 17 ls [.int ((m_bi u) k), .int d]) (by rw [nI_clamp (by omega)]) ?_
    refine lv_ldc hx hb hown (hts (.constant RX1 63 60304) (by decide +kernel)) dX1_look_17 ?_
    refine lv_bipush (v := 15) hx hb dX1_look_19 (by decide) ?_
    refine lv_iload_n hx hb dX1_look_21 rfl (lv_at hl 2 rfl) ?_
    refine lv_isub hx hb dX1_look_22 ?_
    refine lv_ishr hx hb dX1_look_23 ?_
    refine lv_iconst (v := 1) hx hb dX1_look_24 (by decide) ?_
    refine lv_iand hx hb dX1_look_25 ?_
    refine lv_icmp_eq (tgt := 33) hx hb dX1_look_26 (by decide) (fun c_2 => ?_) (fun c_2 => ?_)
    · refine lv_iconst (v := 0) hx hb dX1_look_33 (by decide) ?_
      refine lv_iadd hx hb dX1_look_34 ?_
      refine lv_istore_n (lv' := [(1, .int (d + 0)), (0, .ref qm), (2, .int (nI k))]) hx hb dX1_look_35 rfl hl (by decide) rfl (fun ls hl => ?_)
      refine lv_iinc (v := nI (k + 1)) (lv' := [(2, .int (nI (k + 1))), (1, .int (d + 0)), (0, .ref qm)]) hx hb dX1_look_36 hl (k := 2) rfl (show nI k + nI 1 = nI (k + 1) from nI_add _ _) (by decide) rfl (fun ls hl => ?_)
      refine lv_goto (tgt := 4) hx hb dX1_look_39 (by decide) ?_
      have eF : m_lkF u (n + 1) k d = m_lkF u n (k + 1) (d + 0) := by rw [m_lkF, if_pos c_2]
      exact ih (k + 1) (d + 0) ls (by omega) (lv_sub hl [2, 1, 0] rfl) (fun ls hl => kk ls (by rw [eF]; exact hl))
    · refine lv_iconst (v := 1) hx hb dX1_look_29 (by decide) ?_
      refine lv_goto (tgt := 34) hx hb dX1_look_30 (by decide) ?_
      refine lv_iadd hx hb dX1_look_34 ?_
      refine lv_istore_n (lv' := [(1, .int (d + 1)), (0, .ref qm), (2, .int (nI k))]) hx hb dX1_look_35 rfl hl (by decide) rfl (fun ls hl => ?_)
      refine lv_iinc (v := nI (k + 1)) (lv' := [(2, .int (nI (k + 1))), (1, .int (d + 1)), (0, .ref qm)]) hx hb dX1_look_36 hl (k := 2) rfl (show nI k + nI 1 = nI (k + 1) from nI_add _ _) (by decide) rfl (fun ls hl => ?_)
      refine lv_goto (tgt := 4) hx hb dX1_look_39 (by decide) ?_
      have eF : m_lkF u (n + 1) k d = m_lkF u n (k + 1) (d + 1) := by rw [m_lkF, if_neg c_2]
      exact ih (k + 1) (d + 1) ls (by omega) (lv_sub hl [2, 1, 0] rfl) (fun ls hl => kk ls (by rw [eF]; exact hl))
def m_look (u : m_S)  : m_S := if (m_lkF u 16 0 0) = 0 then (m_begins (m_th u, m_st u, m_md u, m_mn u, 0, m_sz u, m_wn u, m_sn u, m_bi u, m_ro u, m_rc u, m_wt u, m_se u, upd (upd (m_cn u) 0 (((m_cn u) 0) + 1)) 4 (((upd (m_cn u) 0 (((m_cn u) 0) + 1)) 4) + (m_lkF u 16 0 0))) 2) else (if (m_lkF u 16 0 0) = 1 then (if (m_md u) = 0 then u else (m_begins (m_th u, m_st u, m_md u, m_mn u, 0, m_sz u, m_wn u, m_sn u, m_bi u, m_ro u, m_rc u, m_wt u, m_se u, upd (upd (m_cn u) 0 (((m_cn u) 0) + 1)) 4 (((upd (m_cn u) 0 (((m_cn u) 0) + 1)) 4) + (m_lkF u 16 0 0))) 2)) else u)
set_option maxHeartbeats 4000000 in
set_option maxRecDepth 100000 in
theorem kX1_look (l : Launch) (dC : Nat → ClassId) (dI : Nat → Nat → Nat) (qm pb pr pv pw ps pc : Nat) (cI : ClassId) (sz : Nat) (u : m_S)  : Met l yX1_look vX1_look rmX1_look (va_Pc [.ref qm] (fun U => U.heap.size = sz ∧ va_P (dC, dI) vwCl (m_W qm pb pr pv pw ps pc cI u) U.heap ∧ va_K (dC, dI) vwCl [(cI, .int)] U ∧ va_D (fun _ => True) (m_W qm pb pr pv pw ps pc cI u))) (va_Qv (fun u2 => u2 = m_look u) (m_At dC dI (va_A (m_W qm pb pr pv pw ps pc cI u) sz) qm pb pr pv pw ps pc cI) (va_A (m_W qm pb pr pv pw ps pc cI u) sz)) 0 0 (va_A (m_W qm pb pr pv pw ps pc cI u) sz) := by
  refine Met.ofW (cc := cX1_look) (maxL := 3) (ret := none) (by decide) rfl ?_
  intro p e s m args below meth c s₁ B hml hv
  obtain ⟨rfl, hsz, hP, hK, hD0⟩ := hv
  have hx := B.exec
  have hb := B.bytes
  have hr := B.returns
  have hts := atoms_spec (ws := vX1_look) B.pre
  have hown : s.vm.findClass RX1 = some m.cls := findClass_of_methodNamed B.named
  have hlocks := B.notSynchronized
  have hinT : ∀ w ∈ wsX10, w ∈ vX1_look := fun w h => List.mem_cons_of_mem _ (inM w h)
  subst hsz
  have hD := hD0.self (sz := s.heap.size)
  generalize hAe : va_A (m_W qm pb pr pv pw ps pc cI u) s.heap.size = A at hD ⊢
  have hA : ∀ q : Nat, s.heap.size ≤ q → A q := fun q h => by rw [← hAe]; exact Or.inr h
  have hS : va_S A s.heap s.heap [] := va_S.rf
  have hD : va_D A [(qm, .inr (1, [.int (m_th u), .int (m_st u), .int (m_md u), .ref pb, .int (nI (m_mn u)), .ref pr, .int (nI (m_rw u)), .ref pv, .int (nI (m_sz u)), .ref pw, .int (nI (m_wn u)), .ref ps, .int (nI (m_sn u)), .ref pc])), (pb, .inl (cI, 64, .inl (m_bi u))), (pr, .inl (cI, 259, .inl (m_ro u))), (pv, .inl (cI, 259, .inl (m_rc u))), (pw, .inl (cI, 259, .inl (m_wt u))), (ps, .inl (cI, 306, .inl (m_se u))), (pc, .inl (cI, 5, .inl (m_cn u)))] := hD
  have hP : va_P (dC, dI) vwCl [(qm, .inr (1, [.int (m_th u), .int (m_st u), .int (m_md u), .ref pb, .int (nI (m_mn u)), .ref pr, .int (nI (m_rw u)), .ref pv, .int (nI (m_sz u)), .ref pw, .int (nI (m_wn u)), .ref ps, .int (nI (m_sn u)), .ref pc])), (pb, .inl (cI, 64, .inl (m_bi u))), (pr, .inl (cI, 259, .inl (m_ro u))), (pv, .inl (cI, 259, .inl (m_rc u))), (pw, .inl (cI, 259, .inl (m_wt u))), (ps, .inl (cI, 306, .inl (m_se u))), (pc, .inl (cI, 5, .inl (m_cn u)))] s.heap := hP
  have hl := lv_entry ([.ref qm]) (n := 3) (Nat.le_of_ble_eq_true rfl)
  rw [lg_entry_eq]
  generalize (lg_sl ([.ref qm]) ++ List.replicate (3 - (lg_sl ([.ref qm])).length) Slot.unset).toArray = ls at hl ⊢
  have hl : lv_has ls 3 [(0, .ref qm)] := hl
  refine lv_iconst (v := 0) hx hb dX1_look_0 (by decide) ?_
  refine lv_istore_n (lv' := [(1, .int 0), (0, .ref qm)]) hx hb dX1_look_1 rfl hl (by decide) rfl (fun ls hl => ?_)
  refine lv_iconst (v := 0) hx hb dX1_look_2 (by decide) ?_
  refine lv_istore_n (lv' := [(2, .int 0), (1, .int 0), (0, .ref qm)]) hx hb dX1_look_3 rfl hl (by decide) rfl (fun ls hl => ?_)
  refine lpX1_look (l := l) dC dI qm pb pr pv pw ps pc cI  hx hb hml hown hts u hP hK 16 0 0 ls rfl (lv_sub hl [2, 1, 0] rfl) (fun ls hl => ?_)
  refine lv_iload_n hx hb dX1_look_42 rfl (lv_at hl 1 rfl) ?_
  refine lv_if_eq (tgt := 58) hx hb dX1_look_43 (by decide) (fun c_1 => ?_) (fun c_1 => ?_)
  · refine lv_aload_n hx hb dX1_look_58 rfl (lv_at hl 0 rfl) ?_
    refine va_get (D := (dC, dI)) (ci := 1) (v := .ref pc) (C := RX1) (T := TX1) (N := 14) hx hb hts hinT hown hK hP 0 rfl rfl 13 (by decide) (hts _ (List.mem_cons_of_mem _ fl_25)) (fun _ h9 => h9) rfl dX1_look_59 ?_
    refine lv_iconst (v := 0) hx hb dX1_look_62 (by decide) ?_
    refine lv_dup2_11 hx hb dX1_look_63 rfl rfl ?_
    refine va_iald hx hb hK hP 6 0 rfl rfl (j_in (k := 0) rfl (by decide)) dX1_look_64 ?_
    refine W.eq (g2 := F0 m 65 ls [.int ((m_cn u) 0), .int 0, .ref pc]) rfl ?_
    refine lv_iconst (v := 1) hx hb dX1_look_65 (by decide) ?_
    refine lv_iadd hx hb dX1_look_66 ?_
    refine va_iast hx hb hK hP hD hS 6 0 rfl rfl (j_in (k := 0) rfl (by decide)) dX1_look_67 (fun H locs hP hD hS => ?_)
    rw [show (0 : Int32).toNatClampNeg = 0 from (by decide)] at hP hD
    have hP : va_P (dC, dI) vwCl [(qm, .inr (1, [.int (m_th u), .int (m_st u), .int (m_md u), .ref pb, .int (nI (m_mn u)), .ref pr, .int (nI (m_rw u)), .ref pv, .int (nI (m_sz u)), .ref pw, .int (nI (m_wn u)), .ref ps, .int (nI (m_sn u)), .ref pc])), (pb, .inl (cI, 64, .inl (m_bi u))), (pr, .inl (cI, 259, .inl (m_ro u))), (pv, .inl (cI, 259, .inl (m_rc u))), (pw, .inl (cI, 259, .inl (m_wt u))), (ps, .inl (cI, 306, .inl (m_se u))), (pc, .inl (cI, 5, .inl (upd (m_cn u) 0 (((m_cn u) 0) + 1))))] H := hP
    have hD : va_D A [(qm, .inr (1, [.int (m_th u), .int (m_st u), .int (m_md u), .ref pb, .int (nI (m_mn u)), .ref pr, .int (nI (m_rw u)), .ref pv, .int (nI (m_sz u)), .ref pw, .int (nI (m_wn u)), .ref ps, .int (nI (m_sn u)), .ref pc])), (pb, .inl (cI, 64, .inl (m_bi u))), (pr, .inl (cI, 259, .inl (m_ro u))), (pv, .inl (cI, 259, .inl (m_rc u))), (pw, .inl (cI, 259, .inl (m_wt u))), (ps, .inl (cI, 306, .inl (m_se u))), (pc, .inl (cI, 5, .inl (upd (m_cn u) 0 (((m_cn u) 0) + 1))))] := hD
    refine lv_aload_n hx hb dX1_look_68 rfl (lv_at hl 0 rfl) ?_
    refine va_get (D := (dC, dI)) (ci := 1) (v := .ref pc) (C := RX1) (T := TX1) (N := 14) hx hb hts hinT hown hK hP 0 rfl rfl 13 (by decide) (hts _ (List.mem_cons_of_mem _ fl_25)) (fun _ h9 => h9) rfl dX1_look_69 ?_
    refine lv_iconst (v := 4) hx hb dX1_look_72 (by decide) ?_
    refine lv_dup2_11 hx hb dX1_look_73 rfl rfl ?_
    refine va_iald hx hb hK hP 6 0 rfl rfl (j_in (k := 4) rfl (by decide)) dX1_look_74 ?_
    refine W.eq (g2 := F0 m 75 ls [.int ((upd (m_cn u) 0 (((m_cn u) 0) + 1)) 4), .int 4, .ref pc]) rfl ?_
    refine lv_iload_n hx hb dX1_look_75 rfl (lv_at hl 1 rfl) ?_
    refine lv_iadd hx hb dX1_look_76 ?_
    refine va_iast hx hb hK hP hD hS 6 0 rfl rfl (j_in (k := 4) rfl (by decide)) dX1_look_77 (fun H locs hP hD hS => ?_)
    rw [show (4 : Int32).toNatClampNeg = 4 from (by decide)] at hP hD
    have hP : va_P (dC, dI) vwCl [(qm, .inr (1, [.int (m_th u), .int (m_st u), .int (m_md u), .ref pb, .int (nI (m_mn u)), .ref pr, .int (nI (m_rw u)), .ref pv, .int (nI (m_sz u)), .ref pw, .int (nI (m_wn u)), .ref ps, .int (nI (m_sn u)), .ref pc])), (pb, .inl (cI, 64, .inl (m_bi u))), (pr, .inl (cI, 259, .inl (m_ro u))), (pv, .inl (cI, 259, .inl (m_rc u))), (pw, .inl (cI, 259, .inl (m_wt u))), (ps, .inl (cI, 306, .inl (m_se u))), (pc, .inl (cI, 5, .inl (upd (upd (m_cn u) 0 (((m_cn u) 0) + 1)) 4 (((upd (m_cn u) 0 (((m_cn u) 0) + 1)) 4) + (m_lkF u 16 0 0)))))] H := hP
    have hD : va_D A [(qm, .inr (1, [.int (m_th u), .int (m_st u), .int (m_md u), .ref pb, .int (nI (m_mn u)), .ref pr, .int (nI (m_rw u)), .ref pv, .int (nI (m_sz u)), .ref pw, .int (nI (m_wn u)), .ref ps, .int (nI (m_sn u)), .ref pc])), (pb, .inl (cI, 64, .inl (m_bi u))), (pr, .inl (cI, 259, .inl (m_ro u))), (pv, .inl (cI, 259, .inl (m_rc u))), (pw, .inl (cI, 259, .inl (m_wt u))), (ps, .inl (cI, 306, .inl (m_se u))), (pc, .inl (cI, 5, .inl (upd (upd (m_cn u) 0 (((m_cn u) 0) + 1)) 4 (((upd (m_cn u) 0 (((m_cn u) 0) + 1)) 4) + (m_lkF u 16 0 0)))))] := hD
    refine lv_aload_n hx hb dX1_look_78 rfl (lv_at hl 0 rfl) ?_
    refine lv_iconst (v := 0) hx hb dX1_look_79 (by decide) ?_
    refine va_put (D := (dC, dI)) (ci := 1) (v := .int 0) (ty := .int) (C := RX1) (T := TX1) (N := 14) hx hb hts hinT tyX1 tyX1_ok nmX1 hown hK hP hD hS 0 rfl rfl 6 (by decide) (hts _ (List.mem_cons_of_mem _ fl_46)) (fun _ h9 => h9) rfl (by decide +kernel) rfl rfl (Nat.le_of_ble_eq_true rfl) dX1_look_80 (fun H locs hP hD hS => ?_)
    have hP : va_P (dC, dI) vwCl [(qm, .inr (1, [.int (m_th u), .int (m_st u), .int (m_md u), .ref pb, .int (nI (m_mn u)), .ref pr, .int 0, .ref pv, .int (nI (m_sz u)), .ref pw, .int (nI (m_wn u)), .ref ps, .int (nI (m_sn u)), .ref pc])), (pb, .inl (cI, 64, .inl (m_bi u))), (pr, .inl (cI, 259, .inl (m_ro u))), (pv, .inl (cI, 259, .inl (m_rc u))), (pw, .inl (cI, 259, .inl (m_wt u))), (ps, .inl (cI, 306, .inl (m_se u))), (pc, .inl (cI, 5, .inl (upd (upd (m_cn u) 0 (((m_cn u) 0) + 1)) 4 (((upd (m_cn u) 0 (((m_cn u) 0) + 1)) 4) + (m_lkF u 16 0 0)))))] H := hP
    have hD : va_D A [(qm, .inr (1, [.int (m_th u), .int (m_st u), .int (m_md u), .ref pb, .int (nI (m_mn u)), .ref pr, .int 0, .ref pv, .int (nI (m_sz u)), .ref pw, .int (nI (m_wn u)), .ref ps, .int (nI (m_sn u)), .ref pc])), (pb, .inl (cI, 64, .inl (m_bi u))), (pr, .inl (cI, 259, .inl (m_ro u))), (pv, .inl (cI, 259, .inl (m_rc u))), (pw, .inl (cI, 259, .inl (m_wt u))), (ps, .inl (cI, 306, .inl (m_se u))), (pc, .inl (cI, 5, .inl (upd (upd (m_cn u) 0 (((m_cn u) 0) + 1)) 4 (((upd (m_cn u) 0 (((m_cn u) 0) + 1)) 4) + (m_lkF u 16 0 0)))))] := hD
    refine lv_aload_n hx hb dX1_look_83 rfl (lv_at hl 0 rfl) ?_
    refine lv_iconst (v := 2) hx hb dX1_look_84 (by decide) ?_
    have hPc : va_P (dC, dI) vwCl (m_W qm pb pr pv pw ps pc cI (m_th u, m_st u, m_md u, m_mn u, 0, m_sz u, m_wn u, m_sn u, m_bi u, m_ro u, m_rc u, m_wt u, m_se u, upd (upd (m_cn u) 0 (((m_cn u) 0) + 1)) 4 (((upd (m_cn u) 0 (((m_cn u) 0) + 1)) 4) + (m_lkF u 16 0 0)))) H := hP
    have hDc : va_D A (m_W qm pb pr pv pw ps pc cI (m_th u, m_st u, m_md u, m_mn u, 0, m_sz u, m_wn u, m_sn u, m_bi u, m_ro u, m_rc u, m_wt u, m_se u, upd (upd (m_cn u) 0 (((m_cn u) 0) + 1)) 4 (((upd (m_cn u) 0 (((m_cn u) 0) + 1)) 4) + (m_lkF u 16 0 0)))) := hD
    have hFc := va_free (wc := (m_W qm pb pr pv pw ps pc cI (m_th u, m_st u, m_md u, m_mn u, 0, m_sz u, m_wn u, m_sn u, m_bi u, m_ro u, m_rc u, m_wt u, m_se u, upd (upd (m_cn u) 0 (((m_cn u) 0) + 1)) 4 (((upd (m_cn u) 0 (((m_cn u) 0) + 1)) 4) + (m_lkF u 16 0 0))))) hD hS hA [0, 1, 2, 3, 4, 5, 6] rfl
    refine va_callv (va_runV (As := [.int 2]) (rest := []) ⟨hx, hb, hml, hown, hts⟩ (kX1_begins l dC dI qm pb pr pv pw ps pc cI H.size (m_th u, m_st u, m_md u, m_mn u, 0, m_sz u, m_wn u, m_sn u, m_bi u, m_ro u, m_rc u, m_wt u, m_se u, upd (upd (m_cn u) 0 (((m_cn u) 0) + 1)) 4 (((upd (m_cn u) 0 (((m_cn u) 0) + 1)) 4) + (m_lkF u 16 0 0))) 2 ) (cwV 1 hts gM_X1_begins rfl rfl rfl (by decide +kernel) ⟨Nat.le_of_ble_eq_true rfl, Nat.le_of_ble_eq_true rfl⟩) ⟨fun a U g mk q => by obtain ⟨q0, q1, qP, qK, qD⟩ := q; exact ⟨q0, q1, qP, va_K.moved (u := U) (U := U.calling g mk a) (Vm.Alike.refl U.vm) qK, qD⟩, va_recv hK hP (ci := 1) (q0 := 0) rfl rfl, fun U hU hW => ⟨rfl, by rw [hU], by rw [hU]; exact hPc, va_K.moved hW.alike hK, hDc.weaken (fun _ _ _ _ => trivial)⟩⟩ rfl rfl hl.1 rfl (lv_room (Nat.le_of_ble_eq_true rfl)) dX1_look_85 ⟨Nat.le_of_ble_eq_true rfl, Nat.le_of_ble_eq_true rfl⟩) hS (fun q _ h => hFc q h) hFc (fun  u_2 t H1 locs ht hvm hu_2 hB hz1 hk1 hS => ?_)
    obtain ⟨hP1, -, hD1⟩ := hB
    rw [ht] at hP1
    have hP : va_P (dC, dI) vwCl [(qm, .inr (1, [.int (m_th u_2), .int (m_st u_2), .int (m_md u_2), .ref pb, .int (nI (m_mn u_2)), .ref pr, .int (nI (m_rw u_2)), .ref pv, .int (nI (m_sz u_2)), .ref pw, .int (nI (m_wn u_2)), .ref ps, .int (nI (m_sn u_2)), .ref pc])), (pb, .inl (cI, 64, .inl (m_bi u_2))), (pr, .inl (cI, 259, .inl (m_ro u_2))), (pv, .inl (cI, 259, .inl (m_rc u_2))), (pw, .inl (cI, 259, .inl (m_wt u_2))), (ps, .inl (cI, 306, .inl (m_se u_2))), (pc, .inl (cI, 5, .inl (m_cn u_2)))] H1 := hP1
    have hD : va_D A [(qm, .inr (1, [.int (m_th u_2), .int (m_st u_2), .int (m_md u_2), .ref pb, .int (nI (m_mn u_2)), .ref pr, .int (nI (m_rw u_2)), .ref pv, .int (nI (m_sz u_2)), .ref pw, .int (nI (m_wn u_2)), .ref ps, .int (nI (m_sn u_2)), .ref pc])), (pb, .inl (cI, 64, .inl (m_bi u_2))), (pr, .inl (cI, 259, .inl (m_ro u_2))), (pv, .inl (cI, 259, .inl (m_rc u_2))), (pw, .inl (cI, 259, .inl (m_wt u_2))), (ps, .inl (cI, 306, .inl (m_se u_2))), (pc, .inl (cI, 5, .inl (m_cn u_2)))] := hD1.weaken (fun k q _ h => hFc q.1 h)
    generalize H1 = H at hP hS ⊢
    have hP9 : va_P (dC, dI) vwCl (m_W qm pb pr pv pw ps pc cI u_2) H := hP
    have hD9 : va_D A (m_W qm pb pr pv pw ps pc cI u_2) := hD
    exact W.vret hx hb hr (fun t ht hW => ⟨⟨u_2, rfl, (by subst hu_2; unfold m_look; rw [if_pos c_1]), by rw [ht]; exact hP9, va_K.moved hW.alike hK, hD9⟩, hS.F ht⟩) hS.2.2 dX1_look_88
  · refine lv_iload_n hx hb dX1_look_46 rfl (lv_at hl 1 rfl) ?_
    refine lv_iconst (v := 1) hx hb dX1_look_47 (by decide) ?_
    refine lv_icmp_ne (tgt := 88) hx hb dX1_look_48 (by decide) (fun c_3 => ?_) (fun c_3 => ?_)
    · have hP9 : va_P (dC, dI) vwCl (m_W qm pb pr pv pw ps pc cI u) s.heap := hP
      have hD9 : va_D A (m_W qm pb pr pv pw ps pc cI u) := hD
      exact W.vret hx hb hr (fun t ht hW => ⟨⟨u, rfl, (by unfold m_look; rw [if_neg c_1, if_neg c_3]), by rw [ht]; exact hP9, va_K.moved hW.alike hK, hD9⟩, hS.F ht⟩) hS.2.2 dX1_look_88
    · refine lv_aload_n hx hb dX1_look_51 rfl (lv_at hl 0 rfl) ?_
      refine va_get (D := (dC, dI)) (ci := 1) (v := .int (m_md u)) (C := RX1) (T := TX1) (N := 14) hx hb hts hinT hown hK hP 0 rfl rfl 2 (by decide) (hts _ (List.mem_cons_of_mem _ fl_36)) (fun _ h9 => h9) rfl dX1_look_52 ?_
      refine lv_if_eq (tgt := 88) hx hb dX1_look_55 (by decide) (fun c_4 => ?_) (fun c_4 => ?_)
      · have hP9 : va_P (dC, dI) vwCl (m_W qm pb pr pv pw ps pc cI u) s.heap := hP
        have hD9 : va_D A (m_W qm pb pr pv pw ps pc cI u) := hD
        exact W.vret hx hb hr (fun t ht hW => ⟨⟨u, rfl, (by unfold m_look; rw [if_neg c_1, if_pos c_3, if_pos c_4]), by rw [ht]; exact hP9, va_K.moved hW.alike hK, hD9⟩, hS.F ht⟩) hS.2.2 dX1_look_88
      · refine lv_aload_n hx hb dX1_look_58 rfl (lv_at hl 0 rfl) ?_
        refine va_get (D := (dC, dI)) (ci := 1) (v := .ref pc) (C := RX1) (T := TX1) (N := 14) hx hb hts hinT hown hK hP 0 rfl rfl 13 (by decide) (hts _ (List.mem_cons_of_mem _ fl_25)) (fun _ h9 => h9) rfl dX1_look_59 ?_
        refine lv_iconst (v := 0) hx hb dX1_look_62 (by decide) ?_
        refine lv_dup2_11 hx hb dX1_look_63 rfl rfl ?_
        refine va_iald hx hb hK hP 6 0 rfl rfl (j_in (k := 0) rfl (by decide)) dX1_look_64 ?_
        refine W.eq (g2 := F0 m 65 ls [.int ((m_cn u) 0), .int 0, .ref pc]) rfl ?_
        refine lv_iconst (v := 1) hx hb dX1_look_65 (by decide) ?_
        refine lv_iadd hx hb dX1_look_66 ?_
        refine va_iast hx hb hK hP hD hS 6 0 rfl rfl (j_in (k := 0) rfl (by decide)) dX1_look_67 (fun H locs hP hD hS => ?_)
        rw [show (0 : Int32).toNatClampNeg = 0 from (by decide)] at hP hD
        have hP : va_P (dC, dI) vwCl [(qm, .inr (1, [.int (m_th u), .int (m_st u), .int (m_md u), .ref pb, .int (nI (m_mn u)), .ref pr, .int (nI (m_rw u)), .ref pv, .int (nI (m_sz u)), .ref pw, .int (nI (m_wn u)), .ref ps, .int (nI (m_sn u)), .ref pc])), (pb, .inl (cI, 64, .inl (m_bi u))), (pr, .inl (cI, 259, .inl (m_ro u))), (pv, .inl (cI, 259, .inl (m_rc u))), (pw, .inl (cI, 259, .inl (m_wt u))), (ps, .inl (cI, 306, .inl (m_se u))), (pc, .inl (cI, 5, .inl (upd (m_cn u) 0 (((m_cn u) 0) + 1))))] H := hP
        have hD : va_D A [(qm, .inr (1, [.int (m_th u), .int (m_st u), .int (m_md u), .ref pb, .int (nI (m_mn u)), .ref pr, .int (nI (m_rw u)), .ref pv, .int (nI (m_sz u)), .ref pw, .int (nI (m_wn u)), .ref ps, .int (nI (m_sn u)), .ref pc])), (pb, .inl (cI, 64, .inl (m_bi u))), (pr, .inl (cI, 259, .inl (m_ro u))), (pv, .inl (cI, 259, .inl (m_rc u))), (pw, .inl (cI, 259, .inl (m_wt u))), (ps, .inl (cI, 306, .inl (m_se u))), (pc, .inl (cI, 5, .inl (upd (m_cn u) 0 (((m_cn u) 0) + 1))))] := hD
        refine lv_aload_n hx hb dX1_look_68 rfl (lv_at hl 0 rfl) ?_
        refine va_get (D := (dC, dI)) (ci := 1) (v := .ref pc) (C := RX1) (T := TX1) (N := 14) hx hb hts hinT hown hK hP 0 rfl rfl 13 (by decide) (hts _ (List.mem_cons_of_mem _ fl_25)) (fun _ h9 => h9) rfl dX1_look_69 ?_
        refine lv_iconst (v := 4) hx hb dX1_look_72 (by decide) ?_
        refine lv_dup2_11 hx hb dX1_look_73 rfl rfl ?_
        refine va_iald hx hb hK hP 6 0 rfl rfl (j_in (k := 4) rfl (by decide)) dX1_look_74 ?_
        refine W.eq (g2 := F0 m 75 ls [.int ((upd (m_cn u) 0 (((m_cn u) 0) + 1)) 4), .int 4, .ref pc]) rfl ?_
        refine lv_iload_n hx hb dX1_look_75 rfl (lv_at hl 1 rfl) ?_
        refine lv_iadd hx hb dX1_look_76 ?_
        refine va_iast hx hb hK hP hD hS 6 0 rfl rfl (j_in (k := 4) rfl (by decide)) dX1_look_77 (fun H locs hP hD hS => ?_)
        rw [show (4 : Int32).toNatClampNeg = 4 from (by decide)] at hP hD
        have hP : va_P (dC, dI) vwCl [(qm, .inr (1, [.int (m_th u), .int (m_st u), .int (m_md u), .ref pb, .int (nI (m_mn u)), .ref pr, .int (nI (m_rw u)), .ref pv, .int (nI (m_sz u)), .ref pw, .int (nI (m_wn u)), .ref ps, .int (nI (m_sn u)), .ref pc])), (pb, .inl (cI, 64, .inl (m_bi u))), (pr, .inl (cI, 259, .inl (m_ro u))), (pv, .inl (cI, 259, .inl (m_rc u))), (pw, .inl (cI, 259, .inl (m_wt u))), (ps, .inl (cI, 306, .inl (m_se u))), (pc, .inl (cI, 5, .inl (upd (upd (m_cn u) 0 (((m_cn u) 0) + 1)) 4 (((upd (m_cn u) 0 (((m_cn u) 0) + 1)) 4) + (m_lkF u 16 0 0)))))] H := hP
        have hD : va_D A [(qm, .inr (1, [.int (m_th u), .int (m_st u), .int (m_md u), .ref pb, .int (nI (m_mn u)), .ref pr, .int (nI (m_rw u)), .ref pv, .int (nI (m_sz u)), .ref pw, .int (nI (m_wn u)), .ref ps, .int (nI (m_sn u)), .ref pc])), (pb, .inl (cI, 64, .inl (m_bi u))), (pr, .inl (cI, 259, .inl (m_ro u))), (pv, .inl (cI, 259, .inl (m_rc u))), (pw, .inl (cI, 259, .inl (m_wt u))), (ps, .inl (cI, 306, .inl (m_se u))), (pc, .inl (cI, 5, .inl (upd (upd (m_cn u) 0 (((m_cn u) 0) + 1)) 4 (((upd (m_cn u) 0 (((m_cn u) 0) + 1)) 4) + (m_lkF u 16 0 0)))))] := hD
        refine lv_aload_n hx hb dX1_look_78 rfl (lv_at hl 0 rfl) ?_
        refine lv_iconst (v := 0) hx hb dX1_look_79 (by decide) ?_
        refine va_put (D := (dC, dI)) (ci := 1) (v := .int 0) (ty := .int) (C := RX1) (T := TX1) (N := 14) hx hb hts hinT tyX1 tyX1_ok nmX1 hown hK hP hD hS 0 rfl rfl 6 (by decide) (hts _ (List.mem_cons_of_mem _ fl_46)) (fun _ h9 => h9) rfl (by decide +kernel) rfl rfl (Nat.le_of_ble_eq_true rfl) dX1_look_80 (fun H locs hP hD hS => ?_)
        have hP : va_P (dC, dI) vwCl [(qm, .inr (1, [.int (m_th u), .int (m_st u), .int (m_md u), .ref pb, .int (nI (m_mn u)), .ref pr, .int 0, .ref pv, .int (nI (m_sz u)), .ref pw, .int (nI (m_wn u)), .ref ps, .int (nI (m_sn u)), .ref pc])), (pb, .inl (cI, 64, .inl (m_bi u))), (pr, .inl (cI, 259, .inl (m_ro u))), (pv, .inl (cI, 259, .inl (m_rc u))), (pw, .inl (cI, 259, .inl (m_wt u))), (ps, .inl (cI, 306, .inl (m_se u))), (pc, .inl (cI, 5, .inl (upd (upd (m_cn u) 0 (((m_cn u) 0) + 1)) 4 (((upd (m_cn u) 0 (((m_cn u) 0) + 1)) 4) + (m_lkF u 16 0 0)))))] H := hP
        have hD : va_D A [(qm, .inr (1, [.int (m_th u), .int (m_st u), .int (m_md u), .ref pb, .int (nI (m_mn u)), .ref pr, .int 0, .ref pv, .int (nI (m_sz u)), .ref pw, .int (nI (m_wn u)), .ref ps, .int (nI (m_sn u)), .ref pc])), (pb, .inl (cI, 64, .inl (m_bi u))), (pr, .inl (cI, 259, .inl (m_ro u))), (pv, .inl (cI, 259, .inl (m_rc u))), (pw, .inl (cI, 259, .inl (m_wt u))), (ps, .inl (cI, 306, .inl (m_se u))), (pc, .inl (cI, 5, .inl (upd (upd (m_cn u) 0 (((m_cn u) 0) + 1)) 4 (((upd (m_cn u) 0 (((m_cn u) 0) + 1)) 4) + (m_lkF u 16 0 0)))))] := hD
        refine lv_aload_n hx hb dX1_look_83 rfl (lv_at hl 0 rfl) ?_
        refine lv_iconst (v := 2) hx hb dX1_look_84 (by decide) ?_
        have hPc : va_P (dC, dI) vwCl (m_W qm pb pr pv pw ps pc cI (m_th u, m_st u, m_md u, m_mn u, 0, m_sz u, m_wn u, m_sn u, m_bi u, m_ro u, m_rc u, m_wt u, m_se u, upd (upd (m_cn u) 0 (((m_cn u) 0) + 1)) 4 (((upd (m_cn u) 0 (((m_cn u) 0) + 1)) 4) + (m_lkF u 16 0 0)))) H := hP
        have hDc : va_D A (m_W qm pb pr pv pw ps pc cI (m_th u, m_st u, m_md u, m_mn u, 0, m_sz u, m_wn u, m_sn u, m_bi u, m_ro u, m_rc u, m_wt u, m_se u, upd (upd (m_cn u) 0 (((m_cn u) 0) + 1)) 4 (((upd (m_cn u) 0 (((m_cn u) 0) + 1)) 4) + (m_lkF u 16 0 0)))) := hD
        have hFc := va_free (wc := (m_W qm pb pr pv pw ps pc cI (m_th u, m_st u, m_md u, m_mn u, 0, m_sz u, m_wn u, m_sn u, m_bi u, m_ro u, m_rc u, m_wt u, m_se u, upd (upd (m_cn u) 0 (((m_cn u) 0) + 1)) 4 (((upd (m_cn u) 0 (((m_cn u) 0) + 1)) 4) + (m_lkF u 16 0 0))))) hD hS hA [0, 1, 2, 3, 4, 5, 6] rfl
        refine va_callv (va_runV (As := [.int 2]) (rest := []) ⟨hx, hb, hml, hown, hts⟩ (kX1_begins l dC dI qm pb pr pv pw ps pc cI H.size (m_th u, m_st u, m_md u, m_mn u, 0, m_sz u, m_wn u, m_sn u, m_bi u, m_ro u, m_rc u, m_wt u, m_se u, upd (upd (m_cn u) 0 (((m_cn u) 0) + 1)) 4 (((upd (m_cn u) 0 (((m_cn u) 0) + 1)) 4) + (m_lkF u 16 0 0))) 2 ) (cwV 1 hts gM_X1_begins rfl rfl rfl (by decide +kernel) ⟨Nat.le_of_ble_eq_true rfl, Nat.le_of_ble_eq_true rfl⟩) ⟨fun a U g mk q => by obtain ⟨q0, q1, qP, qK, qD⟩ := q; exact ⟨q0, q1, qP, va_K.moved (u := U) (U := U.calling g mk a) (Vm.Alike.refl U.vm) qK, qD⟩, va_recv hK hP (ci := 1) (q0 := 0) rfl rfl, fun U hU hW => ⟨rfl, by rw [hU], by rw [hU]; exact hPc, va_K.moved hW.alike hK, hDc.weaken (fun _ _ _ _ => trivial)⟩⟩ rfl rfl hl.1 rfl (lv_room (Nat.le_of_ble_eq_true rfl)) dX1_look_85 ⟨Nat.le_of_ble_eq_true rfl, Nat.le_of_ble_eq_true rfl⟩) hS (fun q _ h => hFc q h) hFc (fun  u_5 t H1 locs ht hvm hu_5 hB hz1 hk1 hS => ?_)
        obtain ⟨hP1, -, hD1⟩ := hB
        rw [ht] at hP1
        have hP : va_P (dC, dI) vwCl [(qm, .inr (1, [.int (m_th u_5), .int (m_st u_5), .int (m_md u_5), .ref pb, .int (nI (m_mn u_5)), .ref pr, .int (nI (m_rw u_5)), .ref pv, .int (nI (m_sz u_5)), .ref pw, .int (nI (m_wn u_5)), .ref ps, .int (nI (m_sn u_5)), .ref pc])), (pb, .inl (cI, 64, .inl (m_bi u_5))), (pr, .inl (cI, 259, .inl (m_ro u_5))), (pv, .inl (cI, 259, .inl (m_rc u_5))), (pw, .inl (cI, 259, .inl (m_wt u_5))), (ps, .inl (cI, 306, .inl (m_se u_5))), (pc, .inl (cI, 5, .inl (m_cn u_5)))] H1 := hP1
        have hD : va_D A [(qm, .inr (1, [.int (m_th u_5), .int (m_st u_5), .int (m_md u_5), .ref pb, .int (nI (m_mn u_5)), .ref pr, .int (nI (m_rw u_5)), .ref pv, .int (nI (m_sz u_5)), .ref pw, .int (nI (m_wn u_5)), .ref ps, .int (nI (m_sn u_5)), .ref pc])), (pb, .inl (cI, 64, .inl (m_bi u_5))), (pr, .inl (cI, 259, .inl (m_ro u_5))), (pv, .inl (cI, 259, .inl (m_rc u_5))), (pw, .inl (cI, 259, .inl (m_wt u_5))), (ps, .inl (cI, 306, .inl (m_se u_5))), (pc, .inl (cI, 5, .inl (m_cn u_5)))] := hD1.weaken (fun k q _ h => hFc q.1 h)
        generalize H1 = H at hP hS ⊢
        have hP9 : va_P (dC, dI) vwCl (m_W qm pb pr pv pw ps pc cI u_5) H := hP
        have hD9 : va_D A (m_W qm pb pr pv pw ps pc cI u_5) := hD
        exact W.vret hx hb hr (fun t ht hW => ⟨⟨u_5, rfl, (by subst hu_5; unfold m_look; rw [if_neg c_1, if_pos c_3, if_neg c_4]), by rw [ht]; exact hP9, va_K.moved hW.alike hK, hD9⟩, hS.F ht⟩) hS.2.2 dX1_look_88

abbrev rmX1_bit : Room := { frames := 3, cells := 0, slots := 0, locals := 70 }
def m_shF : Nat → Nat → m_S → m_S
  | 0, _, u => u
  | n + 1, k, u => m_shF n (k + 1) (m_th u, m_st u, m_md u, m_mn u, m_rw u, m_sz u, m_wn u, m_sn u, upd (m_bi u) k ((m_bi u) (k + 1)), m_ro u, m_rc u, m_wt u, m_se u, m_cn u)
set_option maxHeartbeats 4000000 in
set_option maxRecDepth 100000 in
theorem lpX1_bit {p : Program} {l : Launch} {e : Env} {s : State} {m : MethodId} {args : Array Value} {below : List Frame} {meth : Method} {c : Code} {Q : State → Prop} (dC : Nat → ClassId) (dI : Nat → Nat → Nat) (qm pb pr pv pw ps pc : Nat) (cI : ClassId) (a0 : Int32) (hx : p.tables.exec = Jvm.exec) (hb : c.code = cX1_bit) (hml : c.maxLocals = 3) (hown : s.vm.findClass RX1 = some m.cls) (hts : ∀ w ∈ vX1_bit, w.before args s = true) (A : Nat → Prop) (hA : ∀ q : Nat, s.heap.size ≤ q → A q) (hK : va_K (dC, dI) vwCl [(cI, .int)] s) : ∀ (n : Nat) (u : m_S) (k : Nat) (H : Heap) (locs : List Loc) (ls : Array Slot), k + n = 15 → va_P (dC, dI) vwCl (m_W qm pb pr pv pw ps pc cI u) H → va_D A (m_W qm pb pr pv pw ps pc cI u) → va_S A s.heap H locs → lv_has ls 3 [(0, .ref qm), (1, .int a0), (2, .int (nI k))] → (∀ (H : Heap) (locs : List Loc) (ls : Array Slot), va_P (dC, dI) vwCl (m_W qm pb pr pv pw ps pc cI (m_shF n k u)) H → va_D A (m_W qm pb pr pv pw ps pc cI (m_shF n k u)) → va_S A s.heap H locs → lv_has ls 3 [(0, .ref qm), (1, .int a0)] → W p l e (headSpec vX1_bit rmX1_bit).room s m args below meth c H locs 0 0 Q (F0 m 83 ls [])) → W p l e (headSpec vX1_bit rmX1_bit).room s m args below meth c H locs 0 0 Q (F0 m 57 ls []) := by
  have hinT : ∀ w ∈ wsX10, w ∈ vX1_bit := fun w h => List.mem_cons_of_mem _ (inM w h)
  intro n
  induction n with
  | zero =>
    intro u k H locs ls hn hP hD hS hl kk
    have hk : k = 15 := by omega
    subst hk
    have hP : va_P (dC, dI) vwCl [(qm, .inr (1, [.int (m_th u), .int (m_st u), .int (m_md u), .ref pb, .int (nI (m_mn u)), .ref pr, .int (nI (m_rw u)), .ref pv, .int (nI (m_sz u)), .ref pw, .int (nI (m_wn u)), .ref ps, .int (nI (m_sn u)), .ref pc])), (pb, .inl (cI, 64, .inl (m_bi u))), (pr, .inl (cI, 259, .inl (m_ro u))), (pv, .inl (cI, 259, .inl (m_rc u))), (pw, .inl (cI, 259, .inl (m_wt u))), (ps, .inl (cI, 306, .inl (m_se u))), (pc, .inl (cI, 5, .inl (m_cn u)))] H := hP
    have hD : va_D A [(qm, .inr (1, [.int (m_th u), .int (m_st u), .int (m_md u), .ref pb, .int (nI (m_mn u)), .ref pr, .int (nI (m_rw u)), .ref pv, .int (nI (m_sz u)), .ref pw, .int (nI (m_wn u)), .ref ps, .int (nI (m_sn u)), .ref pc])), (pb, .inl (cI, 64, .inl (m_bi u))), (pr, .inl (cI, 259, .inl (m_ro u))), (pv, .inl (cI, 259, .inl (m_rc u))), (pw, .inl (cI, 259, .inl (m_wt u))), (ps, .inl (cI, 306, .inl (m_se u))), (pc, .inl (cI, 5, .inl (m_cn u)))] := hD
    have hl : lv_has ls 3 [(0, .ref qm), (1, .int a0), (2, .int (nI 15))] := hl
    refine lv_iload_n hx hb dX1_bit_57 rfl (lv_at hl 2 rfl) ?_
    refine lv_bipush (v := 15) hx hb dX1_bit_58 (by decide) ?_
    refine lv_icmp_ge (tgt := 83) hx hb dX1_bit_60 (by decide) (fun c_1 => ?_) (fun c_1 => absurd (by decide) c_1)
    exact kk H locs ls hP hD hS (lv_sub hl [0, 1] rfl)
  | succ n ih =>
    intro u k H locs ls hn hP hD hS hl kk
    have hP : va_P (dC, dI) vwCl [(qm, .inr (1, [.int (m_th u), .int (m_st u), .int (m_md u), .ref pb, .int (nI (m_mn u)), .ref pr, .int (nI (m_rw u)), .ref pv, .int (nI (m_sz u)), .ref pw, .int (nI (m_wn u)), .ref ps, .int (nI (m_sn u)), .ref pc])), (pb, .inl (cI, 64, .inl (m_bi u))), (pr, .inl (cI, 259, .inl (m_ro u))), (pv, .inl (cI, 259, .inl (m_rc u))), (pw, .inl (cI, 259, .inl (m_wt u))), (ps, .inl (cI, 306, .inl (m_se u))), (pc, .inl (cI, 5, .inl (m_cn u)))] H := hP
    have hD : va_D A [(qm, .inr (1, [.int (m_th u), .int (m_st u), .int (m_md u), .ref pb, .int (nI (m_mn u)), .ref pr, .int (nI (m_rw u)), .ref pv, .int (nI (m_sz u)), .ref pw, .int (nI (m_wn u)), .ref ps, .int (nI (m_sn u)), .ref pc])), (pb, .inl (cI, 64, .inl (m_bi u))), (pr, .inl (cI, 259, .inl (m_ro u))), (pv, .inl (cI, 259, .inl (m_rc u))), (pw, .inl (cI, 259, .inl (m_wt u))), (ps, .inl (cI, 306, .inl (m_se u))), (pc, .inl (cI, 5, .inl (m_cn u)))] := hD
    have hl : lv_has ls 3 [(0, .ref qm), (1, .int a0), (2, .int (nI k))] := hl
    refine lv_iload_n hx hb dX1_bit_57 rfl (lv_at hl 2 rfl) ?_
    refine lv_bipush (v := 15) hx hb dX1_bit_58 (by decide) ?_
    refine lv_icmp_ge (tgt := 83) hx hb dX1_bit_60 (by decide) (fun c_1 => absurd c_1 (show ¬ nI 15 ≤ nI k from nI_ge (by omega) (by decide))) (fun c_1 => ?_)
    refine lv_aload_n hx hb dX1_bit_63 rfl (lv_at hl 0 rfl) ?_
    refine va_get (D := (dC, dI)) (ci := 1) (v := .ref pb) (C := RX1) (T := TX1) (N := 14) hx hb hts hinT hown hK hP 0 rfl rfl 3 (by decide) (hts _ (List.mem_cons_of_mem _ fl_7)) (fun _ h9 => h9) rfl dX1_bit_64 ?_
    refine lv_iload_n hx hb dX1_bit_67 rfl (lv_at hl 2 rfl) ?_
    refine lv_aload_n hx hb dX1_bit_68 rfl (lv_at hl 0 rfl) ?_
    refine va_get (D := (dC, dI)) (ci := 1) (v := .ref pb) (C := RX1) (T := TX1) (N := 14) hx hb hts hinT hown hK hP 0 rfl rfl 3 (by decide) (hts _ (List.mem_cons_of_mem _ fl_7)) (fun _ h9 => h9) rfl dX1_bit_69 ?_
    refine lv_iload_n hx hb dX1_bit_72 rfl (lv_at hl 2 rfl) ?_
    refine lv_iconst (v := 1) hx hb dX1_bit_73 (by decide) ?_
    refine lv_iadd hx hb dX1_bit_74 ?_
    refine W.eq (congrArg (fun z => F0 m 75 ls (.int z :: [.ref pb, .int (nI k), .ref pb])) (show (nI k) + 1 = nI (k + 1) from (nI_add _ _))) ?_
    refine va_iald hx hb hK hP 1 0 rfl rfl (vp_in_nI (by omega) (by decide)) dX1_bit_75 ?_
    refine W.eq (g2 := F0 m 76 ls [.int ((m_bi u) (k + 1)), .int (nI k), .ref pb]) (by rw [nI_clamp (by omega)]) ?_
    refine va_iast hx hb hK hP hD hS 1 0 rfl rfl (vp_in_nI (by omega) (by decide)) dX1_bit_76 (fun H locs hP hD hS => ?_)
    rw [show (nI k : Int32).toNatClampNeg = k from (nI_clamp (by omega))] at hP hD
    have hP : va_P (dC, dI) vwCl [(qm, .inr (1, [.int (m_th u), .int (m_st u), .int (m_md u), .ref pb, .int (nI (m_mn u)), .ref pr, .int (nI (m_rw u)), .ref pv, .int (nI (m_sz u)), .ref pw, .int (nI (m_wn u)), .ref ps, .int (nI (m_sn u)), .ref pc])), (pb, .inl (cI, 64, .inl (upd (m_bi u) k ((m_bi u) (k + 1))))), (pr, .inl (cI, 259, .inl (m_ro u))), (pv, .inl (cI, 259, .inl (m_rc u))), (pw, .inl (cI, 259, .inl (m_wt u))), (ps, .inl (cI, 306, .inl (m_se u))), (pc, .inl (cI, 5, .inl (m_cn u)))] H := hP
    have hD : va_D A [(qm, .inr (1, [.int (m_th u), .int (m_st u), .int (m_md u), .ref pb, .int (nI (m_mn u)), .ref pr, .int (nI (m_rw u)), .ref pv, .int (nI (m_sz u)), .ref pw, .int (nI (m_wn u)), .ref ps, .int (nI (m_sn u)), .ref pc])), (pb, .inl (cI, 64, .inl (upd (m_bi u) k ((m_bi u) (k + 1))))), (pr, .inl (cI, 259, .inl (m_ro u))), (pv, .inl (cI, 259, .inl (m_rc u))), (pw, .inl (cI, 259, .inl (m_wt u))), (ps, .inl (cI, 306, .inl (m_se u))), (pc, .inl (cI, 5, .inl (m_cn u)))] := hD
    refine lv_iinc (v := nI (k + 1)) (lv' := [(2, .int (nI (k + 1))), (0, .ref qm), (1, .int a0)]) hx hb dX1_bit_77 hl (k := 2) rfl (show nI k + nI 1 = nI (k + 1) from nI_add _ _) (by decide) rfl (fun ls hl => ?_)
    refine lv_goto (tgt := 57) hx hb dX1_bit_80 (by decide) ?_
    have eF : m_shF (n + 1) k u = m_shF n (k + 1) (m_th u, m_st u, m_md u, m_mn u, m_rw u, m_sz u, m_wn u, m_sn u, upd (m_bi u) k ((m_bi u) (k + 1)), m_ro u, m_rc u, m_wt u, m_se u, m_cn u) := by rw [m_shF]
    exact ih (m_th u, m_st u, m_md u, m_mn u, m_rw u, m_sz u, m_wn u, m_sn u, upd (m_bi u) k ((m_bi u) (k + 1)), m_ro u, m_rc u, m_wt u, m_se u, m_cn u) (k + 1) H locs ls (by omega) hP hD hS (lv_sub hl [1, 2, 0] rfl) (fun H locs ls hP hD hS hl => kk H locs ls (by rw [eF]; exact hP) (by rw [eF]; exact hD) hS (by exact hl))
def m_bit (u : m_S) (a0 : Int32) : m_S := if (m_st u) = 2 then (if (nI (m_mn u + 1)) = 64 then (m_block (m_th u, m_st u, m_md u, m_mn u + 1, m_rw u, m_sz u, m_wn u, m_sn u, upd (m_bi u) (m_mn u) a0, m_ro u, m_rc u, m_wt u, m_se u, m_cn u)) else (m_th u, m_st u, m_md u, m_mn u + 1, m_rw u, m_sz u, m_wn u, m_sn u, upd (m_bi u) (m_mn u) a0, m_ro u, m_rc u, m_wt u, m_se u, m_cn u)) else (if (nI (m_mn u)) = 16 then (m_look (m_th (m_shF 15 0 u), m_st (m_shF 15 0 u), m_md (m_shF 15 0 u), 16, m_rw (m_shF 15 0 u), m_sz (m_shF 15 0 u), m_wn (m_shF 15 0 u), m_sn (m_shF 15 0 u), upd (m_bi (m_shF 15 0 u)) 15 a0, m_ro (m_shF 15 0 u), m_rc (m_shF 15 0 u), m_wt (m_shF 15 0 u), m_se (m_shF 15 0 u), m_cn (m_shF 15 0 u))) else (if (nI (m_mn u + 1)) = 16 then (m_look (m_th u, m_st u, m_md u, m_mn u + 1, m_rw u, m_sz u, m_wn u, m_sn u, upd (m_bi u) (m_mn u) a0, m_ro u, m_rc u, m_wt u, m_se u, m_cn u)) else (m_th u, m_st u, m_md u, m_mn u + 1, m_rw u, m_sz u, m_wn u, m_sn u, upd (m_bi u) (m_mn u) a0, m_ro u, m_rc u, m_wt u, m_se u, m_cn u)))
def m_bit_r (u : m_S) (a0 : Int32) : Int32 := if (m_st u) = 2 then (if (nI (m_mn u + 1)) = 64 then (m_block_r (m_th u, m_st u, m_md u, m_mn u + 1, m_rw u, m_sz u, m_wn u, m_sn u, upd (m_bi u) (m_mn u) a0, m_ro u, m_rc u, m_wt u, m_se u, m_cn u)) else 0) else (if (nI (m_mn u)) = 16 then 0 else (if (nI (m_mn u + 1)) = 16 then 0 else 0))
set_option maxHeartbeats 4000000 in
set_option maxRecDepth 100000 in
theorem kX1_bit (l : Launch) (dC : Nat → ClassId) (dI : Nat → Nat → Nat) (qm pb pr pv pw ps pc : Nat) (cI : ClassId) (sz : Nat) (u : m_S) (a0 : Int32) (h64 : m_mn u < 64) (h16 : ¬ m_st u = 2 → m_mn u ≤ 16) (hrw : m_rw u ≤ 252) : Met l yX1_bit vX1_bit rmX1_bit (va_Pc [.ref qm, .int a0] (fun U => U.heap.size = sz ∧ va_P (dC, dI) vwCl (m_W qm pb pr pv pw ps pc cI u) U.heap ∧ va_K (dC, dI) vwCl [(cI, .int)] U ∧ va_D (fun _ => True) (m_W qm pb pr pv pw ps pc cI u))) (va_Qi (fun r u2 => r = m_bit_r u a0 ∧ u2 = m_bit u a0) (m_At dC dI (va_A (m_W qm pb pr pv pw ps pc cI u) sz) qm pb pr pv pw ps pc cI) (va_A (m_W qm pb pr pv pw ps pc cI u) sz)) 0 0 (va_A (m_W qm pb pr pv pw ps pc cI u) sz) := by
  refine Met.ofW (cc := cX1_bit) (maxL := 3) (ret := some .int) (by decide) rfl ?_
  intro p e s m args below meth c s₁ B hml hv
  obtain ⟨rfl, hsz, hP, hK, hD0⟩ := hv
  have hx := B.exec
  have hb := B.bytes
  have hr := B.returns
  have hts := atoms_spec (ws := vX1_bit) B.pre
  have hown : s.vm.findClass RX1 = some m.cls := findClass_of_methodNamed B.named
  have hlocks := B.notSynchronized
  have hinT : ∀ w ∈ wsX10, w ∈ vX1_bit := fun w h => List.mem_cons_of_mem _ (inM w h)
  subst hsz
  have hD := hD0.self (sz := s.heap.size)
  generalize hAe : va_A (m_W qm pb pr pv pw ps pc cI u) s.heap.size = A at hD ⊢
  have hA : ∀ q : Nat, s.heap.size ≤ q → A q := fun q h => by rw [← hAe]; exact Or.inr h
  have hS : va_S A s.heap s.heap [] := va_S.rf
  have hD : va_D A [(qm, .inr (1, [.int (m_th u), .int (m_st u), .int (m_md u), .ref pb, .int (nI (m_mn u)), .ref pr, .int (nI (m_rw u)), .ref pv, .int (nI (m_sz u)), .ref pw, .int (nI (m_wn u)), .ref ps, .int (nI (m_sn u)), .ref pc])), (pb, .inl (cI, 64, .inl (m_bi u))), (pr, .inl (cI, 259, .inl (m_ro u))), (pv, .inl (cI, 259, .inl (m_rc u))), (pw, .inl (cI, 259, .inl (m_wt u))), (ps, .inl (cI, 306, .inl (m_se u))), (pc, .inl (cI, 5, .inl (m_cn u)))] := hD
  have hP : va_P (dC, dI) vwCl [(qm, .inr (1, [.int (m_th u), .int (m_st u), .int (m_md u), .ref pb, .int (nI (m_mn u)), .ref pr, .int (nI (m_rw u)), .ref pv, .int (nI (m_sz u)), .ref pw, .int (nI (m_wn u)), .ref ps, .int (nI (m_sn u)), .ref pc])), (pb, .inl (cI, 64, .inl (m_bi u))), (pr, .inl (cI, 259, .inl (m_ro u))), (pv, .inl (cI, 259, .inl (m_rc u))), (pw, .inl (cI, 259, .inl (m_wt u))), (ps, .inl (cI, 306, .inl (m_se u))), (pc, .inl (cI, 5, .inl (m_cn u)))] s.heap := hP
  have hl := lv_entry ([.ref qm, .int a0]) (n := 3) (Nat.le_of_ble_eq_true rfl)
  rw [lg_entry_eq]
  generalize (lg_sl ([.ref qm, .int a0]) ++ List.replicate (3 - (lg_sl ([.ref qm, .int a0])).length) Slot.unset).toArray = ls at hl ⊢
  have hl : lv_has ls 3 [(0, .ref qm), (1, .int a0)] := hl
  refine lv_aload_n hx hb dX1_bit_0 rfl (lv_at hl 0 rfl) ?_
  refine va_get (D := (dC, dI)) (ci := 1) (v := .int (m_st u)) (C := RX1) (T := TX1) (N := 14) hx hb hts hinT hown hK hP 0 rfl rfl 1 (by decide) (hts _ (List.mem_cons_of_mem _ fl_40)) (fun _ h9 => h9) rfl dX1_bit_1 ?_
  refine lv_iconst (v := 2) hx hb dX1_bit_4 (by decide) ?_
  refine lv_icmp_ne (tgt := 46) hx hb dX1_bit_5 (by decide) (fun c_1 => ?_) (fun c_1 => ?_)
  · refine lv_aload_n hx hb dX1_bit_46 rfl (lv_at hl 0 rfl) ?_
    refine va_get (D := (dC, dI)) (ci := 1) (v := .int (nI (m_mn u))) (C := RX1) (T := TX1) (N := 14) hx hb hts hinT hown hK hP 0 rfl rfl 4 (by decide) (hts _ (List.mem_cons_of_mem _ fl_43)) (fun _ h9 => h9) rfl dX1_bit_47 ?_
    refine lv_bipush (v := 16) hx hb dX1_bit_50 (by decide) ?_
    refine lv_icmp_ne (tgt := 89) hx hb dX1_bit_52 (by decide) (fun c_2 => ?_) (fun c_2 => ?_)
    · have hlt : m_mn u < 16 := by have := h16 c_1; have h5 : m_mn u ≠ 16 := fun e => c_2 (by rw [e]; rfl); omega
      refine lv_aload_n hx hb dX1_bit_89 rfl (lv_at hl 0 rfl) ?_
      refine va_get (D := (dC, dI)) (ci := 1) (v := .ref pb) (C := RX1) (T := TX1) (N := 14) hx hb hts hinT hown hK hP 0 rfl rfl 3 (by decide) (hts _ (List.mem_cons_of_mem _ fl_7)) (fun _ h9 => h9) rfl dX1_bit_90 ?_
      refine lv_aload_n hx hb dX1_bit_93 rfl (lv_at hl 0 rfl) ?_
      refine va_get (D := (dC, dI)) (ci := 1) (v := .int (nI (m_mn u))) (C := RX1) (T := TX1) (N := 14) hx hb hts hinT hown hK hP 0 rfl rfl 4 (by decide) (hts _ (List.mem_cons_of_mem _ fl_43)) (fun _ h9 => h9) rfl dX1_bit_94 ?_
      refine lv_iload_n hx hb dX1_bit_97 rfl (lv_at hl 1 rfl) ?_
      refine va_iast hx hb hK hP hD hS 1 0 rfl rfl (vp_in_nI (by omega) (by decide)) dX1_bit_98 (fun H locs hP hD hS => ?_)
      rw [show (nI (m_mn u) : Int32).toNatClampNeg = m_mn u from (nI_clamp (by omega))] at hP hD
      have hP : va_P (dC, dI) vwCl [(qm, .inr (1, [.int (m_th u), .int (m_st u), .int (m_md u), .ref pb, .int (nI (m_mn u)), .ref pr, .int (nI (m_rw u)), .ref pv, .int (nI (m_sz u)), .ref pw, .int (nI (m_wn u)), .ref ps, .int (nI (m_sn u)), .ref pc])), (pb, .inl (cI, 64, .inl (upd (m_bi u) (m_mn u) a0))), (pr, .inl (cI, 259, .inl (m_ro u))), (pv, .inl (cI, 259, .inl (m_rc u))), (pw, .inl (cI, 259, .inl (m_wt u))), (ps, .inl (cI, 306, .inl (m_se u))), (pc, .inl (cI, 5, .inl (m_cn u)))] H := hP
      have hD : va_D A [(qm, .inr (1, [.int (m_th u), .int (m_st u), .int (m_md u), .ref pb, .int (nI (m_mn u)), .ref pr, .int (nI (m_rw u)), .ref pv, .int (nI (m_sz u)), .ref pw, .int (nI (m_wn u)), .ref ps, .int (nI (m_sn u)), .ref pc])), (pb, .inl (cI, 64, .inl (upd (m_bi u) (m_mn u) a0))), (pr, .inl (cI, 259, .inl (m_ro u))), (pv, .inl (cI, 259, .inl (m_rc u))), (pw, .inl (cI, 259, .inl (m_wt u))), (ps, .inl (cI, 306, .inl (m_se u))), (pc, .inl (cI, 5, .inl (m_cn u)))] := hD
      refine lv_aload_n hx hb dX1_bit_99 rfl (lv_at hl 0 rfl) ?_
      refine lv_dup hx hb dX1_bit_100 rfl ?_
      refine va_get (D := (dC, dI)) (ci := 1) (v := .int (nI (m_mn u))) (C := RX1) (T := TX1) (N := 14) hx hb hts hinT hown hK hP 0 rfl rfl 4 (by decide) (hts _ (List.mem_cons_of_mem _ fl_43)) (fun _ h9 => h9) rfl dX1_bit_101 ?_
      refine lv_iconst (v := 1) hx hb dX1_bit_104 (by decide) ?_
      refine lv_iadd hx hb dX1_bit_105 ?_
      refine W.eq (congrArg (fun z => F0 m 106 ls (.int z :: [.ref qm])) (show (nI (m_mn u)) + 1 = nI (m_mn u + 1) from (nI_add _ _))) ?_
      refine va_put (D := (dC, dI)) (ci := 1) (v := .int (nI (m_mn u + 1))) (ty := .int) (C := RX1) (T := TX1) (N := 14) hx hb hts hinT tyX1 tyX1_ok nmX1 hown hK hP hD hS 0 rfl rfl 4 (by decide) (hts _ (List.mem_cons_of_mem _ fl_43)) (fun _ h9 => h9) rfl (by decide +kernel) rfl rfl (Nat.le_of_ble_eq_true rfl) dX1_bit_106 (fun H locs hP hD hS => ?_)
      have hP : va_P (dC, dI) vwCl [(qm, .inr (1, [.int (m_th u), .int (m_st u), .int (m_md u), .ref pb, .int (nI (m_mn u + 1)), .ref pr, .int (nI (m_rw u)), .ref pv, .int (nI (m_sz u)), .ref pw, .int (nI (m_wn u)), .ref ps, .int (nI (m_sn u)), .ref pc])), (pb, .inl (cI, 64, .inl (upd (m_bi u) (m_mn u) a0))), (pr, .inl (cI, 259, .inl (m_ro u))), (pv, .inl (cI, 259, .inl (m_rc u))), (pw, .inl (cI, 259, .inl (m_wt u))), (ps, .inl (cI, 306, .inl (m_se u))), (pc, .inl (cI, 5, .inl (m_cn u)))] H := hP
      have hD : va_D A [(qm, .inr (1, [.int (m_th u), .int (m_st u), .int (m_md u), .ref pb, .int (nI (m_mn u + 1)), .ref pr, .int (nI (m_rw u)), .ref pv, .int (nI (m_sz u)), .ref pw, .int (nI (m_wn u)), .ref ps, .int (nI (m_sn u)), .ref pc])), (pb, .inl (cI, 64, .inl (upd (m_bi u) (m_mn u) a0))), (pr, .inl (cI, 259, .inl (m_ro u))), (pv, .inl (cI, 259, .inl (m_rc u))), (pw, .inl (cI, 259, .inl (m_wt u))), (ps, .inl (cI, 306, .inl (m_se u))), (pc, .inl (cI, 5, .inl (m_cn u)))] := hD
      refine lv_aload_n hx hb dX1_bit_109 rfl (lv_at hl 0 rfl) ?_
      refine va_get (D := (dC, dI)) (ci := 1) (v := .int (nI (m_mn u + 1))) (C := RX1) (T := TX1) (N := 14) hx hb hts hinT hown hK hP 0 rfl rfl 4 (by decide) (hts _ (List.mem_cons_of_mem _ fl_43)) (fun _ h9 => h9) rfl dX1_bit_110 ?_
      refine lv_bipush (v := 16) hx hb dX1_bit_113 (by decide) ?_
      refine lv_icmp_ne (tgt := 122) hx hb dX1_bit_115 (by decide) (fun c_3 => ?_) (fun c_3 => ?_)
      · refine lv_iconst (v := 0) hx hb dX1_bit_122 (by decide) ?_
        have hP9 : va_P (dC, dI) vwCl (m_W qm pb pr pv pw ps pc cI (m_th u, m_st u, m_md u, m_mn u + 1, m_rw u, m_sz u, m_wn u, m_sn u, upd (m_bi u) (m_mn u) a0, m_ro u, m_rc u, m_wt u, m_se u, m_cn u)) H := hP
        have hD9 : va_D A (m_W qm pb pr pv pw ps pc cI (m_th u, m_st u, m_md u, m_mn u + 1, m_rw u, m_sz u, m_wn u, m_sn u, upd (m_bi u) (m_mn u) a0, m_ro u, m_rc u, m_wt u, m_se u, m_cn u)) := hD
        exact W.iret (v := 0) hx hb hr (fun t ht hW => ⟨⟨_, (m_th u, m_st u, m_md u, m_mn u + 1, m_rw u, m_sz u, m_wn u, m_sn u, upd (m_bi u) (m_mn u) a0, m_ro u, m_rc u, m_wt u, m_se u, m_cn u), rfl, ⟨(by unfold m_bit_r; rw [if_neg c_1, if_neg c_2, if_neg c_3]), (by unfold m_bit; rw [if_neg c_1, if_neg c_2, if_neg c_3])⟩, by rw [ht]; exact hP9, va_K.moved hW.alike hK, hD9⟩, hS.F ht⟩) hS.2.2 dX1_bit_123
      · refine lv_aload_n hx hb dX1_bit_118 rfl (lv_at hl 0 rfl) ?_
        have hPc : va_P (dC, dI) vwCl (m_W qm pb pr pv pw ps pc cI (m_th u, m_st u, m_md u, m_mn u + 1, m_rw u, m_sz u, m_wn u, m_sn u, upd (m_bi u) (m_mn u) a0, m_ro u, m_rc u, m_wt u, m_se u, m_cn u)) H := hP
        have hDc : va_D A (m_W qm pb pr pv pw ps pc cI (m_th u, m_st u, m_md u, m_mn u + 1, m_rw u, m_sz u, m_wn u, m_sn u, upd (m_bi u) (m_mn u) a0, m_ro u, m_rc u, m_wt u, m_se u, m_cn u)) := hD
        have hFc := va_free (wc := (m_W qm pb pr pv pw ps pc cI (m_th u, m_st u, m_md u, m_mn u + 1, m_rw u, m_sz u, m_wn u, m_sn u, upd (m_bi u) (m_mn u) a0, m_ro u, m_rc u, m_wt u, m_se u, m_cn u))) hD hS hA [0, 1, 2, 3, 4, 5, 6] rfl
        refine va_callv (va_runV (As := []) (rest := []) ⟨hx, hb, hml, hown, hts⟩ (kX1_look l dC dI qm pb pr pv pw ps pc cI H.size (m_th u, m_st u, m_md u, m_mn u + 1, m_rw u, m_sz u, m_wn u, m_sn u, upd (m_bi u) (m_mn u) a0, m_ro u, m_rc u, m_wt u, m_se u, m_cn u)  ) (cwV 0 hts gM_X1_look rfl rfl rfl (by decide +kernel) ⟨Nat.le_of_ble_eq_true rfl, Nat.le_of_ble_eq_true rfl⟩) ⟨fun a U g mk q => by obtain ⟨q0, q1, qP, qK, qD⟩ := q; exact ⟨q0, q1, qP, va_K.moved (u := U) (U := U.calling g mk a) (Vm.Alike.refl U.vm) qK, qD⟩, va_recv hK hP (ci := 1) (q0 := 0) rfl rfl, fun U hU hW => ⟨rfl, by rw [hU], by rw [hU]; exact hPc, va_K.moved hW.alike hK, hDc.weaken (fun _ _ _ _ => trivial)⟩⟩ rfl rfl hl.1 rfl (lv_room (Nat.le_of_ble_eq_true rfl)) dX1_bit_119 ⟨Nat.le_of_ble_eq_true rfl, Nat.le_of_ble_eq_true rfl⟩) hS (fun q _ h => hFc q h) hFc (fun  u_4 t H1 locs ht hvm hu_4 hB hz1 hk1 hS => ?_)
        obtain ⟨hP1, -, hD1⟩ := hB
        rw [ht] at hP1
        have hP : va_P (dC, dI) vwCl [(qm, .inr (1, [.int (m_th u_4), .int (m_st u_4), .int (m_md u_4), .ref pb, .int (nI (m_mn u_4)), .ref pr, .int (nI (m_rw u_4)), .ref pv, .int (nI (m_sz u_4)), .ref pw, .int (nI (m_wn u_4)), .ref ps, .int (nI (m_sn u_4)), .ref pc])), (pb, .inl (cI, 64, .inl (m_bi u_4))), (pr, .inl (cI, 259, .inl (m_ro u_4))), (pv, .inl (cI, 259, .inl (m_rc u_4))), (pw, .inl (cI, 259, .inl (m_wt u_4))), (ps, .inl (cI, 306, .inl (m_se u_4))), (pc, .inl (cI, 5, .inl (m_cn u_4)))] H1 := hP1
        have hD : va_D A [(qm, .inr (1, [.int (m_th u_4), .int (m_st u_4), .int (m_md u_4), .ref pb, .int (nI (m_mn u_4)), .ref pr, .int (nI (m_rw u_4)), .ref pv, .int (nI (m_sz u_4)), .ref pw, .int (nI (m_wn u_4)), .ref ps, .int (nI (m_sn u_4)), .ref pc])), (pb, .inl (cI, 64, .inl (m_bi u_4))), (pr, .inl (cI, 259, .inl (m_ro u_4))), (pv, .inl (cI, 259, .inl (m_rc u_4))), (pw, .inl (cI, 259, .inl (m_wt u_4))), (ps, .inl (cI, 306, .inl (m_se u_4))), (pc, .inl (cI, 5, .inl (m_cn u_4)))] := hD1.weaken (fun k q _ h => hFc q.1 h)
        generalize H1 = H at hP hS ⊢
        refine lv_iconst (v := 0) hx hb dX1_bit_122 (by decide) ?_
        have hP9 : va_P (dC, dI) vwCl (m_W qm pb pr pv pw ps pc cI u_4) H := hP
        have hD9 : va_D A (m_W qm pb pr pv pw ps pc cI u_4) := hD
        exact W.iret (v := 0) hx hb hr (fun t ht hW => ⟨⟨_, u_4, rfl, ⟨(by subst hu_4; unfold m_bit_r; rw [if_neg c_1, if_neg c_2, if_pos c_3]), (by subst hu_4; unfold m_bit; rw [if_neg c_1, if_neg c_2, if_pos c_3])⟩, by rw [ht]; exact hP9, va_K.moved hW.alike hK, hD9⟩, hS.F ht⟩) hS.2.2 dX1_bit_123
    · refine lv_iconst (v := 0) hx hb dX1_bit_55 (by decide) ?_
      refine lv_istore_n (lv' := [(2, .int 0), (0, .ref qm), (1, .int a0)]) hx hb dX1_bit_56 rfl hl (by decide) rfl (fun ls hl => ?_)
      refine lpX1_bit (l := l) dC dI qm pb pr pv pw ps pc cI a0 hx hb hml hown hts A hA hK  15 u 0 s.heap [] ls rfl hP hD hS (lv_sub hl [1, 2, 0] rfl) (fun H locs ls hP hD hS hl => ?_)
      obtain ⟨v_5, hv_5⟩ : ∃ z, z = m_shF 15 0 u := ⟨_, rfl⟩
      rw [← hv_5] at hP hD
      have hP : va_P (dC, dI) vwCl [(qm, .inr (1, [.int (m_th v_5), .int (m_st v_5), .int (m_md v_5), .ref pb, .int (nI (m_mn v_5)), .ref pr, .int (nI (m_rw v_5)), .ref pv, .int (nI (m_sz v_5)), .ref pw, .int (nI (m_wn v_5)), .ref ps, .int (nI (m_sn v_5)), .ref pc])), (pb, .inl (cI, 64, .inl (m_bi v_5))), (pr, .inl (cI, 259, .inl (m_ro v_5))), (pv, .inl (cI, 259, .inl (m_rc v_5))), (pw, .inl (cI, 259, .inl (m_wt v_5))), (ps, .inl (cI, 306, .inl (m_se v_5))), (pc, .inl (cI, 5, .inl (m_cn v_5)))] H := hP
      have hD : va_D A [(qm, .inr (1, [.int (m_th v_5), .int (m_st v_5), .int (m_md v_5), .ref pb, .int (nI (m_mn v_5)), .ref pr, .int (nI (m_rw v_5)), .ref pv, .int (nI (m_sz v_5)), .ref pw, .int (nI (m_wn v_5)), .ref ps, .int (nI (m_sn v_5)), .ref pc])), (pb, .inl (cI, 64, .inl (m_bi v_5))), (pr, .inl (cI, 259, .inl (m_ro v_5))), (pv, .inl (cI, 259, .inl (m_rc v_5))), (pw, .inl (cI, 259, .inl (m_wt v_5))), (ps, .inl (cI, 306, .inl (m_se v_5))), (pc, .inl (cI, 5, .inl (m_cn v_5)))] := hD
      refine lv_aload_n hx hb dX1_bit_83 rfl (lv_at hl 0 rfl) ?_
      refine lv_bipush (v := 15) hx hb dX1_bit_84 (by decide) ?_
      refine va_put (D := (dC, dI)) (ci := 1) (v := .int 15) (ty := .int) (C := RX1) (T := TX1) (N := 14) hx hb hts hinT tyX1 tyX1_ok nmX1 hown hK hP hD hS 0 rfl rfl 4 (by decide) (hts _ (List.mem_cons_of_mem _ fl_43)) (fun _ h9 => h9) rfl (by decide +kernel) rfl rfl (Nat.le_of_ble_eq_true rfl) dX1_bit_86 (fun H locs hP hD hS => ?_)
      have hP : va_P (dC, dI) vwCl [(qm, .inr (1, [.int (m_th v_5), .int (m_st v_5), .int (m_md v_5), .ref pb, .int 15, .ref pr, .int (nI (m_rw v_5)), .ref pv, .int (nI (m_sz v_5)), .ref pw, .int (nI (m_wn v_5)), .ref ps, .int (nI (m_sn v_5)), .ref pc])), (pb, .inl (cI, 64, .inl (m_bi v_5))), (pr, .inl (cI, 259, .inl (m_ro v_5))), (pv, .inl (cI, 259, .inl (m_rc v_5))), (pw, .inl (cI, 259, .inl (m_wt v_5))), (ps, .inl (cI, 306, .inl (m_se v_5))), (pc, .inl (cI, 5, .inl (m_cn v_5)))] H := hP
      have hD : va_D A [(qm, .inr (1, [.int (m_th v_5), .int (m_st v_5), .int (m_md v_5), .ref pb, .int 15, .ref pr, .int (nI (m_rw v_5)), .ref pv, .int (nI (m_sz v_5)), .ref pw, .int (nI (m_wn v_5)), .ref ps, .int (nI (m_sn v_5)), .ref pc])), (pb, .inl (cI, 64, .inl (m_bi v_5))), (pr, .inl (cI, 259, .inl (m_ro v_5))), (pv, .inl (cI, 259, .inl (m_rc v_5))), (pw, .inl (cI, 259, .inl (m_wt v_5))), (ps, .inl (cI, 306, .inl (m_se v_5))), (pc, .inl (cI, 5, .inl (m_cn v_5)))] := hD
      refine lv_aload_n hx hb dX1_bit_89 rfl (lv_at hl 0 rfl) ?_
      refine va_get (D := (dC, dI)) (ci := 1) (v := .ref pb) (C := RX1) (T := TX1) (N := 14) hx hb hts hinT hown hK hP 0 rfl rfl 3 (by decide) (hts _ (List.mem_cons_of_mem _ fl_7)) (fun _ h9 => h9) rfl dX1_bit_90 ?_
      refine lv_aload_n hx hb dX1_bit_93 rfl (lv_at hl 0 rfl) ?_
      refine va_get (D := (dC, dI)) (ci := 1) (v := .int 15) (C := RX1) (T := TX1) (N := 14) hx hb hts hinT hown hK hP 0 rfl rfl 4 (by decide) (hts _ (List.mem_cons_of_mem _ fl_43)) (fun _ h9 => h9) rfl dX1_bit_94 ?_
      refine lv_iload_n hx hb dX1_bit_97 rfl (lv_at hl 1 rfl) ?_
      refine va_iast hx hb hK hP hD hS 1 0 rfl rfl (j_in (k := 15) rfl (by decide)) dX1_bit_98 (fun H locs hP hD hS => ?_)
      rw [show (15 : Int32).toNatClampNeg = 15 from (by decide)] at hP hD
      have hP : va_P (dC, dI) vwCl [(qm, .inr (1, [.int (m_th v_5), .int (m_st v_5), .int (m_md v_5), .ref pb, .int 15, .ref pr, .int (nI (m_rw v_5)), .ref pv, .int (nI (m_sz v_5)), .ref pw, .int (nI (m_wn v_5)), .ref ps, .int (nI (m_sn v_5)), .ref pc])), (pb, .inl (cI, 64, .inl (upd (m_bi v_5) 15 a0))), (pr, .inl (cI, 259, .inl (m_ro v_5))), (pv, .inl (cI, 259, .inl (m_rc v_5))), (pw, .inl (cI, 259, .inl (m_wt v_5))), (ps, .inl (cI, 306, .inl (m_se v_5))), (pc, .inl (cI, 5, .inl (m_cn v_5)))] H := hP
      have hD : va_D A [(qm, .inr (1, [.int (m_th v_5), .int (m_st v_5), .int (m_md v_5), .ref pb, .int 15, .ref pr, .int (nI (m_rw v_5)), .ref pv, .int (nI (m_sz v_5)), .ref pw, .int (nI (m_wn v_5)), .ref ps, .int (nI (m_sn v_5)), .ref pc])), (pb, .inl (cI, 64, .inl (upd (m_bi v_5) 15 a0))), (pr, .inl (cI, 259, .inl (m_ro v_5))), (pv, .inl (cI, 259, .inl (m_rc v_5))), (pw, .inl (cI, 259, .inl (m_wt v_5))), (ps, .inl (cI, 306, .inl (m_se v_5))), (pc, .inl (cI, 5, .inl (m_cn v_5)))] := hD
      refine lv_aload_n hx hb dX1_bit_99 rfl (lv_at hl 0 rfl) ?_
      refine lv_dup hx hb dX1_bit_100 rfl ?_
      refine va_get (D := (dC, dI)) (ci := 1) (v := .int 15) (C := RX1) (T := TX1) (N := 14) hx hb hts hinT hown hK hP 0 rfl rfl 4 (by decide) (hts _ (List.mem_cons_of_mem _ fl_43)) (fun _ h9 => h9) rfl dX1_bit_101 ?_
      refine lv_iconst (v := 1) hx hb dX1_bit_104 (by decide) ?_
      refine lv_iadd hx hb dX1_bit_105 ?_
      refine W.eq (congrArg (fun z => F0 m 106 ls (.int z :: [.ref qm])) (show 15 + 1 = 16 from (by decide))) ?_
      refine va_put (D := (dC, dI)) (ci := 1) (v := .int 16) (ty := .int) (C := RX1) (T := TX1) (N := 14) hx hb hts hinT tyX1 tyX1_ok nmX1 hown hK hP hD hS 0 rfl rfl 4 (by decide) (hts _ (List.mem_cons_of_mem _ fl_43)) (fun _ h9 => h9) rfl (by decide +kernel) rfl rfl (Nat.le_of_ble_eq_true rfl) dX1_bit_106 (fun H locs hP hD hS => ?_)
      have hP : va_P (dC, dI) vwCl [(qm, .inr (1, [.int (m_th v_5), .int (m_st v_5), .int (m_md v_5), .ref pb, .int 16, .ref pr, .int (nI (m_rw v_5)), .ref pv, .int (nI (m_sz v_5)), .ref pw, .int (nI (m_wn v_5)), .ref ps, .int (nI (m_sn v_5)), .ref pc])), (pb, .inl (cI, 64, .inl (upd (m_bi v_5) 15 a0))), (pr, .inl (cI, 259, .inl (m_ro v_5))), (pv, .inl (cI, 259, .inl (m_rc v_5))), (pw, .inl (cI, 259, .inl (m_wt v_5))), (ps, .inl (cI, 306, .inl (m_se v_5))), (pc, .inl (cI, 5, .inl (m_cn v_5)))] H := hP
      have hD : va_D A [(qm, .inr (1, [.int (m_th v_5), .int (m_st v_5), .int (m_md v_5), .ref pb, .int 16, .ref pr, .int (nI (m_rw v_5)), .ref pv, .int (nI (m_sz v_5)), .ref pw, .int (nI (m_wn v_5)), .ref ps, .int (nI (m_sn v_5)), .ref pc])), (pb, .inl (cI, 64, .inl (upd (m_bi v_5) 15 a0))), (pr, .inl (cI, 259, .inl (m_ro v_5))), (pv, .inl (cI, 259, .inl (m_rc v_5))), (pw, .inl (cI, 259, .inl (m_wt v_5))), (ps, .inl (cI, 306, .inl (m_se v_5))), (pc, .inl (cI, 5, .inl (m_cn v_5)))] := hD
      refine lv_aload_n hx hb dX1_bit_109 rfl (lv_at hl 0 rfl) ?_
      refine va_get (D := (dC, dI)) (ci := 1) (v := .int 16) (C := RX1) (T := TX1) (N := 14) hx hb hts hinT hown hK hP 0 rfl rfl 4 (by decide) (hts _ (List.mem_cons_of_mem _ fl_43)) (fun _ h9 => h9) rfl dX1_bit_110 ?_
      refine lv_bipush (v := 16) hx hb dX1_bit_113 (by decide) ?_
      refine lv_icmp_ne (tgt := 122) hx hb dX1_bit_115 (by decide) (fun c_6 => absurd (by decide) c_6) (fun c_6 => ?_)
      refine lv_aload_n hx hb dX1_bit_118 rfl (lv_at hl 0 rfl) ?_
      have hPc : va_P (dC, dI) vwCl (m_W qm pb pr pv pw ps pc cI (m_th v_5, m_st v_5, m_md v_5, 16, m_rw v_5, m_sz v_5, m_wn v_5, m_sn v_5, upd (m_bi v_5) 15 a0, m_ro v_5, m_rc v_5, m_wt v_5, m_se v_5, m_cn v_5)) H := hP
      have hDc : va_D A (m_W qm pb pr pv pw ps pc cI (m_th v_5, m_st v_5, m_md v_5, 16, m_rw v_5, m_sz v_5, m_wn v_5, m_sn v_5, upd (m_bi v_5) 15 a0, m_ro v_5, m_rc v_5, m_wt v_5, m_se v_5, m_cn v_5)) := hD
      have hFc := va_free (wc := (m_W qm pb pr pv pw ps pc cI (m_th v_5, m_st v_5, m_md v_5, 16, m_rw v_5, m_sz v_5, m_wn v_5, m_sn v_5, upd (m_bi v_5) 15 a0, m_ro v_5, m_rc v_5, m_wt v_5, m_se v_5, m_cn v_5))) hD hS hA [0, 1, 2, 3, 4, 5, 6] rfl
      refine va_callv (va_runV (As := []) (rest := []) ⟨hx, hb, hml, hown, hts⟩ (kX1_look l dC dI qm pb pr pv pw ps pc cI H.size (m_th v_5, m_st v_5, m_md v_5, 16, m_rw v_5, m_sz v_5, m_wn v_5, m_sn v_5, upd (m_bi v_5) 15 a0, m_ro v_5, m_rc v_5, m_wt v_5, m_se v_5, m_cn v_5)  ) (cwV 0 hts gM_X1_look rfl rfl rfl (by decide +kernel) ⟨Nat.le_of_ble_eq_true rfl, Nat.le_of_ble_eq_true rfl⟩) ⟨fun a U g mk q => by obtain ⟨q0, q1, qP, qK, qD⟩ := q; exact ⟨q0, q1, qP, va_K.moved (u := U) (U := U.calling g mk a) (Vm.Alike.refl U.vm) qK, qD⟩, va_recv hK hP (ci := 1) (q0 := 0) rfl rfl, fun U hU hW => ⟨rfl, by rw [hU], by rw [hU]; exact hPc, va_K.moved hW.alike hK, hDc.weaken (fun _ _ _ _ => trivial)⟩⟩ rfl rfl hl.1 rfl (lv_room (Nat.le_of_ble_eq_true rfl)) dX1_bit_119 ⟨Nat.le_of_ble_eq_true rfl, Nat.le_of_ble_eq_true rfl⟩) hS (fun q _ h => hFc q h) hFc (fun  u_7 t H1 locs ht hvm hu_7 hB hz1 hk1 hS => ?_)
      obtain ⟨hP1, -, hD1⟩ := hB
      rw [ht] at hP1
      have hP : va_P (dC, dI) vwCl [(qm, .inr (1, [.int (m_th u_7), .int (m_st u_7), .int (m_md u_7), .ref pb, .int (nI (m_mn u_7)), .ref pr, .int (nI (m_rw u_7)), .ref pv, .int (nI (m_sz u_7)), .ref pw, .int (nI (m_wn u_7)), .ref ps, .int (nI (m_sn u_7)), .ref pc])), (pb, .inl (cI, 64, .inl (m_bi u_7))), (pr, .inl (cI, 259, .inl (m_ro u_7))), (pv, .inl (cI, 259, .inl (m_rc u_7))), (pw, .inl (cI, 259, .inl (m_wt u_7))), (ps, .inl (cI, 306, .inl (m_se u_7))), (pc, .inl (cI, 5, .inl (m_cn u_7)))] H1 := hP1
      have hD : va_D A [(qm, .inr (1, [.int (m_th u_7), .int (m_st u_7), .int (m_md u_7), .ref pb, .int (nI (m_mn u_7)), .ref pr, .int (nI (m_rw u_7)), .ref pv, .int (nI (m_sz u_7)), .ref pw, .int (nI (m_wn u_7)), .ref ps, .int (nI (m_sn u_7)), .ref pc])), (pb, .inl (cI, 64, .inl (m_bi u_7))), (pr, .inl (cI, 259, .inl (m_ro u_7))), (pv, .inl (cI, 259, .inl (m_rc u_7))), (pw, .inl (cI, 259, .inl (m_wt u_7))), (ps, .inl (cI, 306, .inl (m_se u_7))), (pc, .inl (cI, 5, .inl (m_cn u_7)))] := hD1.weaken (fun k q _ h => hFc q.1 h)
      generalize H1 = H at hP hS ⊢
      refine lv_iconst (v := 0) hx hb dX1_bit_122 (by decide) ?_
      have hP9 : va_P (dC, dI) vwCl (m_W qm pb pr pv pw ps pc cI u_7) H := hP
      have hD9 : va_D A (m_W qm pb pr pv pw ps pc cI u_7) := hD
      exact W.iret (v := 0) hx hb hr (fun t ht hW => ⟨⟨_, u_7, rfl, ⟨(by subst hu_7; subst hv_5; unfold m_bit_r; rw [if_neg c_1, if_pos c_2]), (by subst hu_7; subst hv_5; unfold m_bit; rw [if_neg c_1, if_pos c_2])⟩, by rw [ht]; exact hP9, va_K.moved hW.alike hK, hD9⟩, hS.F ht⟩) hS.2.2 dX1_bit_123
  · refine lv_aload_n hx hb dX1_bit_8 rfl (lv_at hl 0 rfl) ?_
    refine va_get (D := (dC, dI)) (ci := 1) (v := .ref pb) (C := RX1) (T := TX1) (N := 14) hx hb hts hinT hown hK hP 0 rfl rfl 3 (by decide) (hts _ (List.mem_cons_of_mem _ fl_7)) (fun _ h9 => h9) rfl dX1_bit_9 ?_
    refine lv_aload_n hx hb dX1_bit_12 rfl (lv_at hl 0 rfl) ?_
    refine va_get (D := (dC, dI)) (ci := 1) (v := .int (nI (m_mn u))) (C := RX1) (T := TX1) (N := 14) hx hb hts hinT hown hK hP 0 rfl rfl 4 (by decide) (hts _ (List.mem_cons_of_mem _ fl_43)) (fun _ h9 => h9) rfl dX1_bit_13 ?_
    refine lv_iload_n hx hb dX1_bit_16 rfl (lv_at hl 1 rfl) ?_
    refine va_iast hx hb hK hP hD hS 1 0 rfl rfl (vp_in_nI (by omega) (by decide)) dX1_bit_17 (fun H locs hP hD hS => ?_)
    rw [show (nI (m_mn u) : Int32).toNatClampNeg = m_mn u from (nI_clamp (by omega))] at hP hD
    have hP : va_P (dC, dI) vwCl [(qm, .inr (1, [.int (m_th u), .int (m_st u), .int (m_md u), .ref pb, .int (nI (m_mn u)), .ref pr, .int (nI (m_rw u)), .ref pv, .int (nI (m_sz u)), .ref pw, .int (nI (m_wn u)), .ref ps, .int (nI (m_sn u)), .ref pc])), (pb, .inl (cI, 64, .inl (upd (m_bi u) (m_mn u) a0))), (pr, .inl (cI, 259, .inl (m_ro u))), (pv, .inl (cI, 259, .inl (m_rc u))), (pw, .inl (cI, 259, .inl (m_wt u))), (ps, .inl (cI, 306, .inl (m_se u))), (pc, .inl (cI, 5, .inl (m_cn u)))] H := hP
    have hD : va_D A [(qm, .inr (1, [.int (m_th u), .int (m_st u), .int (m_md u), .ref pb, .int (nI (m_mn u)), .ref pr, .int (nI (m_rw u)), .ref pv, .int (nI (m_sz u)), .ref pw, .int (nI (m_wn u)), .ref ps, .int (nI (m_sn u)), .ref pc])), (pb, .inl (cI, 64, .inl (upd (m_bi u) (m_mn u) a0))), (pr, .inl (cI, 259, .inl (m_ro u))), (pv, .inl (cI, 259, .inl (m_rc u))), (pw, .inl (cI, 259, .inl (m_wt u))), (ps, .inl (cI, 306, .inl (m_se u))), (pc, .inl (cI, 5, .inl (m_cn u)))] := hD
    refine lv_aload_n hx hb dX1_bit_18 rfl (lv_at hl 0 rfl) ?_
    refine lv_dup hx hb dX1_bit_19 rfl ?_
    refine va_get (D := (dC, dI)) (ci := 1) (v := .int (nI (m_mn u))) (C := RX1) (T := TX1) (N := 14) hx hb hts hinT hown hK hP 0 rfl rfl 4 (by decide) (hts _ (List.mem_cons_of_mem _ fl_43)) (fun _ h9 => h9) rfl dX1_bit_20 ?_
    refine lv_iconst (v := 1) hx hb dX1_bit_23 (by decide) ?_
    refine lv_iadd hx hb dX1_bit_24 ?_
    refine W.eq (congrArg (fun z => F0 m 25 ls (.int z :: [.ref qm])) (show (nI (m_mn u)) + 1 = nI (m_mn u + 1) from (nI_add _ _))) ?_
    refine va_put (D := (dC, dI)) (ci := 1) (v := .int (nI (m_mn u + 1))) (ty := .int) (C := RX1) (T := TX1) (N := 14) hx hb hts hinT tyX1 tyX1_ok nmX1 hown hK hP hD hS 0 rfl rfl 4 (by decide) (hts _ (List.mem_cons_of_mem _ fl_43)) (fun _ h9 => h9) rfl (by decide +kernel) rfl rfl (Nat.le_of_ble_eq_true rfl) dX1_bit_25 (fun H locs hP hD hS => ?_)
    have hP : va_P (dC, dI) vwCl [(qm, .inr (1, [.int (m_th u), .int (m_st u), .int (m_md u), .ref pb, .int (nI (m_mn u + 1)), .ref pr, .int (nI (m_rw u)), .ref pv, .int (nI (m_sz u)), .ref pw, .int (nI (m_wn u)), .ref ps, .int (nI (m_sn u)), .ref pc])), (pb, .inl (cI, 64, .inl (upd (m_bi u) (m_mn u) a0))), (pr, .inl (cI, 259, .inl (m_ro u))), (pv, .inl (cI, 259, .inl (m_rc u))), (pw, .inl (cI, 259, .inl (m_wt u))), (ps, .inl (cI, 306, .inl (m_se u))), (pc, .inl (cI, 5, .inl (m_cn u)))] H := hP
    have hD : va_D A [(qm, .inr (1, [.int (m_th u), .int (m_st u), .int (m_md u), .ref pb, .int (nI (m_mn u + 1)), .ref pr, .int (nI (m_rw u)), .ref pv, .int (nI (m_sz u)), .ref pw, .int (nI (m_wn u)), .ref ps, .int (nI (m_sn u)), .ref pc])), (pb, .inl (cI, 64, .inl (upd (m_bi u) (m_mn u) a0))), (pr, .inl (cI, 259, .inl (m_ro u))), (pv, .inl (cI, 259, .inl (m_rc u))), (pw, .inl (cI, 259, .inl (m_wt u))), (ps, .inl (cI, 306, .inl (m_se u))), (pc, .inl (cI, 5, .inl (m_cn u)))] := hD
    refine lv_aload_n hx hb dX1_bit_28 rfl (lv_at hl 0 rfl) ?_
    refine va_get (D := (dC, dI)) (ci := 1) (v := .int (nI (m_mn u + 1))) (C := RX1) (T := TX1) (N := 14) hx hb hts hinT hown hK hP 0 rfl rfl 4 (by decide) (hts _ (List.mem_cons_of_mem _ fl_43)) (fun _ h9 => h9) rfl dX1_bit_29 ?_
    refine lv_bipush (v := 64) hx hb dX1_bit_32 (by decide) ?_
    refine lv_icmp_ne (tgt := 44) hx hb dX1_bit_34 (by decide) (fun c_8 => ?_) (fun c_8 => ?_)
    · refine lv_iconst (v := 0) hx hb dX1_bit_44 (by decide) ?_
      have hP9 : va_P (dC, dI) vwCl (m_W qm pb pr pv pw ps pc cI (m_th u, m_st u, m_md u, m_mn u + 1, m_rw u, m_sz u, m_wn u, m_sn u, upd (m_bi u) (m_mn u) a0, m_ro u, m_rc u, m_wt u, m_se u, m_cn u)) H := hP
      have hD9 : va_D A (m_W qm pb pr pv pw ps pc cI (m_th u, m_st u, m_md u, m_mn u + 1, m_rw u, m_sz u, m_wn u, m_sn u, upd (m_bi u) (m_mn u) a0, m_ro u, m_rc u, m_wt u, m_se u, m_cn u)) := hD
      exact W.iret (v := 0) hx hb hr (fun t ht hW => ⟨⟨_, (m_th u, m_st u, m_md u, m_mn u + 1, m_rw u, m_sz u, m_wn u, m_sn u, upd (m_bi u) (m_mn u) a0, m_ro u, m_rc u, m_wt u, m_se u, m_cn u), rfl, ⟨(by unfold m_bit_r; rw [if_pos c_1, if_neg c_8]), (by unfold m_bit; rw [if_pos c_1, if_neg c_8])⟩, by rw [ht]; exact hP9, va_K.moved hW.alike hK, hD9⟩, hS.F ht⟩) hS.2.2 dX1_bit_45
    · refine lv_aload_n hx hb dX1_bit_37 rfl (lv_at hl 0 rfl) ?_
      have hPc : va_P (dC, dI) vwCl (m_W qm pb pr pv pw ps pc cI (m_th u, m_st u, m_md u, m_mn u + 1, m_rw u, m_sz u, m_wn u, m_sn u, upd (m_bi u) (m_mn u) a0, m_ro u, m_rc u, m_wt u, m_se u, m_cn u)) H := hP
      have hDc : va_D A (m_W qm pb pr pv pw ps pc cI (m_th u, m_st u, m_md u, m_mn u + 1, m_rw u, m_sz u, m_wn u, m_sn u, upd (m_bi u) (m_mn u) a0, m_ro u, m_rc u, m_wt u, m_se u, m_cn u)) := hD
      have hFc := va_free (wc := (m_W qm pb pr pv pw ps pc cI (m_th u, m_st u, m_md u, m_mn u + 1, m_rw u, m_sz u, m_wn u, m_sn u, upd (m_bi u) (m_mn u) a0, m_ro u, m_rc u, m_wt u, m_se u, m_cn u))) hD hS hA [0, 1, 2, 3, 4, 5, 6] rfl
      refine va_calli (va_runV (As := []) (rest := []) ⟨hx, hb, hml, hown, hts⟩ (kX1_block l dC dI qm pb pr pv pw ps pc cI H.size (m_th u, m_st u, m_md u, m_mn u + 1, m_rw u, m_sz u, m_wn u, m_sn u, upd (m_bi u) (m_mn u) a0, m_ro u, m_rc u, m_wt u, m_se u, m_cn u)  hrw) (cwV 0 hts gM_X1_block rfl rfl rfl (by decide +kernel) ⟨Nat.le_of_ble_eq_true rfl, Nat.le_of_ble_eq_true rfl⟩) ⟨fun a U g mk q => by obtain ⟨q0, q1, qP, qK, qD⟩ := q; exact ⟨q0, q1, qP, va_K.moved (u := U) (U := U.calling g mk a) (Vm.Alike.refl U.vm) qK, qD⟩, va_recv hK hP (ci := 1) (q0 := 0) rfl rfl, fun U hU hW => ⟨rfl, by rw [hU], by rw [hU]; exact hPc, va_K.moved hW.alike hK, hDc.weaken (fun _ _ _ _ => trivial)⟩⟩ rfl rfl hl.1 rfl (lv_room (Nat.le_of_ble_eq_true rfl)) dX1_bit_38 ⟨Nat.le_of_ble_eq_true rfl, Nat.le_of_ble_eq_true rfl⟩) hS (fun q _ h => hFc q h) hFc (fun r_10 u_9 t H1 locs ht hvm hu_9 hB hz1 hk1 hS => ?_)
      obtain ⟨hP1, -, hD1⟩ := hB
      rw [ht] at hP1
      obtain ⟨hr_10, hu_9⟩ := hu_9
      subst hr_10
      have hP : va_P (dC, dI) vwCl [(qm, .inr (1, [.int (m_th u_9), .int (m_st u_9), .int (m_md u_9), .ref pb, .int (nI (m_mn u_9)), .ref pr, .int (nI (m_rw u_9)), .ref pv, .int (nI (m_sz u_9)), .ref pw, .int (nI (m_wn u_9)), .ref ps, .int (nI (m_sn u_9)), .ref pc])), (pb, .inl (cI, 64, .inl (m_bi u_9))), (pr, .inl (cI, 259, .inl (m_ro u_9))), (pv, .inl (cI, 259, .inl (m_rc u_9))), (pw, .inl (cI, 259, .inl (m_wt u_9))), (ps, .inl (cI, 306, .inl (m_se u_9))), (pc, .inl (cI, 5, .inl (m_cn u_9)))] H1 := hP1
      have hD : va_D A [(qm, .inr (1, [.int (m_th u_9), .int (m_st u_9), .int (m_md u_9), .ref pb, .int (nI (m_mn u_9)), .ref pr, .int (nI (m_rw u_9)), .ref pv, .int (nI (m_sz u_9)), .ref pw, .int (nI (m_wn u_9)), .ref ps, .int (nI (m_sn u_9)), .ref pc])), (pb, .inl (cI, 64, .inl (m_bi u_9))), (pr, .inl (cI, 259, .inl (m_ro u_9))), (pv, .inl (cI, 259, .inl (m_rc u_9))), (pw, .inl (cI, 259, .inl (m_wt u_9))), (ps, .inl (cI, 306, .inl (m_se u_9))), (pc, .inl (cI, 5, .inl (m_cn u_9)))] := hD1.weaken (fun k q _ h => hFc q.1 h)
      generalize H1 = H at hP hS ⊢
      refine lv_goto (tgt := 45) hx hb dX1_bit_41 (by decide) ?_
      have hP9 : va_P (dC, dI) vwCl (m_W qm pb pr pv pw ps pc cI u_9) H := hP
      have hD9 : va_D A (m_W qm pb pr pv pw ps pc cI u_9) := hD
      exact W.iret (v := m_block_r (m_th u, m_st u, m_md u, m_mn u + 1, m_rw u, m_sz u, m_wn u, m_sn u, upd (m_bi u) (m_mn u) a0, m_ro u, m_rc u, m_wt u, m_se u, m_cn u) ) hx hb hr (fun t ht hW => ⟨⟨_, u_9, rfl, ⟨(by subst hu_9; unfold m_bit_r; rw [if_pos c_1, if_pos c_8]), (by subst hu_9; unfold m_bit; rw [if_pos c_1, if_pos c_8])⟩, by rw [ht]; exact hP9, va_K.moved hW.alike hK, hD9⟩, hS.F ht⟩) hS.2.2 dX1_bit_45
