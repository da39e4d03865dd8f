abbrev rmX1_block : Room := { frames := 2, cells := 0, slots := 0, locals := 46 }
def m_biF (u : m_S) (w : Int32) (k : Nat) : Nat → Nat → Int32 → Int32
  | 0, _, b => b
  | n + 1, i, b => m_biF u w k n (i + 1) ((2 * b) + (((m_bi u) (8 * k + i)) ^^^ (if nI (8 * k + i) = w then 1 else 0)))
def m_blF (w : Int32) : Nat → Nat → m_S → m_S
  | 0, _, u => u
  | n + 1, k, u => m_blF w n (k + 1) (m_th u, m_st u, m_md u, m_mn u, m_rw u + 1, m_sz u, m_wn u, m_sn u, m_bi u, upd (m_ro u) (m_rw u) (m_biF u w k 8 0 0), m_rc u, m_wt u, m_se u, m_cn u)
theorem m_bl_rw (w : Int32) : ∀ (n k : Nat) (u : m_S), m_rw (m_blF w n k u) = m_rw u + n := by
  intro n
  induction n with
  | zero => intro k u; rfl
  | succ n ih => intro k u; rw [m_blF, ih]; show m_rw u + 1 + n = m_rw u + (n + 1); omega
set_option maxHeartbeats 4000000 in
set_option maxRecDepth 100000 in
theorem lpX1_blockI {p : Program} {l : Launch} {e : Env} {s : State} {m : MethodId} {args : Array Value} {below : List Frame} {meth : Method} {c : Code} {H : Heap} {locs : List Loc} {Q : State → Prop} (dC : Nat → ClassId) (dI : Nat → Nat → Nat) (qm pb pr pv pw ps pc : Nat) (cI : ClassId) (w : Int32) (k : Nat) (hk7 : k < 7) (hx : p.tables.exec = Jvm.exec) (hb : c.code = cX1_block) (hml : c.maxLocals = 5) (hown : s.vm.findClass RX1 = some m.cls) (hts : ∀ w ∈ vX1_block, w.before args s = true) (u : m_S) (hP : va_P (dC, dI) vwCl (m_W qm pb pr pv pw ps pc cI u) H) (hK : va_K (dC, dI) vwCl [(cI, .int)] s) : ∀ (n : Nat) (i : Nat) (b : Int32) (ls : Array Slot), i + n = 8 → lv_has ls 5 [(0, .ref qm), (1, .int w), (2, .int (nI k)), (3, .int b), (4, .int (nI (8 * k + i)))] → (∀ (ls : Array Slot), lv_has ls 5 [(0, .ref qm), (1, .int w), (2, .int (nI k)), (3, .int (m_biF u w k n i b))] → W p l e (headSpec vX1_block rmX1_block).room s m args below meth c H locs 0 0 Q (F0 m 75 ls [])) → W p l e (headSpec vX1_block rmX1_block).room s m args below meth c H locs 0 0 Q (F0 m 33 ls []) := by
  have hinT : ∀ w ∈ wsX10, w ∈ vX1_block := fun w h => List.mem_cons_of_mem _ (inM w h)
  have hP : va_P (dC, dI) vwCl [(qm, .inr (1, [.int (m_th u), .int (m_st u), .int (m_md u), .ref pb, .int (nI (m_mn u)), .ref pr, .int (nI (m_rw u)), .ref pv, .int (nI (m_sz u)), .ref pw, .int (nI (m_wn u)), .ref ps, .int (nI (m_sn u)), .ref pc])), (pb, .inl (cI, 64, .inl (m_bi u))), (pr, .inl (cI, 259, .inl (m_ro u))), (pv, .inl (cI, 259, .inl (m_rc u))), (pw, .inl (cI, 259, .inl (m_wt u))), (ps, .inl (cI, 306, .inl (m_se u))), (pc, .inl (cI, 5, .inl (m_cn u)))] H := hP
  intro n
  induction n with
  | zero =>
    intro i b ls hn hl kk
    have hi : i = 8 := by omega
    subst hi
    have hl : lv_has ls 5 [(0, .ref qm), (1, .int w), (2, .int (nI k)), (3, .int b), (4, .int (nI (8 * k + 8)))] := hl
    refine lv_iload hx hb dX1_block_33 (lv_at hl 4 rfl) ?_
    refine lv_bipush (v := 8) hx hb dX1_block_35 (by decide) ?_
    refine lv_iload_n hx hb dX1_block_37 rfl (lv_at hl 2 rfl) ?_
    refine lv_imul hx hb dX1_block_38 ?_
    refine W.eq (congrArg (fun z => F0 m 39 ls (.int z :: [.int (nI (8 * k + 8))])) (show 8 * (nI k) = nI (8 * k) from (pk_mul _ _))) ?_
    refine lv_bipush (v := 8) hx hb dX1_block_39 (by decide) ?_
    refine lv_iadd hx hb dX1_block_41 ?_
    refine W.eq (congrArg (fun z => F0 m 42 ls (.int z :: [.int (nI (8 * k + 8))])) (show (nI (8 * k)) + 8 = nI ((8 * k) + 8) from (nI_add _ _))) ?_
    refine lv_icmp_ge (tgt := 75) hx hb dX1_block_42 (by decide) (fun c_1 => ?_) (fun c_1 => absurd (nI_le (Nat.le_refl _) (by omega)) c_1)
    exact kk ls (lv_sub hl [0, 1, 2, 3] rfl)
  | succ n ih =>
    intro i b ls hn hl kk
    have hl : lv_has ls 5 [(0, .ref qm), (1, .int w), (2, .int (nI k)), (3, .int b), (4, .int (nI (8 * k + i)))] := hl
    refine lv_iload hx hb dX1_block_33 (lv_at hl 4 rfl) ?_
    refine lv_bipush (v := 8) hx hb dX1_block_35 (by decide) ?_
    refine lv_iload_n hx hb dX1_block_37 rfl (lv_at hl 2 rfl) ?_
    refine lv_imul hx hb dX1_block_38 ?_
    refine W.eq (congrArg (fun z => F0 m 39 ls (.int z :: [.int (nI (8 * k + i))])) (show 8 * (nI k) = nI (8 * k) from (pk_mul _ _))) ?_
    refine lv_bipush (v := 8) hx hb dX1_block_39 (by decide) ?_
    refine lv_iadd hx hb dX1_block_41 ?_
    refine W.eq (congrArg (fun z => F0 m 42 ls (.int z :: [.int (nI (8 * k + i))])) (show (nI (8 * k)) + 8 = nI ((8 * k) + 8) from (nI_add _ _))) ?_
    refine lv_icmp_ge (tgt := 75) hx hb dX1_block_42 (by decide) (fun c_1 => absurd c_1 (nI_ge (by omega) (by omega))) (fun c_1 => ?_)
    refine lv_iconst (v := 2) hx hb dX1_block_45 (by decide) ?_
    refine lv_iload_n hx hb dX1_block_46 rfl (lv_at hl 3 rfl) ?_
    refine lv_imul hx hb dX1_block_47 ?_
    refine lv_aload_n hx hb dX1_block_48 rfl (lv_at hl 0 rfl) ?_
    refine va_get (D := (dC, dI)) (ci := 1) (v := .ref pb) (C := RX1) (T := TX1) (N := 14) hx hb hts hinT hown hK hP 0 rfl rfl 3 (by decide) (hts _ (List.mem_cons_of_mem _ fl_7)) (fun _ h9 => h9) rfl dX1_block_49 ?_
    refine lv_iload hx hb dX1_block_52 (lv_at hl 4 rfl) ?_
    refine va_iald hx hb hK hP 1 0 rfl rfl (vp_in_nI (by omega) (by decide)) dX1_block_54 ?_
    refine W.eq (g2 := F0 m 55 ls [.int ((m_bi u) (8 * k + i)), .int (2 * b)]) (by rw [nI_clamp (by omega)]) ?_
    refine lv_iload hx hb dX1_block_55 (lv_at hl 4 rfl) ?_
    refine lv_iload_n hx hb dX1_block_57 rfl (lv_at hl 1 rfl) ?_
    refine lv_icmp_ne (tgt := 65) hx hb dX1_block_58 (by decide) (fun c_2 => ?_) (fun c_2 => ?_)
    · refine lv_iconst (v := 0) hx hb dX1_block_65 (by decide) ?_
      refine lv_ixor hx hb dX1_block_66 ?_
      refine lv_iadd hx hb dX1_block_67 ?_
      refine lv_istore_n (lv' := [(3, .int ((2 * b) + (((m_bi u) (8 * k + i)) ^^^ 0))), (0, .ref qm), (1, .int w), (2, .int (nI k)), (4, .int (nI (8 * k + i)))]) hx hb dX1_block_68 rfl hl (by decide) rfl (fun ls hl => ?_)
      refine lv_iinc (v := nI (8 * k + (i + 1))) (lv' := [(4, .int (nI (8 * k + (i + 1)))), (3, .int ((2 * b) + (((m_bi u) (8 * k + i)) ^^^ 0))), (0, .ref qm), (1, .int w), (2, .int (nI k))]) hx hb dX1_block_69 hl (k := 4) rfl (show nI (8 * k + i) + nI 1 = nI (8 * k + (i + 1)) from (by rw [nI_add]; rfl)) (by decide) rfl (fun ls hl => ?_)
      refine lv_goto (tgt := 33) hx hb dX1_block_72 (by decide) ?_
      have eF : m_biF u w k (n + 1) i b = m_biF u w k n (i + 1) ((2 * b) + (((m_bi u) (8 * k + i)) ^^^ 0)) := by rw [m_biF, if_neg c_2]
      exact ih (i + 1) ((2 * b) + (((m_bi u) (8 * k + i)) ^^^ 0)) ls (by omega) (lv_sub hl [2, 3, 4, 1, 0] rfl) (fun ls hl => kk ls (by rw [eF]; exact hl))
    · refine lv_iconst (v := 1) hx hb dX1_block_61 (by decide) ?_
      refine lv_goto (tgt := 66) hx hb dX1_block_62 (by decide) ?_
      refine lv_ixor hx hb dX1_block_66 ?_
      refine lv_iadd hx hb dX1_block_67 ?_
      refine lv_istore_n (lv' := [(3, .int ((2 * b) + (((m_bi u) (8 * k + i)) ^^^ 1))), (0, .ref qm), (1, .int w), (2, .int (nI k)), (4, .int (nI (8 * k + i)))]) hx hb dX1_block_68 rfl hl (by decide) rfl (fun ls hl => ?_)
      refine lv_iinc (v := nI (8 * k + (i + 1))) (lv' := [(4, .int (nI (8 * k + (i + 1)))), (3, .int ((2 * b) + (((m_bi u) (8 * k + i)) ^^^ 1))), (0, .ref qm), (1, .int w), (2, .int (nI k))]) hx hb dX1_block_69 hl (k := 4) rfl (show nI (8 * k + i) + nI 1 = nI (8 * k + (i + 1)) from (by rw [nI_add]; rfl)) (by decide) rfl (fun ls hl => ?_)
      refine lv_goto (tgt := 33) hx hb dX1_block_72 (by decide) ?_
      have eF : m_biF u w k (n + 1) i b = m_biF u w k n (i + 1) ((2 * b) + (((m_bi u) (8 * k + i)) ^^^ 1)) := by rw [m_biF, if_pos c_2]
      exact ih (i + 1) ((2 * b) + (((m_bi u) (8 * k + i)) ^^^ 1)) ls (by omega) (lv_sub hl [2, 3, 4, 1, 0] rfl) (fun ls hl => kk ls (by rw [eF]; exact hl))
set_option maxHeartbeats 4000000 in
set_option maxRecDepth 100000 in
theorem lpX1_blockO {p : Program} {l : Launch} {e : Env} {s : State} {m : MethodId} {args : Array Value} {below : List Frame} {meth : Method} {c : Code} {Q : State → Prop} (dC : Nat → ClassId) (dI : Nat → Nat → Nat) (qm pb pr pv pw ps pc : Nat) (cI : ClassId) (w : Int32) (hx : p.tables.exec = Jvm.exec) (hb : c.code = cX1_block) (hml : c.maxLocals = 5) (hown : s.vm.findClass RX1 = some m.cls) (hts : ∀ w ∈ vX1_block, w.before args s = true) (A : Nat → Prop) (hA : ∀ q : Nat, s.heap.size ≤ q → A q) (hK : va_K (dC, dI) vwCl [(cI, .int)] s) : ∀ (n : Nat) (u : m_S) (k : Nat) (H : Heap) (locs : List Loc) (ls : Array Slot), k + n = 7 → m_rw u + n ≤ 259 → va_P (dC, dI) vwCl (m_W qm pb pr pv pw ps pc cI u) H → va_D A (m_W qm pb pr pv pw ps pc cI u) → va_S A s.heap H locs → lv_has ls 5 [(0, .ref qm), (1, .int w), (2, .int (nI k))] → (∀ (H : Heap) (locs : List Loc) (ls : Array Slot), va_P (dC, dI) vwCl (m_W qm pb pr pv pw ps pc cI (m_blF w n k u)) H → va_D A (m_W qm pb pr pv pw ps pc cI (m_blF w n k u)) → va_S A s.heap H locs → lv_has ls 5 [(0, .ref qm), (1, .int w)] → W p l e (headSpec vX1_block rmX1_block).room s m args below meth c H locs 0 0 Q (F0 m 101 ls [])) → W p l e (headSpec vX1_block rmX1_block).room s m args below meth c H locs 0 0 Q (F0 m 19 ls []) := by
  have hinT : ∀ w ∈ wsX10, w ∈ vX1_block := fun w h => List.mem_cons_of_mem _ (inM w h)
  intro n
  induction n with
  | zero =>
    intro u k H locs ls hn hrw hP hD hS hl kk
    have hk : k = 7 := by omega
    subst hk
    have hP : va_P (dC, dI) vwCl [(qm, .inr (1, [.int (m_th u), .int (m_st u), .int (m_md u), .ref pb, .int (nI (m_mn u)), .ref pr, .int (nI (m_rw u)), .ref pv, .int (nI (m_sz u)), .ref pw, .int (nI (m_wn u)), .ref ps, .int (nI (m_sn u)), .ref pc])), (pb, .inl (cI, 64, .inl (m_bi u))), (pr, .inl (cI, 259, .inl (m_ro u))), (pv, .inl (cI, 259, .inl (m_rc u))), (pw, .inl (cI, 259, .inl (m_wt u))), (ps, .inl (cI, 306, .inl (m_se u))), (pc, .inl (cI, 5, .inl (m_cn u)))] H := hP
    have hD : va_D A [(qm, .inr (1, [.int (m_th u), .int (m_st u), .int (m_md u), .ref pb, .int (nI (m_mn u)), .ref pr, .int (nI (m_rw u)), .ref pv, .int (nI (m_sz u)), .ref pw, .int (nI (m_wn u)), .ref ps, .int (nI (m_sn u)), .ref pc])), (pb, .inl (cI, 64, .inl (m_bi u))), (pr, .inl (cI, 259, .inl (m_ro u))), (pv, .inl (cI, 259, .inl (m_rc u))), (pw, .inl (cI, 259, .inl (m_wt u))), (ps, .inl (cI, 306, .inl (m_se u))), (pc, .inl (cI, 5, .inl (m_cn u)))] := hD
    have hl : lv_has ls 5 [(0, .ref qm), (1, .int w), (2, .int (nI 7))] := hl
    refine lv_iload_n hx hb dX1_block_19 rfl (lv_at hl 2 rfl) ?_
    refine lv_bipush (v := 7) hx hb dX1_block_20 (by decide) ?_
    refine lv_icmp_ge (tgt := 101) hx hb dX1_block_22 (by decide) (fun c_1 => ?_) (fun c_1 => absurd (by decide) c_1)
    exact kk H locs ls hP hD hS (lv_sub hl [0, 1] rfl)
  | succ n ih =>
    intro u k H locs ls hn hrw hP hD hS hl kk
    have hP : va_P (dC, dI) vwCl [(qm, .inr (1, [.int (m_th u), .int (m_st u), .int (m_md u), .ref pb, .int (nI (m_mn u)), .ref pr, .int (nI (m_rw u)), .ref pv, .int (nI (m_sz u)), .ref pw, .int (nI (m_wn u)), .ref ps, .int (nI (m_sn u)), .ref pc])), (pb, .inl (cI, 64, .inl (m_bi u))), (pr, .inl (cI, 259, .inl (m_ro u))), (pv, .inl (cI, 259, .inl (m_rc u))), (pw, .inl (cI, 259, .inl (m_wt u))), (ps, .inl (cI, 306, .inl (m_se u))), (pc, .inl (cI, 5, .inl (m_cn u)))] H := hP
    have hD : va_D A [(qm, .inr (1, [.int (m_th u), .int (m_st u), .int (m_md u), .ref pb, .int (nI (m_mn u)), .ref pr, .int (nI (m_rw u)), .ref pv, .int (nI (m_sz u)), .ref pw, .int (nI (m_wn u)), .ref ps, .int (nI (m_sn u)), .ref pc])), (pb, .inl (cI, 64, .inl (m_bi u))), (pr, .inl (cI, 259, .inl (m_ro u))), (pv, .inl (cI, 259, .inl (m_rc u))), (pw, .inl (cI, 259, .inl (m_wt u))), (ps, .inl (cI, 306, .inl (m_se u))), (pc, .inl (cI, 5, .inl (m_cn u)))] := hD
    have hl : lv_has ls 5 [(0, .ref qm), (1, .int w), (2, .int (nI k))] := hl
    refine lv_iload_n hx hb dX1_block_19 rfl (lv_at hl 2 rfl) ?_
    refine lv_bipush (v := 7) hx hb dX1_block_20 (by decide) ?_
    refine lv_icmp_ge (tgt := 101) hx hb dX1_block_22 (by decide) (fun c_1 => absurd c_1 (show ¬ nI 7 ≤ nI k from nI_ge (by omega) (by decide))) (fun c_1 => ?_)
    refine lv_iconst (v := 0) hx hb dX1_block_25 (by decide) ?_
    refine lv_istore_n (lv' := [(3, .int 0), (0, .ref qm), (1, .int w), (2, .int (nI k))]) hx hb dX1_block_26 rfl hl (by decide) rfl (fun ls hl => ?_)
    refine lv_bipush (v := 8) hx hb dX1_block_27 (by decide) ?_
    refine lv_iload_n hx hb dX1_block_29 rfl (lv_at hl 3 rfl) ?_
    refine lv_imul hx hb dX1_block_30 ?_
    refine W.eq (congrArg (fun z => F0 m 31 ls (.int z :: [])) (show 8 * (nI k) = nI (8 * k) from (pk_mul _ _))) ?_
    refine lv_istore (lv' := [(4, .int (nI (8 * k))), (3, .int 0), (0, .ref qm), (1, .int w), (2, .int (nI k))]) hx hb dX1_block_31 hl (by decide) rfl (fun ls hl => ?_)
    refine lpX1_blockI (l := l) dC dI qm pb pr pv pw ps pc cI w k (by omega) hx hb hml hown hts u hP hK 8 0 0 ls rfl (lv_sub hl [2, 3, 4, 1, 0] rfl) (fun ls hl => ?_)
    refine lv_aload_n hx hb dX1_block_75 rfl (lv_at hl 0 rfl) ?_
    refine va_get (D := (dC, dI)) (ci := 1) (v := .ref pr) (C := RX1) (T := TX1) (N := 14) hx hb hts hinT hown hK hP 0 rfl rfl 5 (by decide) (hts _ (List.mem_cons_of_mem _ fl_13)) (fun _ h9 => h9) rfl dX1_block_76 ?_
    refine lv_aload_n hx hb dX1_block_79 rfl (lv_at hl 0 rfl) ?_
    refine va_get (D := (dC, dI)) (ci := 1) (v := .int (nI (m_rw u))) (C := RX1) (T := TX1) (N := 14) hx hb hts hinT hown hK hP 0 rfl rfl 6 (by decide) (hts _ (List.mem_cons_of_mem _ fl_46)) (fun _ h9 => h9) rfl dX1_block_80 ?_
    refine lv_iload_n hx hb dX1_block_83 rfl (lv_at hl 3 rfl) ?_
    refine va_iast hx hb hK hP hD hS 2 0 rfl rfl (vp_in_nI (by omega) (by decide)) dX1_block_84 (fun H locs hP hD hS => ?_)
    rw [show (nI (m_rw u) : Int32).toNatClampNeg = m_rw u from (nI_clamp (by omega))] at hP hD
    have hP : va_P (dC, dI) vwCl [(qm, .inr (1, [.int (m_th u), .int (m_st u), .int (m_md u), .ref pb, .int (nI (m_mn u)), .ref pr, .int (nI (m_rw u)), .ref pv, .int (nI (m_sz u)), .ref pw, .int (nI (m_wn u)), .ref ps, .int (nI (m_sn u)), .ref pc])), (pb, .inl (cI, 64, .inl (m_bi u))), (pr, .inl (cI, 259, .inl (upd (m_ro u) (m_rw u) (m_biF u w k 8 0 0)))), (pv, .inl (cI, 259, .inl (m_rc u))), (pw, .inl (cI, 259, .inl (m_wt u))), (ps, .inl (cI, 306, .inl (m_se u))), (pc, .inl (cI, 5, .inl (m_cn u)))] H := hP
    have hD : va_D A [(qm, .inr (1, [.int (m_th u), .int (m_st u), .int (m_md u), .ref pb, .int (nI (m_mn u)), .ref pr, .int (nI (m_rw u)), .ref pv, .int (nI (m_sz u)), .ref pw, .int (nI (m_wn u)), .ref ps, .int (nI (m_sn u)), .ref pc])), (pb, .inl (cI, 64, .inl (m_bi u))), (pr, .inl (cI, 259, .inl (upd (m_ro u) (m_rw u) (m_biF u w k 8 0 0)))), (pv, .inl (cI, 259, .inl (m_rc u))), (pw, .inl (cI, 259, .inl (m_wt u))), (ps, .inl (cI, 306, .inl (m_se u))), (pc, .inl (cI, 5, .inl (m_cn u)))] := hD
    refine lv_aload_n hx hb dX1_block_85 rfl (lv_at hl 0 rfl) ?_
    refine lv_dup hx hb dX1_block_86 rfl ?_
    refine va_get (D := (dC, dI)) (ci := 1) (v := .int (nI (m_rw u))) (C := RX1) (T := TX1) (N := 14) hx hb hts hinT hown hK hP 0 rfl rfl 6 (by decide) (hts _ (List.mem_cons_of_mem _ fl_46)) (fun _ h9 => h9) rfl dX1_block_87 ?_
    refine lv_iconst (v := 1) hx hb dX1_block_90 (by decide) ?_
    refine lv_iadd hx hb dX1_block_91 ?_
    refine W.eq (congrArg (fun z => F0 m 92 ls (.int z :: [.ref qm])) (show (nI (m_rw u)) + 1 = nI (m_rw u + 1) from (nI_add _ _))) ?_
    refine va_put (D := (dC, dI)) (ci := 1) (v := .int (nI (m_rw u + 1))) (ty := .int) (C := RX1) (T := TX1) (N := 14) hx hb hts hinT tyX1 tyX1_ok nmX1 hown hK hP hD hS 0 rfl rfl 6 (by decide) (hts _ (List.mem_cons_of_mem _ fl_46)) (fun _ h9 => h9) rfl (by decide +kernel) rfl rfl (Nat.le_of_ble_eq_true rfl) dX1_block_92 (fun H locs hP hD hS => ?_)
    have hP : va_P (dC, dI) vwCl [(qm, .inr (1, [.int (m_th u), .int (m_st u), .int (m_md u), .ref pb, .int (nI (m_mn u)), .ref pr, .int (nI (m_rw u + 1)), .ref pv, .int (nI (m_sz u)), .ref pw, .int (nI (m_wn u)), .ref ps, .int (nI (m_sn u)), .ref pc])), (pb, .inl (cI, 64, .inl (m_bi u))), (pr, .inl (cI, 259, .inl (upd (m_ro u) (m_rw u) (m_biF u w k 8 0 0)))), (pv, .inl (cI, 259, .inl (m_rc u))), (pw, .inl (cI, 259, .inl (m_wt u))), (ps, .inl (cI, 306, .inl (m_se u))), (pc, .inl (cI, 5, .inl (m_cn u)))] H := hP
    have hD : va_D A [(qm, .inr (1, [.int (m_th u), .int (m_st u), .int (m_md u), .ref pb, .int (nI (m_mn u)), .ref pr, .int (nI (m_rw u + 1)), .ref pv, .int (nI (m_sz u)), .ref pw, .int (nI (m_wn u)), .ref ps, .int (nI (m_sn u)), .ref pc])), (pb, .inl (cI, 64, .inl (m_bi u))), (pr, .inl (cI, 259, .inl (upd (m_ro u) (m_rw u) (m_biF u w k 8 0 0)))), (pv, .inl (cI, 259, .inl (m_rc u))), (pw, .inl (cI, 259, .inl (m_wt u))), (ps, .inl (cI, 306, .inl (m_se u))), (pc, .inl (cI, 5, .inl (m_cn u)))] := hD
    refine lv_iinc (v := nI (k + 1)) (lv' := [(2, .int (nI (k + 1))), (0, .ref qm), (1, .int w), (3, .int (m_biF u w k 8 0 0))]) hx hb dX1_block_95 hl (k := 2) rfl (show nI k + nI 1 = nI (k + 1) from nI_add _ _) (by decide) rfl (fun ls hl => ?_)
    refine lv_goto (tgt := 19) hx hb dX1_block_98 (by decide) ?_
    have eF : m_blF w (n + 1) k u = m_blF w n (k + 1) (m_th u, m_st u, m_md u, m_mn u, m_rw u + 1, m_sz u, m_wn u, m_sn u, m_bi u, upd (m_ro u) (m_rw u) (m_biF u w k 8 0 0), m_rc u, m_wt u, m_se u, m_cn u) := by rw [m_blF]
    exact ih (m_th u, m_st u, m_md u, m_mn u, m_rw u + 1, m_sz u, m_wn u, m_sn u, m_bi u, upd (m_ro u) (m_rw u) (m_biF u w k 8 0 0), m_rc u, m_wt u, m_se u, m_cn u) (k + 1) H locs ls (by omega) (show m_rw u + 1 + n ≤ 259 from by omega) hP hD hS (lv_sub hl [1, 2, 0] rfl) (fun H locs ls hP hD hS hl => kk H locs ls (by rw [eF]; exact hP) (by rw [eF]; exact hD) hS (by exact hl))
def m_block (u : m_S)  : m_S := if (m_wrong u) = (-2) then (m_ends u) else (if (m_wrong u) < 0 then (if (nI (m_rw (m_blF (m_wrong u) 7 0 u))) = 259 then (m_ends (m_th (m_blF (m_wrong u) 7 0 u), m_st (m_blF (m_wrong u) 7 0 u), m_md (m_blF (m_wrong u) 7 0 u), 0, m_rw (m_blF (m_wrong u) 7 0 u), m_sz (m_blF (m_wrong u) 7 0 u), m_wn (m_blF (m_wrong u) 7 0 u), m_sn (m_blF (m_wrong u) 7 0 u), m_bi (m_blF (m_wrong u) 7 0 u), m_ro (m_blF (m_wrong u) 7 0 u), m_rc (m_blF (m_wrong u) 7 0 u), m_wt (m_blF (m_wrong u) 7 0 u), m_se (m_blF (m_wrong u) 7 0 u), upd (upd (m_cn (m_blF (m_wrong u) 7 0 u)) 2 (((m_cn (m_blF (m_wrong u) 7 0 u)) 2) + 1)) 3 (((upd (m_cn (m_blF (m_wrong u) 7 0 u)) 2 (((m_cn (m_blF (m_wrong u) 7 0 u)) 2) + 1)) 3) + 0))) else (m_th (m_blF (m_wrong u) 7 0 u), m_st (m_blF (m_wrong u) 7 0 u), m_md (m_blF (m_wrong u) 7 0 u), 0, m_rw (m_blF (m_wrong u) 7 0 u), m_sz (m_blF (m_wrong u) 7 0 u), m_wn (m_blF (m_wrong u) 7 0 u), m_sn (m_blF (m_wrong u) 7 0 u), m_bi (m_blF (m_wrong u) 7 0 u), m_ro (m_blF (m_wrong u) 7 0 u), m_rc (m_blF (m_wrong u) 7 0 u), m_wt (m_blF (m_wrong u) 7 0 u), m_se (m_blF (m_wrong u) 7 0 u), upd (upd (m_cn (m_blF (m_wrong u) 7 0 u)) 2 (((m_cn (m_blF (m_wrong u) 7 0 u)) 2) + 1)) 3 (((upd (m_cn (m_blF (m_wrong u) 7 0 u)) 2 (((m_cn (m_blF (m_wrong u) 7 0 u)) 2) + 1)) 3) + 0))) else (if (nI (m_rw (m_blF (m_wrong u) 7 0 u))) = 259 then (m_ends (m_th (m_blF (m_wrong u) 7 0 u), m_st (m_blF (m_wrong u) 7 0 u), m_md (m_blF (m_wrong u) 7 0 u), 0, m_rw (m_blF (m_wrong u) 7 0 u), m_sz (m_blF (m_wrong u) 7 0 u), m_wn (m_blF (m_wrong u) 7 0 u), m_sn (m_blF (m_wrong u) 7 0 u), m_bi (m_blF (m_wrong u) 7 0 u), m_ro (m_blF (m_wrong u) 7 0 u), m_rc (m_blF (m_wrong u) 7 0 u), m_wt (m_blF (m_wrong u) 7 0 u), m_se (m_blF (m_wrong u) 7 0 u), upd (upd (m_cn (m_blF (m_wrong u) 7 0 u)) 2 (((m_cn (m_blF (m_wrong u) 7 0 u)) 2) + 1)) 3 (((upd (m_cn (m_blF (m_wrong u) 7 0 u)) 2 (((m_cn (m_blF (m_wrong u) 7 0 u)) 2) + 1)) 3) + 1))) else (m_th (m_blF (m_wrong u) 7 0 u), m_st (m_blF (m_wrong u) 7 0 u), m_md (m_blF (m_wrong u) 7 0 u), 0, m_rw (m_blF (m_wrong u) 7 0 u), m_sz (m_blF (m_wrong u) 7 0 u), m_wn (m_blF (m_wrong u) 7 0 u), m_sn (m_blF (m_wrong u) 7 0 u), m_bi (m_blF (m_wrong u) 7 0 u), m_ro (m_blF (m_wrong u) 7 0 u), m_rc (m_blF (m_wrong u) 7 0 u), m_wt (m_blF (m_wrong u) 7 0 u), m_se (m_blF (m_wrong u) 7 0 u), upd (upd (m_cn (m_blF (m_wrong u) 7 0 u)) 2 (((m_cn (m_blF (m_wrong u) 7 0 u)) 2) + 1)) 3 (((upd (m_cn (m_blF (m_wrong u) 7 0 u)) 2 (((m_cn (m_blF (m_wrong u) 7 0 u)) 2) + 1)) 3) + 1))))
def m_block_r (u : m_S)  : Int32 := if (m_wrong u) = (-2) then 1 else (if (m_wrong u) < 0 then (if (nI (m_rw (m_blF (m_wrong u) 7 0 u))) = 259 then 1 else 0) else (if (nI (m_rw (m_blF (m_wrong u) 7 0 u))) = 259 then 1 else 0))
set_option maxHeartbeats 4000000 in
set_option maxRecDepth 100000 in
theorem kX1_block (l : Launch) (dC : Nat → ClassId) (dI : Nat → Nat → Nat) (qm pb pr pv pw ps pc : Nat) (cI : ClassId) (sz : Nat) (u : m_S)  (hrw : m_rw u ≤ 252) : Met l yX1_block vX1_block rmX1_block (va_Pc [.ref qm] (fun U => U.heap.size = sz ∧ va_P (dC, dI) vwCl (m_W qm pb pr pv pw ps pc cI u) U.heap ∧ va_K (dC, dI) vwCl [(cI, .int)] U ∧ va_D (fun _ => True) (m_W qm pb pr pv pw ps pc cI u))) (va_Qi (fun r u2 => r = m_block_r u ∧ u2 = m_block u) (m_At dC dI (va_A (m_W qm pb pr pv pw ps pc cI u) sz) qm pb pr pv pw ps pc cI) (va_A (m_W qm pb pr pv pw ps pc cI u) sz)) 0 0 (va_A (m_W qm pb pr pv pw ps pc cI u) sz) := by
  refine Met.ofW (cc := cX1_block) (maxL := 5) (ret := some .int) (by decide) rfl ?_
  intro p e s m args below meth c s₁ B hml hv
  obtain ⟨rfl, hsz, hP, hK, hD0⟩ := hv
  have hx := B.exec
  have hb := B.bytes
  have hr := B.returns
  have hts := atoms_spec (ws := vX1_block) B.pre
  have hown : s.vm.findClass RX1 = some m.cls := findClass_of_methodNamed B.named
  have hlocks := B.notSynchronized
  have hinT : ∀ w ∈ wsX10, w ∈ vX1_block := fun w h => List.mem_cons_of_mem _ (inM w h)
  subst hsz
  have hD := hD0.self (sz := s.heap.size)
  generalize hAe : va_A (m_W qm pb pr pv pw ps pc cI u) s.heap.size = A at hD ⊢
  have hA : ∀ q : Nat, s.heap.size ≤ q → A q := fun q h => by rw [← hAe]; exact Or.inr h
  have hS : va_S A s.heap s.heap [] := va_S.rf
  have hD : va_D A [(qm, .inr (1, [.int (m_th u), .int (m_st u), .int (m_md u), .ref pb, .int (nI (m_mn u)), .ref pr, .int (nI (m_rw u)), .ref pv, .int (nI (m_sz u)), .ref pw, .int (nI (m_wn u)), .ref ps, .int (nI (m_sn u)), .ref pc])), (pb, .inl (cI, 64, .inl (m_bi u))), (pr, .inl (cI, 259, .inl (m_ro u))), (pv, .inl (cI, 259, .inl (m_rc u))), (pw, .inl (cI, 259, .inl (m_wt u))), (ps, .inl (cI, 306, .inl (m_se u))), (pc, .inl (cI, 5, .inl (m_cn u)))] := hD
  have hP : va_P (dC, dI) vwCl [(qm, .inr (1, [.int (m_th u), .int (m_st u), .int (m_md u), .ref pb, .int (nI (m_mn u)), .ref pr, .int (nI (m_rw u)), .ref pv, .int (nI (m_sz u)), .ref pw, .int (nI (m_wn u)), .ref ps, .int (nI (m_sn u)), .ref pc])), (pb, .inl (cI, 64, .inl (m_bi u))), (pr, .inl (cI, 259, .inl (m_ro u))), (pv, .inl (cI, 259, .inl (m_rc u))), (pw, .inl (cI, 259, .inl (m_wt u))), (ps, .inl (cI, 306, .inl (m_se u))), (pc, .inl (cI, 5, .inl (m_cn u)))] s.heap := hP
  have hl := lv_entry ([.ref qm]) (n := 5) (Nat.le_of_ble_eq_true rfl)
  rw [lg_entry_eq]
  generalize (lg_sl ([.ref qm]) ++ List.replicate (5 - (lg_sl ([.ref qm])).length) Slot.unset).toArray = ls at hl ⊢
  have hl : lv_has ls 5 [(0, .ref qm)] := hl
  refine lv_aload_n hx hb dX1_block_0 rfl (lv_at hl 0 rfl) ?_
  have hPc : va_P (dC, dI) vwCl (m_W qm pb pr pv pw ps pc cI u) s.heap := hP
  refine vp_callSi (va_runV (As := []) (rest := []) ⟨hx, hb, hml, hown, hts⟩ (kX1_wrong l dC dI qm pb pr pv pw ps pc cI u  ) (cwV 0 hts gM_X1_wrong rfl rfl rfl (by decide +kernel) ⟨Nat.le_of_ble_eq_true rfl, Nat.le_of_ble_eq_true rfl⟩) ⟨fun a U g mk q => by obtain ⟨q0, qP, qK⟩ := q; exact ⟨q0, qP, va_K.moved (u := U) (U := U.calling g mk a) (Vm.Alike.refl U.vm) qK⟩, va_recv hK hP (ci := 1) (q0 := 0) rfl rfl, fun U hU hW => ⟨rfl, by rw [hU]; exact hPc, va_K.moved hW.alike hK⟩⟩ rfl rfl hl.1 rfl (lv_room (Nat.le_of_ble_eq_true rfl)) dX1_block_1 ⟨Nat.le_of_ble_eq_true rfl, Nat.le_of_ble_eq_true rfl⟩).run (fun r_1 hr_1 => ?_)
  subst hr_1
  refine lv_istore_n (lv' := [(1, .int (m_wrong u)), (0, .ref qm)]) hx hb dX1_block_4 rfl hl (by decide) rfl (fun ls hl => ?_)
  refine lv_iload_n hx hb dX1_block_5 rfl (lv_at hl 0 rfl) ?_
  refine lv_bipush (v := (-2)) hx hb dX1_block_6 (by decide) ?_
  refine lv_icmp_ne (tgt := 17) hx hb dX1_block_8 (by decide) (fun c_2 => ?_) (fun c_2 => ?_)
  · refine lv_iconst (v := 0) hx hb dX1_block_17 (by decide) ?_
    refine lv_istore_n (lv' := [(2, .int 0), (1, .int (m_wrong u)), (0, .ref qm)]) hx hb dX1_block_18 rfl hl (by decide) rfl (fun ls hl => ?_)
    refine lpX1_blockO (l := l) dC dI qm pb pr pv pw ps pc cI (m_wrong u) hx hb hml hown hts A hA hK  7 u 0 s.heap [] ls rfl (show m_rw u + 7 ≤ 259 from by omega) hP hD hS (lv_sub hl [2, 1, 0] rfl) (fun H locs ls hP hD hS hl => ?_)
    obtain ⟨v_3, hv_3⟩ : ∃ z, z = m_blF (m_wrong u) 7 0 u := ⟨_, rfl⟩
    rw [← hv_3] at hP hD
    have hP : va_P (dC, dI) vwCl [(qm, .inr (1, [.int (m_th v_3), .int (m_st v_3), .int (m_md v_3), .ref pb, .int (nI (m_mn v_3)), .ref pr, .int (nI (m_rw v_3)), .ref pv, .int (nI (m_sz v_3)), .ref pw, .int (nI (m_wn v_3)), .ref ps, .int (nI (m_sn v_3)), .ref pc])), (pb, .inl (cI, 64, .inl (m_bi v_3))), (pr, .inl (cI, 259, .inl (m_ro v_3))), (pv, .inl (cI, 259, .inl (m_rc v_3))), (pw, .inl (cI, 259, .inl (m_wt v_3))), (ps, .inl (cI, 306, .inl (m_se v_3))), (pc, .inl (cI, 5, .inl (m_cn v_3)))] H := hP
    have hD : va_D A [(qm, .inr (1, [.int (m_th v_3), .int (m_st v_3), .int (m_md v_3), .ref pb, .int (nI (m_mn v_3)), .ref pr, .int (nI (m_rw v_3)), .ref pv, .int (nI (m_sz v_3)), .ref pw, .int (nI (m_wn v_3)), .ref ps, .int (nI (m_sn v_3)), .ref pc])), (pb, .inl (cI, 64, .inl (m_bi v_3))), (pr, .inl (cI, 259, .inl (m_ro v_3))), (pv, .inl (cI, 259, .inl (m_rc v_3))), (pw, .inl (cI, 259, .inl (m_wt v_3))), (ps, .inl (cI, 306, .inl (m_se v_3))), (pc, .inl (cI, 5, .inl (m_cn v_3)))] := hD
    refine lv_aload_n hx hb dX1_block_101 rfl (lv_at hl 0 rfl) ?_
    refine va_get (D := (dC, dI)) (ci := 1) (v := .ref pc) (C := RX1) (T := TX1) (N := 14) hx hb hts hinT hown hK hP 0 rfl rfl 13 (by decide) (hts _ (List.mem_cons_of_mem _ fl_25)) (fun _ h9 => h9) rfl dX1_block_102 ?_
    refine lv_iconst (v := 2) hx hb dX1_block_105 (by decide) ?_
    refine lv_dup2_11 hx hb dX1_block_106 rfl rfl ?_
    refine va_iald hx hb hK hP 6 0 rfl rfl (j_in (k := 2) rfl (by decide)) dX1_block_107 ?_
    refine W.eq (g2 := F0 m 108 ls [.int ((m_cn v_3) 2), .int 2, .ref pc]) rfl ?_
    refine lv_iconst (v := 1) hx hb dX1_block_108 (by decide) ?_
    refine lv_iadd hx hb dX1_block_109 ?_
    refine va_iast hx hb hK hP hD hS 6 0 rfl rfl (j_in (k := 2) rfl (by decide)) dX1_block_110 (fun H locs hP hD hS => ?_)
    rw [show (2 : Int32).toNatClampNeg = 2 from (by decide)] at hP hD
    have hP : va_P (dC, dI) vwCl [(qm, .inr (1, [.int (m_th v_3), .int (m_st v_3), .int (m_md v_3), .ref pb, .int (nI (m_mn v_3)), .ref pr, .int (nI (m_rw v_3)), .ref pv, .int (nI (m_sz v_3)), .ref pw, .int (nI (m_wn v_3)), .ref ps, .int (nI (m_sn v_3)), .ref pc])), (pb, .inl (cI, 64, .inl (m_bi v_3))), (pr, .inl (cI, 259, .inl (m_ro v_3))), (pv, .inl (cI, 259, .inl (m_rc v_3))), (pw, .inl (cI, 259, .inl (m_wt v_3))), (ps, .inl (cI, 306, .inl (m_se v_3))), (pc, .inl (cI, 5, .inl (upd (m_cn v_3) 2 (((m_cn v_3) 2) + 1))))] H := hP
    have hD : va_D A [(qm, .inr (1, [.int (m_th v_3), .int (m_st v_3), .int (m_md v_3), .ref pb, .int (nI (m_mn v_3)), .ref pr, .int (nI (m_rw v_3)), .ref pv, .int (nI (m_sz v_3)), .ref pw, .int (nI (m_wn v_3)), .ref ps, .int (nI (m_sn v_3)), .ref pc])), (pb, .inl (cI, 64, .inl (m_bi v_3))), (pr, .inl (cI, 259, .inl (m_ro v_3))), (pv, .inl (cI, 259, .inl (m_rc v_3))), (pw, .inl (cI, 259, .inl (m_wt v_3))), (ps, .inl (cI, 306, .inl (m_se v_3))), (pc, .inl (cI, 5, .inl (upd (m_cn v_3) 2 (((m_cn v_3) 2) + 1))))] := hD
    refine lv_aload_n hx hb dX1_block_111 rfl (lv_at hl 0 rfl) ?_
    refine va_get (D := (dC, dI)) (ci := 1) (v := .ref pc) (C := RX1) (T := TX1) (N := 14) hx hb hts hinT hown hK hP 0 rfl rfl 13 (by decide) (hts _ (List.mem_cons_of_mem _ fl_25)) (fun _ h9 => h9) rfl dX1_block_112 ?_
    refine lv_iconst (v := 3) hx hb dX1_block_115 (by decide) ?_
    refine lv_dup2_11 hx hb dX1_block_116 rfl rfl ?_
    refine va_iald hx hb hK hP 6 0 rfl rfl (j_in (k := 3) rfl (by decide)) dX1_block_117 ?_
    refine W.eq (g2 := F0 m 118 ls [.int ((upd (m_cn v_3) 2 (((m_cn v_3) 2) + 1)) 3), .int 3, .ref pc]) rfl ?_
    refine lv_iload_n hx hb dX1_block_118 rfl (lv_at hl 1 rfl) ?_
    refine lv_if_lt (tgt := 126) hx hb dX1_block_119 (by decide) (fun c_4 => ?_) (fun c_4 => ?_)
    · refine lv_iconst (v := 0) hx hb dX1_block_126 (by decide) ?_
      refine lv_iadd hx hb dX1_block_127 ?_
      refine va_iast hx hb hK hP hD hS 6 0 rfl rfl (j_in (k := 3) rfl (by decide)) dX1_block_128 (fun H locs hP hD hS => ?_)
      rw [show (3 : Int32).toNatClampNeg = 3 from (by decide)] at hP hD
      have hP : va_P (dC, dI) vwCl [(qm, .inr (1, [.int (m_th v_3), .int (m_st v_3), .int (m_md v_3), .ref pb, .int (nI (m_mn v_3)), .ref pr, .int (nI (m_rw v_3)), .ref pv, .int (nI (m_sz v_3)), .ref pw, .int (nI (m_wn v_3)), .ref ps, .int (nI (m_sn v_3)), .ref pc])), (pb, .inl (cI, 64, .inl (m_bi v_3))), (pr, .inl (cI, 259, .inl (m_ro v_3))), (pv, .inl (cI, 259, .inl (m_rc v_3))), (pw, .inl (cI, 259, .inl (m_wt v_3))), (ps, .inl (cI, 306, .inl (m_se v_3))), (pc, .inl (cI, 5, .inl (upd (upd (m_cn v_3) 2 (((m_cn v_3) 2) + 1)) 3 (((upd (m_cn v_3) 2 (((m_cn v_3) 2) + 1)) 3) + 0))))] H := hP
      have hD : va_D A [(qm, .inr (1, [.int (m_th v_3), .int (m_st v_3), .int (m_md v_3), .ref pb, .int (nI (m_mn v_3)), .ref pr, .int (nI (m_rw v_3)), .ref pv, .int (nI (m_sz v_3)), .ref pw, .int (nI (m_wn v_3)), .ref ps, .int (nI (m_sn v_3)), .ref pc])), (pb, .inl (cI, 64, .inl (m_bi v_3))), (pr, .inl (cI, 259, .inl (m_ro v_3))), (pv, .inl (cI, 259, .inl (m_rc v_3))), (pw, .inl (cI, 259, .inl (m_wt v_3))), (ps, .inl (cI, 306, .inl (m_se v_3))), (pc, .inl (cI, 5, .inl (upd (upd (m_cn v_3) 2 (((m_cn v_3) 2) + 1)) 3 (((upd (m_cn v_3) 2 (((m_cn v_3) 2) + 1)) 3) + 0))))] := hD
      refine lv_aload_n hx hb dX1_block_129 rfl (lv_at hl 0 rfl) ?_
      refine lv_iconst (v := 0) hx hb dX1_block_130 (by decide) ?_
      refine va_put (D := (dC, dI)) (ci := 1) (v := .int 0) (ty := .int) (C := RX1) (T := TX1) (N := 14) hx hb hts hinT tyX1 tyX1_ok nmX1 hown hK hP hD hS 0 rfl rfl 4 (by decide) (hts _ (List.mem_cons_of_mem _ fl_43)) (fun _ h9 => h9) rfl (by decide +kernel) rfl rfl (Nat.le_of_ble_eq_true rfl) dX1_block_131 (fun H locs hP hD hS => ?_)
      have hP : va_P (dC, dI) vwCl [(qm, .inr (1, [.int (m_th v_3), .int (m_st v_3), .int (m_md v_3), .ref pb, .int 0, .ref pr, .int (nI (m_rw v_3)), .ref pv, .int (nI (m_sz v_3)), .ref pw, .int (nI (m_wn v_3)), .ref ps, .int (nI (m_sn v_3)), .ref pc])), (pb, .inl (cI, 64, .inl (m_bi v_3))), (pr, .inl (cI, 259, .inl (m_ro v_3))), (pv, .inl (cI, 259, .inl (m_rc v_3))), (pw, .inl (cI, 259, .inl (m_wt v_3))), (ps, .inl (cI, 306, .inl (m_se v_3))), (pc, .inl (cI, 5, .inl (upd (upd (m_cn v_3) 2 (((m_cn v_3) 2) + 1)) 3 (((upd (m_cn v_3) 2 (((m_cn v_3) 2) + 1)) 3) + 0))))] H := hP
      have hD : va_D A [(qm, .inr (1, [.int (m_th v_3), .int (m_st v_3), .int (m_md v_3), .ref pb, .int 0, .ref pr, .int (nI (m_rw v_3)), .ref pv, .int (nI (m_sz v_3)), .ref pw, .int (nI (m_wn v_3)), .ref ps, .int (nI (m_sn v_3)), .ref pc])), (pb, .inl (cI, 64, .inl (m_bi v_3))), (pr, .inl (cI, 259, .inl (m_ro v_3))), (pv, .inl (cI, 259, .inl (m_rc v_3))), (pw, .inl (cI, 259, .inl (m_wt v_3))), (ps, .inl (cI, 306, .inl (m_se v_3))), (pc, .inl (cI, 5, .inl (upd (upd (m_cn v_3) 2 (((m_cn v_3) 2) + 1)) 3 (((upd (m_cn v_3) 2 (((m_cn v_3) 2) + 1)) 3) + 0))))] := hD
      refine lv_aload_n hx hb dX1_block_134 rfl (lv_at hl 0 rfl) ?_
      refine va_get (D := (dC, dI)) (ci := 1) (v := .int (nI (m_rw v_3))) (C := RX1) (T := TX1) (N := 14) hx hb hts hinT hown hK hP 0 rfl rfl 6 (by decide) (hts _ (List.mem_cons_of_mem _ fl_46)) (fun _ h9 => h9) rfl dX1_block_135 ?_
      refine lv_sipush (v := 259) hx hb dX1_block_138 (by decide) ?_
      refine lv_icmp_ne (tgt := 150) hx hb dX1_block_141 (by decide) (fun c_5 => ?_) (fun c_5 => ?_)
      · refine lv_iconst (v := 0) hx hb dX1_block_150 (by decide) ?_
        have hP9 : va_P (dC, dI) vwCl (m_W qm pb pr pv pw ps pc cI (m_th v_3, m_st v_3, m_md v_3, 0, m_rw v_3, m_sz v_3, m_wn v_3, m_sn v_3, m_bi v_3, m_ro v_3, m_rc v_3, m_wt v_3, m_se v_3, upd (upd (m_cn v_3) 2 (((m_cn v_3) 2) + 1)) 3 (((upd (m_cn v_3) 2 (((m_cn v_3) 2) + 1)) 3) + 0))) H := hP
        have hD9 : va_D A (m_W qm pb pr pv pw ps pc cI (m_th v_3, m_st v_3, m_md v_3, 0, m_rw v_3, m_sz v_3, m_wn v_3, m_sn v_3, m_bi v_3, m_ro v_3, m_rc v_3, m_wt v_3, m_se v_3, upd (upd (m_cn v_3) 2 (((m_cn v_3) 2) + 1)) 3 (((upd (m_cn v_3) 2 (((m_cn v_3) 2) + 1)) 3) + 0))) := hD
        exact W.iret (v := 0) hx hb hr (fun t ht hW => ⟨⟨_, (m_th v_3, m_st v_3, m_md v_3, 0, m_rw v_3, m_sz v_3, m_wn v_3, m_sn v_3, m_bi v_3, m_ro v_3, m_rc v_3, m_wt v_3, m_se v_3, upd (upd (m_cn v_3) 2 (((m_cn v_3) 2) + 1)) 3 (((upd (m_cn v_3) 2 (((m_cn v_3) 2) + 1)) 3) + 0)), rfl, ⟨(by subst hv_3; unfold m_block_r; rw [if_neg c_2, if_pos c_4, if_neg c_5]), (by subst hv_3; unfold m_block; rw [if_neg c_2, if_pos c_4, if_neg c_5])⟩, by rw [ht]; exact hP9, va_K.moved hW.alike hK, hD9⟩, hS.F ht⟩) hS.2.2 dX1_block_151
      · refine lv_aload_n hx hb dX1_block_144 rfl (lv_at hl 0 rfl) ?_
        have hPc : va_P (dC, dI) vwCl (m_W qm pb pr pv pw ps pc cI (m_th v_3, m_st v_3, m_md v_3, 0, m_rw v_3, m_sz v_3, m_wn v_3, m_sn v_3, m_bi v_3, m_ro v_3, m_rc v_3, m_wt v_3, m_se v_3, upd (upd (m_cn v_3) 2 (((m_cn v_3) 2) + 1)) 3 (((upd (m_cn v_3) 2 (((m_cn v_3) 2) + 1)) 3) + 0))) H := hP
        have hDc : va_D A (m_W qm pb pr pv pw ps pc cI (m_th v_3, m_st v_3, m_md v_3, 0, m_rw v_3, m_sz v_3, m_wn v_3, m_sn v_3, m_bi v_3, m_ro v_3, m_rc v_3, m_wt v_3, m_se v_3, upd (upd (m_cn v_3) 2 (((m_cn v_3) 2) + 1)) 3 (((upd (m_cn v_3) 2 (((m_cn v_3) 2) + 1)) 3) + 0))) := hD
        have hFc := va_free (wc := (m_W qm pb pr pv pw ps pc cI (m_th v_3, m_st v_3, m_md v_3, 0, m_rw v_3, m_sz v_3, m_wn v_3, m_sn v_3, m_bi v_3, m_ro v_3, m_rc v_3, m_wt v_3, m_se v_3, upd (upd (m_cn v_3) 2 (((m_cn v_3) 2) + 1)) 3 (((upd (m_cn v_3) 2 (((m_cn v_3) 2) + 1)) 3) + 0)))) hD hS hA [0, 1, 2, 3, 4, 5, 6] rfl
        refine va_callv (va_runV (As := []) (rest := []) ⟨hx, hb, hml, hown, hts⟩ (kX1_ends l dC dI qm pb pr pv pw ps pc cI H.size (m_th v_3, m_st v_3, m_md v_3, 0, m_rw v_3, m_sz v_3, m_wn v_3, m_sn v_3, m_bi v_3, m_ro v_3, m_rc v_3, m_wt v_3, m_se v_3, upd (upd (m_cn v_3) 2 (((m_cn v_3) 2) + 1)) 3 (((upd (m_cn v_3) 2 (((m_cn v_3) 2) + 1)) 3) + 0))  (show m_rw v_3 ≤ 259 from by rw [hv_3, m_bl_rw]; omega)) (cwV 0 hts gM_X1_ends rfl rfl rfl (by decide +kernel) ⟨Nat.le_of_ble_eq_true rfl, Nat.le_of_ble_eq_true rfl⟩) ⟨fun a U g mk q => by obtain ⟨q0, q1, qP, qK, qD⟩ := q; exact ⟨q0, q1, qP, va_K.moved (u := U) (U := U.calling g mk a) (Vm.Alike.refl U.vm) qK, qD⟩, va_recv hK hP (ci := 1) (q0 := 0) rfl rfl, fun U hU hW => ⟨rfl, by rw [hU], by rw [hU]; exact hPc, va_K.moved hW.alike hK, hDc.weaken (fun _ _ _ _ => trivial)⟩⟩ rfl rfl hl.1 rfl (lv_room (Nat.le_of_ble_eq_true rfl)) dX1_block_145 ⟨Nat.le_of_ble_eq_true rfl, Nat.le_of_ble_eq_true rfl⟩) hS (fun q _ h => hFc q h) hFc (fun  u_6 t H1 locs ht hvm hu_6 hB hz1 hk1 hS => ?_)
        obtain ⟨hP1, -, hD1⟩ := hB
        rw [ht] at hP1
        have hP : va_P (dC, dI) vwCl [(qm, .inr (1, [.int (m_th u_6), .int (m_st u_6), .int (m_md u_6), .ref pb, .int (nI (m_mn u_6)), .ref pr, .int (nI (m_rw u_6)), .ref pv, .int (nI (m_sz u_6)), .ref pw, .int (nI (m_wn u_6)), .ref ps, .int (nI (m_sn u_6)), .ref pc])), (pb, .inl (cI, 64, .inl (m_bi u_6))), (pr, .inl (cI, 259, .inl (m_ro u_6))), (pv, .inl (cI, 259, .inl (m_rc u_6))), (pw, .inl (cI, 259, .inl (m_wt u_6))), (ps, .inl (cI, 306, .inl (m_se u_6))), (pc, .inl (cI, 5, .inl (m_cn u_6)))] H1 := hP1
        have hD : va_D A [(qm, .inr (1, [.int (m_th u_6), .int (m_st u_6), .int (m_md u_6), .ref pb, .int (nI (m_mn u_6)), .ref pr, .int (nI (m_rw u_6)), .ref pv, .int (nI (m_sz u_6)), .ref pw, .int (nI (m_wn u_6)), .ref ps, .int (nI (m_sn u_6)), .ref pc])), (pb, .inl (cI, 64, .inl (m_bi u_6))), (pr, .inl (cI, 259, .inl (m_ro u_6))), (pv, .inl (cI, 259, .inl (m_rc u_6))), (pw, .inl (cI, 259, .inl (m_wt u_6))), (ps, .inl (cI, 306, .inl (m_se u_6))), (pc, .inl (cI, 5, .inl (m_cn u_6)))] := hD1.weaken (fun k q _ h => hFc q.1 h)
        generalize H1 = H at hP hS ⊢
        refine lv_iconst (v := 1) hx hb dX1_block_148 (by decide) ?_
        have hP9 : va_P (dC, dI) vwCl (m_W qm pb pr pv pw ps pc cI u_6) H := hP
        have hD9 : va_D A (m_W qm pb pr pv pw ps pc cI u_6) := hD
        exact W.iret (v := 1) hx hb hr (fun t ht hW => ⟨⟨_, u_6, rfl, ⟨(by subst hu_6; subst hv_3; unfold m_block_r; rw [if_neg c_2, if_pos c_4, if_pos c_5]), (by subst hu_6; subst hv_3; unfold m_block; rw [if_neg c_2, if_pos c_4, if_pos c_5])⟩, by rw [ht]; exact hP9, va_K.moved hW.alike hK, hD9⟩, hS.F ht⟩) hS.2.2 dX1_block_149
    · refine lv_iconst (v := 1) hx hb dX1_block_122 (by decide) ?_
      refine lv_goto (tgt := 127) hx hb dX1_block_123 (by decide) ?_
      refine lv_iadd hx hb dX1_block_127 ?_
      refine va_iast hx hb hK hP hD hS 6 0 rfl rfl (j_in (k := 3) rfl (by decide)) dX1_block_128 (fun H locs hP hD hS => ?_)
      rw [show (3 : Int32).toNatClampNeg = 3 from (by decide)] at hP hD
      have hP : va_P (dC, dI) vwCl [(qm, .inr (1, [.int (m_th v_3), .int (m_st v_3), .int (m_md v_3), .ref pb, .int (nI (m_mn v_3)), .ref pr, .int (nI (m_rw v_3)), .ref pv, .int (nI (m_sz v_3)), .ref pw, .int (nI (m_wn v_3)), .ref ps, .int (nI (m_sn v_3)), .ref pc])), (pb, .inl (cI, 64, .inl (m_bi v_3))), (pr, .inl (cI, 259, .inl (m_ro v_3))), (pv, .inl (cI, 259, .inl (m_rc v_3))), (pw, .inl (cI, 259, .inl (m_wt v_3))), (ps, .inl (cI, 306, .inl (m_se v_3))), (pc, .inl (cI, 5, .inl (upd (upd (m_cn v_3) 2 (((m_cn v_3) 2) + 1)) 3 (((upd (m_cn v_3) 2 (((m_cn v_3) 2) + 1)) 3) + 1))))] H := hP
      have hD : va_D A [(qm, .inr (1, [.int (m_th v_3), .int (m_st v_3), .int (m_md v_3), .ref pb, .int (nI (m_mn v_3)), .ref pr, .int (nI (m_rw v_3)), .ref pv, .int (nI (m_sz v_3)), .ref pw, .int (nI (m_wn v_3)), .ref ps, .int (nI (m_sn v_3)), .ref pc])), (pb, .inl (cI, 64, .inl (m_bi v_3))), (pr, .inl (cI, 259, .inl (m_ro v_3))), (pv, .inl (cI, 259, .inl (m_rc v_3))), (pw, .inl (cI, 259, .inl (m_wt v_3))), (ps, .inl (cI, 306, .inl (m_se v_3))), (pc, .inl (cI, 5, .inl (upd (upd (m_cn v_3) 2 (((m_cn v_3) 2) + 1)) 3 (((upd (m_cn v_3) 2 (((m_cn v_3) 2) + 1)) 3) + 1))))] := hD
      refine lv_aload_n hx hb dX1_block_129 rfl (lv_at hl 0 rfl) ?_
      refine lv_iconst (v := 0) hx hb dX1_block_130 (by decide) ?_
      refine va_put (D := (dC, dI)) (ci := 1) (v := .int 0) (ty := .int) (C := RX1) (T := TX1) (N := 14) hx hb hts hinT tyX1 tyX1_ok nmX1 hown hK hP hD hS 0 rfl rfl 4 (by decide) (hts _ (List.mem_cons_of_mem _ fl_43)) (fun _ h9 => h9) rfl (by decide +kernel) rfl rfl (Nat.le_of_ble_eq_true rfl) dX1_block_131 (fun H locs hP hD hS => ?_)
      have hP : va_P (dC, dI) vwCl [(qm, .inr (1, [.int (m_th v_3), .int (m_st v_3), .int (m_md v_3), .ref pb, .int 0, .ref pr, .int (nI (m_rw v_3)), .ref pv, .int (nI (m_sz v_3)), .ref pw, .int (nI (m_wn v_3)), .ref ps, .int (nI (m_sn v_3)), .ref pc])), (pb, .inl (cI, 64, .inl (m_bi v_3))), (pr, .inl (cI, 259, .inl (m_ro v_3))), (pv, .inl (cI, 259, .inl (m_rc v_3))), (pw, .inl (cI, 259, .inl (m_wt v_3))), (ps, .inl (cI, 306, .inl (m_se v_3))), (pc, .inl (cI, 5, .inl (upd (upd (m_cn v_3) 2 (((m_cn v_3) 2) + 1)) 3 (((upd (m_cn v_3) 2 (((m_cn v_3) 2) + 1)) 3) + 1))))] H := hP
      have hD : va_D A [(qm, .inr (1, [.int (m_th v_3), .int (m_st v_3), .int (m_md v_3), .ref pb, .int 0, .ref pr, .int (nI (m_rw v_3)), .ref pv, .int (nI (m_sz v_3)), .ref pw, .int (nI (m_wn v_3)), .ref ps, .int (nI (m_sn v_3)), .ref pc])), (pb, .inl (cI, 64, .inl (m_bi v_3))), (pr, .inl (cI, 259, .inl (m_ro v_3))), (pv, .inl (cI, 259, .inl (m_rc v_3))), (pw, .inl (cI, 259, .inl (m_wt v_3))), (ps, .inl (cI, 306, .inl (m_se v_3))), (pc, .inl (cI, 5, .inl (upd (upd (m_cn v_3) 2 (((m_cn v_3) 2) + 1)) 3 (((upd (m_cn v_3) 2 (((m_cn v_3) 2) + 1)) 3) + 1))))] := hD
      refine lv_aload_n hx hb dX1_block_134 rfl (lv_at hl 0 rfl) ?_
      refine va_get (D := (dC, dI)) (ci := 1) (v := .int (nI (m_rw v_3))) (C := RX1) (T := TX1) (N := 14) hx hb hts hinT hown hK hP 0 rfl rfl 6 (by decide) (hts _ (List.mem_cons_of_mem _ fl_46)) (fun _ h9 => h9) rfl dX1_block_135 ?_
      refine lv_sipush (v := 259) hx hb dX1_block_138 (by decide) ?_
      refine lv_icmp_ne (tgt := 150) hx hb dX1_block_141 (by decide) (fun c_7 => ?_) (fun c_7 => ?_)
      · refine lv_iconst (v := 0) hx hb dX1_block_150 (by decide) ?_
        have hP9 : va_P (dC, dI) vwCl (m_W qm pb pr pv pw ps pc cI (m_th v_3, m_st v_3, m_md v_3, 0, m_rw v_3, m_sz v_3, m_wn v_3, m_sn v_3, m_bi v_3, m_ro v_3, m_rc v_3, m_wt v_3, m_se v_3, upd (upd (m_cn v_3) 2 (((m_cn v_3) 2) + 1)) 3 (((upd (m_cn v_3) 2 (((m_cn v_3) 2) + 1)) 3) + 1))) H := hP
        have hD9 : va_D A (m_W qm pb pr pv pw ps pc cI (m_th v_3, m_st v_3, m_md v_3, 0, m_rw v_3, m_sz v_3, m_wn v_3, m_sn v_3, m_bi v_3, m_ro v_3, m_rc v_3, m_wt v_3, m_se v_3, upd (upd (m_cn v_3) 2 (((m_cn v_3) 2) + 1)) 3 (((upd (m_cn v_3) 2 (((m_cn v_3) 2) + 1)) 3) + 1))) := hD
        exact W.iret (v := 0) hx hb hr (fun t ht hW => ⟨⟨_, (m_th v_3, m_st v_3, m_md v_3, 0, m_rw v_3, m_sz v_3, m_wn v_3, m_sn v_3, m_bi v_3, m_ro v_3, m_rc v_3, m_wt v_3, m_se v_3, upd (upd (m_cn v_3) 2 (((m_cn v_3) 2) + 1)) 3 (((upd (m_cn v_3) 2 (((m_cn v_3) 2) + 1)) 3) + 1)), rfl, ⟨(by subst hv_3; unfold m_block_r; rw [if_neg c_2, if_neg c_4, if_neg c_7]), (by subst hv_3; unfold m_block; rw [if_neg c_2, if_neg c_4, if_neg c_7])⟩, by rw [ht]; exact hP9, va_K.moved hW.alike hK, hD9⟩, hS.F ht⟩) hS.2.2 dX1_block_151
      · refine lv_aload_n hx hb dX1_block_144 rfl (lv_at hl 0 rfl) ?_
        have hPc : va_P (dC, dI) vwCl (m_W qm pb pr pv pw ps pc cI (m_th v_3, m_st v_3, m_md v_3, 0, m_rw v_3, m_sz v_3, m_wn v_3, m_sn v_3, m_bi v_3, m_ro v_3, m_rc v_3, m_wt v_3, m_se v_3, upd (upd (m_cn v_3) 2 (((m_cn v_3) 2) + 1)) 3 (((upd (m_cn v_3) 2 (((m_cn v_3) 2) + 1)) 3) + 1))) H := hP
        have hDc : va_D A (m_W qm pb pr pv pw ps pc cI (m_th v_3, m_st v_3, m_md v_3, 0, m_rw v_3, m_sz v_3, m_wn v_3, m_sn v_3, m_bi v_3, m_ro v_3, m_rc v_3, m_wt v_3, m_se v_3, upd (upd (m_cn v_3) 2 (((m_cn v_3) 2) + 1)) 3 (((upd (m_cn v_3) 2 (((m_cn v_3) 2) + 1)) 3) + 1))) := hD
        have hFc := va_free (wc := (m_W qm pb pr pv pw ps pc cI (m_th v_3, m_st v_3, m_md v_3, 0, m_rw v_3, m_sz v_3, m_wn v_3, m_sn v_3, m_bi v_3, m_ro v_3, m_rc v_3, m_wt v_3, m_se v_3, upd (upd (m_cn v_3) 2 (((m_cn v_3) 2) + 1)) 3 (((upd (m_cn v_3) 2 (((m_cn v_3) 2) + 1)) 3) + 1)))) hD hS hA [0, 1, 2, 3, 4, 5, 6] rfl
        refine va_callv (va_runV (As := []) (rest := []) ⟨hx, hb, hml, hown, hts⟩ (kX1_ends l dC dI qm pb pr pv pw ps pc cI H.size (m_th v_3, m_st v_3, m_md v_3, 0, m_rw v_3, m_sz v_3, m_wn v_3, m_sn v_3, m_bi v_3, m_ro v_3, m_rc v_3, m_wt v_3, m_se v_3, upd (upd (m_cn v_3) 2 (((m_cn v_3) 2) + 1)) 3 (((upd (m_cn v_3) 2 (((m_cn v_3) 2) + 1)) 3) + 1))  (show m_rw v_3 ≤ 259 from by rw [hv_3, m_bl_rw]; omega)) (cwV 0 hts gM_X1_ends rfl rfl rfl (by decide +kernel) ⟨Nat.le_of_ble_eq_true rfl, Nat.le_of_ble_eq_true rfl⟩) ⟨fun a U g mk q => by obtain ⟨q0, q1, qP, qK, qD⟩ := q; exact ⟨q0, q1, qP, va_K.moved (u := U) (U := U.calling g mk a) (Vm.Alike.refl U.vm) qK, qD⟩, va_recv hK hP (ci := 1) (q0 := 0) rfl rfl, fun U hU hW => ⟨rfl, by rw [hU], by rw [hU]; exact hPc, va_K.moved hW.alike hK, hDc.weaken (fun _ _ _ _ => trivial)⟩⟩ rfl rfl hl.1 rfl (lv_room (Nat.le_of_ble_eq_true rfl)) dX1_block_145 ⟨Nat.le_of_ble_eq_true rfl, Nat.le_of_ble_eq_true rfl⟩) hS (fun q _ h => hFc q h) hFc (fun  u_8 t H1 locs ht hvm hu_8 hB hz1 hk1 hS => ?_)
        obtain ⟨hP1, -, hD1⟩ := hB
        rw [ht] at hP1
        have hP : va_P (dC, dI) vwCl [(qm, .inr (1, [.int (m_th u_8), .int (m_st u_8), .int (m_md u_8), .ref pb, .int (nI (m_mn u_8)), .ref pr, .int (nI (m_rw u_8)), .ref pv, .int (nI (m_sz u_8)), .ref pw, .int (nI (m_wn u_8)), .ref ps, .int (nI (m_sn u_8)), .ref pc])), (pb, .inl (cI, 64, .inl (m_bi u_8))), (pr, .inl (cI, 259, .inl (m_ro u_8))), (pv, .inl (cI, 259, .inl (m_rc u_8))), (pw, .inl (cI, 259, .inl (m_wt u_8))), (ps, .inl (cI, 306, .inl (m_se u_8))), (pc, .inl (cI, 5, .inl (m_cn u_8)))] H1 := hP1
        have hD : va_D A [(qm, .inr (1, [.int (m_th u_8), .int (m_st u_8), .int (m_md u_8), .ref pb, .int (nI (m_mn u_8)), .ref pr, .int (nI (m_rw u_8)), .ref pv, .int (nI (m_sz u_8)), .ref pw, .int (nI (m_wn u_8)), .ref ps, .int (nI (m_sn u_8)), .ref pc])), (pb, .inl (cI, 64, .inl (m_bi u_8))), (pr, .inl (cI, 259, .inl (m_ro u_8))), (pv, .inl (cI, 259, .inl (m_rc u_8))), (pw, .inl (cI, 259, .inl (m_wt u_8))), (ps, .inl (cI, 306, .inl (m_se u_8))), (pc, .inl (cI, 5, .inl (m_cn u_8)))] := hD1.weaken (fun k q _ h => hFc q.1 h)
        generalize H1 = H at hP hS ⊢
        refine lv_iconst (v := 1) hx hb dX1_block_148 (by decide) ?_
        have hP9 : va_P (dC, dI) vwCl (m_W qm pb pr pv pw ps pc cI u_8) H := hP
        have hD9 : va_D A (m_W qm pb pr pv pw ps pc cI u_8) := hD
        exact W.iret (v := 1) hx hb hr (fun t ht hW => ⟨⟨_, u_8, rfl, ⟨(by subst hu_8; subst hv_3; unfold m_block_r; rw [if_neg c_2, if_neg c_4, if_pos c_7]), (by subst hu_8; subst hv_3; unfold m_block; rw [if_neg c_2, if_neg c_4, if_pos c_7])⟩, by rw [ht]; exact hP9, va_K.moved hW.alike hK, hD9⟩, hS.F ht⟩) hS.2.2 dX1_block_149
  · refine lv_aload_n hx hb dX1_block_11 rfl (lv_at hl 1 rfl) ?_
    have hPc : va_P (dC, dI) vwCl (m_W qm pb pr pv pw ps pc cI u) s.heap := hP
    have hDc : va_D A (m_W qm pb pr pv pw ps pc cI u) := hD
    have hFc := va_free (wc := (m_W qm pb pr pv pw ps pc cI u)) hD hS hA [0, 1, 2, 3, 4, 5, 6] rfl
    refine va_callv (va_runV (As := []) (rest := []) ⟨hx, hb, hml, hown, hts⟩ (kX1_ends l dC dI qm pb pr pv pw ps pc cI s.heap.size u  (show m_rw u ≤ 259 from by omega)) (cwV 0 hts gM_X1_ends rfl rfl rfl (by decide +kernel) ⟨Nat.le_of_ble_eq_true rfl, Nat.le_of_ble_eq_true rfl⟩) ⟨fun a U g mk q => by obtain ⟨q0, q1, qP, qK, qD⟩ := q; exact ⟨q0, q1, qP, va_K.moved (u := U) (U := U.calling g mk a) (Vm.Alike.refl U.vm) qK, qD⟩, va_recv hK hP (ci := 1) (q0 := 0) rfl rfl, fun U hU hW => ⟨rfl, by rw [hU], by rw [hU]; exact hPc, va_K.moved hW.alike hK, hDc.weaken (fun _ _ _ _ => trivial)⟩⟩ rfl rfl hl.1 rfl (lv_room (Nat.le_of_ble_eq_true rfl)) dX1_block_12 ⟨Nat.le_of_ble_eq_true rfl, Nat.le_of_ble_eq_true rfl⟩) hS (fun q _ h => hFc q h) hFc (fun  u_9 t H1 locs ht hvm hu_9 hB hz1 hk1 hS => ?_)
    obtain ⟨hP1, -, hD1⟩ := hB
    rw [ht] at hP1
    have hP : va_P (dC, dI) vwCl [(qm, .inr (1, [.int (m_th u_9), .int (m_st u_9), .int (m_md u_9), .ref pb, .int (nI (m_mn u_9)), .ref pr, .int (nI (m_rw u_9)), .ref pv, .int (nI (m_sz u_9)), .ref pw, .int (nI (m_wn u_9)), .ref ps, .int (nI (m_sn u_9)), .ref pc])), (pb, .inl (cI, 64, .inl (m_bi u_9))), (pr, .inl (cI, 259, .inl (m_ro u_9))), (pv, .inl (cI, 259, .inl (m_rc u_9))), (pw, .inl (cI, 259, .inl (m_wt u_9))), (ps, .inl (cI, 306, .inl (m_se u_9))), (pc, .inl (cI, 5, .inl (m_cn u_9)))] H1 := hP1
    have hD : va_D A [(qm, .inr (1, [.int (m_th u_9), .int (m_st u_9), .int (m_md u_9), .ref pb, .int (nI (m_mn u_9)), .ref pr, .int (nI (m_rw u_9)), .ref pv, .int (nI (m_sz u_9)), .ref pw, .int (nI (m_wn u_9)), .ref ps, .int (nI (m_sn u_9)), .ref pc])), (pb, .inl (cI, 64, .inl (m_bi u_9))), (pr, .inl (cI, 259, .inl (m_ro u_9))), (pv, .inl (cI, 259, .inl (m_rc u_9))), (pw, .inl (cI, 259, .inl (m_wt u_9))), (ps, .inl (cI, 306, .inl (m_se u_9))), (pc, .inl (cI, 5, .inl (m_cn u_9)))] := hD1.weaken (fun k q _ h => hFc q.1 h)
    generalize H1 = H at hP hS ⊢
    refine lv_iconst (v := 1) hx hb dX1_block_15 (by decide) ?_
    have hP9 : va_P (dC, dI) vwCl (m_W qm pb pr pv pw ps pc cI u_9) H := hP
    have hD9 : va_D A (m_W qm pb pr pv pw ps pc cI u_9) := hD
    exact W.iret (v := 1) hx hb hr (fun t ht hW => ⟨⟨_, u_9, rfl, ⟨(by subst hu_9; unfold m_block_r; rw [if_pos c_2]), (by subst hu_9; unfold m_block; rw [if_pos c_2])⟩, by rw [ht]; exact hP9, va_K.moved hW.alike hK, hD9⟩, hS.F ht⟩) hS.2.2 dX1_block_16
