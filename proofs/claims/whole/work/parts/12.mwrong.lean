abbrev rmX1_divided : Room := { frames := 0, cells := 0, slots := 0, locals := 0 }
def m_rd (z : Int32) : Int32 := if z ≤ 127 then z else z ^^^ 197
def m_dvF (u : m_S) (a0 : Int32) : Nat → Nat → Int32 → Int32
  | 0, _, r => r
  | n + 1, k, r => m_dvF u a0 n (k + 1) (m_rd ((2 * r) + (((m_bi u k) ^^^ (if nI k ≤ 55 then 0 else 1)) ^^^ (if nI k = a0 then 1 else 0))))
set_option maxHeartbeats 4000000 in
set_option maxRecDepth 100000 in
theorem lpX1_divided {p : Program} {l : Launch} {e : Env} {s : State} {m : MethodId} {args : Array Value} {below : List Frame} {meth : Method} {c : Code} {H : Heap} {locs : List Loc} {Q : State → Prop} (dC : Nat → ClassId) (dI : Nat → Nat → Nat) (qm pb pr pv pw ps pc : Nat) (cI : ClassId) (a0 : Int32) (hx : p.tables.exec = Jvm.exec) (hb : c.code = cX1_divided) (hml : c.maxLocals = 5) (hown : s.vm.findClass RX1 = some m.cls) (hts : ∀ w ∈ vX1_divided, w.before args s = true) (u : m_S) (hP : va_P (dC, dI) vwCl (m_W qm pb pr pv pw ps pc cI u) H) (hK : va_K (dC, dI) vwCl [(cI, .int)] s) : ∀ (n : Nat) (k : Nat) (r : Int32) (ls : Array Slot), k + n = 63 → lv_has ls 5 [(0, .ref qm), (1, .int a0), (2, .int r), (3, .int (nI k))] → (∀ (ls : Array Slot), lv_has ls 5 [(2, .int (m_dvF u a0 n k r))] → W p l e (headSpec vX1_divided rmX1_divided).room s m args below meth c H locs 0 0 Q (F0 m 70 ls [])) → W p l e (headSpec vX1_divided rmX1_divided).room s m args below meth c H locs 0 0 Q (F0 m 4 ls []) := by
  have hinT : ∀ w ∈ wsX10, w ∈ vX1_divided := fun w h => List.mem_cons_of_mem _ (inM w h)
  have hP : va_P (dC, dI) vwCl [(qm, .inr (1, [.int (m_th u), .int (m_st u), .int (m_md u), .ref pb, .int (nI (m_mn u)), .ref pr, .int (nI (m_rw u)), .ref pv, .int (nI (m_sz u)), .ref pw, .int (nI (m_wn u)), .ref ps, .int (nI (m_sn u)), .ref pc])), (pb, .inl (cI, 64, .inl (m_bi u))), (pr, .inl (cI, 259, .inl (m_ro u))), (pv, .inl (cI, 259, .inl (m_rc u))), (pw, .inl (cI, 259, .inl (m_wt u))), (ps, .inl (cI, 306, .inl (m_se u))), (pc, .inl (cI, 5, .inl (m_cn u)))] H := hP
  intro n
  induction n with
  | zero =>
    intro k r ls hn hl kk
    have hk : k = 63 := by omega
    subst hk
    have hl : lv_has ls 5 [(0, .ref qm), (1, .int a0), (2, .int r), (3, .int (nI 63))] := hl
    refine lv_iload_n hx hb dX1_divided_4 rfl (lv_at hl 3 rfl) ?_
    refine lv_bipush (v := 63) hx hb dX1_divided_5 (by decide) ?_
    refine lv_icmp_ge (tgt := 70) hx hb dX1_divided_7 (by decide) (fun c_1 => ?_) (fun c_1 => absurd (by decide) c_1)
    exact kk ls (lv_sub hl [2] rfl)
  | succ n ih =>
    intro k r ls hn hl kk
    have hl : lv_has ls 5 [(0, .ref qm), (1, .int a0), (2, .int r), (3, .int (nI k))] := hl
    refine lv_iload_n hx hb dX1_divided_4 rfl (lv_at hl 3 rfl) ?_
    refine lv_bipush (v := 63) hx hb dX1_divided_5 (by decide) ?_
    refine lv_icmp_ge (tgt := 70) hx hb dX1_divided_7 (by decide) (fun c_1 => absurd c_1 (show ¬ nI 63 ≤ nI k from nI_ge (by omega) (by decide))) (fun c_1 => ?_)
    refine lv_aload_n hx hb dX1_divided_10 rfl (lv_at hl 0 rfl) ?_
    refine va_get (D := (dC, dI)) (ci := 1) (v := .ref pb) (C := RX1) (T := TX1) (N := 14) hx hb hts hinT hown hK hP 0 rfl rfl 3 (by decide) (hts _ (List.mem_cons_of_mem _ fl_7)) (fun _ h9 => h9) rfl dX1_divided_11 ?_
    refine lv_iload_n hx hb dX1_divided_14 rfl (lv_at hl 3 rfl) ?_
    refine va_iald hx hb hK hP 1 0 rfl rfl (vp_in_nI (by omega) (by decide)) dX1_divided_15 ?_
    refine W.eq (g2 := F0 m 16 ls [.int ((m_bi u) k)]) (by rw [nI_clamp (by omega)]) ?_
    refine lv_iload_n hx hb dX1_divided_16 rfl (lv_at hl 3 rfl) ?_
    refine lv_bipush (v := 55) hx hb dX1_divided_17 (by decide) ?_
    refine lv_icmp_le (tgt := 26) hx hb dX1_divided_19 (by decide) (fun c_2 => ?_) (fun c_2 => ?_)
    · refine lv_iconst (v := 0) hx hb dX1_divided_26 (by decide) ?_
      refine lv_ixor hx hb dX1_divided_27 ?_
      refine lv_iload_n hx hb dX1_divided_28 rfl (lv_at hl 3 rfl) ?_
      refine lv_iload_n hx hb dX1_divided_29 rfl (lv_at hl 1 rfl) ?_
      refine lv_icmp_ne (tgt := 37) hx hb dX1_divided_30 (by decide) (fun c_3 => ?_) (fun c_3 => ?_)
      · refine lv_iconst (v := 0) hx hb dX1_divided_37 (by decide) ?_
        refine lv_ixor hx hb dX1_divided_38 ?_
        refine lv_istore (lv' := [(4, .int ((((m_bi u) k) ^^^ 0) ^^^ 0)), (0, .ref qm), (1, .int a0), (2, .int r), (3, .int (nI k))]) hx hb dX1_divided_39 hl (by decide) rfl (fun ls hl => ?_)
        refine lv_iconst (v := 2) hx hb dX1_divided_41 (by decide) ?_
        refine lv_iload_n hx hb dX1_divided_42 rfl (lv_at hl 3 rfl) ?_
        refine lv_imul hx hb dX1_divided_43 ?_
        refine lv_iload hx hb dX1_divided_44 (lv_at hl 0 rfl) ?_
        refine lv_iadd hx hb dX1_divided_46 ?_
        refine lv_istore_n (lv' := [(2, .int ((2 * r) + ((((m_bi u) k) ^^^ 0) ^^^ 0))), (4, .int ((((m_bi u) k) ^^^ 0) ^^^ 0)), (0, .ref qm), (1, .int a0), (3, .int (nI k))]) hx hb dX1_divided_47 rfl hl (by decide) rfl (fun ls hl => ?_)
        refine lv_iload_n hx hb dX1_divided_48 rfl (lv_at hl 0 rfl) ?_
        refine lv_bipush (v := 127) hx hb dX1_divided_49 (by decide) ?_
        refine lv_icmp_le (tgt := 62) hx hb dX1_divided_51 (by decide) (fun c_4 => ?_) (fun c_4 => ?_)
        · refine lv_iload_n hx hb dX1_divided_62 rfl (lv_at hl 0 rfl) ?_
          refine lv_istore_n (lv' := [(2, .int ((2 * r) + ((((m_bi u) k) ^^^ 0) ^^^ 0))), (4, .int ((((m_bi u) k) ^^^ 0) ^^^ 0)), (0, .ref qm), (1, .int a0), (3, .int (nI k))]) hx hb dX1_divided_63 rfl hl (by decide) rfl (fun ls hl => ?_)
          refine lv_iinc (v := nI (k + 1)) (lv' := [(3, .int (nI (k + 1))), (2, .int ((2 * r) + ((((m_bi u) k) ^^^ 0) ^^^ 0))), (4, .int ((((m_bi u) k) ^^^ 0) ^^^ 0)), (0, .ref qm), (1, .int a0)]) hx hb dX1_divided_64 hl (k := 4) rfl (show nI k + nI 1 = nI (k + 1) from nI_add _ _) (by decide) rfl (fun ls hl => ?_)
          refine lv_goto (tgt := 4) hx hb dX1_divided_67 (by decide) ?_
          have eF : m_dvF u a0 (n + 1) k r = m_dvF u a0 n (k + 1) ((2 * r) + ((((m_bi u) k) ^^^ 0) ^^^ 0)) := by simp only [m_dvF, m_rd, if_pos c_2, if_neg c_3, if_pos c_4]
          exact ih (k + 1) ((2 * r) + ((((m_bi u) k) ^^^ 0) ^^^ 0)) ls (by omega) (lv_sub hl [3, 4, 1, 0] rfl) (fun ls hl => kk ls (by rw [eF]; exact hl))
        · refine lv_iload_n hx hb dX1_divided_54 rfl (lv_at hl 0 rfl) ?_
          refine lv_sipush (v := 197) hx hb dX1_divided_55 (by decide) ?_
          refine lv_ixor hx hb dX1_divided_58 ?_
          refine lv_goto (tgt := 63) hx hb dX1_divided_59 (by decide) ?_
          refine lv_istore_n (lv' := [(2, .int (((2 * r) + ((((m_bi u) k) ^^^ 0) ^^^ 0)) ^^^ 197)), (4, .int ((((m_bi u) k) ^^^ 0) ^^^ 0)), (0, .ref qm), (1, .int a0), (3, .int (nI k))]) hx hb dX1_divided_63 rfl hl (by decide) rfl (fun ls hl => ?_)
          refine lv_iinc (v := nI (k + 1)) (lv' := [(3, .int (nI (k + 1))), (2, .int (((2 * r) + ((((m_bi u) k) ^^^ 0) ^^^ 0)) ^^^ 197)), (4, .int ((((m_bi u) k) ^^^ 0) ^^^ 0)), (0, .ref qm), (1, .int a0)]) hx hb dX1_divided_64 hl (k := 4) rfl (show nI k + nI 1 = nI (k + 1) from nI_add _ _) (by decide) rfl (fun ls hl => ?_)
          refine lv_goto (tgt := 4) hx hb dX1_divided_67 (by decide) ?_
          have eF : m_dvF u a0 (n + 1) k r = m_dvF u a0 n (k + 1) (((2 * r) + ((((m_bi u) k) ^^^ 0) ^^^ 0)) ^^^ 197) := by simp only [m_dvF, m_rd, if_pos c_2, if_neg c_3, if_neg c_4]
          exact ih (k + 1) (((2 * r) + ((((m_bi u) k) ^^^ 0) ^^^ 0)) ^^^ 197) ls (by omega) (lv_sub hl [3, 4, 1, 0] rfl) (fun ls hl => kk ls (by rw [eF]; exact hl))
      · refine lv_iconst (v := 1) hx hb dX1_divided_33 (by decide) ?_
        refine lv_goto (tgt := 38) hx hb dX1_divided_34 (by decide) ?_
        refine lv_ixor hx hb dX1_divided_38 ?_
        refine lv_istore (lv' := [(4, .int ((((m_bi u) k) ^^^ 0) ^^^ 1)), (0, .ref qm), (1, .int a0), (2, .int r), (3, .int (nI k))]) hx hb dX1_divided_39 hl (by decide) rfl (fun ls hl => ?_)
        refine lv_iconst (v := 2) hx hb dX1_divided_41 (by decide) ?_
        refine lv_iload_n hx hb dX1_divided_42 rfl (lv_at hl 3 rfl) ?_
        refine lv_imul hx hb dX1_divided_43 ?_
        refine lv_iload hx hb dX1_divided_44 (lv_at hl 0 rfl) ?_
        refine lv_iadd hx hb dX1_divided_46 ?_
        refine lv_istore_n (lv' := [(2, .int ((2 * r) + ((((m_bi u) k) ^^^ 0) ^^^ 1))), (4, .int ((((m_bi u) k) ^^^ 0) ^^^ 1)), (0, .ref qm), (1, .int a0), (3, .int (nI k))]) hx hb dX1_divided_47 rfl hl (by decide) rfl (fun ls hl => ?_)
        refine lv_iload_n hx hb dX1_divided_48 rfl (lv_at hl 0 rfl) ?_
        refine lv_bipush (v := 127) hx hb dX1_divided_49 (by decide) ?_
        refine lv_icmp_le (tgt := 62) hx hb dX1_divided_51 (by decide) (fun c_5 => ?_) (fun c_5 => ?_)
        · refine lv_iload_n hx hb dX1_divided_62 rfl (lv_at hl 0 rfl) ?_
          refine lv_istore_n (lv' := [(2, .int ((2 * r) + ((((m_bi u) k) ^^^ 0) ^^^ 1))), (4, .int ((((m_bi u) k) ^^^ 0) ^^^ 1)), (0, .ref qm), (1, .int a0), (3, .int (nI k))]) hx hb dX1_divided_63 rfl hl (by decide) rfl (fun ls hl => ?_)
          refine lv_iinc (v := nI (k + 1)) (lv' := [(3, .int (nI (k + 1))), (2, .int ((2 * r) + ((((m_bi u) k) ^^^ 0) ^^^ 1))), (4, .int ((((m_bi u) k) ^^^ 0) ^^^ 1)), (0, .ref qm), (1, .int a0)]) hx hb dX1_divided_64 hl (k := 4) rfl (show nI k + nI 1 = nI (k + 1) from nI_add _ _) (by decide) rfl (fun ls hl => ?_)
          refine lv_goto (tgt := 4) hx hb dX1_divided_67 (by decide) ?_
          have eF : m_dvF u a0 (n + 1) k r = m_dvF u a0 n (k + 1) ((2 * r) + ((((m_bi u) k) ^^^ 0) ^^^ 1)) := by simp only [m_dvF, m_rd, if_pos c_2, if_pos c_3, if_pos c_5]
          exact ih (k + 1) ((2 * r) + ((((m_bi u) k) ^^^ 0) ^^^ 1)) ls (by omega) (lv_sub hl [3, 4, 1, 0] rfl) (fun ls hl => kk ls (by rw [eF]; exact hl))
        · refine lv_iload_n hx hb dX1_divided_54 rfl (lv_at hl 0 rfl) ?_
          refine lv_sipush (v := 197) hx hb dX1_divided_55 (by decide) ?_
          refine lv_ixor hx hb dX1_divided_58 ?_
          refine lv_goto (tgt := 63) hx hb dX1_divided_59 (by decide) ?_
          refine lv_istore_n (lv' := [(2, .int (((2 * r) + ((((m_bi u) k) ^^^ 0) ^^^ 1)) ^^^ 197)), (4, .int ((((m_bi u) k) ^^^ 0) ^^^ 1)), (0, .ref qm), (1, .int a0), (3, .int (nI k))]) hx hb dX1_divided_63 rfl hl (by decide) rfl (fun ls hl => ?_)
          refine lv_iinc (v := nI (k + 1)) (lv' := [(3, .int (nI (k + 1))), (2, .int (((2 * r) + ((((m_bi u) k) ^^^ 0) ^^^ 1)) ^^^ 197)), (4, .int ((((m_bi u) k) ^^^ 0) ^^^ 1)), (0, .ref qm), (1, .int a0)]) hx hb dX1_divided_64 hl (k := 4) rfl (show nI k + nI 1 = nI (k + 1) from nI_add _ _) (by decide) rfl (fun ls hl => ?_)
          refine lv_goto (tgt := 4) hx hb dX1_divided_67 (by decide) ?_
          have eF : m_dvF u a0 (n + 1) k r = m_dvF u a0 n (k + 1) (((2 * r) + ((((m_bi u) k) ^^^ 0) ^^^ 1)) ^^^ 197) := by simp only [m_dvF, m_rd, if_pos c_2, if_pos c_3, if_neg c_5]
          exact ih (k + 1) (((2 * r) + ((((m_bi u) k) ^^^ 0) ^^^ 1)) ^^^ 197) ls (by omega) (lv_sub hl [3, 4, 1, 0] rfl) (fun ls hl => kk ls (by rw [eF]; exact hl))
    · refine lv_iconst (v := 1) hx hb dX1_divided_22 (by decide) ?_
      refine lv_goto (tgt := 27) hx hb dX1_divided_23 (by decide) ?_
      refine lv_ixor hx hb dX1_divided_27 ?_
      refine lv_iload_n hx hb dX1_divided_28 rfl (lv_at hl 3 rfl) ?_
      refine lv_iload_n hx hb dX1_divided_29 rfl (lv_at hl 1 rfl) ?_
      refine lv_icmp_ne (tgt := 37) hx hb dX1_divided_30 (by decide) (fun c_6 => ?_) (fun c_6 => ?_)
      · refine lv_iconst (v := 0) hx hb dX1_divided_37 (by decide) ?_
        refine lv_ixor hx hb dX1_divided_38 ?_
        refine lv_istore (lv' := [(4, .int ((((m_bi u) k) ^^^ 1) ^^^ 0)), (0, .ref qm), (1, .int a0), (2, .int r), (3, .int (nI k))]) hx hb dX1_divided_39 hl (by decide) rfl (fun ls hl => ?_)
        refine lv_iconst (v := 2) hx hb dX1_divided_41 (by decide) ?_
        refine lv_iload_n hx hb dX1_divided_42 rfl (lv_at hl 3 rfl) ?_
        refine lv_imul hx hb dX1_divided_43 ?_
        refine lv_iload hx hb dX1_divided_44 (lv_at hl 0 rfl) ?_
        refine lv_iadd hx hb dX1_divided_46 ?_
        refine lv_istore_n (lv' := [(2, .int ((2 * r) + ((((m_bi u) k) ^^^ 1) ^^^ 0))), (4, .int ((((m_bi u) k) ^^^ 1) ^^^ 0)), (0, .ref qm), (1, .int a0), (3, .int (nI k))]) hx hb dX1_divided_47 rfl hl (by decide) rfl (fun ls hl => ?_)
        refine lv_iload_n hx hb dX1_divided_48 rfl (lv_at hl 0 rfl) ?_
        refine lv_bipush (v := 127) hx hb dX1_divided_49 (by decide) ?_
        refine lv_icmp_le (tgt := 62) hx hb dX1_divided_51 (by decide) (fun c_7 => ?_) (fun c_7 => ?_)
        · refine lv_iload_n hx hb dX1_divided_62 rfl (lv_at hl 0 rfl) ?_
          refine lv_istore_n (lv' := [(2, .int ((2 * r) + ((((m_bi u) k) ^^^ 1) ^^^ 0))), (4, .int ((((m_bi u) k) ^^^ 1) ^^^ 0)), (0, .ref qm), (1, .int a0), (3, .int (nI k))]) hx hb dX1_divided_63 rfl hl (by decide) rfl (fun ls hl => ?_)
          refine lv_iinc (v := nI (k + 1)) (lv' := [(3, .int (nI (k + 1))), (2, .int ((2 * r) + ((((m_bi u) k) ^^^ 1) ^^^ 0))), (4, .int ((((m_bi u) k) ^^^ 1) ^^^ 0)), (0, .ref qm), (1, .int a0)]) hx hb dX1_divided_64 hl (k := 4) rfl (show nI k + nI 1 = nI (k + 1) from nI_add _ _) (by decide) rfl (fun ls hl => ?_)
          refine lv_goto (tgt := 4) hx hb dX1_divided_67 (by decide) ?_
          have eF : m_dvF u a0 (n + 1) k r = m_dvF u a0 n (k + 1) ((2 * r) + ((((m_bi u) k) ^^^ 1) ^^^ 0)) := by simp only [m_dvF, m_rd, if_neg c_2, if_neg c_6, if_pos c_7]
          exact ih (k + 1) ((2 * r) + ((((m_bi u) k) ^^^ 1) ^^^ 0)) ls (by omega) (lv_sub hl [3, 4, 1, 0] rfl) (fun ls hl => kk ls (by rw [eF]; exact hl))
        · refine lv_iload_n hx hb dX1_divided_54 rfl (lv_at hl 0 rfl) ?_
          refine lv_sipush (v := 197) hx hb dX1_divided_55 (by decide) ?_
          refine lv_ixor hx hb dX1_divided_58 ?_
          refine lv_goto (tgt := 63) hx hb dX1_divided_59 (by decide) ?_
          refine lv_istore_n (lv' := [(2, .int (((2 * r) + ((((m_bi u) k) ^^^ 1) ^^^ 0)) ^^^ 197)), (4, .int ((((m_bi u) k) ^^^ 1) ^^^ 0)), (0, .ref qm), (1, .int a0), (3, .int (nI k))]) hx hb dX1_divided_63 rfl hl (by decide) rfl (fun ls hl => ?_)
          refine lv_iinc (v := nI (k + 1)) (lv' := [(3, .int (nI (k + 1))), (2, .int (((2 * r) + ((((m_bi u) k) ^^^ 1) ^^^ 0)) ^^^ 197)), (4, .int ((((m_bi u) k) ^^^ 1) ^^^ 0)), (0, .ref qm), (1, .int a0)]) hx hb dX1_divided_64 hl (k := 4) rfl (show nI k + nI 1 = nI (k + 1) from nI_add _ _) (by decide) rfl (fun ls hl => ?_)
          refine lv_goto (tgt := 4) hx hb dX1_divided_67 (by decide) ?_
          have eF : m_dvF u a0 (n + 1) k r = m_dvF u a0 n (k + 1) (((2 * r) + ((((m_bi u) k) ^^^ 1) ^^^ 0)) ^^^ 197) := by simp only [m_dvF, m_rd, if_neg c_2, if_neg c_6, if_neg c_7]
          exact ih (k + 1) (((2 * r) + ((((m_bi u) k) ^^^ 1) ^^^ 0)) ^^^ 197) ls (by omega) (lv_sub hl [3, 4, 1, 0] rfl) (fun ls hl => kk ls (by rw [eF]; exact hl))
      · refine lv_iconst (v := 1) hx hb dX1_divided_33 (by decide) ?_
        refine lv_goto (tgt := 38) hx hb dX1_divided_34 (by decide) ?_
        refine lv_ixor hx hb dX1_divided_38 ?_
        refine lv_istore (lv' := [(4, .int ((((m_bi u) k) ^^^ 1) ^^^ 1)), (0, .ref qm), (1, .int a0), (2, .int r), (3, .int (nI k))]) hx hb dX1_divided_39 hl (by decide) rfl (fun ls hl => ?_)
        refine lv_iconst (v := 2) hx hb dX1_divided_41 (by decide) ?_
        refine lv_iload_n hx hb dX1_divided_42 rfl (lv_at hl 3 rfl) ?_
        refine lv_imul hx hb dX1_divided_43 ?_
        refine lv_iload hx hb dX1_divided_44 (lv_at hl 0 rfl) ?_
        refine lv_iadd hx hb dX1_divided_46 ?_
        refine lv_istore_n (lv' := [(2, .int ((2 * r) + ((((m_bi u) k) ^^^ 1) ^^^ 1))), (4, .int ((((m_bi u) k) ^^^ 1) ^^^ 1)), (0, .ref qm), (1, .int a0), (3, .int (nI k))]) hx hb dX1_divided_47 rfl hl (by decide) rfl (fun ls hl => ?_)
        refine lv_iload_n hx hb dX1_divided_48 rfl (lv_at hl 0 rfl) ?_
        refine lv_bipush (v := 127) hx hb dX1_divided_49 (by decide) ?_
        refine lv_icmp_le (tgt := 62) hx hb dX1_divided_51 (by decide) (fun c_8 => ?_) (fun c_8 => ?_)
        · refine lv_iload_n hx hb dX1_divided_62 rfl (lv_at hl 0 rfl) ?_
          refine lv_istore_n (lv' := [(2, .int ((2 * r) + ((((m_bi u) k) ^^^ 1) ^^^ 1))), (4, .int ((((m_bi u) k) ^^^ 1) ^^^ 1)), (0, .ref qm), (1, .int a0), (3, .int (nI k))]) hx hb dX1_divided_63 rfl hl (by decide) rfl (fun ls hl => ?_)
          refine lv_iinc (v := nI (k + 1)) (lv' := [(3, .int (nI (k + 1))), (2, .int ((2 * r) + ((((m_bi u) k) ^^^ 1) ^^^ 1))), (4, .int ((((m_bi u) k) ^^^ 1) ^^^ 1)), (0, .ref qm), (1, .int a0)]) hx hb dX1_divided_64 hl (k := 4) rfl (show nI k + nI 1 = nI (k + 1) from nI_add _ _) (by decide) rfl (fun ls hl => ?_)
          refine lv_goto (tgt := 4) hx hb dX1_divided_67 (by decide) ?_
          have eF : m_dvF u a0 (n + 1) k r = m_dvF u a0 n (k + 1) ((2 * r) + ((((m_bi u) k) ^^^ 1) ^^^ 1)) := by simp only [m_dvF, m_rd, if_neg c_2, if_pos c_6, if_pos c_8]
          exact ih (k + 1) ((2 * r) + ((((m_bi u) k) ^^^ 1) ^^^ 1)) ls (by omega) (lv_sub hl [3, 4, 1, 0] rfl) (fun ls hl => kk ls (by rw [eF]; exact hl))
        · refine lv_iload_n hx hb dX1_divided_54 rfl (lv_at hl 0 rfl) ?_
          refine lv_sipush (v := 197) hx hb dX1_divided_55 (by decide) ?_
          refine lv_ixor hx hb dX1_divided_58 ?_
          refine lv_goto (tgt := 63) hx hb dX1_divided_59 (by decide) ?_
          refine lv_istore_n (lv' := [(2, .int (((2 * r) + ((((m_bi u) k) ^^^ 1) ^^^ 1)) ^^^ 197)), (4, .int ((((m_bi u) k) ^^^ 1) ^^^ 1)), (0, .ref qm), (1, .int a0), (3, .int (nI k))]) hx hb dX1_divided_63 rfl hl (by decide) rfl (fun ls hl => ?_)
          refine lv_iinc (v := nI (k + 1)) (lv' := [(3, .int (nI (k + 1))), (2, .int (((2 * r) + ((((m_bi u) k) ^^^ 1) ^^^ 1)) ^^^ 197)), (4, .int ((((m_bi u) k) ^^^ 1) ^^^ 1)), (0, .ref qm), (1, .int a0)]) hx hb dX1_divided_64 hl (k := 4) rfl (show nI k + nI 1 = nI (k + 1) from nI_add _ _) (by decide) rfl (fun ls hl => ?_)
          refine lv_goto (tgt := 4) hx hb dX1_divided_67 (by decide) ?_
          have eF : m_dvF u a0 (n + 1) k r = m_dvF u a0 n (k + 1) (((2 * r) + ((((m_bi u) k) ^^^ 1) ^^^ 1)) ^^^ 197) := by simp only [m_dvF, m_rd, if_neg c_2, if_pos c_6, if_neg c_8]
          exact ih (k + 1) (((2 * r) + ((((m_bi u) k) ^^^ 1) ^^^ 1)) ^^^ 197) ls (by omega) (lv_sub hl [3, 4, 1, 0] rfl) (fun ls hl => kk ls (by rw [eF]; exact hl))
def m_divided (u : m_S) (a0 : Int32) : Int32 := if (m_dvF u a0 63 0 0) = 0 then 1 else 0
set_option maxHeartbeats 4000000 in
set_option maxRecDepth 100000 in
theorem kX1_divided (l : Launch) (dC : Nat → ClassId) (dI : Nat → Nat → Nat) (qm pb pr pv pw ps pc : Nat) (cI : ClassId) (u : m_S) (a0 : Int32) : Met l yX1_divided vX1_divided rmX1_divided (va_Pc [.ref qm, .int a0] (fun U => va_P (dC, dI) vwCl (m_W qm pb pr pv pw ps pc cI u) U.heap ∧ va_K (dC, dI) vwCl [(cI, .int)] U)) (vp_Si (fun r => r = m_divided u a0)) 0 0 (fun _ => False) := by
  refine Met.ofW (cc := cX1_divided) (maxL := 5) (ret := some .boolean) (by decide) rfl ?_
  intro p e s m args below meth c s₁ B hml hv
  obtain ⟨rfl, hP, hK⟩ := hv
  have hx := B.exec
  have hb := B.bytes
  have hr := B.returns
  have hts := atoms_spec (ws := vX1_divided) B.pre
  have hown : s.vm.findClass RX1 = some m.cls := findClass_of_methodNamed B.named
  have hlocks := B.notSynchronized
  have hinT : ∀ w ∈ wsX10, w ∈ vX1_divided := fun w h => List.mem_cons_of_mem _ (inM w h)
  have hP : va_P (dC, dI) vwCl [(qm, .inr (1, [.int (m_th u), .int (m_st u), .int (m_md u), .ref pb, .int (nI (m_mn u)), .ref pr, .int (nI (m_rw u)), .ref pv, .int (nI (m_sz u)), .ref pw, .int (nI (m_wn u)), .ref ps, .int (nI (m_sn u)), .ref pc])), (pb, .inl (cI, 64, .inl (m_bi u))), (pr, .inl (cI, 259, .inl (m_ro u))), (pv, .inl (cI, 259, .inl (m_rc u))), (pw, .inl (cI, 259, .inl (m_wt u))), (ps, .inl (cI, 306, .inl (m_se u))), (pc, .inl (cI, 5, .inl (m_cn u)))] s.heap := hP
  have hl := lv_entry ([.ref qm, .int a0]) (n := 5) (Nat.le_of_ble_eq_true rfl)
  rw [lg_entry_eq]
  generalize (lg_sl ([.ref qm, .int a0]) ++ List.replicate (5 - (lg_sl ([.ref qm, .int a0])).length) Slot.unset).toArray = ls at hl ⊢
  have hl : lv_has ls 5 [(0, .ref qm), (1, .int a0)] := hl
  refine lv_iconst (v := 0) hx hb dX1_divided_0 (by decide) ?_
  refine lv_istore_n (lv' := [(2, .int 0), (0, .ref qm), (1, .int a0)]) hx hb dX1_divided_1 rfl hl (by decide) rfl (fun ls hl => ?_)
  refine lv_iconst (v := 0) hx hb dX1_divided_2 (by decide) ?_
  refine lv_istore_n (lv' := [(3, .int 0), (2, .int 0), (0, .ref qm), (1, .int a0)]) hx hb dX1_divided_3 rfl hl (by decide) rfl (fun ls hl => ?_)
  refine lpX1_divided (l := l) dC dI qm pb pr pv pw ps pc cI a0 hx hb hml hown hts u hP hK 63 0 0 ls rfl (lv_sub hl [2, 3, 1, 0] rfl) (fun ls hl => ?_)
  refine lv_iload_n hx hb dX1_divided_70 rfl (lv_at hl 0 rfl) ?_
  refine lv_if_ne (tgt := 78) hx hb dX1_divided_71 (by decide) (fun c_1 => ?_) (fun c_1 => ?_)
  · refine lv_iconst (v := 0) hx hb dX1_divided_78 (by decide) ?_
    exact W.zret (v := 0) hx hb hr (by first | rfl | decide) (fun t ht hW => ⟨_, rfl, (by unfold m_divided; rw [if_neg c_1]), ht⟩) (fun q h => by cases h) dX1_divided_79
  · refine lv_iconst (v := 1) hx hb dX1_divided_74 (by decide) ?_
    refine lv_goto (tgt := 79) hx hb dX1_divided_75 (by decide) ?_
    exact W.zret (v := 1) hx hb hr (by first | rfl | decide) (fun t ht hW => ⟨_, rfl, (by unfold m_divided; rw [if_pos c_1]), ht⟩) (fun q h => by cases h) dX1_divided_79

abbrev rmX1_wrong : Room := { frames := 1, cells := 0, slots := 0, locals := 24 }
def m_wrF (u : m_S) : Nat → Nat → Int32 → Int32
  | 0, _, f => f
  | n + 1, k, f => if m_md u = 0 then f else m_wrF u n (k + 1) (if m_divided u (nI k) = 0 then f else nI k)
set_option maxHeartbeats 4000000 in
set_option maxRecDepth 100000 in
theorem lpX1_wrong {p : Program} {l : Launch} {e : Env} {s : State} {m : MethodId} {args : Array Value} {below : List Frame} {meth : Method} {c : Code} {H : Heap} {locs : List Loc} {Q : State → Prop} (dC : Nat → ClassId) (dI : Nat → Nat → Nat) (qm pb pr pv pw ps pc : Nat) (cI : ClassId) (hx : p.tables.exec = Jvm.exec) (hb : c.code = cX1_wrong) (hml : c.maxLocals = 3) (hown : s.vm.findClass RX1 = some m.cls) (hts : ∀ w ∈ vX1_wrong, w.before args s = true) (u : m_S) (hP : va_P (dC, dI) vwCl (m_W qm pb pr pv pw ps pc cI u) H) (hK : va_K (dC, dI) vwCl [(cI, .int)] s) : ∀ (n : Nat) (k : Nat) (f : Int32) (ls : Array Slot), k + n = 63 → lv_has ls 3 [(0, .ref qm), (1, .int f), (2, .int (nI k))] → (∀ (ls : Array Slot), lv_has ls 3 [(1, .int (m_wrF u n k f))] → W p l e (headSpec vX1_wrong rmX1_wrong).room s m args below meth c H locs 0 0 Q (F0 m 48 ls [])) → W p l e (headSpec vX1_wrong rmX1_wrong).room s m args below meth c H locs 0 0 Q (F0 m 15 ls []) := by
  have hinT : ∀ w ∈ wsX10, w ∈ vX1_wrong := fun w h => List.mem_cons_of_mem _ (inM w h)
  have hP : va_P (dC, dI) vwCl [(qm, .inr (1, [.int (m_th u), .int (m_st u), .int (m_md u), .ref pb, .int (nI (m_mn u)), .ref pr, .int (nI (m_rw u)), .ref pv, .int (nI (m_sz u)), .ref pw, .int (nI (m_wn u)), .ref ps, .int (nI (m_sn u)), .ref pc])), (pb, .inl (cI, 64, .inl (m_bi u))), (pr, .inl (cI, 259, .inl (m_ro u))), (pv, .inl (cI, 259, .inl (m_rc u))), (pw, .inl (cI, 259, .inl (m_wt u))), (ps, .inl (cI, 306, .inl (m_se u))), (pc, .inl (cI, 5, .inl (m_cn u)))] H := hP
  intro n
  induction n with
  | zero =>
    intro k f ls hn hl kk
    have hk : k = 63 := by omega
    subst hk
    have hl : lv_has ls 3 [(0, .ref qm), (1, .int f), (2, .int (nI 63))] := hl
    refine lv_iload_n hx hb dX1_wrong_15 rfl (lv_at hl 2 rfl) ?_
    refine lv_bipush (v := 63) hx hb dX1_wrong_16 (by decide) ?_
    refine lv_icmp_ge (tgt := 48) hx hb dX1_wrong_18 (by decide) (fun c_1 => ?_) (fun c_1 => absurd (by decide) c_1)
    exact kk ls (lv_sub hl [1] rfl)
  | succ n ih =>
    intro k f ls hn hl kk
    have hl : lv_has ls 3 [(0, .ref qm), (1, .int f), (2, .int (nI k))] := hl
    refine lv_iload_n hx hb dX1_wrong_15 rfl (lv_at hl 2 rfl) ?_
    refine lv_bipush (v := 63) hx hb dX1_wrong_16 (by decide) ?_
    refine lv_icmp_ge (tgt := 48) hx hb dX1_wrong_18 (by decide) (fun c_1 => absurd c_1 (show ¬ nI 63 ≤ nI k from nI_ge (by omega) (by decide))) (fun c_1 => ?_)
    refine lv_aload_n hx hb dX1_wrong_21 rfl (lv_at hl 0 rfl) ?_
    refine va_get (D := (dC, dI)) (ci := 1) (v := .int (m_md u)) (C := RX1) (T := TX1) (N := 14) hx hb hts hinT hown hK hP 0 rfl rfl 2 (by decide) (hts _ (List.mem_cons_of_mem _ fl_36)) (fun _ h9 => h9) rfl dX1_wrong_22 ?_
    refine lv_if_eq (tgt := 48) hx hb dX1_wrong_25 (by decide) (fun c_2 => ?_) (fun c_2 => ?_)
    · have eF : m_wrF u (n + 1) k f = f := by rw [m_wrF, if_pos c_2]
      exact kk ls (by rw [eF]; exact lv_sub hl [1] rfl)
    · refine lv_aload_n hx hb dX1_wrong_28 rfl (lv_at hl 0 rfl) ?_
      refine lv_iload_n hx hb dX1_wrong_29 rfl (lv_at hl 2 rfl) ?_
      have hPc : va_P (dC, dI) vwCl (m_W qm pb pr pv pw ps pc cI u) H := hP
      refine vp_callSi (va_runV (As := [.int (nI k)]) (rest := []) ⟨hx, hb, hml, hown, hts⟩ (kX1_divided l dC dI qm pb pr pv pw ps pc cI u (nI k) ) (cwV 1 hts gM_X1_divided rfl rfl rfl (by decide +kernel) ⟨Nat.le_of_ble_eq_true rfl, Nat.le_of_ble_eq_true rfl⟩) ⟨fun a U g mk q => by obtain ⟨q0, qP, qK⟩ := q; exact ⟨q0, qP, va_K.moved (u := U) (U := U.calling g mk a) (Vm.Alike.refl U.vm) qK⟩, va_recv hK hP (ci := 1) (q0 := 0) rfl rfl, fun U hU hW => ⟨rfl, by rw [hU]; exact hPc, va_K.moved hW.alike hK⟩⟩ rfl rfl hl.1 rfl (lv_room (Nat.le_of_ble_eq_true rfl)) dX1_wrong_30 ⟨Nat.le_of_ble_eq_true rfl, Nat.le_of_ble_eq_true rfl⟩).run (fun r_3 hr_3 => ?_)
      subst hr_3
      refine lv_if_eq (tgt := 40) hx hb dX1_wrong_33 (by decide) (fun c_4 => ?_) (fun c_4 => ?_)
      · refine lv_iload_n hx hb dX1_wrong_40 rfl (lv_at hl 1 rfl) ?_
        refine lv_istore_n (lv' := [(1, .int f), (0, .ref qm), (2, .int (nI k))]) hx hb dX1_wrong_41 rfl hl (by decide) rfl (fun ls hl => ?_)
        refine lv_iinc (v := nI (k + 1)) (lv' := [(2, .int (nI (k + 1))), (1, .int f), (0, .ref qm)]) hx hb dX1_wrong_42 hl (k := 2) rfl (show nI k + nI 1 = nI (k + 1) from nI_add _ _) (by decide) rfl (fun ls hl => ?_)
        refine lv_goto (tgt := 15) hx hb dX1_wrong_45 (by decide) ?_
        have eF : m_wrF u (n + 1) k f = m_wrF u n (k + 1) f := by rw [m_wrF, if_neg c_2, if_pos c_4]
        exact ih (k + 1) f ls (by omega) (lv_sub hl [2, 1, 0] rfl) (fun ls hl => kk ls (by rw [eF]; exact hl))
      · refine lv_iload_n hx hb dX1_wrong_36 rfl (lv_at hl 2 rfl) ?_
        refine lv_goto (tgt := 41) hx hb dX1_wrong_37 (by decide) ?_
        refine lv_istore_n (lv' := [(1, .int (nI k)), (0, .ref qm), (2, .int (nI k))]) hx hb dX1_wrong_41 rfl hl (by decide) rfl (fun ls hl => ?_)
        refine lv_iinc (v := nI (k + 1)) (lv' := [(2, .int (nI (k + 1))), (1, .int (nI k)), (0, .ref qm)]) hx hb dX1_wrong_42 hl (k := 2) rfl (show nI k + nI 1 = nI (k + 1) from nI_add _ _) (by decide) rfl (fun ls hl => ?_)
        refine lv_goto (tgt := 15) hx hb dX1_wrong_45 (by decide) ?_
        have eF : m_wrF u (n + 1) k f = m_wrF u n (k + 1) (nI k) := by rw [m_wrF, if_neg c_2, if_neg c_4]
        exact ih (k + 1) (nI k) ls (by omega) (lv_sub hl [2, 1, 0] rfl) (fun ls hl => kk ls (by rw [eF]; exact hl))
def m_wrong (u : m_S)  : Int32 := if (m_divided u (-1)) = 0 then (m_wrF u 63 0 (-2)) else (-1)
set_option maxHeartbeats 4000000 in
set_option maxRecDepth 100000 in
theorem kX1_wrong (l : Launch) (dC : Nat → ClassId) (dI : Nat → Nat → Nat) (qm pb pr pv pw ps pc : Nat) (cI : ClassId) (u : m_S)  : Met l yX1_wrong vX1_wrong rmX1_wrong (va_Pc [.ref qm] (fun U => va_P (dC, dI) vwCl (m_W qm pb pr pv pw ps pc cI u) U.heap ∧ va_K (dC, dI) vwCl [(cI, .int)] U)) (vp_Si (fun r => r = m_wrong u)) 0 0 (fun _ => False) := by
  refine Met.ofW (cc := cX1_wrong) (maxL := 3) (ret := some .int) (by decide) rfl ?_
  intro p e s m args below meth c s₁ B hml hv
  obtain ⟨rfl, hP, hK⟩ := hv
  have hx := B.exec
  have hb := B.bytes
  have hr := B.returns
  have hts := atoms_spec (ws := vX1_wrong) B.pre
  have hown : s.vm.findClass RX1 = some m.cls := findClass_of_methodNamed B.named
  have hlocks := B.notSynchronized
  have hinT : ∀ w ∈ wsX10, w ∈ vX1_wrong := fun w h => List.mem_cons_of_mem _ (inM w h)
  have hP : va_P (dC, dI) vwCl [(qm, .inr (1, [.int (m_th u), .int (m_st u), .int (m_md u), .ref pb, .int (nI (m_mn u)), .ref pr, .int (nI (m_rw u)), .ref pv, .int (nI (m_sz u)), .ref pw, .int (nI (m_wn u)), .ref ps, .int (nI (m_sn u)), .ref pc])), (pb, .inl (cI, 64, .inl (m_bi u))), (pr, .inl (cI, 259, .inl (m_ro u))), (pv, .inl (cI, 259, .inl (m_rc u))), (pw, .inl (cI, 259, .inl (m_wt u))), (ps, .inl (cI, 306, .inl (m_se u))), (pc, .inl (cI, 5, .inl (m_cn u)))] s.heap := hP
  have hl := lv_entry ([.ref qm]) (n := 3) (Nat.le_of_ble_eq_true rfl)
  rw [lg_entry_eq]
  generalize (lg_sl ([.ref qm]) ++ List.replicate (3 - (lg_sl ([.ref qm])).length) Slot.unset).toArray = ls at hl ⊢
  have hl : lv_has ls 3 [(0, .ref qm)] := hl
  refine lv_aload_n hx hb dX1_wrong_0 rfl (lv_at hl 0 rfl) ?_
  refine lv_iconst (v := (-1)) hx hb dX1_wrong_1 (by decide) ?_
  have hPc : va_P (dC, dI) vwCl (m_W qm pb pr pv pw ps pc cI u) s.heap := hP
  refine vp_callSi (va_runV (As := [.int (-1)]) (rest := []) ⟨hx, hb, hml, hown, hts⟩ (kX1_divided l dC dI qm pb pr pv pw ps pc cI u (-1) ) (cwV 1 hts gM_X1_divided rfl rfl rfl (by decide +kernel) ⟨Nat.le_of_ble_eq_true rfl, Nat.le_of_ble_eq_true rfl⟩) ⟨fun a U g mk q => by obtain ⟨q0, qP, qK⟩ := q; exact ⟨q0, qP, va_K.moved (u := U) (U := U.calling g mk a) (Vm.Alike.refl U.vm) qK⟩, va_recv hK hP (ci := 1) (q0 := 0) rfl rfl, fun U hU hW => ⟨rfl, by rw [hU]; exact hPc, va_K.moved hW.alike hK⟩⟩ rfl rfl hl.1 rfl (lv_room (Nat.le_of_ble_eq_true rfl)) dX1_wrong_2 ⟨Nat.le_of_ble_eq_true rfl, Nat.le_of_ble_eq_true rfl⟩).run (fun r_1 hr_1 => ?_)
  subst hr_1
  refine lv_if_eq (tgt := 10) hx hb dX1_wrong_5 (by decide) (fun c_2 => ?_) (fun c_2 => ?_)
  · refine lv_bipush (v := (-2)) hx hb dX1_wrong_10 (by decide) ?_
    refine lv_istore_n (lv' := [(1, .int (-2)), (0, .ref qm)]) hx hb dX1_wrong_12 rfl hl (by decide) rfl (fun ls hl => ?_)
    refine lv_iconst (v := 0) hx hb dX1_wrong_13 (by decide) ?_
    refine lv_istore_n (lv' := [(2, .int 0), (1, .int (-2)), (0, .ref qm)]) hx hb dX1_wrong_14 rfl hl (by decide) rfl (fun ls hl => ?_)
    refine lpX1_wrong (l := l) dC dI qm pb pr pv pw ps pc cI  hx hb hml hown hts u hP hK 63 0 (-2) ls rfl (lv_sub hl [2, 1, 0] rfl) (fun ls hl => ?_)
    refine lv_iload_n hx hb dX1_wrong_48 rfl (lv_at hl 0 rfl) ?_
    exact W.iret (v := m_wrF u 63 0 (-2)) hx hb hr (fun t ht hW => ⟨_, rfl, (by unfold m_wrong; rw [if_pos c_2]), ht⟩) (fun q h => by cases h) dX1_wrong_49
  · refine lv_iconst (v := (-1)) hx hb dX1_wrong_8 (by decide) ?_
    exact W.iret (v := (-1)) hx hb hr (fun t ht hW => ⟨_, rfl, (by unfold m_wrong; rw [if_neg c_2]), ht⟩) (fun q h => by cases h) dX1_wrong_9
