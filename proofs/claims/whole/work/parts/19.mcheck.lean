abbrev rmX1_check : Room := { frames := 0, cells := 0, slots := 0, locals := 0 }
def m_ckB (u : m_S) (fr ck k : Nat) : Int32 := if 56 ≤ nI k then 1 - (((nI ck) >>> ((62 - (nI k)) &&& 31)) &&& 1) else (((m_wt u) (fr + k / 8)) >>> ((7 - (nI (k % 8))) &&& 31)) &&& 1
def m_ciF (u : m_S) (fr ck : Nat) : Nat → Nat → Int32 → Int32
  | 0, _, r => r
  | n + 1, k, r => m_ciF u fr ck n (k + 1) (m_rd ((2 * r) + (m_ckB u fr ck k)))
def m_coF (u : m_S) (fr : Nat) : Nat → Nat → Int32 → Int32
  | 0, _, f => f
  | n + 1, ck, f => m_coF u fr n (ck + 1) (if m_ciF u fr ck 63 0 0 = 0 then nI (2 * ck) else f)
set_option maxHeartbeats 4000000 in
set_option maxRecDepth 100000 in
theorem lpX1_checkI {p : Program} {l : Launch} {e : Env} {s : State} {m : MethodId} {args : Array Value} {below : List Frame} {meth : Method} {c : Code} {H : Heap} {locs : List Loc} {Q : State → Prop} (dC : Nat → ClassId) (dI : Nat → Nat → Nat) (qm pb pr pv pw ps pc : Nat) (cI : ClassId) (fr ck : Nat) (hfr : fr ≤ 252) (f : Int32) (hx : p.tables.exec = Jvm.exec) (hb : c.code = cX1_check) (hml : c.maxLocals = 7) (hown : s.vm.findClass RX1 = some m.cls) (hts : ∀ w ∈ vX1_check, w.before args s = true) (u : m_S) (hP : va_P (dC, dI) vwCl (m_W qm pb pr pv pw ps pc cI u) H) (hK : va_K (dC, dI) vwCl [(cI, .int)] s) : ∀ (n : Nat) (k : Nat) (r : Int32) (ls : Array Slot), k + n = 63 → lv_has ls 7 [(0, .ref qm), (1, .int (nI fr)), (2, .int f), (3, .int (nI ck)), (4, .int r), (5, .int (nI k))] → (∀ (ls : Array Slot), lv_has ls 7 [(0, .ref qm), (1, .int (nI fr)), (2, .int f), (3, .int (nI ck)), (4, .int (m_ciF u fr ck n k r))] → W p l e (headSpec vX1_check rmX1_check).room s m args below meth c H locs 0 0 Q (F0 m 105 ls [])) → W p l e (headSpec vX1_check rmX1_check).room s m args below meth c H locs 0 0 Q (F0 m 17 ls []) := by
  have hinT : ∀ w ∈ wsX10, w ∈ vX1_check := fun w h => List.mem_cons_of_mem _ (inM w h)
  have hP : va_P (dC, dI) vwCl [(qm, .inr (1, [.int (m_th u), .int (m_st u), .int (m_md u), .ref pb, .int (nI (m_mn u)), .ref pr, .int (nI (m_rw u)), .ref pv, .int (nI (m_sz u)), .ref pw, .int (nI (m_wn u)), .ref ps, .int (nI (m_sn u)), .ref pc])), (pb, .inl (cI, 64, .inl (m_bi u))), (pr, .inl (cI, 259, .inl (m_ro u))), (pv, .inl (cI, 259, .inl (m_rc u))), (pw, .inl (cI, 259, .inl (m_wt u))), (ps, .inl (cI, 306, .inl (m_se u))), (pc, .inl (cI, 5, .inl (m_cn u)))] H := hP
  intro n
  induction n with
  | zero =>
    intro k r ls hn hl kk
    have hk : k = 63 := by omega
    subst hk
    have hl : lv_has ls 7 [(0, .ref qm), (1, .int (nI fr)), (2, .int f), (3, .int (nI ck)), (4, .int r), (5, .int (nI 63))] := hl
    refine lv_iload hx hb dX1_check_17 (lv_at hl 5 rfl) ?_
    refine lv_bipush (v := 63) hx hb dX1_check_19 (by decide) ?_
    refine lv_icmp_ge (tgt := 105) hx hb dX1_check_21 (by decide) (fun c_1 => ?_) (fun c_1 => absurd (by decide) c_1)
    exact kk ls (lv_sub hl [0, 1, 2, 3, 4] rfl)
  | succ n ih =>
    intro k r ls hn hl kk
    have hl : lv_has ls 7 [(0, .ref qm), (1, .int (nI fr)), (2, .int f), (3, .int (nI ck)), (4, .int r), (5, .int (nI k))] := hl
    refine lv_iload hx hb dX1_check_17 (lv_at hl 5 rfl) ?_
    refine lv_bipush (v := 63) hx hb dX1_check_19 (by decide) ?_
    refine lv_icmp_ge (tgt := 105) hx hb dX1_check_21 (by decide) (fun c_1 => absurd c_1 (show ¬ nI 63 ≤ nI k from nI_ge (by omega) (by decide))) (fun c_1 => ?_)
    refine lv_iload hx hb dX1_check_24 (lv_at hl 5 rfl) ?_
    refine lv_bipush (v := 56) hx hb dX1_check_26 (by decide) ?_
    refine lv_icmp_ge (tgt := 57) hx hb dX1_check_28 (by decide) (fun c_2 => ?_) (fun c_2 => ?_)
    · refine lv_iconst (v := 1) hx hb dX1_check_57 (by decide) ?_
      refine lv_iload_n hx hb dX1_check_58 rfl (lv_at hl 3 rfl) ?_
      refine lv_bipush (v := 62) hx hb dX1_check_59 (by decide) ?_
      refine lv_iload hx hb dX1_check_61 (lv_at hl 5 rfl) ?_
      refine lv_isub hx hb dX1_check_63 ?_
      refine lv_ishr hx hb dX1_check_64 ?_
      refine lv_iconst (v := 1) hx hb dX1_check_65 (by decide) ?_
      refine lv_iand hx hb dX1_check_66 ?_
      refine lv_isub hx hb dX1_check_67 ?_
      refine lv_istore (lv' := [(6, .int (1 - (((nI ck) >>> (62 - (nI k) &&& 31)) &&& 1))), (0, .ref qm), (1, .int (nI fr)), (2, .int f), (3, .int (nI ck)), (4, .int r), (5, .int (nI k))]) hx hb dX1_check_68 hl (by decide) rfl (fun ls hl => ?_)
      refine lv_iconst (v := 2) hx hb dX1_check_70 (by decide) ?_
      refine lv_iload hx hb dX1_check_71 (lv_at hl 5 rfl) ?_
      refine lv_imul hx hb dX1_check_73 ?_
      refine lv_iload hx hb dX1_check_74 (lv_at hl 0 rfl) ?_
      refine lv_iadd hx hb dX1_check_76 ?_
      refine lv_istore (lv' := [(4, .int ((2 * r) + (1 - (((nI ck) >>> (62 - (nI k) &&& 31)) &&& 1)))), (6, .int (1 - (((nI ck) >>> (62 - (nI k) &&& 31)) &&& 1))), (0, .ref qm), (1, .int (nI fr)), (2, .int f), (3, .int (nI ck)), (5, .int (nI k))]) hx hb dX1_check_77 hl (by decide) rfl (fun ls hl => ?_)
      refine lv_iload hx hb dX1_check_79 (lv_at hl 0 rfl) ?_
      refine lv_bipush (v := 127) hx hb dX1_check_81 (by decide) ?_
      refine lv_icmp_le (tgt := 95) hx hb dX1_check_83 (by decide) (fun c_3 => ?_) (fun c_3 => ?_)
      · refine lv_iload hx hb dX1_check_95 (lv_at hl 0 rfl) ?_
        refine lv_istore (lv' := [(4, .int ((2 * r) + (1 - (((nI ck) >>> (62 - (nI k) &&& 31)) &&& 1)))), (6, .int (1 - (((nI ck) >>> (62 - (nI k) &&& 31)) &&& 1))), (0, .ref qm), (1, .int (nI fr)), (2, .int f), (3, .int (nI ck)), (5, .int (nI k))]) hx hb dX1_check_97 hl (by decide) rfl (fun ls hl => ?_)
        refine lv_iinc (v := nI (k + 1)) (lv' := [(5, .int (nI (k + 1))), (4, .int ((2 * r) + (1 - (((nI ck) >>> (62 - (nI k) &&& 31)) &&& 1)))), (6, .int (1 - (((nI ck) >>> (62 - (nI k) &&& 31)) &&& 1))), (0, .ref qm), (1, .int (nI fr)), (2, .int f), (3, .int (nI ck))]) hx hb dX1_check_99 hl (k := 6) rfl (show nI k + nI 1 = nI (k + 1) from nI_add _ _) (by decide) rfl (fun ls hl => ?_)
        refine lv_goto (tgt := 17) hx hb dX1_check_102 (by decide) ?_
        have eF : m_ciF u fr ck (n + 1) k r = m_ciF u fr ck n (k + 1) ((2 * r) + (1 - (((nI ck) >>> (62 - (nI k) &&& 31)) &&& 1))) := by simp only [m_ciF, m_ckB, m_rd, if_pos c_2, if_pos c_3]
        exact ih (k + 1) ((2 * r) + (1 - (((nI ck) >>> (62 - (nI k) &&& 31)) &&& 1))) ls (by omega) (lv_sub hl [3, 4, 5, 6, 1, 0] rfl) (fun ls hl => kk ls (by rw [eF]; exact hl))
      · refine lv_iload hx hb dX1_check_86 (lv_at hl 0 rfl) ?_
        refine lv_sipush (v := 197) hx hb dX1_check_88 (by decide) ?_
        refine lv_ixor hx hb dX1_check_91 ?_
        refine lv_goto (tgt := 97) hx hb dX1_check_92 (by decide) ?_
        refine lv_istore (lv' := [(4, .int (((2 * r) + (1 - (((nI ck) >>> (62 - (nI k) &&& 31)) &&& 1))) ^^^ 197)), (6, .int (1 - (((nI ck) >>> (62 - (nI k) &&& 31)) &&& 1))), (0, .ref qm), (1, .int (nI fr)), (2, .int f), (3, .int (nI ck)), (5, .int (nI k))]) hx hb dX1_check_97 hl (by decide) rfl (fun ls hl => ?_)
        refine lv_iinc (v := nI (k + 1)) (lv' := [(5, .int (nI (k + 1))), (4, .int (((2 * r) + (1 - (((nI ck) >>> (62 - (nI k) &&& 31)) &&& 1))) ^^^ 197)), (6, .int (1 - (((nI ck) >>> (62 - (nI k) &&& 31)) &&& 1))), (0, .ref qm), (1, .int (nI fr)), (2, .int f), (3, .int (nI ck))]) hx hb dX1_check_99 hl (k := 6) rfl (show nI k + nI 1 = nI (k + 1) from nI_add _ _) (by decide) rfl (fun ls hl => ?_)
        refine lv_goto (tgt := 17) hx hb dX1_check_102 (by decide) ?_
        have eF : m_ciF u fr ck (n + 1) k r = m_ciF u fr ck n (k + 1) (((2 * r) + (1 - (((nI ck) >>> (62 - (nI k) &&& 31)) &&& 1))) ^^^ 197) := by simp only [m_ciF, m_ckB, m_rd, if_pos c_2, if_neg c_3]
        exact ih (k + 1) (((2 * r) + (1 - (((nI ck) >>> (62 - (nI k) &&& 31)) &&& 1))) ^^^ 197) ls (by omega) (lv_sub hl [3, 4, 5, 6, 1, 0] rfl) (fun ls hl => kk ls (by rw [eF]; exact hl))
    · have h56 : k < 56 := j_ltn (by decide) (by omega) (show ¬ nI 56 ≤ nI k from c_2)
      refine lv_aload_n hx hb dX1_check_31 rfl (lv_at hl 0 rfl) ?_
      refine va_get (D := (dC, dI)) (ci := 1) (v := .ref pw) (C := RX1) (T := TX1) (N := 14) hx hb hts hinT hown hK hP 0 rfl rfl 9 (by decide) (hts _ (List.mem_cons_of_mem _ fl_19)) (fun _ h9 => h9) rfl dX1_check_32 ?_
      refine lv_iload_n hx hb dX1_check_35 rfl (lv_at hl 1 rfl) ?_
      refine lv_iload hx hb dX1_check_36 (lv_at hl 5 rfl) ?_
      refine lv_bipush (v := 8) hx hb dX1_check_38 (by decide) ?_
      refine lv_idiv hx hb dX1_check_40 (by decide) ?_
      refine W.eq (congrArg (fun z => F0 m 41 ls (.int z :: [.int (nI fr), .ref pw])) (show (nI k) / 8 = nI (k / 8) from (pk_div (by omega) (by decide) (by decide)))) ?_
      refine lv_iadd hx hb dX1_check_41 ?_
      refine W.eq (congrArg (fun z => F0 m 42 ls (.int z :: [.ref pw])) (show (nI fr) + (nI (k / 8)) = nI (fr + k / 8) from (nI_add _ _))) ?_
      refine va_iald hx hb hK hP 4 0 rfl rfl (vp_in_nI (by omega) (by decide)) dX1_check_42 ?_
      refine W.eq (g2 := F0 m 43 ls [.int ((m_wt u) (fr + k / 8))]) (by rw [nI_clamp (by omega)]) ?_
      refine lv_bipush (v := 7) hx hb dX1_check_43 (by decide) ?_
      refine lv_iload hx hb dX1_check_45 (lv_at hl 5 rfl) ?_
      refine lv_bipush (v := 8) hx hb dX1_check_47 (by decide) ?_
      refine lv_irem hx hb dX1_check_49 (by decide) ?_
      refine W.eq (congrArg (fun z => F0 m 50 ls (.int z :: [.int 7, .int ((m_wt u) (fr + k / 8))])) (show (nI k) - (nI k) / 8 * 8 = nI (k % 8) from (pk_rem (by omega) (by decide) (by decide)))) ?_
      refine lv_isub hx hb dX1_check_50 ?_
      refine lv_ishr hx hb dX1_check_51 ?_
      refine lv_iconst (v := 1) hx hb dX1_check_52 (by decide) ?_
      refine lv_iand hx hb dX1_check_53 ?_
      refine lv_goto (tgt := 68) hx hb dX1_check_54 (by decide) ?_
      refine lv_istore (lv' := [(6, .int ((((m_wt u) (fr + k / 8)) >>> (7 - (nI (k % 8)) &&& 31)) &&& 1)), (0, .ref qm), (1, .int (nI fr)), (2, .int f), (3, .int (nI ck)), (4, .int r), (5, .int (nI k))]) hx hb dX1_check_68 hl (by decide) rfl (fun ls hl => ?_)
      refine lv_iconst (v := 2) hx hb dX1_check_70 (by decide) ?_
      refine lv_iload hx hb dX1_check_71 (lv_at hl 5 rfl) ?_
      refine lv_imul hx hb dX1_check_73 ?_
      refine lv_iload hx hb dX1_check_74 (lv_at hl 0 rfl) ?_
      refine lv_iadd hx hb dX1_check_76 ?_
      refine lv_istore (lv' := [(4, .int ((2 * r) + ((((m_wt u) (fr + k / 8)) >>> (7 - (nI (k % 8)) &&& 31)) &&& 1))), (6, .int ((((m_wt u) (fr + k / 8)) >>> (7 - (nI (k % 8)) &&& 31)) &&& 1)), (0, .ref qm), (1, .int (nI fr)), (2, .int f), (3, .int (nI ck)), (5, .int (nI k))]) hx hb dX1_check_77 hl (by decide) rfl (fun ls hl => ?_)
      refine lv_iload hx hb dX1_check_79 (lv_at hl 0 rfl) ?_
      refine lv_bipush (v := 127) hx hb dX1_check_81 (by decide) ?_
      refine lv_icmp_le (tgt := 95) hx hb dX1_check_83 (by decide) (fun c_4 => ?_) (fun c_4 => ?_)
      · refine lv_iload hx hb dX1_check_95 (lv_at hl 0 rfl) ?_
        refine lv_istore (lv' := [(4, .int ((2 * r) + ((((m_wt u) (fr + k / 8)) >>> (7 - (nI (k % 8)) &&& 31)) &&& 1))), (6, .int ((((m_wt u) (fr + k / 8)) >>> (7 - (nI (k % 8)) &&& 31)) &&& 1)), (0, .ref qm), (1, .int (nI fr)), (2, .int f), (3, .int (nI ck)), (5, .int (nI k))]) hx hb dX1_check_97 hl (by decide) rfl (fun ls hl => ?_)
        refine lv_iinc (v := nI (k + 1)) (lv' := [(5, .int (nI (k + 1))), (4, .int ((2 * r) + ((((m_wt u) (fr + k / 8)) >>> (7 - (nI (k % 8)) &&& 31)) &&& 1))), (6, .int ((((m_wt u) (fr + k / 8)) >>> (7 - (nI (k % 8)) &&& 31)) &&& 1)), (0, .ref qm), (1, .int (nI fr)), (2, .int f), (3, .int (nI ck))]) hx hb dX1_check_99 hl (k := 6) rfl (show nI k + nI 1 = nI (k + 1) from nI_add _ _) (by decide) rfl (fun ls hl => ?_)
        refine lv_goto (tgt := 17) hx hb dX1_check_102 (by decide) ?_
        have eF : m_ciF u fr ck (n + 1) k r = m_ciF u fr ck n (k + 1) ((2 * r) + ((((m_wt u) (fr + k / 8)) >>> (7 - (nI (k % 8)) &&& 31)) &&& 1)) := by simp only [m_ciF, m_ckB, m_rd, if_neg c_2, if_pos c_4]
        exact ih (k + 1) ((2 * r) + ((((m_wt u) (fr + k / 8)) >>> (7 - (nI (k % 8)) &&& 31)) &&& 1)) ls (by omega) (lv_sub hl [3, 4, 5, 6, 1, 0] rfl) (fun ls hl => kk ls (by rw [eF]; exact hl))
      · refine lv_iload hx hb dX1_check_86 (lv_at hl 0 rfl) ?_
        refine lv_sipush (v := 197) hx hb dX1_check_88 (by decide) ?_
        refine lv_ixor hx hb dX1_check_91 ?_
        refine lv_goto (tgt := 97) hx hb dX1_check_92 (by decide) ?_
        refine lv_istore (lv' := [(4, .int (((2 * r) + ((((m_wt u) (fr + k / 8)) >>> (7 - (nI (k % 8)) &&& 31)) &&& 1)) ^^^ 197)), (6, .int ((((m_wt u) (fr + k / 8)) >>> (7 - (nI (k % 8)) &&& 31)) &&& 1)), (0, .ref qm), (1, .int (nI fr)), (2, .int f), (3, .int (nI ck)), (5, .int (nI k))]) hx hb dX1_check_97 hl (by decide) rfl (fun ls hl => ?_)
        refine lv_iinc (v := nI (k + 1)) (lv' := [(5, .int (nI (k + 1))), (4, .int (((2 * r) + ((((m_wt u) (fr + k / 8)) >>> (7 - (nI (k % 8)) &&& 31)) &&& 1)) ^^^ 197)), (6, .int ((((m_wt u) (fr + k / 8)) >>> (7 - (nI (k % 8)) &&& 31)) &&& 1)), (0, .ref qm), (1, .int (nI fr)), (2, .int f), (3, .int (nI ck))]) hx hb dX1_check_99 hl (k := 6) rfl (show nI k + nI 1 = nI (k + 1) from nI_add _ _) (by decide) rfl (fun ls hl => ?_)
        refine lv_goto (tgt := 17) hx hb dX1_check_102 (by decide) ?_
        have eF : m_ciF u fr ck (n + 1) k r = m_ciF u fr ck n (k + 1) (((2 * r) + ((((m_wt u) (fr + k / 8)) >>> (7 - (nI (k % 8)) &&& 31)) &&& 1)) ^^^ 197) := by simp only [m_ciF, m_ckB, m_rd, if_neg c_2, if_neg c_4]
        exact ih (k + 1) (((2 * r) + ((((m_wt u) (fr + k / 8)) >>> (7 - (nI (k % 8)) &&& 31)) &&& 1)) ^^^ 197) ls (by omega) (lv_sub hl [3, 4, 5, 6, 1, 0] rfl) (fun ls hl => kk ls (by rw [eF]; exact hl))
set_option maxHeartbeats 4000000 in
set_option maxRecDepth 100000 in
theorem lpX1_checkO {p : Program} {l : Launch} {e : Env} {s : State} {m : MethodId} {args : Array Value} {below : List Frame} {meth : Method} {c : Code} {H : Heap} {locs : List Loc} {Q : State → Prop} (dC : Nat → ClassId) (dI : Nat → Nat → Nat) (qm pb pr pv pw ps pc : Nat) (cI : ClassId) (fr : Nat) (hfr : fr ≤ 252) (hx : p.tables.exec = Jvm.exec) (hb : c.code = cX1_check) (hml : c.maxLocals = 7) (hown : s.vm.findClass RX1 = some m.cls) (hts : ∀ w ∈ vX1_check, w.before args s = true) (u : m_S) (hP : va_P (dC, dI) vwCl (m_W qm pb pr pv pw ps pc cI u) H) (hK : va_K (dC, dI) vwCl [(cI, .int)] s) : ∀ (n : Nat) (ck : Nat) (f : Int32) (ls : Array Slot), ck + n = 128 → lv_has ls 7 [(0, .ref qm), (1, .int (nI fr)), (2, .int f), (3, .int (nI ck))] → (∀ (ls : Array Slot), lv_has ls 7 [(2, .int (m_coF u fr n ck f))] → W p l e (headSpec vX1_check rmX1_check).room s m args below meth c H locs 0 0 Q (F0 m 124 ls [])) → W p l e (headSpec vX1_check rmX1_check).room s m args below meth c H locs 0 0 Q (F0 m 4 ls []) := by
  have hinT : ∀ w ∈ wsX10, w ∈ vX1_check := fun w h => List.mem_cons_of_mem _ (inM w h)
  have hP : va_P (dC, dI) vwCl [(qm, .inr (1, [.int (m_th u), .int (m_st u), .int (m_md u), .ref pb, .int (nI (m_mn u)), .ref pr, .int (nI (m_rw u)), .ref pv, .int (nI (m_sz u)), .ref pw, .int (nI (m_wn u)), .ref ps, .int (nI (m_sn u)), .ref pc])), (pb, .inl (cI, 64, .inl (m_bi u))), (pr, .inl (cI, 259, .inl (m_ro u))), (pv, .inl (cI, 259, .inl (m_rc u))), (pw, .inl (cI, 259, .inl (m_wt u))), (ps, .inl (cI, 306, .inl (m_se u))), (pc, .inl (cI, 5, .inl (m_cn u)))] H := hP
  intro n
  induction n with
  | zero =>
    intro ck f ls hn hl kk
    have hc : ck = 128 := by omega
    subst hc
    have hl : lv_has ls 7 [(0, .ref qm), (1, .int (nI fr)), (2, .int f), (3, .int (nI 128))] := hl
    refine lv_iload_n hx hb dX1_check_4 rfl (lv_at hl 3 rfl) ?_
    refine lv_sipush (v := 128) hx hb dX1_check_5 (by decide) ?_
    refine lv_icmp_ge (tgt := 124) hx hb dX1_check_8 (by decide) (fun c_1 => ?_) (fun c_1 => absurd (by decide) c_1)
    exact kk ls (lv_sub hl [2] rfl)
  | succ n ih =>
    intro ck f ls hn hl kk
    have hl : lv_has ls 7 [(0, .ref qm), (1, .int (nI fr)), (2, .int f), (3, .int (nI ck))] := hl
    refine lv_iload_n hx hb dX1_check_4 rfl (lv_at hl 3 rfl) ?_
    refine lv_sipush (v := 128) hx hb dX1_check_5 (by decide) ?_
    refine lv_icmp_ge (tgt := 124) hx hb dX1_check_8 (by decide) (fun c_1 => absurd c_1 (show ¬ nI 128 ≤ nI ck from nI_ge (by omega) (by decide))) (fun c_1 => ?_)
    refine lv_iconst (v := 0) hx hb dX1_check_11 (by decide) ?_
    refine lv_istore (lv' := [(4, .int 0), (0, .ref qm), (1, .int (nI fr)), (2, .int f), (3, .int (nI ck))]) hx hb dX1_check_12 hl (by decide) rfl (fun ls hl => ?_)
    refine lv_iconst (v := 0) hx hb dX1_check_14 (by decide) ?_
    refine lv_istore (lv' := [(5, .int 0), (4, .int 0), (0, .ref qm), (1, .int (nI fr)), (2, .int f), (3, .int (nI ck))]) hx hb dX1_check_15 hl (by decide) rfl (fun ls hl => ?_)
    refine lpX1_checkI (l := l) dC dI qm pb pr pv pw ps pc cI fr ck hfr f hx hb hml hown hts u hP hK 63 0 0 ls rfl (lv_sub hl [2, 3, 4, 5, 1, 0] rfl) (fun ls hl => ?_)
    refine lv_iload hx hb dX1_check_105 (lv_at hl 4 rfl) ?_
    refine lv_if_ne (tgt := 116) hx hb dX1_check_107 (by decide) (fun c_2 => ?_) (fun c_2 => ?_)
    · refine lv_iload_n hx hb dX1_check_116 rfl (lv_at hl 2 rfl) ?_
      refine lv_istore_n (lv' := [(2, .int f), (0, .ref qm), (1, .int (nI fr)), (3, .int (nI ck)), (4, .int (m_ciF u fr ck 63 0 0))]) hx hb dX1_check_117 rfl hl (by decide) rfl (fun ls hl => ?_)
      refine lv_iinc (v := nI (ck + 1)) (lv' := [(3, .int (nI (ck + 1))), (2, .int f), (0, .ref qm), (1, .int (nI fr)), (4, .int (m_ciF u fr ck 63 0 0))]) hx hb dX1_check_118 hl (k := 3) rfl (show nI ck + nI 1 = nI (ck + 1) from nI_add _ _) (by decide) rfl (fun ls hl => ?_)
      refine lv_goto (tgt := 4) hx hb dX1_check_121 (by decide) ?_
      have eF : m_coF u fr (n + 1) ck f = m_coF u fr n (ck + 1) f := by rw [m_coF, if_neg c_2]
      exact ih (ck + 1) f ls (by omega) (lv_sub hl [2, 3, 1, 0] rfl) (fun ls hl => kk ls (by rw [eF]; exact hl))
    · refine lv_iconst (v := 2) hx hb dX1_check_110 (by decide) ?_
      refine lv_iload_n hx hb dX1_check_111 rfl (lv_at hl 3 rfl) ?_
      refine lv_imul hx hb dX1_check_112 ?_
      refine W.eq (congrArg (fun z => F0 m 113 ls (.int z :: [])) (show 2 * (nI ck) = nI (2 * ck) from (pk_mul _ _))) ?_
      refine lv_goto (tgt := 117) hx hb dX1_check_113 (by decide) ?_
      refine lv_istore_n (lv' := [(2, .int (nI (2 * ck))), (0, .ref qm), (1, .int (nI fr)), (3, .int (nI ck)), (4, .int (m_ciF u fr ck 63 0 0))]) hx hb dX1_check_117 rfl hl (by decide) rfl (fun ls hl => ?_)
      refine lv_iinc (v := nI (ck + 1)) (lv' := [(3, .int (nI (ck + 1))), (2, .int (nI (2 * ck))), (0, .ref qm), (1, .int (nI fr)), (4, .int (m_ciF u fr ck 63 0 0))]) hx hb dX1_check_118 hl (k := 3) rfl (show nI ck + nI 1 = nI (ck + 1) from nI_add _ _) (by decide) rfl (fun ls hl => ?_)
      refine lv_goto (tgt := 4) hx hb dX1_check_121 (by decide) ?_
      have eF : m_coF u fr (n + 1) ck f = m_coF u fr n (ck + 1) (nI (2 * ck)) := by rw [m_coF, if_pos c_2]
      exact ih (ck + 1) (nI (2 * ck)) ls (by omega) (lv_sub hl [2, 3, 1, 0] rfl) (fun ls hl => kk ls (by rw [eF]; exact hl))
def m_check (u : m_S) (fr : Nat) : Int32 := m_coF u fr 128 0 0
set_option maxHeartbeats 4000000 in
set_option maxRecDepth 100000 in
theorem kX1_check (l : Launch) (dC : Nat → ClassId) (dI : Nat → Nat → Nat) (qm pb pr pv pw ps pc : Nat) (cI : ClassId) (u : m_S) (fr : Nat) (hfr : fr ≤ 252) : Met l yX1_check vX1_check rmX1_check (va_Pc [.ref qm, .int (nI fr)] (fun U => va_P (dC, dI) vwCl (m_W qm pb pr pv pw ps pc cI u) U.heap ∧ va_K (dC, dI) vwCl [(cI, .int)] U)) (vp_Si (fun r => r = m_check u fr)) 0 0 (fun _ => False) := by
  refine Met.ofW (cc := cX1_check) (maxL := 7) (ret := some .int) (by decide) rfl ?_
  intro p e s m args below meth c s₁ B hml hv
  obtain ⟨rfl, hP, hK⟩ := hv
  have hx := B.exec
  have hb := B.bytes
  have hr := B.returns
  have hts := atoms_spec (ws := vX1_check) B.pre
  have hown : s.vm.findClass RX1 = some m.cls := findClass_of_methodNamed B.named
  have hlocks := B.notSynchronized
  have hinT : ∀ w ∈ wsX10, w ∈ vX1_check := fun w h => List.mem_cons_of_mem _ (inM w h)
  have hP : va_P (dC, dI) vwCl [(qm, .inr (1, [.int (m_th u), .int (m_st u), .int (m_md u), .ref pb, .int (nI (m_mn u)), .ref pr, .int (nI (m_rw u)), .ref pv, .int (nI (m_sz u)), .ref pw, .int (nI (m_wn u)), .ref ps, .int (nI (m_sn u)), .ref pc])), (pb, .inl (cI, 64, .inl (m_bi u))), (pr, .inl (cI, 259, .inl (m_ro u))), (pv, .inl (cI, 259, .inl (m_rc u))), (pw, .inl (cI, 259, .inl (m_wt u))), (ps, .inl (cI, 306, .inl (m_se u))), (pc, .inl (cI, 5, .inl (m_cn u)))] s.heap := hP
  have hl := lv_entry ([.ref qm, .int (nI fr)]) (n := 7) (Nat.le_of_ble_eq_true rfl)
  rw [lg_entry_eq]
  generalize (lg_sl ([.ref qm, .int (nI fr)]) ++ List.replicate (7 - (lg_sl ([.ref qm, .int (nI fr)])).length) Slot.unset).toArray = ls at hl ⊢
  have hl : lv_has ls 7 [(0, .ref qm), (1, .int (nI fr))] := hl
  refine lv_iconst (v := 0) hx hb dX1_check_0 (by decide) ?_
  refine lv_istore_n (lv' := [(2, .int 0), (0, .ref qm), (1, .int (nI fr))]) hx hb dX1_check_1 rfl hl (by decide) rfl (fun ls hl => ?_)
  refine lv_iconst (v := 0) hx hb dX1_check_2 (by decide) ?_
  refine lv_istore_n (lv' := [(3, .int 0), (2, .int 0), (0, .ref qm), (1, .int (nI fr))]) hx hb dX1_check_3 rfl hl (by decide) rfl (fun ls hl => ?_)
  refine lpX1_checkO (l := l) dC dI qm pb pr pv pw ps pc cI fr hfr hx hb hml hown hts u hP hK 128 0 0 ls rfl (lv_sub hl [2, 3, 1, 0] rfl) (fun ls hl => ?_)
  refine lv_iload_n hx hb dX1_check_124 rfl (lv_at hl 0 rfl) ?_
  exact W.iret (v := m_coF u fr 128 0 0) hx hb hr (fun t ht hW => ⟨_, rfl, (rfl), ht⟩) (fun q h => by cases h) dX1_check_125
