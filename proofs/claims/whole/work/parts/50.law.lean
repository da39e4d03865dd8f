theorem gLM_X1_turn : GoodIn lw_tbl (wsV RL 17 RX1 yX1_turn vX1_turn) := tb_vL (tb_law tbX1_turn) (by decide +kernel)
theorem gLM_X1_mending : GoodIn lw_tbl (wsV RL 22 RX1 yX1_mending vX1_mending) := tb_vL (tb_law tbX1_mending) (by decide +kernel)
theorem gLM_X1_take : GoodIn lw_tbl (wsV RL 29 RX1 yX1_take vX1_take) := tb_vL (tb_law tbX1_take) (by decide +kernel)
theorem gLM_X1_state : GoodIn lw_tbl (wsV RL 34 RX1 yX1_state vX1_state) := tb_vL (tb_law tbX1_state) (by decide +kernel)
theorem gLM_X1_count : GoodIn lw_tbl (wsV RL 39 RX1 yX1_count vX1_count) := tb_vL (tb_law tbX1_count) (by decide +kernel)
theorem gLM_X1_size : GoodIn lw_tbl (wsV RL 43 RX1 yX1_size vX1_size) := tb_vL (tb_law tbX1_size) (by decide +kernel)
theorem gLM_X1_byteAt : GoodIn lw_tbl (wsV RL 47 RX1 yX1_byteAt vX1_byteAt) := tb_vL (tb_law tbX1_byteAt) (by decide +kernel)
theorem gLM_X1_put : GoodIn lw_tbl (wsV RL 51 RX1 yX1_put vX1_put) := tb_vL (tb_law tbX1_put) (by decide +kernel)
theorem gLM_X1_send : GoodIn lw_tbl (wsV RL 55 RX1 yX1_send vX1_send) := tb_vL (tb_law tbX1_send) (by decide +kernel)
theorem gLM_X1_sent : GoodIn lw_tbl (wsV RL 59 RX1 yX1_sent vX1_sent) := tb_vL (tb_law tbX1_sent) (by decide +kernel)
-- ===== end of PART A; then your names; then what follows =====
/-! THE CLAIM OUT OF ONE WALK OF THE LAW'S BODY. Your part is whole_start (and what it stands on); all else here is the same for every law, but numbers. -/
def R_law : String := "CodeBlocksLaw"
def lw_P (b : Addr) (xs : List Int32) (args : Array Value) (s : State) : Prop := args = #[.ref b] ∧ s.IntsAt b xs ∧ xs.length ≤ 2048 ∧ (Jvm.Cond.and given_1 narrow_1).before args s = true
def lw_Q (_ : Array Value) (s : State) (o : Outcome) (t : State) : Prop := o = .returned (some (.int 1)) ∧ Framed s o t [] 13 2267
def lw_Z (below : List Frame) (a : Array Value) (s : State) : State → Prop := fun t => ∃ o, t.status = .running ∧ Ended t below o ∧ lw_Q a s o t
/-- the law's own end, with 1 on the stack, nothing written that was there before, its room as the claim has it -/
theorem lw_ret {p : Program} {l : Launch} {e : Env} {s : State} {m : MethodId} {below : List Frame} {meth : Method} {c : Code} {b : Nat} (hx : p.tables.exec = Jvm.exec) (hb : c.code = code) (hr : meth.sig.returnType = ret) (hlocks : meth.locks = false) {pc : Nat} {H : Heap} {ls : Array Slot} (hdg : decode code pc = .ok (.ireturn, 1)) : W p l e room_1 s m #[Value.ref b] below meth c H [] 13 2267 (lw_Z below #[Value.ref b] s) (F0 m pc ls [.int 1]) := by
  intro T hT X
  obtain ⟨fs, hret, hrun, hended, hW, hframe⟩ := X.leave (v := some (.int 1)) (hlocks := hlocks) (fun h => by rw [hr] at h; cases h)
  have hmeth' : T.vm.method? m = some meth := X.method'
  refine ⟨T.setFrames fs, ?_, .returned (some (.int 1)), hrun, hended, rfl, ⟨_, rfl⟩, hW, hframe⟩
  jvm_step X.here [X.here.top, hx, hb, hdg, hmeth', hr, ret, narrow_b1]
  (try refine ⟨rfl, ?_⟩); (try refine ⟨rfl, ?_⟩)
  first | (intro acts; rw [hret _ acts rfl rfl rfl]) | rw [hret _ _ rfl rfl rfl]
  exact Steps.refl _
/-- what holds at the law's entry: the machine, the code, the tables' words (any of lw_tbl by 'hts w (by decide +kernel)'), the script of L ints xs at the cell b, what the Statement gives of the start (any of its parts by flat_of_before) -/
def lw_At (p : Program) (s : State) (m : MethodId) (meth : Method) (c : Code) (b L : Nat) (xs : Nat → Int32) : Prop :=
  p.tables.exec = Jvm.exec ∧ c.code = code ∧ meth.sig.returnType = ret ∧ c.maxLocals = 4 ∧ s.vm.findClass R_law = some m.cls ∧ (∀ w ∈ lw_tbl, w.before #[Value.ref b] s = true) ∧ va_X b L xs s s.heap ∧ b < s.heap.size ∧ meth.locks = false ∧ (Jvm.Cond.and given_1 narrow_1).before #[Value.ref b] s = true
set_option maxHeartbeats 8000000 in
set_option maxRecDepth 100000 in
/-- THE LAW'S LOOP: behind k calls class and reference are related -/
theorem law_loop {p : Program} {l : Launch} {e : Env} {s : State} {m : MethodId} {below : List Frame} {meth : Method} {c : Code} {dC : Nat → ClassId} {dI : Nat → Nat → Nat} {b L : Nat} {xs : Nat → Int32} (hL : L ≤ 2048) (C0 : lw_At p s m meth c b L xs) (tT : Nat) (hTl : x_Tl tT (fun q : Nat => s.heap.size ≤ q) s) (qx qc qw qs qm pb pr pv pw ps pc : Nat) (cI : ClassId) (hK : va_K (dC, dI) vwCl [(cI, .int)] s) :
    ∀ (n k : Nat), 4 * k ≤ L → L + 1 ≤ 4 * k + n → ∀ (u : x_S) (v : m_S), Rel k u v → ∀ (H : Heap) (locs : List Loc), va_P (dC, dI) vwCl (x_W qx qc qw qs cI u ++ m_W qm pb pr pv pw ps pc cI v) H → va_D (fun q : Nat => s.heap.size ≤ q) (x_W qx qc qw qs cI u ++ m_W qm pb pr pv pw ps pc cI v) → va_S (fun q : Nat => s.heap.size ≤ q) s.heap H locs → ∀ (ls : Array Slot), lv_has ls 4 [(0, .ref b), (1, .ref qx), (2, .ref qm), (3, .int (nI (4 * k)))] → W p l e room_1 s m #[Value.ref b] below meth c H locs 13 2267 (lw_Z below #[Value.ref b] s) (F0 m 18 ls []) := by
  obtain ⟨hx, hb, hr, hml, hown, hts, hX, hbl, hlocks, hgv⟩ := C0
  have hown : s.vm.findClass RL = some m.cls := hown
  have hA : ∀ q : Nat, s.heap.size ≤ q → (fun q : Nat => s.heap.size ≤ q) q := fun _ h => h
  have hbA : ¬ (fun q : Nat => s.heap.size ≤ q) b := Nat.not_le.mpr hbl
  intro n
  induction n with
  | zero =>
    intro k h1 h2
    exact absurd h2 (by omega)
  | succ n ih =>
    intro k hi hin u v hR H locs hP hD hS ls hl
    obtain ⟨hmI, hsz, hsn, hwn, ew⟩ := Rel.safe hR
    refine lv_iload_n hx hb dL_law_18 rfl (lv_at hl 3 rfl) ?_
    refine lv_aload_n hx hb dL_law_19 rfl (lv_at hl 0 rfl) ?_
    refine va_slen hx hb hX hbl hbA hS dL_law_20 ?_
    refine W.eq (g2 := F0 m 21 ls [.int (nI L), .int (nI (4 * k))]) rfl ?_
    refine lv_iconst (v := 4) hx hb dL_law_21 (by decide) ?_
    refine lv_isub hx hb dL_law_22 ?_
    refine lv_icmp_gt (tgt := 364) hx hb dL_law_23 (by decide) (fun c_1 => ?_) (fun c_1 => ?_)
    · refine lv_iconst (v := 1) hx hb dL_law_364 (by decide) ?_
      refine va_forget (fun q hq => hS.2.2 q hq) ?_
      exact lw_ret hx hb hr hlocks dL_law_365
    · have hk4 : 4 * k + 4 ≤ L := j_law4 (by omega) (by omega) c_1
      refine lv_aload_n hx hb dL_law_26 rfl (lv_at hl 0 rfl) ?_
      refine lv_iload_n hx hb dL_law_27 rfl (lv_at hl 3 rfl) ?_
      refine va_sld hx hb hX hbl hbA hS (vp_in_nI (by omega) (by omega)) dL_law_28 ?_
      refine lv_bipush (v := 15) hx hb dL_law_29 (by decide) ?_
      refine lv_iand hx hb dL_law_31 ?_
      refine lv_topi (fun y ey => ?_)
      obtain ⟨j, hj, ej⟩ : ∃ j : Nat, j < 16 ∧ y = nI j := by rw [ey]; exact pk_andE _ 4 (by decide)
      subst ej
      clear ey
      rcases (show j = 0 ∨ j = 1 ∨ j = 2 ∨ j = 3 ∨ j = 4 ∨ j = 5 ∨ j = 6 ∨ j = 7 ∨ j = 8 ∨ j = 9 ∨ 10 ≤ j by omega) with rfl | rfl | rfl | rfl | rfl | rfl | rfl | rfl | rfl | rfl | hj10
      · refine lv_tableIn (off := 56) (tgt := 88) hx hb dL_law_32 (by decide) (by decide) (by decide) (by decide) ?_
        refine lv_aload_n hx hb dL_law_88 rfl (lv_at hl 1 rfl) ?_
        refine lv_aload_n hx hb dL_law_89 rfl (lv_at hl 0 rfl) ?_
        refine lv_iload_n hx hb dL_law_90 rfl (lv_at hl 3 rfl) ?_
        refine lv_iconst (v := 1) hx hb dL_law_91 (by decide) ?_
        refine lv_iadd hx hb dL_law_92 ?_
        refine va_sld hx hb hX hbl hbA hS (show vp_in (nI (4 * k) + nI 1) L from by rw [nI_add]; exact vp_in_nI (by omega) (by omega)) dL_law_93 ?_
        refine lv_if_eq (tgt := 101) hx hb dL_law_94 (by decide) (fun c_2 => ?_) (fun c_2 => ?_)
        · refine lv_iconst (v := 0) hx hb dL_law_101 (by decide) ?_
          have hPc : va_P (dC, dI) vwCl (x_W qx qc qw qs cI u) H := hP.sub [0, 1, 2, 3, 4, 5] rfl
          have hDc : va_D (fun q : Nat => s.heap.size ≤ q) (x_W qx qc qw qs cI u) := hD.sub [0, 1, 2, 3, 4, 5] (by decide) rfl
          have hFc := va_free (wc := (x_W qx qc qw qs cI u)) hD hS hA [0, 1, 2, 3, 4, 5] rfl
          refine va_calli (va_runV (As := [.int 0]) (rest := []) ⟨hx, hb, hml, hown, hts⟩ (kX0_turn l dC dI qx qc qw qs cI H.size u false ) (cwV 1 hts (tb_X gL_law_X0_turn) rfl rfl rfl (by decide +kernel) ⟨Nat.le_of_ble_eq_true rfl, Nat.le_of_ble_eq_true rfl⟩) ⟨fun a U g mk q => by obtain ⟨q0, q1, qP, qK, qD⟩ := q; exact ⟨q0, q1, qP, va_K.moved (u := U) (U := U.calling g mk a) (Vm.Alike.refl U.vm) qK, qD⟩, va_recv hK hP (ci := 0) (q0 := 0) rfl rfl, fun U hU hW => ⟨rfl, by rw [hU], by rw [hU]; exact hPc, va_K.moved hW.alike hK, hDc.weaken (fun _ _ _ _ => trivial)⟩⟩ rfl rfl hl.1 rfl (lv_room (Nat.le_of_ble_eq_true rfl)) dL_law_102 ⟨Nat.le_of_ble_eq_true rfl, Nat.le_of_ble_eq_true rfl⟩) hS (fun q _ h => hFc q h) hFc (fun r_4 u_3 t H1 locs ht hvm hu_3 hB hz1 hk1 hS => ?_)
          obtain ⟨hP1, -, hD1⟩ := hB
          rw [ht] at hP1
          obtain ⟨hr_4, hu_3⟩ := hu_3
          subst hr_4
          subst hu_3
          obtain ⟨hP, hD⟩ := va_join (wr := (m_W qm pb pr pv pw ps pc cI v)) (w1 := (x_W qx qc qw qs cI (x_turn u false))) hP hD [0, 1, 2, 3, 4, 5] [6, 7, 8, 9, 10, 11, 12] rfl rfl (by decide) (by decide) hk1 hFc hP1 hD1
          have hP : va_P (dC, dI) vwCl ((x_W qx qc qw qs cI (x_turn u false)) ++ (m_W qm pb pr pv pw ps pc cI v)) H1 := hP.sub [7, 8, 9, 10, 11, 12, 0, 1, 2, 3, 4, 5, 6] rfl
          have hD : va_D (fun q : Nat => s.heap.size ≤ q) ((x_W qx qc qw qs cI (x_turn u false)) ++ (m_W qm pb pr pv pw ps pc cI v)) := hD.sub [7, 8, 9, 10, 11, 12, 0, 1, 2, 3, 4, 5, 6] (by decide) rfl
          generalize H1 = H at hP hS ⊢
          refine lv_aload_n hx hb dL_law_105 rfl (lv_at hl 2 rfl) ?_
          refine lv_aload_n hx hb dL_law_106 rfl (lv_at hl 0 rfl) ?_
          refine lv_iload_n hx hb dL_law_107 rfl (lv_at hl 3 rfl) ?_
          refine lv_iconst (v := 1) hx hb dL_law_108 (by decide) ?_
          refine lv_iadd hx hb dL_law_109 ?_
          refine va_sld hx hb hX hbl hbA hS (show vp_in (nI (4 * k) + nI 1) L from by rw [nI_add]; exact vp_in_nI (by omega) (by omega)) dL_law_110 ?_
          refine lv_if_eq (tgt := 118) hx hb dL_law_111 (by decide) (fun c_5 => ?_) (fun c_5 => absurd (c_2) c_5)
          refine lv_iconst (v := 0) hx hb dL_law_118 (by decide) ?_
          have hPc : va_P (dC, dI) vwCl (m_W qm pb pr pv pw ps pc cI v) H := hP.sub [6, 7, 8, 9, 10, 11, 12] rfl
          have hDc : va_D (fun q : Nat => s.heap.size ≤ q) (m_W qm pb pr pv pw ps pc cI v) := hD.sub [6, 7, 8, 9, 10, 11, 12] (by decide) rfl
          have hFc := va_free (wc := (m_W qm pb pr pv pw ps pc cI v)) hD hS hA [6, 7, 8, 9, 10, 11, 12] rfl
          refine va_calli (va_runV (As := [.int 0]) (rest := [.int (x_turn_r u false)]) ⟨hx, hb, hml, hown, hts⟩ (kX1_turn l dC dI qm pb pr pv pw ps pc cI H.size v false ) (cwV 1 hts gLM_X1_turn rfl rfl rfl (by decide +kernel) ⟨Nat.le_of_ble_eq_true rfl, Nat.le_of_ble_eq_true rfl⟩) ⟨fun a U g mk q => by obtain ⟨q0, q1, qP, qK, qD⟩ := q; exact ⟨q0, q1, qP, va_K.moved (u := U) (U := U.calling g mk a) (Vm.Alike.refl U.vm) qK, qD⟩, va_recv hK hP (ci := 1) (q0 := 6) rfl rfl, fun U hU hW => ⟨rfl, by rw [hU], by rw [hU]; exact hPc, va_K.moved hW.alike hK, hDc.weaken (fun _ _ _ _ => trivial)⟩⟩ rfl rfl hl.1 rfl (lv_room (Nat.le_of_ble_eq_true rfl)) dL_law_119 ⟨Nat.le_of_ble_eq_true rfl, Nat.le_of_ble_eq_true rfl⟩) hS (fun q _ h => hFc q h) hFc (fun r_7 v_6 t H1 locs ht hvm hv_6 hB hz1 hk1 hS => ?_)
          obtain ⟨hP1, -, hD1⟩ := hB
          rw [ht] at hP1
          obtain ⟨hr_7, hv_6⟩ := hv_6
          subst hr_7
          subst hv_6
          obtain ⟨hP, hD⟩ := va_join (wr := (x_W qx qc qw qs cI (x_turn u false))) (w1 := (m_W qm pb pr pv pw ps pc cI (m_turn v false))) hP hD [6, 7, 8, 9, 10, 11, 12] [0, 1, 2, 3, 4, 5] rfl rfl (by decide) (by decide) hk1 hFc hP1 hD1
          generalize H1 = H at hP hS ⊢
          refine lv_icmp_eq (tgt := 358) hx hb dL_law_122 (by decide) (fun c_8 => ?_) (fun c_8 => absurd ((r_turn hR false).1) c_8)
          refine lv_iinc (v := nI (4 * (k + 1))) (lv' := [(3, .int (nI (4 * (k + 1)))), (0, .ref b), (1, .ref qx), (2, .ref qm)]) hx hb dL_law_358 hl (k := 3) rfl (show nI (4 * k) + nI 4 = nI (4 * (k + 1)) from by rw [nI_add]; rfl) (by decide) rfl (fun ls hl => ?_)
          refine lv_goto (tgt := 18) hx hb dL_law_361 (by decide) ?_
          exact ih (k + 1) (by omega) (by omega) (x_turn u false) (m_turn v false) (r_turn hR false).2 H locs hP hD hS ls (lv_sub hl [1, 2, 3, 0] rfl)
        · refine lv_iconst (v := 1) hx hb dL_law_97 (by decide) ?_
          refine lv_goto (tgt := 102) hx hb dL_law_98 (by decide) ?_
          have hPc : va_P (dC, dI) vwCl (x_W qx qc qw qs cI u) H := hP.sub [0, 1, 2, 3, 4, 5] rfl
          have hDc : va_D (fun q : Nat => s.heap.size ≤ q) (x_W qx qc qw qs cI u) := hD.sub [0, 1, 2, 3, 4, 5] (by decide) rfl
          have hFc := va_free (wc := (x_W qx qc qw qs cI u)) hD hS hA [0, 1, 2, 3, 4, 5] rfl
          refine va_calli (va_runV (As := [.int 1]) (rest := []) ⟨hx, hb, hml, hown, hts⟩ (kX0_turn l dC dI qx qc qw qs cI H.size u true ) (cwV 1 hts (tb_X gL_law_X0_turn) rfl rfl rfl (by decide +kernel) ⟨Nat.le_of_ble_eq_true rfl, Nat.le_of_ble_eq_true rfl⟩) ⟨fun a U g mk q => by obtain ⟨q0, q1, qP, qK, qD⟩ := q; exact ⟨q0, q1, qP, va_K.moved (u := U) (U := U.calling g mk a) (Vm.Alike.refl U.vm) qK, qD⟩, va_recv hK hP (ci := 0) (q0 := 0) rfl rfl, fun U hU hW => ⟨rfl, by rw [hU], by rw [hU]; exact hPc, va_K.moved hW.alike hK, hDc.weaken (fun _ _ _ _ => trivial)⟩⟩ rfl rfl hl.1 rfl (lv_room (Nat.le_of_ble_eq_true rfl)) dL_law_102 ⟨Nat.le_of_ble_eq_true rfl, Nat.le_of_ble_eq_true rfl⟩) hS (fun q _ h => hFc q h) hFc (fun r_10 u_9 t H1 locs ht hvm hu_9 hB hz1 hk1 hS => ?_)
          obtain ⟨hP1, -, hD1⟩ := hB
          rw [ht] at hP1
          obtain ⟨hr_10, hu_9⟩ := hu_9
          subst hr_10
          subst hu_9
          obtain ⟨hP, hD⟩ := va_join (wr := (m_W qm pb pr pv pw ps pc cI v)) (w1 := (x_W qx qc qw qs cI (x_turn u true))) hP hD [0, 1, 2, 3, 4, 5] [6, 7, 8, 9, 10, 11, 12] rfl rfl (by decide) (by decide) hk1 hFc hP1 hD1
          have hP : va_P (dC, dI) vwCl ((x_W qx qc qw qs cI (x_turn u true)) ++ (m_W qm pb pr pv pw ps pc cI v)) H1 := hP.sub [7, 8, 9, 10, 11, 12, 0, 1, 2, 3, 4, 5, 6] rfl
          have hD : va_D (fun q : Nat => s.heap.size ≤ q) ((x_W qx qc qw qs cI (x_turn u true)) ++ (m_W qm pb pr pv pw ps pc cI v)) := hD.sub [7, 8, 9, 10, 11, 12, 0, 1, 2, 3, 4, 5, 6] (by decide) rfl
          generalize H1 = H at hP hS ⊢
          refine lv_aload_n hx hb dL_law_105 rfl (lv_at hl 2 rfl) ?_
          refine lv_aload_n hx hb dL_law_106 rfl (lv_at hl 0 rfl) ?_
          refine lv_iload_n hx hb dL_law_107 rfl (lv_at hl 3 rfl) ?_
          refine lv_iconst (v := 1) hx hb dL_law_108 (by decide) ?_
          refine lv_iadd hx hb dL_law_109 ?_
          refine va_sld hx hb hX hbl hbA hS (show vp_in (nI (4 * k) + nI 1) L from by rw [nI_add]; exact vp_in_nI (by omega) (by omega)) dL_law_110 ?_
          refine lv_if_eq (tgt := 118) hx hb dL_law_111 (by decide) (fun c_11 => absurd c_11 (c_2)) (fun c_11 => ?_)
          refine lv_iconst (v := 1) hx hb dL_law_114 (by decide) ?_
          refine lv_goto (tgt := 119) hx hb dL_law_115 (by decide) ?_
          have hPc : va_P (dC, dI) vwCl (m_W qm pb pr pv pw ps pc cI v) H := hP.sub [6, 7, 8, 9, 10, 11, 12] rfl
          have hDc : va_D (fun q : Nat => s.heap.size ≤ q) (m_W qm pb pr pv pw ps pc cI v) := hD.sub [6, 7, 8, 9, 10, 11, 12] (by decide) rfl
          have hFc := va_free (wc := (m_W qm pb pr pv pw ps pc cI v)) hD hS hA [6, 7, 8, 9, 10, 11, 12] rfl
          refine va_calli (va_runV (As := [.int 1]) (rest := [.int (x_turn_r u true)]) ⟨hx, hb, hml, hown, hts⟩ (kX1_turn l dC dI qm pb pr pv pw ps pc cI H.size v true ) (cwV 1 hts gLM_X1_turn rfl rfl rfl (by decide +kernel) ⟨Nat.le_of_ble_eq_true rfl, Nat.le_of_ble_eq_true rfl⟩) ⟨fun a U g mk q => by obtain ⟨q0, q1, qP, qK, qD⟩ := q; exact ⟨q0, q1, qP, va_K.moved (u := U) (U := U.calling g mk a) (Vm.Alike.refl U.vm) qK, qD⟩, va_recv hK hP (ci := 1) (q0 := 6) rfl rfl, fun U hU hW => ⟨rfl, by rw [hU], by rw [hU]; exact hPc, va_K.moved hW.alike hK, hDc.weaken (fun _ _ _ _ => trivial)⟩⟩ rfl rfl hl.1 rfl (lv_room (Nat.le_of_ble_eq_true rfl)) dL_law_119 ⟨Nat.le_of_ble_eq_true rfl, Nat.le_of_ble_eq_true rfl⟩) hS (fun q _ h => hFc q h) hFc (fun r_13 v_12 t H1 locs ht hvm hv_12 hB hz1 hk1 hS => ?_)
          obtain ⟨hP1, -, hD1⟩ := hB
          rw [ht] at hP1
          obtain ⟨hr_13, hv_12⟩ := hv_12
          subst hr_13
          subst hv_12
          obtain ⟨hP, hD⟩ := va_join (wr := (x_W qx qc qw qs cI (x_turn u true))) (w1 := (m_W qm pb pr pv pw ps pc cI (m_turn v true))) hP hD [6, 7, 8, 9, 10, 11, 12] [0, 1, 2, 3, 4, 5] rfl rfl (by decide) (by decide) hk1 hFc hP1 hD1
          generalize H1 = H at hP hS ⊢
          refine lv_icmp_eq (tgt := 358) hx hb dL_law_122 (by decide) (fun c_14 => ?_) (fun c_14 => absurd ((r_turn hR true).1) c_14)
          refine lv_iinc (v := nI (4 * (k + 1))) (lv' := [(3, .int (nI (4 * (k + 1)))), (0, .ref b), (1, .ref qx), (2, .ref qm)]) hx hb dL_law_358 hl (k := 3) rfl (show nI (4 * k) + nI 4 = nI (4 * (k + 1)) from by rw [nI_add]; rfl) (by decide) rfl (fun ls hl => ?_)
          refine lv_goto (tgt := 18) hx hb dL_law_361 (by decide) ?_
          exact ih (k + 1) (by omega) (by omega) (x_turn u true) (m_turn v true) (r_turn hR true).2 H locs hP hD hS ls (lv_sub hl [1, 2, 3, 0] rfl)
      · refine lv_tableIn (off := 95) (tgt := 127) hx hb dL_law_32 (by decide) (by decide) (by decide) (by decide) ?_
        refine lv_aload_n hx hb dL_law_127 rfl (lv_at hl 1 rfl) ?_
        refine lv_aload_n hx hb dL_law_128 rfl (lv_at hl 0 rfl) ?_
        refine lv_iload_n hx hb dL_law_129 rfl (lv_at hl 3 rfl) ?_
        refine lv_iconst (v := 1) hx hb dL_law_130 (by decide) ?_
        refine lv_iadd hx hb dL_law_131 ?_
        refine va_sld hx hb hX hbl hbA hS (show vp_in (nI (4 * k) + nI 1) L from by rw [nI_add]; exact vp_in_nI (by omega) (by omega)) dL_law_132 ?_
        refine lv_if_eq (tgt := 140) hx hb dL_law_133 (by decide) (fun c_15 => ?_) (fun c_15 => ?_)
        · refine lv_iconst (v := 0) hx hb dL_law_140 (by decide) ?_
          have hPc : va_P (dC, dI) vwCl (x_W qx qc qw qs cI u) H := hP.sub [0, 1, 2, 3, 4, 5] rfl
          have hDc : va_D (fun q : Nat => s.heap.size ≤ q) (x_W qx qc qw qs cI u) := hD.sub [0, 1, 2, 3, 4, 5] (by decide) rfl
          have hFc := va_free (wc := (x_W qx qc qw qs cI u)) hD hS hA [0, 1, 2, 3, 4, 5] rfl
          refine va_callv (va_runV (As := [.int 0]) (rest := []) ⟨hx, hb, hml, hown, hts⟩ (kX0_mending l dC dI qx qc qw qs cI H.size u false ) (cwV 1 hts (tb_X gL_law_X0_mending) rfl rfl rfl (by decide +kernel) ⟨Nat.le_of_ble_eq_true rfl, Nat.le_of_ble_eq_true rfl⟩) ⟨fun a U g mk q => by obtain ⟨q0, q1, qP, qK, qD⟩ := q; exact ⟨q0, q1, qP, va_K.moved (u := U) (U := U.calling g mk a) (Vm.Alike.refl U.vm) qK, qD⟩, va_recv hK hP (ci := 0) (q0 := 0) rfl rfl, fun U hU hW => ⟨rfl, by rw [hU], by rw [hU]; exact hPc, va_K.moved hW.alike hK, hDc.weaken (fun _ _ _ _ => trivial)⟩⟩ rfl rfl hl.1 rfl (lv_room (Nat.le_of_ble_eq_true rfl)) dL_law_141 ⟨Nat.le_of_ble_eq_true rfl, Nat.le_of_ble_eq_true rfl⟩) hS (fun q _ h => hFc q h) hFc (fun  u_16 t H1 locs ht hvm hu_16 hB hz1 hk1 hS => ?_)
          obtain ⟨hP1, -, hD1⟩ := hB
          rw [ht] at hP1
          subst hu_16
          obtain ⟨hP, hD⟩ := va_join (wr := (m_W qm pb pr pv pw ps pc cI v)) (w1 := (x_W qx qc qw qs cI (x_mending u false))) hP hD [0, 1, 2, 3, 4, 5] [6, 7, 8, 9, 10, 11, 12] rfl rfl (by decide) (by decide) hk1 hFc hP1 hD1
          have hP : va_P (dC, dI) vwCl ((x_W qx qc qw qs cI (x_mending u false)) ++ (m_W qm pb pr pv pw ps pc cI v)) H1 := hP.sub [7, 8, 9, 10, 11, 12, 0, 1, 2, 3, 4, 5, 6] rfl
          have hD : va_D (fun q : Nat => s.heap.size ≤ q) ((x_W qx qc qw qs cI (x_mending u false)) ++ (m_W qm pb pr pv pw ps pc cI v)) := hD.sub [7, 8, 9, 10, 11, 12, 0, 1, 2, 3, 4, 5, 6] (by decide) rfl
          generalize H1 = H at hP hS ⊢
          refine lv_aload_n hx hb dL_law_144 rfl (lv_at hl 2 rfl) ?_
          refine lv_aload_n hx hb dL_law_145 rfl (lv_at hl 0 rfl) ?_
          refine lv_iload_n hx hb dL_law_146 rfl (lv_at hl 3 rfl) ?_
          refine lv_iconst (v := 1) hx hb dL_law_147 (by decide) ?_
          refine lv_iadd hx hb dL_law_148 ?_
          refine va_sld hx hb hX hbl hbA hS (show vp_in (nI (4 * k) + nI 1) L from by rw [nI_add]; exact vp_in_nI (by omega) (by omega)) dL_law_149 ?_
          refine lv_if_eq (tgt := 157) hx hb dL_law_150 (by decide) (fun c_17 => ?_) (fun c_17 => absurd (c_15) c_17)
          refine lv_iconst (v := 0) hx hb dL_law_157 (by decide) ?_
          have hPc : va_P (dC, dI) vwCl (m_W qm pb pr pv pw ps pc cI v) H := hP.sub [6, 7, 8, 9, 10, 11, 12] rfl
          have hDc : va_D (fun q : Nat => s.heap.size ≤ q) (m_W qm pb pr pv pw ps pc cI v) := hD.sub [6, 7, 8, 9, 10, 11, 12] (by decide) rfl
          have hFc := va_free (wc := (m_W qm pb pr pv pw ps pc cI v)) hD hS hA [6, 7, 8, 9, 10, 11, 12] rfl
          refine va_callv (va_runV (As := [.int 0]) (rest := []) ⟨hx, hb, hml, hown, hts⟩ (kX1_mending l dC dI qm pb pr pv pw ps pc cI H.size v false ) (cwV 1 hts gLM_X1_mending rfl rfl rfl (by decide +kernel) ⟨Nat.le_of_ble_eq_true rfl, Nat.le_of_ble_eq_true rfl⟩) ⟨fun a U g mk q => by obtain ⟨q0, q1, qP, qK, qD⟩ := q; exact ⟨q0, q1, qP, va_K.moved (u := U) (U := U.calling g mk a) (Vm.Alike.refl U.vm) qK, qD⟩, va_recv hK hP (ci := 1) (q0 := 6) rfl rfl, fun U hU hW => ⟨rfl, by rw [hU], by rw [hU]; exact hPc, va_K.moved hW.alike hK, hDc.weaken (fun _ _ _ _ => trivial)⟩⟩ rfl rfl hl.1 rfl (lv_room (Nat.le_of_ble_eq_true rfl)) dL_law_158 ⟨Nat.le_of_ble_eq_true rfl, Nat.le_of_ble_eq_true rfl⟩) hS (fun q _ h => hFc q h) hFc (fun  v_18 t H1 locs ht hvm hv_18 hB hz1 hk1 hS => ?_)
          obtain ⟨hP1, -, hD1⟩ := hB
          rw [ht] at hP1
          subst hv_18
          obtain ⟨hP, hD⟩ := va_join (wr := (x_W qx qc qw qs cI (x_mending u false))) (w1 := (m_W qm pb pr pv pw ps pc cI (m_mending v false))) hP hD [6, 7, 8, 9, 10, 11, 12] [0, 1, 2, 3, 4, 5] rfl rfl (by decide) (by decide) hk1 hFc hP1 hD1
          generalize H1 = H at hP hS ⊢
          refine lv_goto (tgt := 358) hx hb dL_law_161 (by decide) ?_
          refine lv_iinc (v := nI (4 * (k + 1))) (lv' := [(3, .int (nI (4 * (k + 1)))), (0, .ref b), (1, .ref qx), (2, .ref qm)]) hx hb dL_law_358 hl (k := 3) rfl (show nI (4 * k) + nI 4 = nI (4 * (k + 1)) from by rw [nI_add]; rfl) (by decide) rfl (fun ls hl => ?_)
          refine lv_goto (tgt := 18) hx hb dL_law_361 (by decide) ?_
          exact ih (k + 1) (by omega) (by omega) (x_mending u false) (m_mending v false) (r_mending hR false) H locs hP hD hS ls (lv_sub hl [1, 2, 3, 0] rfl)
        · refine lv_iconst (v := 1) hx hb dL_law_136 (by decide) ?_
          refine lv_goto (tgt := 141) hx hb dL_law_137 (by decide) ?_
          have hPc : va_P (dC, dI) vwCl (x_W qx qc qw qs cI u) H := hP.sub [0, 1, 2, 3, 4, 5] rfl
          have hDc : va_D (fun q : Nat => s.heap.size ≤ q) (x_W qx qc qw qs cI u) := hD.sub [0, 1, 2, 3, 4, 5] (by decide) rfl
          have hFc := va_free (wc := (x_W qx qc qw qs cI u)) hD hS hA [0, 1, 2, 3, 4, 5] rfl
          refine va_callv (va_runV (As := [.int 1]) (rest := []) ⟨hx, hb, hml, hown, hts⟩ (kX0_mending l dC dI qx qc qw qs cI H.size u true ) (cwV 1 hts (tb_X gL_law_X0_mending) rfl rfl rfl (by decide +kernel) ⟨Nat.le_of_ble_eq_true rfl, Nat.le_of_ble_eq_true rfl⟩) ⟨fun a U g mk q => by obtain ⟨q0, q1, qP, qK, qD⟩ := q; exact ⟨q0, q1, qP, va_K.moved (u := U) (U := U.calling g mk a) (Vm.Alike.refl U.vm) qK, qD⟩, va_recv hK hP (ci := 0) (q0 := 0) rfl rfl, fun U hU hW => ⟨rfl, by rw [hU], by rw [hU]; exact hPc, va_K.moved hW.alike hK, hDc.weaken (fun _ _ _ _ => trivial)⟩⟩ rfl rfl hl.1 rfl (lv_room (Nat.le_of_ble_eq_true rfl)) dL_law_141 ⟨Nat.le_of_ble_eq_true rfl, Nat.le_of_ble_eq_true rfl⟩) hS (fun q _ h => hFc q h) hFc (fun  u_19 t H1 locs ht hvm hu_19 hB hz1 hk1 hS => ?_)
          obtain ⟨hP1, -, hD1⟩ := hB
          rw [ht] at hP1
          subst hu_19
          obtain ⟨hP, hD⟩ := va_join (wr := (m_W qm pb pr pv pw ps pc cI v)) (w1 := (x_W qx qc qw qs cI (x_mending u true))) hP hD [0, 1, 2, 3, 4, 5] [6, 7, 8, 9, 10, 11, 12] rfl rfl (by decide) (by decide) hk1 hFc hP1 hD1
          have hP : va_P (dC, dI) vwCl ((x_W qx qc qw qs cI (x_mending u true)) ++ (m_W qm pb pr pv pw ps pc cI v)) H1 := hP.sub [7, 8, 9, 10, 11, 12, 0, 1, 2, 3, 4, 5, 6] rfl
          have hD : va_D (fun q : Nat => s.heap.size ≤ q) ((x_W qx qc qw qs cI (x_mending u true)) ++ (m_W qm pb pr pv pw ps pc cI v)) := hD.sub [7, 8, 9, 10, 11, 12, 0, 1, 2, 3, 4, 5, 6] (by decide) rfl
          generalize H1 = H at hP hS ⊢
          refine lv_aload_n hx hb dL_law_144 rfl (lv_at hl 2 rfl) ?_
          refine lv_aload_n hx hb dL_law_145 rfl (lv_at hl 0 rfl) ?_
          refine lv_iload_n hx hb dL_law_146 rfl (lv_at hl 3 rfl) ?_
          refine lv_iconst (v := 1) hx hb dL_law_147 (by decide) ?_
          refine lv_iadd hx hb dL_law_148 ?_
          refine va_sld hx hb hX hbl hbA hS (show vp_in (nI (4 * k) + nI 1) L from by rw [nI_add]; exact vp_in_nI (by omega) (by omega)) dL_law_149 ?_
          refine lv_if_eq (tgt := 157) hx hb dL_law_150 (by decide) (fun c_20 => absurd c_20 (c_15)) (fun c_20 => ?_)
          refine lv_iconst (v := 1) hx hb dL_law_153 (by decide) ?_
          refine lv_goto (tgt := 158) hx hb dL_law_154 (by decide) ?_
          have hPc : va_P (dC, dI) vwCl (m_W qm pb pr pv pw ps pc cI v) H := hP.sub [6, 7, 8, 9, 10, 11, 12] rfl
          have hDc : va_D (fun q : Nat => s.heap.size ≤ q) (m_W qm pb pr pv pw ps pc cI v) := hD.sub [6, 7, 8, 9, 10, 11, 12] (by decide) rfl
          have hFc := va_free (wc := (m_W qm pb pr pv pw ps pc cI v)) hD hS hA [6, 7, 8, 9, 10, 11, 12] rfl
          refine va_callv (va_runV (As := [.int 1]) (rest := []) ⟨hx, hb, hml, hown, hts⟩ (kX1_mending l dC dI qm pb pr pv pw ps pc cI H.size v true ) (cwV 1 hts gLM_X1_mending rfl rfl rfl (by decide +kernel) ⟨Nat.le_of_ble_eq_true rfl, Nat.le_of_ble_eq_true rfl⟩) ⟨fun a U g mk q => by obtain ⟨q0, q1, qP, qK, qD⟩ := q; exact ⟨q0, q1, qP, va_K.moved (u := U) (U := U.calling g mk a) (Vm.Alike.refl U.vm) qK, qD⟩, va_recv hK hP (ci := 1) (q0 := 6) rfl rfl, fun U hU hW => ⟨rfl, by rw [hU], by rw [hU]; exact hPc, va_K.moved hW.alike hK, hDc.weaken (fun _ _ _ _ => trivial)⟩⟩ rfl rfl hl.1 rfl (lv_room (Nat.le_of_ble_eq_true rfl)) dL_law_158 ⟨Nat.le_of_ble_eq_true rfl, Nat.le_of_ble_eq_true rfl⟩) hS (fun q _ h => hFc q h) hFc (fun  v_21 t H1 locs ht hvm hv_21 hB hz1 hk1 hS => ?_)
          obtain ⟨hP1, -, hD1⟩ := hB
          rw [ht] at hP1
          subst hv_21
          obtain ⟨hP, hD⟩ := va_join (wr := (x_W qx qc qw qs cI (x_mending u true))) (w1 := (m_W qm pb pr pv pw ps pc cI (m_mending v true))) hP hD [6, 7, 8, 9, 10, 11, 12] [0, 1, 2, 3, 4, 5] rfl rfl (by decide) (by decide) hk1 hFc hP1 hD1
          generalize H1 = H at hP hS ⊢
          refine lv_goto (tgt := 358) hx hb dL_law_161 (by decide) ?_
          refine lv_iinc (v := nI (4 * (k + 1))) (lv' := [(3, .int (nI (4 * (k + 1)))), (0, .ref b), (1, .ref qx), (2, .ref qm)]) hx hb dL_law_358 hl (k := 3) rfl (show nI (4 * k) + nI 4 = nI (4 * (k + 1)) from by rw [nI_add]; rfl) (by decide) rfl (fun ls hl => ?_)
          refine lv_goto (tgt := 18) hx hb dL_law_361 (by decide) ?_
          exact ih (k + 1) (by omega) (by omega) (x_mending u true) (m_mending v true) (r_mending hR true) H locs hP hD hS ls (lv_sub hl [1, 2, 3, 0] rfl)
      · refine lv_tableIn (off := 132) (tgt := 164) hx hb dL_law_32 (by decide) (by decide) (by decide) (by decide) ?_
        refine lv_aload_n hx hb dL_law_164 rfl (lv_at hl 1 rfl) ?_
        refine lv_aload_n hx hb dL_law_165 rfl (lv_at hl 0 rfl) ?_
        refine lv_iload_n hx hb dL_law_166 rfl (lv_at hl 3 rfl) ?_
        refine lv_iconst (v := 1) hx hb dL_law_167 (by decide) ?_
        refine lv_iadd hx hb dL_law_168 ?_
        refine va_sld hx hb hX hbl hbA hS (show vp_in (nI (4 * k) + nI 1) L from by rw [nI_add]; exact vp_in_nI (by omega) (by omega)) dL_law_169 ?_
        refine lv_aload_n hx hb dL_law_170 rfl (lv_at hl 0 rfl) ?_
        refine lv_iload_n hx hb dL_law_171 rfl (lv_at hl 3 rfl) ?_
        refine lv_iconst (v := 2) hx hb dL_law_172 (by decide) ?_
        refine lv_iadd hx hb dL_law_173 ?_
        refine va_sld hx hb hX hbl hbA hS (show vp_in (nI (4 * k) + nI 2) L from by rw [nI_add]; exact vp_in_nI (by omega) (by omega)) dL_law_174 ?_
        refine lv_i2l (v := (xs ((nI (4 * k)) + 2).toNatClampNeg).toInt64) hx hb dL_law_175 rfl ?_
        refine lv_bipush (v := 32) hx hb dL_law_176 (by decide) ?_
        refine lv_lshl (v := j_lshl ((xs ((nI (4 * k)) + 2).toNatClampNeg).toInt64) 32) hx hb dL_law_178 rfl ?_
        refine lv_aload_n hx hb dL_law_179 rfl (lv_at hl 0 rfl) ?_
        refine lv_iload_n hx hb dL_law_180 rfl (lv_at hl 3 rfl) ?_
        refine lv_iconst (v := 3) hx hb dL_law_181 (by decide) ?_
        refine lv_iadd hx hb dL_law_182 ?_
        refine va_sld hx hb hX hbl hbA hS (show vp_in (nI (4 * k) + nI 3) L from by rw [nI_add]; exact vp_in_nI (by omega) (by omega)) dL_law_183 ?_
        refine lv_i2l (v := (xs ((nI (4 * k)) + 3).toNatClampNeg).toInt64) hx hb dL_law_184 rfl ?_
        refine lv_ldc2 hx hb hown (hts (.constantLong RL 23 4294967295) (by decide +kernel)) dL_law_185 ?_
        refine lv_land hx hb dL_law_188 ?_
        refine lv_lor hx hb dL_law_189 ?_
        have hPc : va_P (dC, dI) vwCl (x_W qx qc qw qs cI u) H := hP.sub [0, 1, 2, 3, 4, 5] rfl
        have hDc : va_D (fun q : Nat => s.heap.size ≤ q) (x_W qx qc qw qs cI u) := hD.sub [0, 1, 2, 3, 4, 5] (by decide) rfl
        have hFc := va_free (wc := (x_W qx qc qw qs cI u)) hD hS hA [0, 1, 2, 3, 4, 5] rfl
        refine va_calli (va_runV (As := [.int (xs ((nI (4 * k)) + 1).toNatClampNeg), .long ((j_lshl ((xs ((nI (4 * k)) + 2).toNatClampNeg).toInt64) 32) ||| (((xs ((nI (4 * k)) + 3).toNatClampNeg).toInt64) &&& 4294967295))]) (rest := []) ⟨hx, hb, hml, hown, hts⟩ (kX0_take l dC dI qx qc qw qs cI H.size u (xs ((nI (4 * k)) + 1).toNatClampNeg) ((j_lshl ((xs ((nI (4 * k)) + 2).toNatClampNeg).toInt64) 32) ||| (((xs ((nI (4 * k)) + 3).toNatClampNeg).toInt64) &&& 4294967295)) ) (cwV 2 hts (tb_X gL_law_X0_take) rfl rfl rfl (by decide +kernel) ⟨Nat.le_of_ble_eq_true rfl, Nat.le_of_ble_eq_true rfl⟩) ⟨fun a U g mk q => by obtain ⟨q0, q1, qP, qK, qD⟩ := q; exact ⟨q0, q1, qP, va_K.moved (u := U) (U := U.calling g mk a) (Vm.Alike.refl U.vm) qK, qD⟩, va_recv hK hP (ci := 0) (q0 := 0) rfl rfl, fun U hU hW => ⟨rfl, by rw [hU], by rw [hU]; exact hPc, va_K.moved hW.alike hK, hDc.weaken (fun _ _ _ _ => trivial)⟩⟩ rfl rfl hl.1 rfl (lv_room (Nat.le_of_ble_eq_true rfl)) dL_law_190 ⟨Nat.le_of_ble_eq_true rfl, Nat.le_of_ble_eq_true rfl⟩) hS (fun q _ h => hFc q h) hFc (fun r_23 u_22 t H1 locs ht hvm hu_22 hB hz1 hk1 hS => ?_)
        obtain ⟨hP1, -, hD1⟩ := hB
        rw [ht] at hP1
        obtain ⟨hr_23, hu_22⟩ := hu_22
        subst hr_23
        subst hu_22
        obtain ⟨hP, hD⟩ := va_join (wr := (m_W qm pb pr pv pw ps pc cI v)) (w1 := (x_W qx qc qw qs cI (x_take u (xs ((nI (4 * k)) + 1).toNatClampNeg) ((j_lshl ((xs ((nI (4 * k)) + 2).toNatClampNeg).toInt64) 32) ||| (((xs ((nI (4 * k)) + 3).toNatClampNeg).toInt64) &&& 4294967295))))) hP hD [0, 1, 2, 3, 4, 5] [6, 7, 8, 9, 10, 11, 12] rfl rfl (by decide) (by decide) hk1 hFc hP1 hD1
        have hP : va_P (dC, dI) vwCl ((x_W qx qc qw qs cI (x_take u (xs ((nI (4 * k)) + 1).toNatClampNeg) ((j_lshl ((xs ((nI (4 * k)) + 2).toNatClampNeg).toInt64) 32) ||| (((xs ((nI (4 * k)) + 3).toNatClampNeg).toInt64) &&& 4294967295)))) ++ (m_W qm pb pr pv pw ps pc cI v)) H1 := hP.sub [7, 8, 9, 10, 11, 12, 0, 1, 2, 3, 4, 5, 6] rfl
        have hD : va_D (fun q : Nat => s.heap.size ≤ q) ((x_W qx qc qw qs cI (x_take u (xs ((nI (4 * k)) + 1).toNatClampNeg) ((j_lshl ((xs ((nI (4 * k)) + 2).toNatClampNeg).toInt64) 32) ||| (((xs ((nI (4 * k)) + 3).toNatClampNeg).toInt64) &&& 4294967295)))) ++ (m_W qm pb pr pv pw ps pc cI v)) := hD.sub [7, 8, 9, 10, 11, 12, 0, 1, 2, 3, 4, 5, 6] (by decide) rfl
        generalize H1 = H at hP hS ⊢
        refine lv_aload_n hx hb dL_law_193 rfl (lv_at hl 2 rfl) ?_
        refine lv_aload_n hx hb dL_law_194 rfl (lv_at hl 0 rfl) ?_
        refine lv_iload_n hx hb dL_law_195 rfl (lv_at hl 3 rfl) ?_
        refine lv_iconst (v := 1) hx hb dL_law_196 (by decide) ?_
        refine lv_iadd hx hb dL_law_197 ?_
        refine va_sld hx hb hX hbl hbA hS (show vp_in (nI (4 * k) + nI 1) L from by rw [nI_add]; exact vp_in_nI (by omega) (by omega)) dL_law_198 ?_
        refine lv_aload_n hx hb dL_law_199 rfl (lv_at hl 0 rfl) ?_
        refine lv_iload_n hx hb dL_law_200 rfl (lv_at hl 3 rfl) ?_
        refine lv_iconst (v := 2) hx hb dL_law_201 (by decide) ?_
        refine lv_iadd hx hb dL_law_202 ?_
        refine va_sld hx hb hX hbl hbA hS (show vp_in (nI (4 * k) + nI 2) L from by rw [nI_add]; exact vp_in_nI (by omega) (by omega)) dL_law_203 ?_
        refine lv_i2l (v := (xs ((nI (4 * k)) + 2).toNatClampNeg).toInt64) hx hb dL_law_204 rfl ?_
        refine lv_bipush (v := 32) hx hb dL_law_205 (by decide) ?_
        refine lv_lshl (v := j_lshl ((xs ((nI (4 * k)) + 2).toNatClampNeg).toInt64) 32) hx hb dL_law_207 rfl ?_
        refine lv_aload_n hx hb dL_law_208 rfl (lv_at hl 0 rfl) ?_
        refine lv_iload_n hx hb dL_law_209 rfl (lv_at hl 3 rfl) ?_
        refine lv_iconst (v := 3) hx hb dL_law_210 (by decide) ?_
        refine lv_iadd hx hb dL_law_211 ?_
        refine va_sld hx hb hX hbl hbA hS (show vp_in (nI (4 * k) + nI 3) L from by rw [nI_add]; exact vp_in_nI (by omega) (by omega)) dL_law_212 ?_
        refine lv_i2l (v := (xs ((nI (4 * k)) + 3).toNatClampNeg).toInt64) hx hb dL_law_213 rfl ?_
        refine lv_ldc2 hx hb hown (hts (.constantLong RL 23 4294967295) (by decide +kernel)) dL_law_214 ?_
        refine lv_land hx hb dL_law_217 ?_
        refine lv_lor hx hb dL_law_218 ?_
        have hPc : va_P (dC, dI) vwCl (m_W qm pb pr pv pw ps pc cI v) H := hP.sub [6, 7, 8, 9, 10, 11, 12] rfl
        have hDc : va_D (fun q : Nat => s.heap.size ≤ q) (m_W qm pb pr pv pw ps pc cI v) := hD.sub [6, 7, 8, 9, 10, 11, 12] (by decide) rfl
        have hFc := va_free (wc := (m_W qm pb pr pv pw ps pc cI v)) hD hS hA [6, 7, 8, 9, 10, 11, 12] rfl
        refine va_calli (va_runV (As := [.int (xs ((nI (4 * k)) + 1).toNatClampNeg), .long ((j_lshl ((xs ((nI (4 * k)) + 2).toNatClampNeg).toInt64) 32) ||| (((xs ((nI (4 * k)) + 3).toNatClampNeg).toInt64) &&& 4294967295))]) (rest := [.int (x_take_r u (xs ((nI (4 * k)) + 1).toNatClampNeg) ((j_lshl ((xs ((nI (4 * k)) + 2).toNatClampNeg).toInt64) 32) ||| (((xs ((nI (4 * k)) + 3).toNatClampNeg).toInt64) &&& 4294967295)))]) ⟨hx, hb, hml, hown, hts⟩ (kX1_take l dC dI qm pb pr pv pw ps pc cI H.size v (xs ((nI (4 * k)) + 1).toNatClampNeg) ((j_lshl ((xs ((nI (4 * k)) + 2).toNatClampNeg).toInt64) 32) ||| (((xs ((nI (4 * k)) + 3).toNatClampNeg).toInt64) &&& 4294967295)) hmI) (cwV 2 hts gLM_X1_take rfl rfl rfl (by decide +kernel) ⟨Nat.le_of_ble_eq_true rfl, Nat.le_of_ble_eq_true rfl⟩) ⟨fun a U g mk q => by obtain ⟨q0, q1, qP, qK, qD⟩ := q; exact ⟨q0, q1, qP, va_K.moved (u := U) (U := U.calling g mk a) (Vm.Alike.refl U.vm) qK, qD⟩, va_recv hK hP (ci := 1) (q0 := 6) rfl rfl, fun U hU hW => ⟨rfl, by rw [hU], by rw [hU]; exact hPc, va_K.moved hW.alike hK, hDc.weaken (fun _ _ _ _ => trivial)⟩⟩ rfl rfl hl.1 rfl (lv_room (Nat.le_of_ble_eq_true rfl)) dL_law_219 ⟨Nat.le_of_ble_eq_true rfl, Nat.le_of_ble_eq_true rfl⟩) hS (fun q _ h => hFc q h) hFc (fun r_25 v_24 t H1 locs ht hvm hv_24 hB hz1 hk1 hS => ?_)
        obtain ⟨hP1, -, hD1⟩ := hB
        rw [ht] at hP1
        obtain ⟨hr_25, hv_24⟩ := hv_24
        subst hr_25
        subst hv_24
        obtain ⟨hP, hD⟩ := va_join (wr := (x_W qx qc qw qs cI (x_take u (xs ((nI (4 * k)) + 1).toNatClampNeg) ((j_lshl ((xs ((nI (4 * k)) + 2).toNatClampNeg).toInt64) 32) ||| (((xs ((nI (4 * k)) + 3).toNatClampNeg).toInt64) &&& 4294967295))))) (w1 := (m_W qm pb pr pv pw ps pc cI (m_take v (xs ((nI (4 * k)) + 1).toNatClampNeg) ((j_lshl ((xs ((nI (4 * k)) + 2).toNatClampNeg).toInt64) 32) ||| (((xs ((nI (4 * k)) + 3).toNatClampNeg).toInt64) &&& 4294967295))))) hP hD [6, 7, 8, 9, 10, 11, 12] [0, 1, 2, 3, 4, 5] rfl rfl (by decide) (by decide) hk1 hFc hP1 hD1
        generalize H1 = H at hP hS ⊢
        refine lv_icmp_eq (tgt := 358) hx hb dL_law_222 (by decide) (fun c_26 => ?_) (fun c_26 => absurd ((r_take (by omega) hR (xs ((nI (4 * k)) + 1).toNatClampNeg) ((j_lshl ((xs ((nI (4 * k)) + 2).toNatClampNeg).toInt64) 32) ||| (((xs ((nI (4 * k)) + 3).toNatClampNeg).toInt64) &&& 4294967295))).1) c_26)
        refine lv_iinc (v := nI (4 * (k + 1))) (lv' := [(3, .int (nI (4 * (k + 1)))), (0, .ref b), (1, .ref qx), (2, .ref qm)]) hx hb dL_law_358 hl (k := 3) rfl (show nI (4 * k) + nI 4 = nI (4 * (k + 1)) from by rw [nI_add]; rfl) (by decide) rfl (fun ls hl => ?_)
        refine lv_goto (tgt := 18) hx hb dL_law_361 (by decide) ?_
        exact ih (k + 1) (by omega) (by omega) (x_take u (xs ((nI (4 * k)) + 1).toNatClampNeg) ((j_lshl ((xs ((nI (4 * k)) + 2).toNatClampNeg).toInt64) 32) ||| (((xs ((nI (4 * k)) + 3).toNatClampNeg).toInt64) &&& 4294967295))) (m_take v (xs ((nI (4 * k)) + 1).toNatClampNeg) ((j_lshl ((xs ((nI (4 * k)) + 2).toNatClampNeg).toInt64) 32) ||| (((xs ((nI (4 * k)) + 3).toNatClampNeg).toInt64) &&& 4294967295))) (r_take (by omega) hR (xs ((nI (4 * k)) + 1).toNatClampNeg) ((j_lshl ((xs ((nI (4 * k)) + 2).toNatClampNeg).toInt64) 32) ||| (((xs ((nI (4 * k)) + 3).toNatClampNeg).toInt64) &&& 4294967295))).2 H locs hP hD hS ls (lv_sub hl [1, 2, 3, 0] rfl)
      · refine lv_tableIn (off := 195) (tgt := 227) hx hb dL_law_32 (by decide) (by decide) (by decide) (by decide) ?_
        refine lv_aload_n hx hb dL_law_227 rfl (lv_at hl 1 rfl) ?_
        have hPc : va_P (dC, dI) vwCl (x_W qx qc qw qs cI u) H := hP.sub [0, 1, 2, 3, 4, 5] rfl
        refine vp_callSi (va_runV (As := []) (rest := []) ⟨hx, hb, hml, hown, hts⟩ (kX0_state l dC dI qx qc qw qs cI u  ) (cwV 0 hts (tb_X gL_law_X0_state) rfl rfl rfl (by decide +kernel) ⟨Nat.le_of_ble_eq_true rfl, Nat.le_of_ble_eq_true rfl⟩) ⟨fun a U g mk q => by obtain ⟨q0, qP, qK⟩ := q; exact ⟨q0, qP, va_K.moved (u := U) (U := U.calling g mk a) (Vm.Alike.refl U.vm) qK⟩, va_recv hK hP (ci := 0) (q0 := 0) rfl rfl, fun U hU hW => ⟨rfl, by rw [hU]; exact hPc, va_K.moved hW.alike hK⟩⟩ rfl rfl hl.1 rfl (lv_room (Nat.le_of_ble_eq_true rfl)) dL_law_228 ⟨Nat.le_of_ble_eq_true rfl, Nat.le_of_ble_eq_true rfl⟩).run (fun r_27 hr_27 => ?_)
        subst hr_27
        refine lv_aload_n hx hb dL_law_231 rfl (lv_at hl 2 rfl) ?_
        have hPc : va_P (dC, dI) vwCl (m_W qm pb pr pv pw ps pc cI v) H := hP.sub [6, 7, 8, 9, 10, 11, 12] rfl
        have hDc : va_D (fun q : Nat => s.heap.size ≤ q) (m_W qm pb pr pv pw ps pc cI v) := hD.sub [6, 7, 8, 9, 10, 11, 12] (by decide) rfl
        have hFc := va_free (wc := (m_W qm pb pr pv pw ps pc cI v)) hD hS hA [6, 7, 8, 9, 10, 11, 12] rfl
        refine va_calli (va_runV (As := []) (rest := [.int (x_state u)]) ⟨hx, hb, hml, hown, hts⟩ (kX1_state l dC dI qm pb pr pv pw ps pc cI H.size v  ) (cwV 0 hts gLM_X1_state rfl rfl rfl (by decide +kernel) ⟨Nat.le_of_ble_eq_true rfl, Nat.le_of_ble_eq_true rfl⟩) ⟨fun a U g mk q => by obtain ⟨q0, q1, qP, qK, qD⟩ := q; exact ⟨q0, q1, qP, va_K.moved (u := U) (U := U.calling g mk a) (Vm.Alike.refl U.vm) qK, qD⟩, va_recv hK hP (ci := 1) (q0 := 6) rfl rfl, fun U hU hW => ⟨rfl, by rw [hU], by rw [hU]; exact hPc, va_K.moved hW.alike hK, hDc.weaken (fun _ _ _ _ => trivial)⟩⟩ rfl rfl hl.1 rfl (lv_room (Nat.le_of_ble_eq_true rfl)) dL_law_232 ⟨Nat.le_of_ble_eq_true rfl, Nat.le_of_ble_eq_true rfl⟩) hS (fun q _ h => hFc q h) hFc (fun r_29 v_28 t H1 locs ht hvm hv_28 hB hz1 hk1 hS => ?_)
        obtain ⟨hP1, -, hD1⟩ := hB
        rw [ht] at hP1
        obtain ⟨hr_29, hv_28⟩ := hv_28
        subst hr_29
        subst hv_28
        obtain ⟨hP, hD⟩ := va_join (wr := (x_W qx qc qw qs cI u)) (w1 := (m_W qm pb pr pv pw ps pc cI (m_state v ))) hP hD [6, 7, 8, 9, 10, 11, 12] [0, 1, 2, 3, 4, 5] rfl rfl (by decide) (by decide) hk1 hFc hP1 hD1
        generalize H1 = H at hP hS ⊢
        refine lv_icmp_eq (tgt := 358) hx hb dL_law_235 (by decide) (fun c_30 => ?_) (fun c_30 => absurd ((r_state hR ).1) c_30)
        refine lv_iinc (v := nI (4 * (k + 1))) (lv' := [(3, .int (nI (4 * (k + 1)))), (0, .ref b), (1, .ref qx), (2, .ref qm)]) hx hb dL_law_358 hl (k := 3) rfl (show nI (4 * k) + nI 4 = nI (4 * (k + 1)) from by rw [nI_add]; rfl) (by decide) rfl (fun ls hl => ?_)
        refine lv_goto (tgt := 18) hx hb dL_law_361 (by decide) ?_
        exact ih (k + 1) (by omega) (by omega) u (m_state v ) (r_state hR ).2 H locs hP hD hS ls (lv_sub hl [1, 2, 3, 0] rfl)
      · refine lv_tableIn (off := 208) (tgt := 240) hx hb dL_law_32 (by decide) (by decide) (by decide) (by decide) ?_
        refine lv_aload_n hx hb dL_law_240 rfl (lv_at hl 1 rfl) ?_
        refine lv_aload_n hx hb dL_law_241 rfl (lv_at hl 0 rfl) ?_
        refine lv_iload_n hx hb dL_law_242 rfl (lv_at hl 3 rfl) ?_
        refine lv_iconst (v := 1) hx hb dL_law_243 (by decide) ?_
        refine lv_iadd hx hb dL_law_244 ?_
        refine va_sld hx hb hX hbl hbA hS (show vp_in (nI (4 * k) + nI 1) L from by rw [nI_add]; exact vp_in_nI (by omega) (by omega)) dL_law_245 ?_
        have hPc : va_P (dC, dI) vwCl (x_W qx qc qw qs cI u) H := hP.sub [0, 1, 2, 3, 4, 5] rfl
        refine vp_callSi (va_runV (As := [.int (xs ((nI (4 * k)) + 1).toNatClampNeg)]) (rest := []) ⟨hx, hb, hml, hown, hts⟩ (kX0_count l dC dI qx qc qw qs cI u (xs ((nI (4 * k)) + 1).toNatClampNeg) ) (cwV 1 hts (tb_X gL_law_X0_count) rfl rfl rfl (by decide +kernel) ⟨Nat.le_of_ble_eq_true rfl, Nat.le_of_ble_eq_true rfl⟩) ⟨fun a U g mk q => by obtain ⟨q0, qP, qK⟩ := q; exact ⟨q0, qP, va_K.moved (u := U) (U := U.calling g mk a) (Vm.Alike.refl U.vm) qK⟩, va_recv hK hP (ci := 0) (q0 := 0) rfl rfl, fun U hU hW => ⟨rfl, by rw [hU]; exact hPc, va_K.moved hW.alike hK⟩⟩ rfl rfl hl.1 rfl (lv_room (Nat.le_of_ble_eq_true rfl)) dL_law_246 ⟨Nat.le_of_ble_eq_true rfl, Nat.le_of_ble_eq_true rfl⟩).run (fun r_31 hr_31 => ?_)
        subst hr_31
        refine lv_aload_n hx hb dL_law_249 rfl (lv_at hl 2 rfl) ?_
        refine lv_aload_n hx hb dL_law_250 rfl (lv_at hl 0 rfl) ?_
        refine lv_iload_n hx hb dL_law_251 rfl (lv_at hl 3 rfl) ?_
        refine lv_iconst (v := 1) hx hb dL_law_252 (by decide) ?_
        refine lv_iadd hx hb dL_law_253 ?_
        refine va_sld hx hb hX hbl hbA hS (show vp_in (nI (4 * k) + nI 1) L from by rw [nI_add]; exact vp_in_nI (by omega) (by omega)) dL_law_254 ?_
        have hPc : va_P (dC, dI) vwCl (m_W qm pb pr pv pw ps pc cI v) H := hP.sub [6, 7, 8, 9, 10, 11, 12] rfl
        have hDc : va_D (fun q : Nat => s.heap.size ≤ q) (m_W qm pb pr pv pw ps pc cI v) := hD.sub [6, 7, 8, 9, 10, 11, 12] (by decide) rfl
        have hFc := va_free (wc := (m_W qm pb pr pv pw ps pc cI v)) hD hS hA [6, 7, 8, 9, 10, 11, 12] rfl
        refine va_calli (va_runV (As := [.int (xs ((nI (4 * k)) + 1).toNatClampNeg)]) (rest := [.int (x_count u (xs ((nI (4 * k)) + 1).toNatClampNeg))]) ⟨hx, hb, hml, hown, hts⟩ (kX1_count l dC dI qm pb pr pv pw ps pc cI H.size v (xs ((nI (4 * k)) + 1).toNatClampNeg) ) (cwV 1 hts gLM_X1_count rfl rfl rfl (by decide +kernel) ⟨Nat.le_of_ble_eq_true rfl, Nat.le_of_ble_eq_true rfl⟩) ⟨fun a U g mk q => by obtain ⟨q0, q1, qP, qK, qD⟩ := q; exact ⟨q0, q1, qP, va_K.moved (u := U) (U := U.calling g mk a) (Vm.Alike.refl U.vm) qK, qD⟩, va_recv hK hP (ci := 1) (q0 := 6) rfl rfl, fun U hU hW => ⟨rfl, by rw [hU], by rw [hU]; exact hPc, va_K.moved hW.alike hK, hDc.weaken (fun _ _ _ _ => trivial)⟩⟩ rfl rfl hl.1 rfl (lv_room (Nat.le_of_ble_eq_true rfl)) dL_law_255 ⟨Nat.le_of_ble_eq_true rfl, Nat.le_of_ble_eq_true rfl⟩) hS (fun q _ h => hFc q h) hFc (fun r_33 v_32 t H1 locs ht hvm hv_32 hB hz1 hk1 hS => ?_)
        obtain ⟨hP1, -, hD1⟩ := hB
        rw [ht] at hP1
        obtain ⟨hr_33, hv_32⟩ := hv_32
        subst hr_33
        subst hv_32
        obtain ⟨hP, hD⟩ := va_join (wr := (x_W qx qc qw qs cI u)) (w1 := (m_W qm pb pr pv pw ps pc cI (m_count v (xs ((nI (4 * k)) + 1).toNatClampNeg)))) hP hD [6, 7, 8, 9, 10, 11, 12] [0, 1, 2, 3, 4, 5] rfl rfl (by decide) (by decide) hk1 hFc hP1 hD1
        generalize H1 = H at hP hS ⊢
        refine lv_icmp_eq (tgt := 358) hx hb dL_law_258 (by decide) (fun c_34 => ?_) (fun c_34 => absurd ((r_count hR (xs ((nI (4 * k)) + 1).toNatClampNeg)).1) c_34)
        refine lv_iinc (v := nI (4 * (k + 1))) (lv' := [(3, .int (nI (4 * (k + 1)))), (0, .ref b), (1, .ref qx), (2, .ref qm)]) hx hb dL_law_358 hl (k := 3) rfl (show nI (4 * k) + nI 4 = nI (4 * (k + 1)) from by rw [nI_add]; rfl) (by decide) rfl (fun ls hl => ?_)
        refine lv_goto (tgt := 18) hx hb dL_law_361 (by decide) ?_
        exact ih (k + 1) (by omega) (by omega) u (m_count v (xs ((nI (4 * k)) + 1).toNatClampNeg)) (r_count hR (xs ((nI (4 * k)) + 1).toNatClampNeg)).2 H locs hP hD hS ls (lv_sub hl [1, 2, 3, 0] rfl)
      · refine lv_tableIn (off := 231) (tgt := 263) hx hb dL_law_32 (by decide) (by decide) (by decide) (by decide) ?_
        refine lv_aload_n hx hb dL_law_263 rfl (lv_at hl 1 rfl) ?_
        have hPc : va_P (dC, dI) vwCl (x_W qx qc qw qs cI u) H := hP.sub [0, 1, 2, 3, 4, 5] rfl
        refine vp_callSi (va_runV (As := []) (rest := []) ⟨hx, hb, hml, hown, hts⟩ (kX0_size l dC dI qx qc qw qs cI u  ) (cwV 0 hts (tb_X gL_law_X0_size) rfl rfl rfl (by decide +kernel) ⟨Nat.le_of_ble_eq_true rfl, Nat.le_of_ble_eq_true rfl⟩) ⟨fun a U g mk q => by obtain ⟨q0, qP, qK⟩ := q; exact ⟨q0, qP, va_K.moved (u := U) (U := U.calling g mk a) (Vm.Alike.refl U.vm) qK⟩, va_recv hK hP (ci := 0) (q0 := 0) rfl rfl, fun U hU hW => ⟨rfl, by rw [hU]; exact hPc, va_K.moved hW.alike hK⟩⟩ rfl rfl hl.1 rfl (lv_room (Nat.le_of_ble_eq_true rfl)) dL_law_264 ⟨Nat.le_of_ble_eq_true rfl, Nat.le_of_ble_eq_true rfl⟩).run (fun r_35 hr_35 => ?_)
        subst hr_35
        refine lv_aload_n hx hb dL_law_267 rfl (lv_at hl 2 rfl) ?_
        have hPc : va_P (dC, dI) vwCl (m_W qm pb pr pv pw ps pc cI v) H := hP.sub [6, 7, 8, 9, 10, 11, 12] rfl
        have hDc : va_D (fun q : Nat => s.heap.size ≤ q) (m_W qm pb pr pv pw ps pc cI v) := hD.sub [6, 7, 8, 9, 10, 11, 12] (by decide) rfl
        have hFc := va_free (wc := (m_W qm pb pr pv pw ps pc cI v)) hD hS hA [6, 7, 8, 9, 10, 11, 12] rfl
        refine va_calli (va_runV (As := []) (rest := [.int (x_size u)]) ⟨hx, hb, hml, hown, hts⟩ (kX1_size l dC dI qm pb pr pv pw ps pc cI H.size v  ) (cwV 0 hts gLM_X1_size rfl rfl rfl (by decide +kernel) ⟨Nat.le_of_ble_eq_true rfl, Nat.le_of_ble_eq_true rfl⟩) ⟨fun a U g mk q => by obtain ⟨q0, q1, qP, qK, qD⟩ := q; exact ⟨q0, q1, qP, va_K.moved (u := U) (U := U.calling g mk a) (Vm.Alike.refl U.vm) qK, qD⟩, va_recv hK hP (ci := 1) (q0 := 6) rfl rfl, fun U hU hW => ⟨rfl, by rw [hU], by rw [hU]; exact hPc, va_K.moved hW.alike hK, hDc.weaken (fun _ _ _ _ => trivial)⟩⟩ rfl rfl hl.1 rfl (lv_room (Nat.le_of_ble_eq_true rfl)) dL_law_268 ⟨Nat.le_of_ble_eq_true rfl, Nat.le_of_ble_eq_true rfl⟩) hS (fun q _ h => hFc q h) hFc (fun r_37 v_36 t H1 locs ht hvm hv_36 hB hz1 hk1 hS => ?_)
        obtain ⟨hP1, -, hD1⟩ := hB
        rw [ht] at hP1
        obtain ⟨hr_37, hv_36⟩ := hv_36
        subst hr_37
        subst hv_36
        obtain ⟨hP, hD⟩ := va_join (wr := (x_W qx qc qw qs cI u)) (w1 := (m_W qm pb pr pv pw ps pc cI (m_size v ))) hP hD [6, 7, 8, 9, 10, 11, 12] [0, 1, 2, 3, 4, 5] rfl rfl (by decide) (by decide) hk1 hFc hP1 hD1
        generalize H1 = H at hP hS ⊢
        refine lv_icmp_eq (tgt := 358) hx hb dL_law_271 (by decide) (fun c_38 => ?_) (fun c_38 => absurd ((r_size hR ).1) c_38)
        refine lv_iinc (v := nI (4 * (k + 1))) (lv' := [(3, .int (nI (4 * (k + 1)))), (0, .ref b), (1, .ref qx), (2, .ref qm)]) hx hb dL_law_358 hl (k := 3) rfl (show nI (4 * k) + nI 4 = nI (4 * (k + 1)) from by rw [nI_add]; rfl) (by decide) rfl (fun ls hl => ?_)
        refine lv_goto (tgt := 18) hx hb dL_law_361 (by decide) ?_
        exact ih (k + 1) (by omega) (by omega) u (m_size v ) (r_size hR ).2 H locs hP hD hS ls (lv_sub hl [1, 2, 3, 0] rfl)
      · refine lv_tableIn (off := 244) (tgt := 276) hx hb dL_law_32 (by decide) (by decide) (by decide) (by decide) ?_
        refine lv_aload_n hx hb dL_law_276 rfl (lv_at hl 1 rfl) ?_
        refine lv_aload_n hx hb dL_law_277 rfl (lv_at hl 0 rfl) ?_
        refine lv_iload_n hx hb dL_law_278 rfl (lv_at hl 3 rfl) ?_
        refine lv_iconst (v := 1) hx hb dL_law_279 (by decide) ?_
        refine lv_iadd hx hb dL_law_280 ?_
        refine va_sld hx hb hX hbl hbA hS (show vp_in (nI (4 * k) + nI 1) L from by rw [nI_add]; exact vp_in_nI (by omega) (by omega)) dL_law_281 ?_
        have hPc : va_P (dC, dI) vwCl (x_W qx qc qw qs cI u) H := hP.sub [0, 1, 2, 3, 4, 5] rfl
        refine vp_callSi (va_runV (As := [.int (xs ((nI (4 * k)) + 1).toNatClampNeg)]) (rest := []) ⟨hx, hb, hml, hown, hts⟩ (kX0_byteAt l dC dI qx qc qw qs cI u (xs ((nI (4 * k)) + 1).toNatClampNeg) ) (cwV 1 hts (tb_X gL_law_X0_byteAt) rfl rfl rfl (by decide +kernel) ⟨Nat.le_of_ble_eq_true rfl, Nat.le_of_ble_eq_true rfl⟩) ⟨fun a U g mk q => by obtain ⟨q0, qP, qK⟩ := q; exact ⟨q0, qP, va_K.moved (u := U) (U := U.calling g mk a) (Vm.Alike.refl U.vm) qK⟩, va_recv hK hP (ci := 0) (q0 := 0) rfl rfl, fun U hU hW => ⟨rfl, by rw [hU]; exact hPc, va_K.moved hW.alike hK⟩⟩ rfl rfl hl.1 rfl (lv_room (Nat.le_of_ble_eq_true rfl)) dL_law_282 ⟨Nat.le_of_ble_eq_true rfl, Nat.le_of_ble_eq_true rfl⟩).run (fun r_39 hr_39 => ?_)
        subst hr_39
        refine lv_aload_n hx hb dL_law_285 rfl (lv_at hl 2 rfl) ?_
        refine lv_aload_n hx hb dL_law_286 rfl (lv_at hl 0 rfl) ?_
        refine lv_iload_n hx hb dL_law_287 rfl (lv_at hl 3 rfl) ?_
        refine lv_iconst (v := 1) hx hb dL_law_288 (by decide) ?_
        refine lv_iadd hx hb dL_law_289 ?_
        refine va_sld hx hb hX hbl hbA hS (show vp_in (nI (4 * k) + nI 1) L from by rw [nI_add]; exact vp_in_nI (by omega) (by omega)) dL_law_290 ?_
        have hPc : va_P (dC, dI) vwCl (m_W qm pb pr pv pw ps pc cI v) H := hP.sub [6, 7, 8, 9, 10, 11, 12] rfl
        have hDc : va_D (fun q : Nat => s.heap.size ≤ q) (m_W qm pb pr pv pw ps pc cI v) := hD.sub [6, 7, 8, 9, 10, 11, 12] (by decide) rfl
        have hFc := va_free (wc := (m_W qm pb pr pv pw ps pc cI v)) hD hS hA [6, 7, 8, 9, 10, 11, 12] rfl
        refine va_calli (va_runV (As := [.int (xs ((nI (4 * k)) + 1).toNatClampNeg)]) (rest := [.int (x_byteAt u (xs ((nI (4 * k)) + 1).toNatClampNeg))]) ⟨hx, hb, hml, hown, hts⟩ (kX1_byteAt l dC dI qm pb pr pv pw ps pc cI H.size v (xs ((nI (4 * k)) + 1).toNatClampNeg) hsz) (cwV 1 hts gLM_X1_byteAt rfl rfl rfl (by decide +kernel) ⟨Nat.le_of_ble_eq_true rfl, Nat.le_of_ble_eq_true rfl⟩) ⟨fun a U g mk q => by obtain ⟨q0, q1, qP, qK, qD⟩ := q; exact ⟨q0, q1, qP, va_K.moved (u := U) (U := U.calling g mk a) (Vm.Alike.refl U.vm) qK, qD⟩, va_recv hK hP (ci := 1) (q0 := 6) rfl rfl, fun U hU hW => ⟨rfl, by rw [hU], by rw [hU]; exact hPc, va_K.moved hW.alike hK, hDc.weaken (fun _ _ _ _ => trivial)⟩⟩ rfl rfl hl.1 rfl (lv_room (Nat.le_of_ble_eq_true rfl)) dL_law_291 ⟨Nat.le_of_ble_eq_true rfl, Nat.le_of_ble_eq_true rfl⟩) hS (fun q _ h => hFc q h) hFc (fun r_41 v_40 t H1 locs ht hvm hv_40 hB hz1 hk1 hS => ?_)
        obtain ⟨hP1, -, hD1⟩ := hB
        rw [ht] at hP1
        obtain ⟨hr_41, hv_40⟩ := hv_40
        subst hr_41
        subst hv_40
        obtain ⟨hP, hD⟩ := va_join (wr := (x_W qx qc qw qs cI u)) (w1 := (m_W qm pb pr pv pw ps pc cI (m_byteAt v (xs ((nI (4 * k)) + 1).toNatClampNeg)))) hP hD [6, 7, 8, 9, 10, 11, 12] [0, 1, 2, 3, 4, 5] rfl rfl (by decide) (by decide) hk1 hFc hP1 hD1
        generalize H1 = H at hP hS ⊢
        refine lv_icmp_eq (tgt := 358) hx hb dL_law_294 (by decide) (fun c_42 => ?_) (fun c_42 => absurd ((r_byteAt hR (xs ((nI (4 * k)) + 1).toNatClampNeg)).1) c_42)
        refine lv_iinc (v := nI (4 * (k + 1))) (lv' := [(3, .int (nI (4 * (k + 1)))), (0, .ref b), (1, .ref qx), (2, .ref qm)]) hx hb dL_law_358 hl (k := 3) rfl (show nI (4 * k) + nI 4 = nI (4 * (k + 1)) from by rw [nI_add]; rfl) (by decide) rfl (fun ls hl => ?_)
        refine lv_goto (tgt := 18) hx hb dL_law_361 (by decide) ?_
        exact ih (k + 1) (by omega) (by omega) u (m_byteAt v (xs ((nI (4 * k)) + 1).toNatClampNeg)) (r_byteAt hR (xs ((nI (4 * k)) + 1).toNatClampNeg)).2 H locs hP hD hS ls (lv_sub hl [1, 2, 3, 0] rfl)
      · refine lv_tableIn (off := 267) (tgt := 299) hx hb dL_law_32 (by decide) (by decide) (by decide) (by decide) ?_
        refine lv_aload_n hx hb dL_law_299 rfl (lv_at hl 1 rfl) ?_
        refine lv_aload_n hx hb dL_law_300 rfl (lv_at hl 0 rfl) ?_
        refine lv_iload_n hx hb dL_law_301 rfl (lv_at hl 3 rfl) ?_
        refine lv_iconst (v := 1) hx hb dL_law_302 (by decide) ?_
        refine lv_iadd hx hb dL_law_303 ?_
        refine va_sld hx hb hX hbl hbA hS (show vp_in (nI (4 * k) + nI 1) L from by rw [nI_add]; exact vp_in_nI (by omega) (by omega)) dL_law_304 ?_
        have hPc : va_P (dC, dI) vwCl (x_W qx qc qw qs cI u) H := hP.sub [0, 1, 2, 3, 4, 5] rfl
        have hDc : va_D (fun q : Nat => s.heap.size ≤ q) (x_W qx qc qw qs cI u) := hD.sub [0, 1, 2, 3, 4, 5] (by decide) rfl
        have hFc := va_free (wc := (x_W qx qc qw qs cI u)) hD hS hA [0, 1, 2, 3, 4, 5] rfl
        refine va_calli (va_runV (As := [.int (xs ((nI (4 * k)) + 1).toNatClampNeg)]) (rest := []) ⟨hx, hb, hml, hown, hts⟩ (kX0_put l dC dI qx qc qw qs cI H.size u (xs ((nI (4 * k)) + 1).toNatClampNeg) ) (cwV 1 hts (tb_X gL_law_X0_put) rfl rfl rfl (by decide +kernel) ⟨Nat.le_of_ble_eq_true rfl, Nat.le_of_ble_eq_true rfl⟩) ⟨fun a U g mk q => by obtain ⟨q0, q1, qP, qK, qD⟩ := q; exact ⟨q0, q1, qP, va_K.moved (u := U) (U := U.calling g mk a) (Vm.Alike.refl U.vm) qK, qD⟩, va_recv hK hP (ci := 0) (q0 := 0) rfl rfl, fun U hU hW => ⟨rfl, by rw [hU], by rw [hU]; exact hPc, va_K.moved hW.alike hK, hDc.weaken (fun _ _ _ _ => trivial)⟩⟩ rfl rfl hl.1 rfl (lv_room (Nat.le_of_ble_eq_true rfl)) dL_law_305 ⟨Nat.le_of_ble_eq_true rfl, Nat.le_of_ble_eq_true rfl⟩) hS (fun q _ h => hFc q h) hFc (fun r_44 u_43 t H1 locs ht hvm hu_43 hB hz1 hk1 hS => ?_)
        obtain ⟨hP1, -, hD1⟩ := hB
        rw [ht] at hP1
        obtain ⟨hr_44, hu_43⟩ := hu_43
        subst hr_44
        subst hu_43
        obtain ⟨hP, hD⟩ := va_join (wr := (m_W qm pb pr pv pw ps pc cI v)) (w1 := (x_W qx qc qw qs cI (x_put u (xs ((nI (4 * k)) + 1).toNatClampNeg)))) hP hD [0, 1, 2, 3, 4, 5] [6, 7, 8, 9, 10, 11, 12] rfl rfl (by decide) (by decide) hk1 hFc hP1 hD1
        have hP : va_P (dC, dI) vwCl ((x_W qx qc qw qs cI (x_put u (xs ((nI (4 * k)) + 1).toNatClampNeg))) ++ (m_W qm pb pr pv pw ps pc cI v)) H1 := hP.sub [7, 8, 9, 10, 11, 12, 0, 1, 2, 3, 4, 5, 6] rfl
        have hD : va_D (fun q : Nat => s.heap.size ≤ q) ((x_W qx qc qw qs cI (x_put u (xs ((nI (4 * k)) + 1).toNatClampNeg))) ++ (m_W qm pb pr pv pw ps pc cI v)) := hD.sub [7, 8, 9, 10, 11, 12, 0, 1, 2, 3, 4, 5, 6] (by decide) rfl
        generalize H1 = H at hP hS ⊢
        refine lv_aload_n hx hb dL_law_308 rfl (lv_at hl 2 rfl) ?_
        refine lv_aload_n hx hb dL_law_309 rfl (lv_at hl 0 rfl) ?_
        refine lv_iload_n hx hb dL_law_310 rfl (lv_at hl 3 rfl) ?_
        refine lv_iconst (v := 1) hx hb dL_law_311 (by decide) ?_
        refine lv_iadd hx hb dL_law_312 ?_
        refine va_sld hx hb hX hbl hbA hS (show vp_in (nI (4 * k) + nI 1) L from by rw [nI_add]; exact vp_in_nI (by omega) (by omega)) dL_law_313 ?_
        have hPc : va_P (dC, dI) vwCl (m_W qm pb pr pv pw ps pc cI v) H := hP.sub [6, 7, 8, 9, 10, 11, 12] rfl
        have hDc : va_D (fun q : Nat => s.heap.size ≤ q) (m_W qm pb pr pv pw ps pc cI v) := hD.sub [6, 7, 8, 9, 10, 11, 12] (by decide) rfl
        have hFc := va_free (wc := (m_W qm pb pr pv pw ps pc cI v)) hD hS hA [6, 7, 8, 9, 10, 11, 12] rfl
        refine va_calli (va_runV (As := [.int (xs ((nI (4 * k)) + 1).toNatClampNeg)]) (rest := [.int (x_put_r u (xs ((nI (4 * k)) + 1).toNatClampNeg))]) ⟨hx, hb, hml, hown, hts⟩ (kX1_put l dC dI qm pb pr pv pw ps pc cI H.size v (xs ((nI (4 * k)) + 1).toNatClampNeg) hwn) (cwV 1 hts gLM_X1_put rfl rfl rfl (by decide +kernel) ⟨Nat.le_of_ble_eq_true rfl, Nat.le_of_ble_eq_true rfl⟩) ⟨fun a U g mk q => by obtain ⟨q0, q1, qP, qK, qD⟩ := q; exact ⟨q0, q1, qP, va_K.moved (u := U) (U := U.calling g mk a) (Vm.Alike.refl U.vm) qK, qD⟩, va_recv hK hP (ci := 1) (q0 := 6) rfl rfl, fun U hU hW => ⟨rfl, by rw [hU], by rw [hU]; exact hPc, va_K.moved hW.alike hK, hDc.weaken (fun _ _ _ _ => trivial)⟩⟩ rfl rfl hl.1 rfl (lv_room (Nat.le_of_ble_eq_true rfl)) dL_law_314 ⟨Nat.le_of_ble_eq_true rfl, Nat.le_of_ble_eq_true rfl⟩) hS (fun q _ h => hFc q h) hFc (fun r_46 v_45 t H1 locs ht hvm hv_45 hB hz1 hk1 hS => ?_)
        obtain ⟨hP1, -, hD1⟩ := hB
        rw [ht] at hP1
        obtain ⟨hr_46, hv_45⟩ := hv_45
        subst hr_46
        subst hv_45
        obtain ⟨hP, hD⟩ := va_join (wr := (x_W qx qc qw qs cI (x_put u (xs ((nI (4 * k)) + 1).toNatClampNeg)))) (w1 := (m_W qm pb pr pv pw ps pc cI (m_put v (xs ((nI (4 * k)) + 1).toNatClampNeg)))) hP hD [6, 7, 8, 9, 10, 11, 12] [0, 1, 2, 3, 4, 5] rfl rfl (by decide) (by decide) hk1 hFc hP1 hD1
        generalize H1 = H at hP hS ⊢
        refine lv_icmp_eq (tgt := 358) hx hb dL_law_317 (by decide) (fun c_47 => ?_) (fun c_47 => absurd ((r_put hR (xs ((nI (4 * k)) + 1).toNatClampNeg)).1) c_47)
        refine lv_iinc (v := nI (4 * (k + 1))) (lv' := [(3, .int (nI (4 * (k + 1)))), (0, .ref b), (1, .ref qx), (2, .ref qm)]) hx hb dL_law_358 hl (k := 3) rfl (show nI (4 * k) + nI 4 = nI (4 * (k + 1)) from by rw [nI_add]; rfl) (by decide) rfl (fun ls hl => ?_)
        refine lv_goto (tgt := 18) hx hb dL_law_361 (by decide) ?_
        exact ih (k + 1) (by omega) (by omega) (x_put u (xs ((nI (4 * k)) + 1).toNatClampNeg)) (m_put v (xs ((nI (4 * k)) + 1).toNatClampNeg)) (r_put hR (xs ((nI (4 * k)) + 1).toNatClampNeg)).2 H locs hP hD hS ls (lv_sub hl [1, 2, 3, 0] rfl)
      · refine lv_tableIn (off := 290) (tgt := 322) hx hb dL_law_32 (by decide) (by decide) (by decide) (by decide) ?_
        refine lv_aload_n hx hb dL_law_322 rfl (lv_at hl 1 rfl) ?_
        have hPc : va_P (dC, dI) vwCl (x_W qx qc qw qs cI u) H := hP.sub [0, 1, 2, 3, 4, 5] rfl
        have hDc : va_D (fun q : Nat => s.heap.size ≤ q) (x_W qx qc qw qs cI u) := hD.sub [0, 1, 2, 3, 4, 5] (by decide) rfl
        have hFc := va_free (wc := (x_W qx qc qw qs cI u)) hD hS hA [0, 1, 2, 3, 4, 5] rfl
        refine va_calli (va_runV (As := []) (rest := []) ⟨hx, hb, hml, hown, hts⟩ (kX0_send l dC dI qx qc qw qs cI H.size u  (m_wn v) hwn ew tT) (cwV 0 hts (tb_X gL_law_X0_send) rfl rfl rfl (by decide +kernel) ⟨Nat.le_of_ble_eq_true rfl, Nat.le_of_ble_eq_true rfl⟩) ⟨fun a U g mk q => by obtain ⟨q0, q1, qP, qK, qD, qT⟩ := q; exact ⟨q0, q1, qP, va_K.moved (u := U) (U := U.calling g mk a) (Vm.Alike.refl U.vm) qK, qD, va_Z.moved (u := U) (U := U.calling g mk a) (Vm.Alike.refl U.vm) qT.1, va_T.moved (u := U) (U := U.calling g mk a) (Vm.Alike.refl U.vm) qT.2⟩, va_recv hK hP (ci := 0) (q0 := 0) rfl rfl, fun U hU hW => ⟨rfl, by rw [hU], by rw [hU]; exact hPc, va_K.moved hW.alike hK, hDc.weaken (fun _ _ _ _ => trivial), by show va_Z _ _ _ _ _ U U.heap ∧ va_T _ _ _ _ _ U U.heap; rw [hU]; exact ⟨((hTl.1.kept hS.2.1).narrow hFc).moved hW.alike, ((hTl.2.kept hS.2.1).narrow hFc).moved hW.alike⟩⟩⟩ rfl rfl hl.1 rfl (lv_room (Nat.le_of_ble_eq_true rfl)) dL_law_323 ⟨Nat.le_of_ble_eq_true rfl, Nat.le_of_ble_eq_true rfl⟩) hS (fun q _ h => hFc q h) hFc (fun r_49 u_48 t H1 locs ht hvm hu_48 hB hz1 hk1 hS => ?_)
        obtain ⟨hP1, -, hD1⟩ := hB
        rw [ht] at hP1
        obtain ⟨hr_49, hu_48⟩ := hu_48
        subst hr_49
        subst hu_48
        obtain ⟨hP, hD⟩ := va_join (wr := (m_W qm pb pr pv pw ps pc cI v)) (w1 := (x_W qx qc qw qs cI (x_send u ((m_wn v + 6) / 7)))) hP hD [0, 1, 2, 3, 4, 5] [6, 7, 8, 9, 10, 11, 12] rfl rfl (by decide) (by decide) hk1 hFc hP1 hD1
        have hP : va_P (dC, dI) vwCl ((x_W qx qc qw qs cI (x_send u ((m_wn v + 6) / 7))) ++ (m_W qm pb pr pv pw ps pc cI v)) H1 := hP.sub [7, 8, 9, 10, 11, 12, 0, 1, 2, 3, 4, 5, 6] rfl
        have hD : va_D (fun q : Nat => s.heap.size ≤ q) ((x_W qx qc qw qs cI (x_send u ((m_wn v + 6) / 7))) ++ (m_W qm pb pr pv pw ps pc cI v)) := hD.sub [7, 8, 9, 10, 11, 12, 0, 1, 2, 3, 4, 5, 6] (by decide) rfl
        generalize H1 = H at hP hS ⊢
        refine lv_aload_n hx hb dL_law_326 rfl (lv_at hl 2 rfl) ?_
        have hPc : va_P (dC, dI) vwCl (m_W qm pb pr pv pw ps pc cI v) H := hP.sub [6, 7, 8, 9, 10, 11, 12] rfl
        have hDc : va_D (fun q : Nat => s.heap.size ≤ q) (m_W qm pb pr pv pw ps pc cI v) := hD.sub [6, 7, 8, 9, 10, 11, 12] (by decide) rfl
        have hFc := va_free (wc := (m_W qm pb pr pv pw ps pc cI v)) hD hS hA [6, 7, 8, 9, 10, 11, 12] rfl
        refine va_calli (va_runV (As := []) (rest := [.int (x_send_r u ((m_wn v + 6) / 7))]) ⟨hx, hb, hml, hown, hts⟩ (kX1_send l dC dI qm pb pr pv pw ps pc cI H.size v  hwn) (cwV 0 hts gLM_X1_send rfl rfl rfl (by decide +kernel) ⟨Nat.le_of_ble_eq_true rfl, Nat.le_of_ble_eq_true rfl⟩) ⟨fun a U g mk q => by obtain ⟨q0, q1, qP, qK, qD⟩ := q; exact ⟨q0, q1, qP, va_K.moved (u := U) (U := U.calling g mk a) (Vm.Alike.refl U.vm) qK, qD⟩, va_recv hK hP (ci := 1) (q0 := 6) rfl rfl, fun U hU hW => ⟨rfl, by rw [hU], by rw [hU]; exact hPc, va_K.moved hW.alike hK, hDc.weaken (fun _ _ _ _ => trivial)⟩⟩ rfl rfl hl.1 rfl (lv_room (Nat.le_of_ble_eq_true rfl)) dL_law_327 ⟨Nat.le_of_ble_eq_true rfl, Nat.le_of_ble_eq_true rfl⟩) hS (fun q _ h => hFc q h) hFc (fun r_51 v_50 t H1 locs ht hvm hv_50 hB hz1 hk1 hS => ?_)
        obtain ⟨hP1, -, hD1⟩ := hB
        rw [ht] at hP1
        obtain ⟨hr_51, hv_50⟩ := hv_50
        subst hr_51
        subst hv_50
        obtain ⟨hP, hD⟩ := va_join (wr := (x_W qx qc qw qs cI (x_send u ((m_wn v + 6) / 7)))) (w1 := (m_W qm pb pr pv pw ps pc cI (m_send v ))) hP hD [6, 7, 8, 9, 10, 11, 12] [0, 1, 2, 3, 4, 5] rfl rfl (by decide) (by decide) hk1 hFc hP1 hD1
        generalize H1 = H at hP hS ⊢
        refine lv_icmp_eq (tgt := 358) hx hb dL_law_330 (by decide) (fun c_52 => ?_) (fun c_52 => absurd ((r_send hR ).1) c_52)
        refine lv_iinc (v := nI (4 * (k + 1))) (lv' := [(3, .int (nI (4 * (k + 1)))), (0, .ref b), (1, .ref qx), (2, .ref qm)]) hx hb dL_law_358 hl (k := 3) rfl (show nI (4 * k) + nI 4 = nI (4 * (k + 1)) from by rw [nI_add]; rfl) (by decide) rfl (fun ls hl => ?_)
        refine lv_goto (tgt := 18) hx hb dL_law_361 (by decide) ?_
        exact ih (k + 1) (by omega) (by omega) (x_send u ((m_wn v + 6) / 7)) (m_send v ) (r_send hR ).2 H locs hP hD hS ls (lv_sub hl [1, 2, 3, 0] rfl)
      · refine lv_tableIn (off := 303) (tgt := 335) hx hb dL_law_32 (by decide) (by decide) (by decide) (by decide) ?_
        refine lv_aload_n hx hb dL_law_335 rfl (lv_at hl 1 rfl) ?_
        refine lv_aload_n hx hb dL_law_336 rfl (lv_at hl 0 rfl) ?_
        refine lv_iload_n hx hb dL_law_337 rfl (lv_at hl 3 rfl) ?_
        refine lv_iconst (v := 1) hx hb dL_law_338 (by decide) ?_
        refine lv_iadd hx hb dL_law_339 ?_
        refine va_sld hx hb hX hbl hbA hS (show vp_in (nI (4 * k) + nI 1) L from by rw [nI_add]; exact vp_in_nI (by omega) (by omega)) dL_law_340 ?_
        have hPc : va_P (dC, dI) vwCl (x_W qx qc qw qs cI u) H := hP.sub [0, 1, 2, 3, 4, 5] rfl
        refine vp_callSi (va_runV (As := [.int (xs ((nI (4 * k)) + 1).toNatClampNeg)]) (rest := []) ⟨hx, hb, hml, hown, hts⟩ (kX0_sent l dC dI qx qc qw qs cI u (xs ((nI (4 * k)) + 1).toNatClampNeg) ) (cwV 1 hts (tb_X gL_law_X0_sent) rfl rfl rfl (by decide +kernel) ⟨Nat.le_of_ble_eq_true rfl, Nat.le_of_ble_eq_true rfl⟩) ⟨fun a U g mk q => by obtain ⟨q0, qP, qK⟩ := q; exact ⟨q0, qP, va_K.moved (u := U) (U := U.calling g mk a) (Vm.Alike.refl U.vm) qK⟩, va_recv hK hP (ci := 0) (q0 := 0) rfl rfl, fun U hU hW => ⟨rfl, by rw [hU]; exact hPc, va_K.moved hW.alike hK⟩⟩ rfl rfl hl.1 rfl (lv_room (Nat.le_of_ble_eq_true rfl)) dL_law_341 ⟨Nat.le_of_ble_eq_true rfl, Nat.le_of_ble_eq_true rfl⟩).run (fun r_53 hr_53 => ?_)
        subst hr_53
        refine lv_aload_n hx hb dL_law_344 rfl (lv_at hl 2 rfl) ?_
        refine lv_aload_n hx hb dL_law_345 rfl (lv_at hl 0 rfl) ?_
        refine lv_iload_n hx hb dL_law_346 rfl (lv_at hl 3 rfl) ?_
        refine lv_iconst (v := 1) hx hb dL_law_347 (by decide) ?_
        refine lv_iadd hx hb dL_law_348 ?_
        refine va_sld hx hb hX hbl hbA hS (show vp_in (nI (4 * k) + nI 1) L from by rw [nI_add]; exact vp_in_nI (by omega) (by omega)) dL_law_349 ?_
        have hPc : va_P (dC, dI) vwCl (m_W qm pb pr pv pw ps pc cI v) H := hP.sub [6, 7, 8, 9, 10, 11, 12] rfl
        have hDc : va_D (fun q : Nat => s.heap.size ≤ q) (m_W qm pb pr pv pw ps pc cI v) := hD.sub [6, 7, 8, 9, 10, 11, 12] (by decide) rfl
        have hFc := va_free (wc := (m_W qm pb pr pv pw ps pc cI v)) hD hS hA [6, 7, 8, 9, 10, 11, 12] rfl
        refine va_calli (va_runV (As := [.int (xs ((nI (4 * k)) + 1).toNatClampNeg)]) (rest := [.int (x_sent u (xs ((nI (4 * k)) + 1).toNatClampNeg))]) ⟨hx, hb, hml, hown, hts⟩ (kX1_sent l dC dI qm pb pr pv pw ps pc cI H.size v (xs ((nI (4 * k)) + 1).toNatClampNeg) hsn) (cwV 1 hts gLM_X1_sent rfl rfl rfl (by decide +kernel) ⟨Nat.le_of_ble_eq_true rfl, Nat.le_of_ble_eq_true rfl⟩) ⟨fun a U g mk q => by obtain ⟨q0, q1, qP, qK, qD⟩ := q; exact ⟨q0, q1, qP, va_K.moved (u := U) (U := U.calling g mk a) (Vm.Alike.refl U.vm) qK, qD⟩, va_recv hK hP (ci := 1) (q0 := 6) rfl rfl, fun U hU hW => ⟨rfl, by rw [hU], by rw [hU]; exact hPc, va_K.moved hW.alike hK, hDc.weaken (fun _ _ _ _ => trivial)⟩⟩ rfl rfl hl.1 rfl (lv_room (Nat.le_of_ble_eq_true rfl)) dL_law_350 ⟨Nat.le_of_ble_eq_true rfl, Nat.le_of_ble_eq_true rfl⟩) hS (fun q _ h => hFc q h) hFc (fun r_55 v_54 t H1 locs ht hvm hv_54 hB hz1 hk1 hS => ?_)
        obtain ⟨hP1, -, hD1⟩ := hB
        rw [ht] at hP1
        obtain ⟨hr_55, hv_54⟩ := hv_54
        subst hr_55
        subst hv_54
        obtain ⟨hP, hD⟩ := va_join (wr := (x_W qx qc qw qs cI u)) (w1 := (m_W qm pb pr pv pw ps pc cI (m_sent v (xs ((nI (4 * k)) + 1).toNatClampNeg)))) hP hD [6, 7, 8, 9, 10, 11, 12] [0, 1, 2, 3, 4, 5] rfl rfl (by decide) (by decide) hk1 hFc hP1 hD1
        generalize H1 = H at hP hS ⊢
        refine lv_icmp_eq (tgt := 358) hx hb dL_law_353 (by decide) (fun c_56 => ?_) (fun c_56 => absurd ((r_sent hR (xs ((nI (4 * k)) + 1).toNatClampNeg)).1) c_56)
        refine lv_iinc (v := nI (4 * (k + 1))) (lv' := [(3, .int (nI (4 * (k + 1)))), (0, .ref b), (1, .ref qx), (2, .ref qm)]) hx hb dL_law_358 hl (k := 3) rfl (show nI (4 * k) + nI 4 = nI (4 * (k + 1)) from by rw [nI_add]; rfl) (by decide) rfl (fun ls hl => ?_)
        refine lv_goto (tgt := 18) hx hb dL_law_361 (by decide) ?_
        exact ih (k + 1) (by omega) (by omega) u (m_sent v (xs ((nI (4 * k)) + 1).toNatClampNeg)) (r_sent hR (xs ((nI (4 * k)) + 1).toNatClampNeg)).2 H locs hP hD hS ls (lv_sub hl [1, 2, 3, 0] rfl)
      · refine lv_tableOut (tgt := 358) hx hb dL_law_32 (Or.inr (by rw [nI_toInt (by omega)]; omega)) (by decide) ?_
        refine lv_iinc (v := nI (4 * (k + 1))) (lv' := [(3, .int (nI (4 * (k + 1)))), (0, .ref b), (1, .ref qx), (2, .ref qm)]) hx hb dL_law_358 hl (k := 3) rfl (show nI (4 * k) + nI 4 = nI (4 * (k + 1)) from by rw [nI_add]; rfl) (by decide) rfl (fun ls hl => ?_)
        refine lv_goto (tgt := 18) hx hb dL_law_361 (by decide) ?_
        exact ih (k + 1) (by omega) (by omega) u v (Rel.next hR) H locs hP hD hS ls (lv_sub hl [1, 2, 3, 0] rfl)
