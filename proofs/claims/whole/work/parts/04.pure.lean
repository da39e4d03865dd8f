abbrev rmX0_reduced : Room := { frames := 0, cells := 0, slots := 0, locals := 0 }
def x_reduced (a0 : Int32) : Int32 := if (a0 &&& 128) = 0 then a0 else (a0 ^^^ 197)
set_option maxHeartbeats 4000000 in
set_option maxRecDepth 100000 in
theorem kX0_reduced (l : Launch) (a0 : Int32) : Met l yX0_reduced wsX0_reduced rmX0_reduced (va_Pc [.int a0] (fun _ => True)) (vp_Si (fun r => r = x_reduced a0)) 0 0 (fun _ => False) := by
  refine Met.ofW (cc := cX0_reduced) (maxL := 1) (ret := some .int) (by decide) rfl ?_
  intro p e s m args below meth c s₁ B hml hv
  obtain ⟨rfl, -⟩ := hv
  have hx := B.exec
  have hb := B.bytes
  have hr := B.returns
  have hts := atoms_spec (ws := wsX0_reduced) B.pre
  have hown : s.vm.findClass RX0 = some m.cls := findClass_of_methodNamed B.named
  have hlocks := B.notSynchronized
  have hl := lv_entry ([.int a0]) (n := 1) (Nat.le_of_ble_eq_true rfl)
  rw [lg_entry_eq]
  generalize (lg_sl ([.int a0]) ++ List.replicate (1 - (lg_sl ([.int a0])).length) Slot.unset).toArray = ls at hl ⊢
  have hl : lv_has ls 1 [(0, .int a0)] := hl
  refine lv_iload_n hx hb dX0_reduced_0 rfl (lv_at hl 0 rfl) ?_
  refine lv_sipush (v := 128) hx hb dX0_reduced_1 (by decide) ?_
  refine lv_iand hx hb dX0_reduced_4 ?_
  refine lv_if_ne (tgt := 12) hx hb dX0_reduced_5 (by decide) (fun c_1 => ?_) (fun c_1 => ?_)
  · refine lv_iload_n hx hb dX0_reduced_12 rfl (lv_at hl 0 rfl) ?_
    refine lv_sipush (v := 197) hx hb dX0_reduced_13 (by decide) ?_
    refine lv_ixor hx hb dX0_reduced_16 ?_
    exact W.iret (v := a0 ^^^ 197) hx hb hr (fun t ht hW => ⟨_, rfl, (by unfold x_reduced; rw [if_neg c_1]), ht⟩) (fun q h => by cases h) dX0_reduced_17
  · refine lv_iload_n hx hb dX0_reduced_8 rfl (lv_at hl 0 rfl) ?_
    refine lv_goto (tgt := 17) hx hb dX0_reduced_9 (by decide) ?_
    exact W.iret (v := a0) hx hb hr (fun t ht hW => ⟨_, rfl, (by unfold x_reduced; rw [if_pos c_1]), ht⟩) (fun q h => by cases h) dX0_reduced_17

abbrev rmX0_byteOf : Room := { frames := 0, cells := 0, slots := 0, locals := 0 }
def x_byteOf (a0 : Int64) (a1 : Int32) : Int32 := ((j_lushr a0 (8 * a1)).toInt32) &&& 255
set_option maxHeartbeats 4000000 in
set_option maxRecDepth 100000 in
theorem kX0_byteOf (l : Launch) (a0 : Int64) (a1 : Int32) : Met l yX0_byteOf wsX0_byteOf rmX0_byteOf (va_Pc [.long a0, .int a1] (fun _ => True)) (vp_Si (fun r => r = x_byteOf a0 a1)) 0 0 (fun _ => False) := by
  refine Met.ofW (cc := cX0_byteOf) (maxL := 3) (ret := some .int) (by decide) rfl ?_
  intro p e s m args below meth c s₁ B hml hv
  obtain ⟨rfl, -⟩ := hv
  have hx := B.exec
  have hb := B.bytes
  have hr := B.returns
  have hts := atoms_spec (ws := wsX0_byteOf) B.pre
  have hown : s.vm.findClass RX0 = some m.cls := findClass_of_methodNamed B.named
  have hlocks := B.notSynchronized
  have hl := lv_entry ([.long a0, .int a1]) (n := 3) (Nat.le_of_ble_eq_true rfl)
  rw [lg_entry_eq]
  generalize (lg_sl ([.long a0, .int a1]) ++ List.replicate (3 - (lg_sl ([.long a0, .int a1])).length) Slot.unset).toArray = ls at hl ⊢
  have hl : lv_has ls 3 [(0, .long a0), (2, .int a1)] := hl
  refine lv_lload_n hx hb dX0_byteOf_0 rfl (lv_at hl 0 rfl) ?_
  refine lv_bipush (v := 8) hx hb dX0_byteOf_1 (by decide) ?_
  refine lv_iload_n hx hb dX0_byteOf_3 rfl (lv_at hl 1 rfl) ?_
  refine lv_imul hx hb dX0_byteOf_4 ?_
  refine lv_lushr (v := j_lushr a0 (8 * a1)) hx hb dX0_byteOf_5 rfl ?_
  refine lv_l2i (v := (j_lushr a0 (8 * a1)).toInt32) hx hb dX0_byteOf_6 rfl ?_
  refine lv_sipush (v := 255) hx hb dX0_byteOf_7 (by decide) ?_
  refine lv_iand hx hb dX0_byteOf_10 ?_
  exact W.iret (v := ((j_lushr a0 (8 * a1)).toInt32) &&& 255) hx hb hr (fun t ht hW => ⟨_, rfl, (rfl), ht⟩) (fun q h => by cases h) dX0_byteOf_11

abbrev rmX0_remainderOf : Room := { frames := 1, cells := 0, slots := 0, locals := 20 }
def x_remF (a0 : Int64) : Nat → Int32 → Int32
  | 0, r => r
  | n + 1, r => x_remF a0 n (x_reduced ((r <<< (1 &&& 31)) ||| ((j_lushr a0 (nI n) &&& 1).toInt32)))
set_option maxHeartbeats 4000000 in
set_option maxRecDepth 100000 in
theorem lpX0_remainderOf {p : Program} {l : Launch} {e : Env} {s : State} {m : MethodId} {args : Array Value} {below : List Frame} {meth : Method} {c : Code} {Q : State → Prop} (a0 : Int64) (hx : p.tables.exec = Jvm.exec) (hb : c.code = cX0_remainderOf) (hml : c.maxLocals = 4) (hown : s.vm.findClass RX0 = some m.cls) (hts : ∀ w ∈ wsX0_remainderOf, w.before args s = true) : ∀ (n : Nat) (r : Int32) (x : Int32) (ls : Array Slot), x = nI n + (-1) → n ≤ 64 → lv_has ls 4 [(0, .long a0), (2, .int r), (3, .int x)] → (∀ (ls : Array Slot), lv_has ls 4 [(2, .int (x_remF a0 n r))] → W p l e (headSpec wsX0_remainderOf rmX0_remainderOf).room s m args below meth c s.heap [] 0 0 Q (F0 m 29 ls [])) → W p l e (headSpec wsX0_remainderOf rmX0_remainderOf).room s m args below meth c s.heap [] 0 0 Q (F0 m 5 ls []) := by
  intro n
  induction n with
  | zero =>
    intro r x ls ex hn hl kk
    have ex : x = (-1) := by rw [ex]; decide
    subst ex
    have hl : lv_has ls 4 [(0, .long a0), (2, .int r), (3, .int (-1))] := hl
    refine lv_iload_n hx hb dX0_remainderOf_5 rfl (lv_at hl 2 rfl) ?_
    refine lv_if_lt (tgt := 29) hx hb dX0_remainderOf_6 (by decide) (fun c_1 => ?_) (fun c_1 => absurd (by decide) c_1)
    exact kk ls (lv_sub hl [1] rfl)
  | succ n ih =>
    intro r x ls ex hn hl kk
    have ex : x = nI n := by rw [ex]; exact pk_m1 n
    subst ex
    have hl : lv_has ls 4 [(0, .long a0), (2, .int r), (3, .int (nI n))] := hl
    refine lv_iload_n hx hb dX0_remainderOf_5 rfl (lv_at hl 2 rfl) ?_
    refine lv_if_lt (tgt := 29) hx hb dX0_remainderOf_6 (by decide) (fun c_1 => absurd c_1 (nI_pos (by omega))) (fun c_1 => ?_)
    refine lv_iload_n hx hb dX0_remainderOf_9 rfl (lv_at hl 1 rfl) ?_
    refine lv_iconst (v := 1) hx hb dX0_remainderOf_10 (by decide) ?_
    refine lv_ishl hx hb dX0_remainderOf_11 ?_
    refine lv_lload_n hx hb dX0_remainderOf_12 rfl (lv_at hl 0 rfl) ?_
    refine lv_iload_n hx hb dX0_remainderOf_13 rfl (lv_at hl 2 rfl) ?_
    refine lv_lushr (v := j_lushr a0 (nI n)) hx hb dX0_remainderOf_14 rfl ?_
    refine lv_lconst (v := 1) hx hb dX0_remainderOf_15 (by decide) ?_
    refine lv_land hx hb dX0_remainderOf_16 ?_
    refine lv_l2i (v := ((j_lushr a0 (nI n)) &&& 1).toInt32) hx hb dX0_remainderOf_17 rfl ?_
    refine lv_ior hx hb dX0_remainderOf_18 ?_
    refine vp_callSi (va_runS (As := [.int ((r <<< (1 &&& 31)) ||| (((j_lushr a0 (nI n)) &&& 1).toInt32))]) (rest := []) ⟨hx, hb, hml, hown, hts⟩ (kX0_reduced l ((r <<< (1 &&& 31)) ||| (((j_lushr a0 (nI n)) &&& 1).toInt32))) (va_cwS 1 hts gX0_remainderOf_X0_reduced rfl rfl rfl (by decide +kernel) ⟨Nat.le_of_ble_eq_true rfl, Nat.le_of_ble_eq_true rfl⟩) ⟨fun a U g mk q => q, fun U hU hW => ⟨rfl, trivial⟩⟩ rfl rfl hl.1 rfl (lv_room (Nat.le_of_ble_eq_true rfl)) dX0_remainderOf_19 ⟨Nat.le_of_ble_eq_true rfl, Nat.le_of_ble_eq_true rfl⟩).run (fun r_2 hr_2 => ?_)
    subst hr_2
    refine lv_istore_n (lv' := [(2, .int (x_reduced ((r <<< (1 &&& 31)) ||| (((j_lushr a0 (nI n)) &&& 1).toInt32)))), (0, .long a0), (3, .int (nI n))]) hx hb dX0_remainderOf_22 rfl hl (by decide) rfl (fun ls hl => ?_)
    refine lv_iinc (v := (nI n) + (-1)) (lv' := [(3, .int ((nI n) + (-1))), (2, .int (x_reduced ((r <<< (1 &&& 31)) ||| (((j_lushr a0 (nI n)) &&& 1).toInt32)))), (0, .long a0)]) hx hb dX0_remainderOf_23 hl (k := 2) rfl (by rw [show Int32.ofInt (-1) = (-1 : Int32) from by decide]) (by decide) rfl (fun ls hl => ?_)
    refine lv_goto (tgt := 5) hx hb dX0_remainderOf_26 (by decide) ?_
    have eF : x_remF a0 (n + 1) r = x_remF a0 n (x_reduced ((r <<< (1 &&& 31)) ||| (((j_lushr a0 (nI n)) &&& 1).toInt32))) := by rw [x_remF]
    exact ih (x_reduced ((r <<< (1 &&& 31)) ||| (((j_lushr a0 (nI n)) &&& 1).toInt32))) ((nI n) + (-1)) ls rfl (by omega) (lv_sub hl [2, 1, 0] rfl) (fun ls hl => kk ls (by rw [eF]; exact hl))
def x_remainderOf (a0 : Int64) : Int32 := x_remF a0 63 0
set_option maxHeartbeats 4000000 in
set_option maxRecDepth 100000 in
theorem kX0_remainderOf (l : Launch) (a0 : Int64) : Met l yX0_remainderOf wsX0_remainderOf rmX0_remainderOf (va_Pc [.long a0] (fun _ => True)) (vp_Si (fun r => r = x_remainderOf a0)) 0 0 (fun _ => False) := by
  refine Met.ofW (cc := cX0_remainderOf) (maxL := 4) (ret := some .int) (by decide) rfl ?_
  intro p e s m args below meth c s₁ B hml hv
  obtain ⟨rfl, -⟩ := hv
  have hx := B.exec
  have hb := B.bytes
  have hr := B.returns
  have hts := atoms_spec (ws := wsX0_remainderOf) B.pre
  have hown : s.vm.findClass RX0 = some m.cls := findClass_of_methodNamed B.named
  have hlocks := B.notSynchronized
  have hl := lv_entry ([.long a0]) (n := 4) (Nat.le_of_ble_eq_true rfl)
  rw [lg_entry_eq]
  generalize (lg_sl ([.long a0]) ++ List.replicate (4 - (lg_sl ([.long a0])).length) Slot.unset).toArray = ls at hl ⊢
  have hl : lv_has ls 4 [(0, .long a0)] := hl
  refine lv_iconst (v := 0) hx hb dX0_remainderOf_0 (by decide) ?_
  refine lv_istore_n (lv' := [(2, .int 0), (0, .long a0)]) hx hb dX0_remainderOf_1 rfl hl (by decide) rfl (fun ls hl => ?_)
  refine lv_bipush (v := 62) hx hb dX0_remainderOf_2 (by decide) ?_
  refine lv_istore_n (lv' := [(3, .int 62), (2, .int 0), (0, .long a0)]) hx hb dX0_remainderOf_4 rfl hl (by decide) rfl (fun ls hl => ?_)
  refine lpX0_remainderOf (l := l) a0 hx hb hml hown hts 63 0 62 ls (by decide) (by decide) (lv_sub hl [2, 1, 0] rfl) (fun ls hl => ?_)
  refine lv_iload_n hx hb dX0_remainderOf_29 rfl (lv_at hl 0 rfl) ?_
  exact W.iret (v := x_remF a0 63 0) hx hb hr (fun t ht hW => ⟨_, rfl, (rfl), ht⟩) (fun q h => by cases h) dX0_remainderOf_30

abbrev rmX0_powerWithRemainder : Room := { frames := 1, cells := 0, slots := 0, locals := 20 }
def x_powF (a0 : Int32) : Nat → Nat → Int32 → Int32
  | 0, _, _ => (-1)
  | n + 1, k, cd => if cd = a0 then nI k else x_powF a0 n (k + 1) (x_reduced (cd <<< (1 &&& 31)))
set_option maxHeartbeats 4000000 in
set_option maxRecDepth 100000 in
theorem lpX0_powerWithRemainder {p : Program} {l : Launch} {e : Env} {s : State} {m : MethodId} {args : Array Value} {below : List Frame} {meth : Method} {c : Code} (a0 : Int32) (hx : p.tables.exec = Jvm.exec) (hb : c.code = cX0_powerWithRemainder) (hml : c.maxLocals = 3) (hown : s.vm.findClass RX0 = some m.cls) (hts : ∀ w ∈ wsX0_powerWithRemainder, w.before args s = true) (hr : meth.sig.returnType = some .int) (hlocks : meth.locks = false) : ∀ (n : Nat) (k : Nat) (cd : Int32) (ls : Array Slot), k + n = 63 → lv_has ls 3 [(0, .int a0), (1, .int cd), (2, .int (nI k))] → W p l e (headSpec wsX0_powerWithRemainder rmX0_powerWithRemainder).room s m args below meth c s.heap [] 0 0 (MQ below (vp_Si (fun r => r = x_powF a0 n k cd)) args s 0 0 (fun _ => False)) (F0 m 4 ls []) := by
  intro n
  induction n with
  | zero =>
    intro k cd ls hn hl
    have hk : k = 63 := by omega
    subst hk
    have hl : lv_has ls 3 [(0, .int a0), (1, .int cd), (2, .int (nI 63))] := hl
    refine lv_iload_n hx hb dX0_powerWithRemainder_4 rfl (lv_at hl 2 rfl) ?_
    refine lv_bipush (v := 63) hx hb dX0_powerWithRemainder_5 (by decide) ?_
    refine lv_icmp_ge (tgt := 30) hx hb dX0_powerWithRemainder_7 (by decide) (fun c_1 => ?_) (fun c_1 => absurd (by decide) c_1)
    refine lv_iconst (v := (-1)) hx hb dX0_powerWithRemainder_30 (by decide) ?_
    exact W.iret (v := (-1)) hx hb hr (fun t ht hW => ⟨_, rfl, (rfl), ht⟩) (fun q h => by cases h) dX0_powerWithRemainder_31
  | succ n ih =>
    intro k cd ls hn hl
    have hl : lv_has ls 3 [(0, .int a0), (1, .int cd), (2, .int (nI k))] := hl
    refine lv_iload_n hx hb dX0_powerWithRemainder_4 rfl (lv_at hl 2 rfl) ?_
    refine lv_bipush (v := 63) hx hb dX0_powerWithRemainder_5 (by decide) ?_
    refine lv_icmp_ge (tgt := 30) hx hb dX0_powerWithRemainder_7 (by decide) (fun c_1 => absurd c_1 (show ¬ nI 63 ≤ nI k from nI_ge (by omega) (by decide))) (fun c_1 => ?_)
    refine lv_iload_n hx hb dX0_powerWithRemainder_10 rfl (lv_at hl 1 rfl) ?_
    refine lv_iload_n hx hb dX0_powerWithRemainder_11 rfl (lv_at hl 0 rfl) ?_
    refine lv_icmp_ne (tgt := 17) hx hb dX0_powerWithRemainder_12 (by decide) (fun c_2 => ?_) (fun c_2 => ?_)
    · refine lv_iload_n hx hb dX0_powerWithRemainder_17 rfl (lv_at hl 1 rfl) ?_
      refine lv_iconst (v := 1) hx hb dX0_powerWithRemainder_18 (by decide) ?_
      refine lv_ishl hx hb dX0_powerWithRemainder_19 ?_
      refine vp_callSi (va_runS (As := [.int (cd <<< (1 &&& 31))]) (rest := []) ⟨hx, hb, hml, hown, hts⟩ (kX0_reduced l (cd <<< (1 &&& 31))) (va_cwS 1 hts gX0_powerWithRemainder_X0_reduced rfl rfl rfl (by decide +kernel) ⟨Nat.le_of_ble_eq_true rfl, Nat.le_of_ble_eq_true rfl⟩) ⟨fun a U g mk q => q, fun U hU hW => ⟨rfl, trivial⟩⟩ rfl rfl hl.1 rfl (lv_room (Nat.le_of_ble_eq_true rfl)) dX0_powerWithRemainder_20 ⟨Nat.le_of_ble_eq_true rfl, Nat.le_of_ble_eq_true rfl⟩).run (fun r_3 hr_3 => ?_)
      subst hr_3
      refine lv_istore_n (lv' := [(1, .int (x_reduced (cd <<< (1 &&& 31)))), (0, .int a0), (2, .int (nI k))]) hx hb dX0_powerWithRemainder_23 rfl hl (by decide) rfl (fun ls hl => ?_)
      refine lv_iinc (v := nI (k + 1)) (lv' := [(2, .int (nI (k + 1))), (1, .int (x_reduced (cd <<< (1 &&& 31)))), (0, .int a0)]) hx hb dX0_powerWithRemainder_24 hl (k := 2) rfl (j_inc k 1) (by decide) rfl (fun ls hl => ?_)
      refine lv_goto (tgt := 4) hx hb dX0_powerWithRemainder_27 (by decide) ?_
      have eF : x_powF a0 (n + 1) k cd = x_powF a0 n (k + 1) (x_reduced (cd <<< (1 &&& 31))) := by rw [x_powF, if_neg c_2]
      rw [eF]
      exact ih (k + 1) (x_reduced (cd <<< (1 &&& 31))) ls (by omega) (lv_sub hl [2, 1, 0] rfl)
    · refine lv_iload_n hx hb dX0_powerWithRemainder_15 rfl (lv_at hl 2 rfl) ?_
      exact W.iret (v := nI k) hx hb hr (fun t ht hW => ⟨_, rfl, (by rw [x_powF, if_pos c_2]), ht⟩) (fun q h => by cases h) dX0_powerWithRemainder_16
def x_powerWithRemainder (a0 : Int32) : Int32 := x_powF a0 63 0 1
set_option maxHeartbeats 4000000 in
set_option maxRecDepth 100000 in
theorem kX0_powerWithRemainder (l : Launch) (a0 : Int32) : Met l yX0_powerWithRemainder wsX0_powerWithRemainder rmX0_powerWithRemainder (va_Pc [.int a0] (fun _ => True)) (vp_Si (fun r => r = x_powerWithRemainder a0)) 0 0 (fun _ => False) := by
  refine Met.ofW (cc := cX0_powerWithRemainder) (maxL := 3) (ret := some .int) (by decide) rfl ?_
  intro p e s m args below meth c s₁ B hml hv
  obtain ⟨rfl, -⟩ := hv
  have hx := B.exec
  have hb := B.bytes
  have hr := B.returns
  have hts := atoms_spec (ws := wsX0_powerWithRemainder) B.pre
  have hown : s.vm.findClass RX0 = some m.cls := findClass_of_methodNamed B.named
  have hlocks := B.notSynchronized
  have hl := lv_entry ([.int a0]) (n := 3) (Nat.le_of_ble_eq_true rfl)
  rw [lg_entry_eq]
  generalize (lg_sl ([.int a0]) ++ List.replicate (3 - (lg_sl ([.int a0])).length) Slot.unset).toArray = ls at hl ⊢
  have hl : lv_has ls 3 [(0, .int a0)] := hl
  refine lv_iconst (v := 1) hx hb dX0_powerWithRemainder_0 (by decide) ?_
  refine lv_istore_n (lv' := [(1, .int 1), (0, .int a0)]) hx hb dX0_powerWithRemainder_1 rfl hl (by decide) rfl (fun ls hl => ?_)
  refine lv_iconst (v := 0) hx hb dX0_powerWithRemainder_2 (by decide) ?_
  refine lv_istore_n (lv' := [(2, .int 0), (1, .int 1), (0, .int a0)]) hx hb dX0_powerWithRemainder_3 rfl hl (by decide) rfl (fun ls hl => ?_)
  exact lpX0_powerWithRemainder (l := l) a0 hx hb hml hown hts hr hlocks 63 0 1 ls rfl (lv_sub hl [2, 1, 0] rfl)

abbrev rmX0_blockOf : Room := { frames := 2, cells := 0, slots := 0, locals := 43 }
def x_blockOf (a0 : Int64) : Int64 := j_lshl ((j_lshl a0 7) ||| (((x_remainderOf (j_lshl a0 7)) ^^^ 127).toInt64)) 1
set_option maxHeartbeats 4000000 in
set_option maxRecDepth 100000 in
theorem kX0_blockOf (l : Launch) (a0 : Int64) : Met l yX0_blockOf wsX0_blockOf rmX0_blockOf (va_Pc [.long a0] (fun _ => True)) (vp_Sl (fun r => r = x_blockOf a0)) 0 0 (fun _ => False) := by
  refine Met.ofW (cc := cX0_blockOf) (maxL := 4) (ret := some .long) (by decide) rfl ?_
  intro p e s m args below meth c s₁ B hml hv
  obtain ⟨rfl, -⟩ := hv
  have hx := B.exec
  have hb := B.bytes
  have hr := B.returns
  have hts := atoms_spec (ws := wsX0_blockOf) B.pre
  have hown : s.vm.findClass RX0 = some m.cls := findClass_of_methodNamed B.named
  have hlocks := B.notSynchronized
  have hl := lv_entry ([.long a0]) (n := 4) (Nat.le_of_ble_eq_true rfl)
  rw [lg_entry_eq]
  generalize (lg_sl ([.long a0]) ++ List.replicate (4 - (lg_sl ([.long a0])).length) Slot.unset).toArray = ls at hl ⊢
  have hl : lv_has ls 4 [(0, .long a0)] := hl
  refine lv_lload_n hx hb dX0_blockOf_0 rfl (lv_at hl 0 rfl) ?_
  refine lv_bipush (v := 7) hx hb dX0_blockOf_1 (by decide) ?_
  refine lv_lshl (v := j_lshl a0 7) hx hb dX0_blockOf_3 rfl ?_
  refine lv_lstore_n (lv' := [(2, .long (j_lshl a0 7)), (0, .long a0)]) hx hb dX0_blockOf_4 rfl hl (by decide) rfl (fun ls hl => ?_)
  refine lv_lload_n hx hb dX0_blockOf_5 rfl (lv_at hl 0 rfl) ?_
  refine lv_lload_n hx hb dX0_blockOf_6 rfl (lv_at hl 0 rfl) ?_
  refine vp_callSi (va_runS (As := [.long (j_lshl a0 7)]) (rest := [.long (j_lshl a0 7)]) ⟨hx, hb, hml, hown, hts⟩ (kX0_remainderOf l (j_lshl a0 7)) (va_cwS 1 hts gX0_blockOf_X0_remainderOf rfl rfl rfl (by decide +kernel) ⟨Nat.le_of_ble_eq_true rfl, Nat.le_of_ble_eq_true rfl⟩) ⟨fun a U g mk q => q, fun U hU hW => ⟨rfl, trivial⟩⟩ rfl rfl hl.1 rfl (lv_room (Nat.le_of_ble_eq_true rfl)) dX0_blockOf_7 ⟨Nat.le_of_ble_eq_true rfl, Nat.le_of_ble_eq_true rfl⟩).run (fun r_1 hr_1 => ?_)
  subst hr_1
  refine lv_bipush (v := 127) hx hb dX0_blockOf_10 (by decide) ?_
  refine lv_ixor hx hb dX0_blockOf_12 ?_
  refine lv_i2l (v := ((x_remainderOf (j_lshl a0 7)) ^^^ 127).toInt64) hx hb dX0_blockOf_13 rfl ?_
  refine lv_lor hx hb dX0_blockOf_14 ?_
  refine lv_iconst (v := 1) hx hb dX0_blockOf_15 (by decide) ?_
  refine lv_lshl (v := j_lshl ((j_lshl a0 7) ||| (((x_remainderOf (j_lshl a0 7)) ^^^ 127).toInt64)) 1) hx hb dX0_blockOf_16 rfl ?_
  exact W.lret (v := j_lshl ((j_lshl a0 7) ||| (((x_remainderOf (j_lshl a0 7)) ^^^ 127).toInt64)) 1) hx hb hr (fun t ht hW => ⟨_, rfl, (rfl), ht⟩) (fun q h => by cases h) dX0_blockOf_17

abbrev rmJ6_bitCount_0f7a4 : Room := { frames := 0, cells := 0, slots := 0, locals := 0 }
def x_bitCount (a0 : Int32) : Int32 := (((((((a0 - ((j_iushr a0 1) &&& 1431655765)) &&& 858993459) + ((j_iushr (a0 - ((j_iushr a0 1) &&& 1431655765)) 2) &&& 858993459)) + (j_iushr (((a0 - ((j_iushr a0 1) &&& 1431655765)) &&& 858993459) + ((j_iushr (a0 - ((j_iushr a0 1) &&& 1431655765)) 2) &&& 858993459)) 4)) &&& 252645135) + (j_iushr (((((a0 - ((j_iushr a0 1) &&& 1431655765)) &&& 858993459) + ((j_iushr (a0 - ((j_iushr a0 1) &&& 1431655765)) 2) &&& 858993459)) + (j_iushr (((a0 - ((j_iushr a0 1) &&& 1431655765)) &&& 858993459) + ((j_iushr (a0 - ((j_iushr a0 1) &&& 1431655765)) 2) &&& 858993459)) 4)) &&& 252645135) 8)) + (j_iushr ((((((a0 - ((j_iushr a0 1) &&& 1431655765)) &&& 858993459) + ((j_iushr (a0 - ((j_iushr a0 1) &&& 1431655765)) 2) &&& 858993459)) + (j_iushr (((a0 - ((j_iushr a0 1) &&& 1431655765)) &&& 858993459) + ((j_iushr (a0 - ((j_iushr a0 1) &&& 1431655765)) 2) &&& 858993459)) 4)) &&& 252645135) + (j_iushr (((((a0 - ((j_iushr a0 1) &&& 1431655765)) &&& 858993459) + ((j_iushr (a0 - ((j_iushr a0 1) &&& 1431655765)) 2) &&& 858993459)) + (j_iushr (((a0 - ((j_iushr a0 1) &&& 1431655765)) &&& 858993459) + ((j_iushr (a0 - ((j_iushr a0 1) &&& 1431655765)) 2) &&& 858993459)) 4)) &&& 252645135) 8)) 16)) &&& 63
set_option maxHeartbeats 4000000 in
set_option maxRecDepth 100000 in
theorem kJ6_bitCount_0f7a4 (l : Launch) (a0 : Int32) : Met l yJ6_bitCount_0f7a4 wsJ6_bitCount_0f7a4 rmJ6_bitCount_0f7a4 (va_Pc [.int a0] (fun _ => True)) (vp_Si (fun r => r = x_bitCount a0)) 0 0 (fun _ => False) := by
  refine va_MetF (cc := cJ6_bitCount_0f7a4) (maxL := 1) (ret := some .int) (by decide +kernel) rfl ?_
  intro p e s m args below meth c s₁ B hml hv
  obtain ⟨rfl, -⟩ := hv
  have hx := B.exec
  have hb := B.bytes
  have hr := B.returns
  have hts := atoms_spec (ws := wsJ6_bitCount_0f7a4) B.pre
  have hown : s.vm.findClass RJ6 = some m.cls := findClass_of_methodNamed B.named
  have hlocks := B.notSynchronized
  have hl := lv_entry ([.int a0]) (n := 1) (Nat.le_of_ble_eq_true rfl)
  rw [lg_entry_eq]
  generalize (lg_sl ([.int a0]) ++ List.replicate (1 - (lg_sl ([.int a0])).length) Slot.unset).toArray = ls at hl ⊢
  have hl : lv_has ls 1 [(0, .int a0)] := hl
  refine lv_iload_n hx hb dJ6_bitCount_0f7a4_0 rfl (lv_at hl 0 rfl) ?_
  refine lv_iload_n hx hb dJ6_bitCount_0f7a4_1 rfl (lv_at hl 0 rfl) ?_
  refine lv_iconst (v := 1) hx hb dJ6_bitCount_0f7a4_2 (by decide) ?_
  refine lv_iushr (v := j_iushr a0 1) hx hb dJ6_bitCount_0f7a4_3 rfl ?_
  refine lv_ldcw hx hb hown (hts (.constant RJ6 265 1431655765) (by decide +kernel)) dJ6_bitCount_0f7a4_4 ?_
  refine lv_iand hx hb dJ6_bitCount_0f7a4_7 ?_
  refine lv_isub hx hb dJ6_bitCount_0f7a4_8 ?_
  refine lv_istore_n (lv' := [(0, .int (a0 - ((j_iushr a0 1) &&& 1431655765)))]) hx hb dJ6_bitCount_0f7a4_9 rfl hl (by decide) rfl (fun ls hl => ?_)
  refine lv_iload_n hx hb dJ6_bitCount_0f7a4_10 rfl (lv_at hl 0 rfl) ?_
  refine lv_ldcw hx hb hown (hts (.constant RJ6 266 858993459) (by decide +kernel)) dJ6_bitCount_0f7a4_11 ?_
  refine lv_iand hx hb dJ6_bitCount_0f7a4_14 ?_
  refine lv_iload_n hx hb dJ6_bitCount_0f7a4_15 rfl (lv_at hl 0 rfl) ?_
  refine lv_iconst (v := 2) hx hb dJ6_bitCount_0f7a4_16 (by decide) ?_
  refine lv_iushr (v := j_iushr (a0 - ((j_iushr a0 1) &&& 1431655765)) 2) hx hb dJ6_bitCount_0f7a4_17 rfl ?_
  refine lv_ldcw hx hb hown (hts (.constant RJ6 266 858993459) (by decide +kernel)) dJ6_bitCount_0f7a4_18 ?_
  refine lv_iand hx hb dJ6_bitCount_0f7a4_21 ?_
  refine lv_iadd hx hb dJ6_bitCount_0f7a4_22 ?_
  refine lv_istore_n (lv' := [(0, .int (((a0 - ((j_iushr a0 1) &&& 1431655765)) &&& 858993459) + ((j_iushr (a0 - ((j_iushr a0 1) &&& 1431655765)) 2) &&& 858993459)))]) hx hb dJ6_bitCount_0f7a4_23 rfl hl (by decide) rfl (fun ls hl => ?_)
  refine lv_iload_n hx hb dJ6_bitCount_0f7a4_24 rfl (lv_at hl 0 rfl) ?_
  refine lv_iload_n hx hb dJ6_bitCount_0f7a4_25 rfl (lv_at hl 0 rfl) ?_
  refine lv_iconst (v := 4) hx hb dJ6_bitCount_0f7a4_26 (by decide) ?_
  refine lv_iushr (v := j_iushr (((a0 - ((j_iushr a0 1) &&& 1431655765)) &&& 858993459) + ((j_iushr (a0 - ((j_iushr a0 1) &&& 1431655765)) 2) &&& 858993459)) 4) hx hb dJ6_bitCount_0f7a4_27 rfl ?_
  refine lv_iadd hx hb dJ6_bitCount_0f7a4_28 ?_
  refine lv_ldcw hx hb hown (hts (.constant RJ6 267 252645135) (by decide +kernel)) dJ6_bitCount_0f7a4_29 ?_
  refine lv_iand hx hb dJ6_bitCount_0f7a4_32 ?_
  refine lv_istore_n (lv' := [(0, .int (((((a0 - ((j_iushr a0 1) &&& 1431655765)) &&& 858993459) + ((j_iushr (a0 - ((j_iushr a0 1) &&& 1431655765)) 2) &&& 858993459)) + (j_iushr (((a0 - ((j_iushr a0 1) &&& 1431655765)) &&& 858993459) + ((j_iushr (a0 - ((j_iushr a0 1) &&& 1431655765)) 2) &&& 858993459)) 4)) &&& 252645135))]) hx hb dJ6_bitCount_0f7a4_33 rfl hl (by decide) rfl (fun ls hl => ?_)
  refine lv_iload_n hx hb dJ6_bitCount_0f7a4_34 rfl (lv_at hl 0 rfl) ?_
  refine lv_iload_n hx hb dJ6_bitCount_0f7a4_35 rfl (lv_at hl 0 rfl) ?_
  refine lv_bipush (v := 8) hx hb dJ6_bitCount_0f7a4_36 (by decide) ?_
  refine lv_iushr (v := j_iushr (((((a0 - ((j_iushr a0 1) &&& 1431655765)) &&& 858993459) + ((j_iushr (a0 - ((j_iushr a0 1) &&& 1431655765)) 2) &&& 858993459)) + (j_iushr (((a0 - ((j_iushr a0 1) &&& 1431655765)) &&& 858993459) + ((j_iushr (a0 - ((j_iushr a0 1) &&& 1431655765)) 2) &&& 858993459)) 4)) &&& 252645135) 8) hx hb dJ6_bitCount_0f7a4_38 rfl ?_
  refine lv_iadd hx hb dJ6_bitCount_0f7a4_39 ?_
  refine lv_istore_n (lv' := [(0, .int ((((((a0 - ((j_iushr a0 1) &&& 1431655765)) &&& 858993459) + ((j_iushr (a0 - ((j_iushr a0 1) &&& 1431655765)) 2) &&& 858993459)) + (j_iushr (((a0 - ((j_iushr a0 1) &&& 1431655765)) &&& 858993459) + ((j_iushr (a0 - ((j_iushr a0 1) &&& 1431655765)) 2) &&& 858993459)) 4)) &&& 252645135) + (j_iushr (((((a0 - ((j_iushr a0 1) &&& 1431655765)) &&& 858993459) + ((j_iushr (a0 - ((j_iushr a0 1) &&& 1431655765)) 2) &&& 858993459)) + (j_iushr (((a0 - ((j_iushr a0 1) &&& 1431655765)) &&& 858993459) + ((j_iushr (a0 - ((j_iushr a0 1) &&& 1431655765)) 2) &&& 858993459)) 4)) &&& 252645135) 8)))]) hx hb dJ6_bitCount_0f7a4_40 rfl hl (by decide) rfl (fun ls hl => ?_)
  refine lv_iload_n hx hb dJ6_bitCount_0f7a4_41 rfl (lv_at hl 0 rfl) ?_
  refine lv_iload_n hx hb dJ6_bitCount_0f7a4_42 rfl (lv_at hl 0 rfl) ?_
  refine lv_bipush (v := 16) hx hb dJ6_bitCount_0f7a4_43 (by decide) ?_
  refine lv_iushr (v := j_iushr ((((((a0 - ((j_iushr a0 1) &&& 1431655765)) &&& 858993459) + ((j_iushr (a0 - ((j_iushr a0 1) &&& 1431655765)) 2) &&& 858993459)) + (j_iushr (((a0 - ((j_iushr a0 1) &&& 1431655765)) &&& 858993459) + ((j_iushr (a0 - ((j_iushr a0 1) &&& 1431655765)) 2) &&& 858993459)) 4)) &&& 252645135) + (j_iushr (((((a0 - ((j_iushr a0 1) &&& 1431655765)) &&& 858993459) + ((j_iushr (a0 - ((j_iushr a0 1) &&& 1431655765)) 2) &&& 858993459)) + (j_iushr (((a0 - ((j_iushr a0 1) &&& 1431655765)) &&& 858993459) + ((j_iushr (a0 - ((j_iushr a0 1) &&& 1431655765)) 2) &&& 858993459)) 4)) &&& 252645135) 8)) 16) hx hb dJ6_bitCount_0f7a4_45 rfl ?_
  refine lv_iadd hx hb dJ6_bitCount_0f7a4_46 ?_
  refine lv_istore_n (lv' := [(0, .int (((((((a0 - ((j_iushr a0 1) &&& 1431655765)) &&& 858993459) + ((j_iushr (a0 - ((j_iushr a0 1) &&& 1431655765)) 2) &&& 858993459)) + (j_iushr (((a0 - ((j_iushr a0 1) &&& 1431655765)) &&& 858993459) + ((j_iushr (a0 - ((j_iushr a0 1) &&& 1431655765)) 2) &&& 858993459)) 4)) &&& 252645135) + (j_iushr (((((a0 - ((j_iushr a0 1) &&& 1431655765)) &&& 858993459) + ((j_iushr (a0 - ((j_iushr a0 1) &&& 1431655765)) 2) &&& 858993459)) + (j_iushr (((a0 - ((j_iushr a0 1) &&& 1431655765)) &&& 858993459) + ((j_iushr (a0 - ((j_iushr a0 1) &&& 1431655765)) 2) &&& 858993459)) 4)) &&& 252645135) 8)) + (j_iushr ((((((a0 - ((j_iushr a0 1) &&& 1431655765)) &&& 858993459) + ((j_iushr (a0 - ((j_iushr a0 1) &&& 1431655765)) 2) &&& 858993459)) + (j_iushr (((a0 - ((j_iushr a0 1) &&& 1431655765)) &&& 858993459) + ((j_iushr (a0 - ((j_iushr a0 1) &&& 1431655765)) 2) &&& 858993459)) 4)) &&& 252645135) + (j_iushr (((((a0 - ((j_iushr a0 1) &&& 1431655765)) &&& 858993459) + ((j_iushr (a0 - ((j_iushr a0 1) &&& 1431655765)) 2) &&& 858993459)) + (j_iushr (((a0 - ((j_iushr a0 1) &&& 1431655765)) &&& 858993459) + ((j_iushr (a0 - ((j_iushr a0 1) &&& 1431655765)) 2) &&& 858993459)) 4)) &&& 252645135) 8)) 16)))]) hx hb dJ6_bitCount_0f7a4_47 rfl hl (by decide) rfl (fun ls hl => ?_)
  refine lv_iload_n hx hb dJ6_bitCount_0f7a4_48 rfl (lv_at hl 0 rfl) ?_
  refine lv_bipush (v := 63) hx hb dJ6_bitCount_0f7a4_49 (by decide) ?_
  refine lv_iand hx hb dJ6_bitCount_0f7a4_51 ?_
  exact W.iret (v := (((((((a0 - ((j_iushr a0 1) &&& 1431655765)) &&& 858993459) + ((j_iushr (a0 - ((j_iushr a0 1) &&& 1431655765)) 2) &&& 858993459)) + (j_iushr (((a0 - ((j_iushr a0 1) &&& 1431655765)) &&& 858993459) + ((j_iushr (a0 - ((j_iushr a0 1) &&& 1431655765)) 2) &&& 858993459)) 4)) &&& 252645135) + (j_iushr (((((a0 - ((j_iushr a0 1) &&& 1431655765)) &&& 858993459) + ((j_iushr (a0 - ((j_iushr a0 1) &&& 1431655765)) 2) &&& 858993459)) + (j_iushr (((a0 - ((j_iushr a0 1) &&& 1431655765)) &&& 858993459) + ((j_iushr (a0 - ((j_iushr a0 1) &&& 1431655765)) 2) &&& 858993459)) 4)) &&& 252645135) 8)) + (j_iushr ((((((a0 - ((j_iushr a0 1) &&& 1431655765)) &&& 858993459) + ((j_iushr (a0 - ((j_iushr a0 1) &&& 1431655765)) 2) &&& 858993459)) + (j_iushr (((a0 - ((j_iushr a0 1) &&& 1431655765)) &&& 858993459) + ((j_iushr (a0 - ((j_iushr a0 1) &&& 1431655765)) 2) &&& 858993459)) 4)) &&& 252645135) + (j_iushr (((((a0 - ((j_iushr a0 1) &&& 1431655765)) &&& 858993459) + ((j_iushr (a0 - ((j_iushr a0 1) &&& 1431655765)) 2) &&& 858993459)) + (j_iushr (((a0 - ((j_iushr a0 1) &&& 1431655765)) &&& 858993459) + ((j_iushr (a0 - ((j_iushr a0 1) &&& 1431655765)) 2) &&& 858993459)) 4)) &&& 252645135) 8)) 16)) &&& 63) hx hb hr (fun t ht hW => ⟨_, rfl, (rfl), ht⟩) (fun q h => by cases h) dJ6_bitCount_0f7a4_52
