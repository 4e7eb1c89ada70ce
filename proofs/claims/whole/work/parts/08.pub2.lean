def p_size (u : xS) (h : Int32) : Int32 :=
  (if (p_refusalOfHeap u h) = 0 then
    (p_countEntries u h)
  else (p_refusalOfHeap u h))
set_option maxHeartbeats 4000000 in
set_option maxRecDepth 100000 in
theorem b_size {p : Program} {l : Launch} {e : Env} {s : State} {m : MethodId} {args : Array Value} {below : List Frame} {meth : Method} {c : Code} {Q : State → Prop} {A : Nat → Prop} {ls : Array Slot} {dC : Nat → ClassId} {dI : Nat → Nat → Nat} {G : Nat → Nat} {C : Nat → ClassId} {u : xS} {h : Int32} (hm : xm u ≤ 12) (hn : xn u ≤ 160) (B : CallFix p m c cX0_size 3 s args wsX0_size RX0) (hK : va_K (dC, dI) vwCl (xT C) s) (hA : ∀ q : Nat, s.heap.size ≤ q → A q) (hP : va_P (dC, dI) vwCl (xW G C u) s.heap) (hD : va_D A (xW G C u)) (hl : lv_has ls 3 [(0, .ref (G 0)), (1, .int h)]) (kk : (∀ (H : Heap) (locs : List Loc) (pc : Nat) (ls : Array Slot), decode cX0_size pc = .ok (.ireturn, 1) → va_P (dC, dI) vwCl (xW G C u) H → va_D A (xW G C u) → va_S A s.heap H locs → W p l e (xR 2 42) s m args below meth c H locs 0 0 Q (F0 m pc ls [.int (p_size u h)]))) : W p l e (xR 2 42) s m args below meth c s.heap [] 0 0 Q (F0 m 0 ls []) := by
  obtain ⟨hx, hb, hml, hown, hts⟩ := B
  have hS : va_S A s.heap s.heap [] := va_S.rf
  refine lv_aload_n hx hb dX0_size_0 rfl (lv_at hl 0 rfl) ?_
  refine lv_iload_n hx hb dX0_size_1 rfl (lv_at hl 1 rfl) ?_
  refine xcall_i (ws := (xW G C u)) (wc := (xW G C u)) (wr := []) (w1 := (xW G C u)) (v := (p_refusalOfHeap u h)) [0, 1, 2, 3, 4, 5, 6, 7] [] (va_runV (As := [.int h]) (rest := []) ⟨hx, hb, hml, hown, hts⟩ (c_refusalOfHeap l dC dI G C _ u h hm) (cwV 1 hts gX0_size_X0_refusalOfHeap rfl rfl rfl (by decide +kernel) ⟨Nat.le_of_ble_eq_true rfl, Nat.le_of_ble_eq_true rfl⟩) (xpreV (q0 := 0) (ci := 0) (qc := (RX0, TX0, 9)) hK hP hD rfl rfl) rfl rfl hl.1 rfl (lv_room (Nat.le_of_ble_eq_true rfl)) dX0_size_2 ⟨Nat.zero_le _, Nat.zero_le _⟩) hP hD hS hA rfl rfl (by decide) (by decide) (fun H locs hP hD hS => ?_)
  have hP : va_P (dC, dI) vwCl (xW G C u) H := hP
  have hD : va_D A (xW G C u) := hD
  refine lv_istore_n (lv' := [(2, .int (p_refusalOfHeap u h)), (0, .ref (G 0)), (1, .int h)]) hx hb dX0_size_5 rfl hl (by decide) rfl (fun ls hl => ?_)
  refine lv_iload_n hx hb dX0_size_6 rfl (lv_at hl 0 rfl) ?_
  refine lv_if_eq (tgt := 14) hx hb dX0_size_7 rfl (fun c7 => ?_) (fun c7 => ?_)
  · refine lv_aload_n hx hb dX0_size_14 rfl (lv_at hl 1 rfl) ?_
    refine lv_iload_n hx hb dX0_size_15 rfl (lv_at hl 2 rfl) ?_
    refine xcall_i (ws := (xW G C u)) (wc := (xW G C u)) (wr := []) (w1 := (xW G C u)) (v := (p_countEntries u h)) [0, 1, 2, 3, 4, 5, 6, 7] [] (va_runV (As := [.int h]) (rest := []) ⟨hx, hb, hml, hown, hts⟩ (c_countEntries l dC dI G C _ u h hn) (cwV 1 hts gX0_size_X0_countEntries rfl rfl rfl (by decide +kernel) ⟨Nat.le_of_ble_eq_true rfl, Nat.le_of_ble_eq_true rfl⟩) (xpreV (q0 := 0) (ci := 0) (qc := (RX0, TX0, 9)) hK hP hD rfl rfl) rfl rfl hl.1 rfl (lv_room (Nat.le_of_ble_eq_true rfl)) dX0_size_16 ⟨Nat.zero_le _, Nat.zero_le _⟩) hP hD hS hA rfl rfl (by decide) (by decide) (fun H locs hP hD hS => ?_)
    have hP : va_P (dC, dI) vwCl (xW G C u) H := hP
    have hD : va_D A (xW G C u) := hD
    have e9 : p_size u h = (p_countEntries u h) := by unfold p_size; rw [if_pos c7]
    exact W.eq (congrArg (fun z => F0 m 19 ls [.int z]) e9.symm) (kk _ _ _ _ dX0_size_19 hP hD hS)
  · refine lv_iload_n hx hb dX0_size_10 rfl (lv_at hl 0 rfl) ?_
    refine lv_goto (tgt := 19) hx hb dX0_size_11 rfl ?_
    have e9 : p_size u h = (p_refusalOfHeap u h) := by unfold p_size; rw [if_neg c7]
    exact W.eq (congrArg (fun z => F0 m 19 ls [.int z]) e9.symm) (kk _ _ _ _ dX0_size_19 hP hD hS)
theorem c_size (l : Launch) (dC : Nat → ClassId) (dI : Nat → Nat → Nat) (G : Nat → Nat) (C : Nat → ClassId) (sz : Nat) (u : xS) (h : Int32) (hm : xm u ≤ 12) (hn : xn u ≤ 160) : xMi l yX0_size wsX0_size (xR 2 42) dC dI (xT C) [.ref (G 0), .int h] (xW G C u) (xW G C u) (p_size u h) sz :=
  xmet_i (by decide) rfl rfl (Nat.le_of_ble_eq_true rfl) rfl (fun p e s m args below meth c Q A ls B hK hA hP hD hl kk => b_size hm hn B hK hA hP hD hl kk)
def p_floor (u : xS) (h : Int32) : Int64 :=
  (if (p_isHeap u h) = 0 then
    (-9223372036854775808)
  else ((xfl u) (h).toNatClampNeg))
set_option maxHeartbeats 4000000 in
set_option maxRecDepth 100000 in
theorem b_floor {p : Program} {l : Launch} {e : Env} {s : State} {m : MethodId} {args : Array Value} {below : List Frame} {meth : Method} {c : Code} {Q : State → Prop} {A : Nat → Prop} {ls : Array Slot} {dC : Nat → ClassId} {dI : Nat → Nat → Nat} {G : Nat → Nat} {C : Nat → ClassId} {u : xS} {h : Int32} (hm : xm u ≤ 12) (B : CallFix p m c cX0_floor 2 s args wsX0_floor RX0) (hK : va_K (dC, dI) vwCl (xT C) s) (hA : ∀ q : Nat, s.heap.size ≤ q → A q) (hP : va_P (dC, dI) vwCl (xW G C u) s.heap) (hD : va_D A (xW G C u)) (hl : lv_has ls 2 [(0, .ref (G 0)), (1, .int h)]) (kk : (∀ (H : Heap) (locs : List Loc) (pc : Nat) (ls : Array Slot), decode cX0_floor pc = .ok (.lreturn, 1) → va_P (dC, dI) vwCl (xW G C u) H → va_D A (xW G C u) → va_S A s.heap H locs → W p l e (xR 1 21) s m args below meth c H locs 0 0 Q (F0 m pc ls [.long (p_floor u h)]))) : W p l e (xR 1 21) s m args below meth c s.heap [] 0 0 Q (F0 m 0 ls []) := by
  obtain ⟨hx, hb, hml, hown, hts⟩ := B
  have hS : va_S A s.heap s.heap [] := va_S.rf
  have hfw : ∀ w ∈ u_ws RX0 TX0 9, w ∈ wsX0_floor := by decide +kernel
  refine lv_aload_n hx hb dX0_floor_0 rfl (lv_at hl 0 rfl) ?_
  refine lv_iload_n hx hb dX0_floor_1 rfl (lv_at hl 1 rfl) ?_
  refine xcall_i (ws := (xW G C u)) (wc := (xW G C u)) (wr := []) (w1 := (xW G C u)) (v := (p_isHeap u h)) [0, 1, 2, 3, 4, 5, 6, 7] [] (va_runV (As := [.int h]) (rest := []) ⟨hx, hb, hml, hown, hts⟩ (c_isHeap l dC dI G C _ u h) (cwV 1 hts gX0_floor_X0_isHeap rfl rfl rfl (by decide +kernel) ⟨Nat.le_of_ble_eq_true rfl, Nat.le_of_ble_eq_true rfl⟩) (xpreV (q0 := 0) (ci := 0) (qc := (RX0, TX0, 9)) hK hP hD rfl rfl) rfl rfl hl.1 rfl (lv_room (Nat.le_of_ble_eq_true rfl)) dX0_floor_2 ⟨Nat.zero_le _, Nat.zero_le _⟩) hP hD hS hA rfl rfl (by decide) (by decide) (fun H locs hP hD hS => ?_)
  have hP : va_P (dC, dI) vwCl (xW G C u) H := hP
  have hD : va_D A (xW G C u) := hD
  refine lv_if_eq (tgt := 17) hx hb dX0_floor_5 rfl (fun c5 => ?_) (fun c5 => ?_)
  · refine lv_ldc2 (v := (-9223372036854775808)) hx hb hown (hts (.constantLong RX0 40 (-9223372036854775808)) (by decide +kernel)) dX0_floor_17 ?_
    have e9 : p_floor u h = (-9223372036854775808) := by unfold p_floor; rw [if_pos c5]
    exact W.eq (congrArg (fun z => F0 m 20 ls [.long z]) e9.symm) (kk _ _ _ _ dX0_floor_20 hP hD hS)
  · refine lv_aload_n hx hb dX0_floor_8 rfl (lv_at hl 0 rfl) ?_
    refine va_get (D := (dC, dI)) (ci := 0) (v := .ref (G 4)) (C := RX0) (T := TX0) (N := 9) hx hb hts hfw hown hK hP 0 rfl rfl 3 (by decide) (hts (.fieldLink RX0 20 "MeldingHeaps" "floors" "[J") (by decide +kernel)) (fun _ h9 => h9) rfl dX0_floor_9 ?_
    refine lv_iload_n hx hb dX0_floor_12 rfl (lv_at hl 1 rfl) ?_
    refine va_lald (f := (xfl u)) hx hb hK hP 4 3 rfl rfl (in_isHeap hm c5) dX0_floor_13 ?_
    refine lv_goto (tgt := 20) hx hb dX0_floor_14 rfl ?_
    have e9 : p_floor u h = ((xfl u) (h).toNatClampNeg) := by unfold p_floor; rw [if_neg c5]
    exact W.eq (congrArg (fun z => F0 m 20 ls [.long z]) e9.symm) (kk _ _ _ _ dX0_floor_20 hP hD hS)
theorem c_floor (l : Launch) (dC : Nat → ClassId) (dI : Nat → Nat → Nat) (G : Nat → Nat) (C : Nat → ClassId) (sz : Nat) (u : xS) (h : Int32) (hm : xm u ≤ 12) : xMl l yX0_floor wsX0_floor (xR 1 21) dC dI (xT C) [.ref (G 0), .int h] (xW G C u) (xW G C u) (p_floor u h) sz :=
  xmet_l (by decide) rfl (Nat.le_of_ble_eq_true rfl) rfl (fun p e s m args below meth c Q A ls B hK hA hP hD hl kk => b_floor hm B hK hA hP hD hl kk)
def p_key (u : xS) (a : Int32) : Int64 :=
  (if (p_refusalOfEntry u a) = 0 then
    ((xky u) (a).toNatClampNeg)
  else 0)
set_option maxHeartbeats 4000000 in
set_option maxRecDepth 100000 in
theorem b_key {p : Program} {l : Launch} {e : Env} {s : State} {m : MethodId} {args : Array Value} {below : List Frame} {meth : Method} {c : Code} {Q : State → Prop} {A : Nat → Prop} {ls : Array Slot} {dC : Nat → ClassId} {dI : Nat → Nat → Nat} {G : Nat → Nat} {C : Nat → ClassId} {u : xS} {a : Int32} (hn : xn u ≤ 160) (B : CallFix p m c cX0_key 2 s args wsX0_key RX0) (hK : va_K (dC, dI) vwCl (xT C) s) (hA : ∀ q : Nat, s.heap.size ≤ q → A q) (hP : va_P (dC, dI) vwCl (xW G C u) s.heap) (hD : va_D A (xW G C u)) (hl : lv_has ls 2 [(0, .ref (G 0)), (1, .int a)]) (kk : (∀ (H : Heap) (locs : List Loc) (pc : Nat) (ls : Array Slot), decode cX0_key pc = .ok (.lreturn, 1) → va_P (dC, dI) vwCl (xW G C u) H → va_D A (xW G C u) → va_S A s.heap H locs → W p l e (xR 2 42) s m args below meth c H locs 0 0 Q (F0 m pc ls [.long (p_key u a)]))) : W p l e (xR 2 42) s m args below meth c s.heap [] 0 0 Q (F0 m 0 ls []) := by
  obtain ⟨hx, hb, hml, hown, hts⟩ := B
  have hS : va_S A s.heap s.heap [] := va_S.rf
  have hfw : ∀ w ∈ u_ws RX0 TX0 9, w ∈ wsX0_key := by decide +kernel
  refine lv_aload_n hx hb dX0_key_0 rfl (lv_at hl 0 rfl) ?_
  refine lv_iload_n hx hb dX0_key_1 rfl (lv_at hl 1 rfl) ?_
  refine xcall_i (ws := (xW G C u)) (wc := (xW G C u)) (wr := []) (w1 := (xW G C u)) (v := (p_refusalOfEntry u a)) [0, 1, 2, 3, 4, 5, 6, 7] [] (va_runV (As := [.int a]) (rest := []) ⟨hx, hb, hml, hown, hts⟩ (c_refusalOfEntry l dC dI G C _ u a hn) (cwV 1 hts gX0_key_X0_refusalOfEntry rfl rfl rfl (by decide +kernel) ⟨Nat.le_of_ble_eq_true rfl, Nat.le_of_ble_eq_true rfl⟩) (xpreV (q0 := 0) (ci := 0) (qc := (RX0, TX0, 9)) hK hP hD rfl rfl) rfl rfl hl.1 rfl (lv_room (Nat.le_of_ble_eq_true rfl)) dX0_key_2 ⟨Nat.zero_le _, Nat.zero_le _⟩) hP hD hS hA rfl rfl (by decide) (by decide) (fun H locs hP hD hS => ?_)
  have hP : va_P (dC, dI) vwCl (xW G C u) H := hP
  have hD : va_D A (xW G C u) := hD
  refine lv_if_ne (tgt := 17) hx hb dX0_key_5 rfl (fun c5 => ?_) (fun c5 => ?_)
  · refine lv_lconst (v := 0) hx hb dX0_key_17 (by decide) ?_
    have e9 : p_key u a = 0 := by unfold p_key; rw [if_neg c5]
    exact W.eq (congrArg (fun z => F0 m 18 ls [.long z]) e9.symm) (kk _ _ _ _ dX0_key_18 hP hD hS)
  · refine lv_aload_n hx hb dX0_key_8 rfl (lv_at hl 0 rfl) ?_
    refine va_get (D := (dC, dI)) (ci := 0) (v := .ref (G 5)) (C := RX0) (T := TX0) (N := 9) hx hb hts hfw hown hK hP 0 rfl rfl 5 (by decide) (hts (.fieldLink RX0 28 "MeldingHeaps" "keys" "[J") (by decide +kernel)) (fun _ h9 => h9) rfl dX0_key_9 ?_
    refine lv_iload_n hx hb dX0_key_12 rfl (lv_at hl 1 rfl) ?_
    refine va_lald (f := (xky u)) hx hb hK hP 5 4 rfl rfl ((in_refE hn c5).1) dX0_key_13 ?_
    refine lv_goto (tgt := 18) hx hb dX0_key_14 rfl ?_
    have e9 : p_key u a = ((xky u) (a).toNatClampNeg) := by unfold p_key; rw [if_pos c5]
    exact W.eq (congrArg (fun z => F0 m 18 ls [.long z]) e9.symm) (kk _ _ _ _ dX0_key_18 hP hD hS)
theorem c_key (l : Launch) (dC : Nat → ClassId) (dI : Nat → Nat → Nat) (G : Nat → Nat) (C : Nat → ClassId) (sz : Nat) (u : xS) (a : Int32) (hn : xn u ≤ 160) : xMl l yX0_key wsX0_key (xR 2 42) dC dI (xT C) [.ref (G 0), .int a] (xW G C u) (xW G C u) (p_key u a) sz :=
  xmet_l (by decide) rfl (Nat.le_of_ble_eq_true rfl) rfl (fun p e s m args below meth c Q A ls B hK hA hP hD hl kk => b_key hn B hK hA hP hD hl kk)
def p_value (u : xS) (a : Int32) : Int32 :=
  (if (p_refusalOfEntry u a) = 0 then
    ((xvl u) (a).toNatClampNeg)
  else 0)
set_option maxHeartbeats 4000000 in
set_option maxRecDepth 100000 in
theorem b_value {p : Program} {l : Launch} {e : Env} {s : State} {m : MethodId} {args : Array Value} {below : List Frame} {meth : Method} {c : Code} {Q : State → Prop} {A : Nat → Prop} {ls : Array Slot} {dC : Nat → ClassId} {dI : Nat → Nat → Nat} {G : Nat → Nat} {C : Nat → ClassId} {u : xS} {a : Int32} (hn : xn u ≤ 160) (B : CallFix p m c cX0_value 2 s args wsX0_value RX0) (hK : va_K (dC, dI) vwCl (xT C) s) (hA : ∀ q : Nat, s.heap.size ≤ q → A q) (hP : va_P (dC, dI) vwCl (xW G C u) s.heap) (hD : va_D A (xW G C u)) (hl : lv_has ls 2 [(0, .ref (G 0)), (1, .int a)]) (kk : (∀ (H : Heap) (locs : List Loc) (pc : Nat) (ls : Array Slot), decode cX0_value pc = .ok (.ireturn, 1) → va_P (dC, dI) vwCl (xW G C u) H → va_D A (xW G C u) → va_S A s.heap H locs → W p l e (xR 2 42) s m args below meth c H locs 0 0 Q (F0 m pc ls [.int (p_value u a)]))) : W p l e (xR 2 42) s m args below meth c s.heap [] 0 0 Q (F0 m 0 ls []) := by
  obtain ⟨hx, hb, hml, hown, hts⟩ := B
  have hS : va_S A s.heap s.heap [] := va_S.rf
  have hfw : ∀ w ∈ u_ws RX0 TX0 9, w ∈ wsX0_value := by decide +kernel
  refine lv_aload_n hx hb dX0_value_0 rfl (lv_at hl 0 rfl) ?_
  refine lv_iload_n hx hb dX0_value_1 rfl (lv_at hl 1 rfl) ?_
  refine xcall_i (ws := (xW G C u)) (wc := (xW G C u)) (wr := []) (w1 := (xW G C u)) (v := (p_refusalOfEntry u a)) [0, 1, 2, 3, 4, 5, 6, 7] [] (va_runV (As := [.int a]) (rest := []) ⟨hx, hb, hml, hown, hts⟩ (c_refusalOfEntry l dC dI G C _ u a hn) (cwV 1 hts gX0_value_X0_refusalOfEntry rfl rfl rfl (by decide +kernel) ⟨Nat.le_of_ble_eq_true rfl, Nat.le_of_ble_eq_true rfl⟩) (xpreV (q0 := 0) (ci := 0) (qc := (RX0, TX0, 9)) hK hP hD rfl rfl) rfl rfl hl.1 rfl (lv_room (Nat.le_of_ble_eq_true rfl)) dX0_value_2 ⟨Nat.zero_le _, Nat.zero_le _⟩) hP hD hS hA rfl rfl (by decide) (by decide) (fun H locs hP hD hS => ?_)
  have hP : va_P (dC, dI) vwCl (xW G C u) H := hP
  have hD : va_D A (xW G C u) := hD
  refine lv_if_ne (tgt := 17) hx hb dX0_value_5 rfl (fun c5 => ?_) (fun c5 => ?_)
  · refine lv_iconst (v := 0) hx hb dX0_value_17 (by decide) ?_
    have e9 : p_value u a = 0 := by unfold p_value; rw [if_neg c5]
    exact W.eq (congrArg (fun z => F0 m 18 ls [.int z]) e9.symm) (kk _ _ _ _ dX0_value_18 hP hD hS)
  · refine lv_aload_n hx hb dX0_value_8 rfl (lv_at hl 0 rfl) ?_
    refine va_get (D := (dC, dI)) (ci := 0) (v := .ref (G 6)) (C := RX0) (T := TX0) (N := 9) hx hb hts hfw hown hK hP 0 rfl rfl 6 (by decide) (hts (.fieldLink RX0 31 "MeldingHeaps" "values" "[I") (by decide +kernel)) (fun _ h9 => h9) rfl dX0_value_9 ?_
    refine lv_iload_n hx hb dX0_value_12 rfl (lv_at hl 1 rfl) ?_
    refine va_iald (f := (xvl u)) hx hb hK hP 6 5 rfl rfl ((in_refE hn c5).1) dX0_value_13 ?_
    refine lv_goto (tgt := 18) hx hb dX0_value_14 rfl ?_
    have e9 : p_value u a = ((xvl u) (a).toNatClampNeg) := by unfold p_value; rw [if_pos c5]
    exact W.eq (congrArg (fun z => F0 m 18 ls [.int z]) e9.symm) (kk _ _ _ _ dX0_value_18 hP hD hS)
theorem c_value (l : Launch) (dC : Nat → ClassId) (dI : Nat → Nat → Nat) (G : Nat → Nat) (C : Nat → ClassId) (sz : Nat) (u : xS) (a : Int32) (hn : xn u ≤ 160) : xMi l yX0_value wsX0_value (xR 2 42) dC dI (xT C) [.ref (G 0), .int a] (xW G C u) (xW G C u) (p_value u a) sz :=
  xmet_i (by decide) rfl rfl (Nat.le_of_ble_eq_true rfl) rfl (fun p e s m args below meth c Q A ls B hK hA hP hD hl kk => b_value hn B hK hA hP hD hl kk)
def p_owner (u : xS) (a : Int32) : Int32 :=
  (if (p_refusalOfEntry u a) = 0 then
    ((xow u) (a).toNatClampNeg)
  else (p_refusalOfEntry u a))
set_option maxHeartbeats 4000000 in
set_option maxRecDepth 100000 in
theorem b_owner {p : Program} {l : Launch} {e : Env} {s : State} {m : MethodId} {args : Array Value} {below : List Frame} {meth : Method} {c : Code} {Q : State → Prop} {A : Nat → Prop} {ls : Array Slot} {dC : Nat → ClassId} {dI : Nat → Nat → Nat} {G : Nat → Nat} {C : Nat → ClassId} {u : xS} {a : Int32} (hn : xn u ≤ 160) (B : CallFix p m c cX0_owner 3 s args wsX0_owner RX0) (hK : va_K (dC, dI) vwCl (xT C) s) (hA : ∀ q : Nat, s.heap.size ≤ q → A q) (hP : va_P (dC, dI) vwCl (xW G C u) s.heap) (hD : va_D A (xW G C u)) (hl : lv_has ls 3 [(0, .ref (G 0)), (1, .int a)]) (kk : (∀ (H : Heap) (locs : List Loc) (pc : Nat) (ls : Array Slot), decode cX0_owner pc = .ok (.ireturn, 1) → va_P (dC, dI) vwCl (xW G C u) H → va_D A (xW G C u) → va_S A s.heap H locs → W p l e (xR 2 42) s m args below meth c H locs 0 0 Q (F0 m pc ls [.int (p_owner u a)]))) : W p l e (xR 2 42) s m args below meth c s.heap [] 0 0 Q (F0 m 0 ls []) := by
  obtain ⟨hx, hb, hml, hown, hts⟩ := B
  have hS : va_S A s.heap s.heap [] := va_S.rf
  have hfw : ∀ w ∈ u_ws RX0 TX0 9, w ∈ wsX0_owner := by decide +kernel
  refine lv_aload_n hx hb dX0_owner_0 rfl (lv_at hl 0 rfl) ?_
  refine lv_iload_n hx hb dX0_owner_1 rfl (lv_at hl 1 rfl) ?_
  refine xcall_i (ws := (xW G C u)) (wc := (xW G C u)) (wr := []) (w1 := (xW G C u)) (v := (p_refusalOfEntry u a)) [0, 1, 2, 3, 4, 5, 6, 7] [] (va_runV (As := [.int a]) (rest := []) ⟨hx, hb, hml, hown, hts⟩ (c_refusalOfEntry l dC dI G C _ u a hn) (cwV 1 hts gX0_owner_X0_refusalOfEntry rfl rfl rfl (by decide +kernel) ⟨Nat.le_of_ble_eq_true rfl, Nat.le_of_ble_eq_true rfl⟩) (xpreV (q0 := 0) (ci := 0) (qc := (RX0, TX0, 9)) hK hP hD rfl rfl) rfl rfl hl.1 rfl (lv_room (Nat.le_of_ble_eq_true rfl)) dX0_owner_2 ⟨Nat.zero_le _, Nat.zero_le _⟩) hP hD hS hA rfl rfl (by decide) (by decide) (fun H locs hP hD hS => ?_)
  have hP : va_P (dC, dI) vwCl (xW G C u) H := hP
  have hD : va_D A (xW G C u) := hD
  refine lv_istore_n (lv' := [(2, .int (p_refusalOfEntry u a)), (0, .ref (G 0)), (1, .int a)]) hx hb dX0_owner_5 rfl hl (by decide) rfl (fun ls hl => ?_)
  refine lv_iload_n hx hb dX0_owner_6 rfl (lv_at hl 0 rfl) ?_
  refine lv_if_eq (tgt := 14) hx hb dX0_owner_7 rfl (fun c7 => ?_) (fun c7 => ?_)
  · refine lv_aload_n hx hb dX0_owner_14 rfl (lv_at hl 1 rfl) ?_
    refine va_get (D := (dC, dI)) (ci := 0) (v := .ref (G 7)) (C := RX0) (T := TX0) (N := 9) hx hb hts hfw hown hK hP 0 rfl rfl 7 (by decide) (hts (.fieldLink RX0 34 "MeldingHeaps" "owners" "[I") (by decide +kernel)) (fun _ h9 => h9) rfl dX0_owner_15 ?_
    refine lv_iload_n hx hb dX0_owner_18 rfl (lv_at hl 2 rfl) ?_
    refine va_iald (f := (xow u)) hx hb hK hP 7 6 rfl rfl ((in_refE hn c7).1) dX0_owner_19 ?_
    have e9 : p_owner u a = ((xow u) (a).toNatClampNeg) := by unfold p_owner; rw [if_pos c7]
    exact W.eq (congrArg (fun z => F0 m 20 ls [.int z]) e9.symm) (kk _ _ _ _ dX0_owner_20 hP hD hS)
  · refine lv_iload_n hx hb dX0_owner_10 rfl (lv_at hl 0 rfl) ?_
    refine lv_goto (tgt := 20) hx hb dX0_owner_11 rfl ?_
    have e9 : p_owner u a = (p_refusalOfEntry u a) := by unfold p_owner; rw [if_neg c7]
    exact W.eq (congrArg (fun z => F0 m 20 ls [.int z]) e9.symm) (kk _ _ _ _ dX0_owner_20 hP hD hS)
theorem c_owner (l : Launch) (dC : Nat → ClassId) (dI : Nat → Nat → Nat) (G : Nat → Nat) (C : Nat → ClassId) (sz : Nat) (u : xS) (a : Int32) (hn : xn u ≤ 160) : xMi l yX0_owner wsX0_owner (xR 2 42) dC dI (xT C) [.ref (G 0), .int a] (xW G C u) (xW G C u) (p_owner u a) sz :=
  xmet_i (by decide) rfl rfl (Nat.le_of_ble_eq_true rfl) rfl (fun p e s m args below meth c Q A ls B hK hA hP hD hl kk => b_owner hn B hK hA hP hD hl kk)
theorem refE_neg {u : xS} {a : Int32} (c : ¬ p_refusalOfEntry u a = 0) : p_refusalOfEntry u a < 0 := by
  unfold p_refusalOfEntry at c ⊢
  by_cases h1 : p_isEntry u a = 0
  · rw [if_pos h1]; decide
  · rw [if_neg h1] at c ⊢
    by_cases h2 : (xow u a.toNatClampNeg) = -4
    · rw [if_pos h2]; decide
    · rw [if_neg h2] at c; exact absurd rfl c
theorem owner_in {u : xS} {a : Int32} (hn : xn u ≤ 160) (c : ¬ p_owner u a < 0) : vp_in a 160 := by
  unfold p_owner at c
  by_cases h1 : p_refusalOfEntry u a = 0
  · exact (in_refE hn h1).1
  · rw [if_neg h1] at c; exact absurd (refE_neg h1) c
def p_before (u : xS) (a : Int32) : Int32 :=
  (if (p_refusalOfEntry u a) = 0 then
    (p_countBefore u ((xow u) (a).toNatClampNeg) a)
  else (p_refusalOfEntry u a))
set_option maxHeartbeats 4000000 in
set_option maxRecDepth 100000 in
theorem b_before {p : Program} {l : Launch} {e : Env} {s : State} {m : MethodId} {args : Array Value} {below : List Frame} {meth : Method} {c : Code} {Q : State → Prop} {A : Nat → Prop} {ls : Array Slot} {dC : Nat → ClassId} {dI : Nat → Nat → Nat} {G : Nat → Nat} {C : Nat → ClassId} {u : xS} {a : Int32} (hn : xn u ≤ 160) (ho : ∀ j : Nat, j < xn u → xow u j = -4 ∨ vp_in (xow u j) 12) (B : CallFix p m c cX0_before 3 s args wsX0_before RX0) (hK : va_K (dC, dI) vwCl (xT C) s) (hA : ∀ q : Nat, s.heap.size ≤ q → A q) (hP : va_P (dC, dI) vwCl (xW G C u) s.heap) (hD : va_D A (xW G C u)) (hl : lv_has ls 3 [(0, .ref (G 0)), (1, .int a)]) (kk : (∀ (H : Heap) (locs : List Loc) (pc : Nat) (ls : Array Slot), decode cX0_before pc = .ok (.ireturn, 1) → va_P (dC, dI) vwCl (xW G C u) H → va_D A (xW G C u) → va_S A s.heap H locs → W p l e (xR 3 73) s m args below meth c H locs 0 0 Q (F0 m pc ls [.int (p_before u a)]))) : W p l e (xR 3 73) s m args below meth c s.heap [] 0 0 Q (F0 m 0 ls []) := by
  obtain ⟨hx, hb, hml, hown, hts⟩ := B
  have hS : va_S A s.heap s.heap [] := va_S.rf
  have hfw : ∀ w ∈ u_ws RX0 TX0 9, w ∈ wsX0_before := by decide +kernel
  refine lv_aload_n hx hb dX0_before_0 rfl (lv_at hl 0 rfl) ?_
  refine lv_iload_n hx hb dX0_before_1 rfl (lv_at hl 1 rfl) ?_
  refine xcall_i (ws := (xW G C u)) (wc := (xW G C u)) (wr := []) (w1 := (xW G C u)) (v := (p_refusalOfEntry u a)) [0, 1, 2, 3, 4, 5, 6, 7] [] (va_runV (As := [.int a]) (rest := []) ⟨hx, hb, hml, hown, hts⟩ (c_refusalOfEntry l dC dI G C _ u a hn) (cwV 1 hts gX0_before_X0_refusalOfEntry rfl rfl rfl (by decide +kernel) ⟨Nat.le_of_ble_eq_true rfl, Nat.le_of_ble_eq_true rfl⟩) (xpreV (q0 := 0) (ci := 0) (qc := (RX0, TX0, 9)) hK hP hD rfl rfl) rfl rfl hl.1 rfl (lv_room (Nat.le_of_ble_eq_true rfl)) dX0_before_2 ⟨Nat.zero_le _, Nat.zero_le _⟩) hP hD hS hA rfl rfl (by decide) (by decide) (fun H locs hP hD hS => ?_)
  have hP : va_P (dC, dI) vwCl (xW G C u) H := hP
  have hD : va_D A (xW G C u) := hD
  refine lv_istore_n (lv' := [(2, .int (p_refusalOfEntry u a)), (0, .ref (G 0)), (1, .int a)]) hx hb dX0_before_5 rfl hl (by decide) rfl (fun ls hl => ?_)
  refine lv_iload_n hx hb dX0_before_6 rfl (lv_at hl 0 rfl) ?_
  refine lv_if_eq (tgt := 14) hx hb dX0_before_7 rfl (fun c7 => ?_) (fun c7 => ?_)
  · refine lv_aload_n hx hb dX0_before_14 rfl (lv_at hl 1 rfl) ?_
    refine lv_aload_n hx hb dX0_before_15 rfl (lv_at hl 1 rfl) ?_
    refine va_get (D := (dC, dI)) (ci := 0) (v := .ref (G 7)) (C := RX0) (T := TX0) (N := 9) hx hb hts hfw hown hK hP 0 rfl rfl 7 (by decide) (hts (.fieldLink RX0 34 "MeldingHeaps" "owners" "[I") (by decide +kernel)) (fun _ h9 => h9) rfl dX0_before_16 ?_
    refine lv_iload_n hx hb dX0_before_19 rfl (lv_at hl 2 rfl) ?_
    refine va_iald (f := (xow u)) hx hb hK hP 7 6 rfl rfl ((in_refE hn c7).1) dX0_before_20 ?_
    refine lv_iload_n hx hb dX0_before_21 rfl (lv_at hl 2 rfl) ?_
    refine xcall_i (ws := (xW G C u)) (wc := (xW G C u)) (wr := []) (w1 := (xW G C u)) (v := (p_countBefore u ((xow u) (a).toNatClampNeg) a)) [0, 1, 2, 3, 4, 5, 6, 7] [] (va_runV (As := [.int ((xow u) (a).toNatClampNeg), .int a]) (rest := []) ⟨hx, hb, hml, hown, hts⟩ (c_countBefore l dC dI G C _ u ((xow u) (a).toNatClampNeg) a hn (in_own hn ho c7) (in_refE hn c7).1) (cwV 2 hts gX0_before_X0_countBefore rfl rfl rfl (by decide +kernel) ⟨Nat.le_of_ble_eq_true rfl, Nat.le_of_ble_eq_true rfl⟩) (xpreV (q0 := 0) (ci := 0) (qc := (RX0, TX0, 9)) hK hP hD rfl rfl) rfl rfl hl.1 rfl (lv_room (Nat.le_of_ble_eq_true rfl)) dX0_before_22 ⟨Nat.zero_le _, Nat.zero_le _⟩) hP hD hS hA rfl rfl (by decide) (by decide) (fun H locs hP hD hS => ?_)
    have hP : va_P (dC, dI) vwCl (xW G C u) H := hP
    have hD : va_D A (xW G C u) := hD
    have e9 : p_before u a = (p_countBefore u ((xow u) (a).toNatClampNeg) a) := by unfold p_before; rw [if_pos c7]
    exact W.eq (congrArg (fun z => F0 m 25 ls [.int z]) e9.symm) (kk _ _ _ _ dX0_before_25 hP hD hS)
  · refine lv_iload_n hx hb dX0_before_10 rfl (lv_at hl 0 rfl) ?_
    refine lv_goto (tgt := 25) hx hb dX0_before_11 rfl ?_
    have e9 : p_before u a = (p_refusalOfEntry u a) := by unfold p_before; rw [if_neg c7]
    exact W.eq (congrArg (fun z => F0 m 25 ls [.int z]) e9.symm) (kk _ _ _ _ dX0_before_25 hP hD hS)
theorem c_before (l : Launch) (dC : Nat → ClassId) (dI : Nat → Nat → Nat) (G : Nat → Nat) (C : Nat → ClassId) (sz : Nat) (u : xS) (a : Int32) (hn : xn u ≤ 160) (ho : ∀ j : Nat, j < xn u → xow u j = -4 ∨ vp_in (xow u j) 12) : xMi l yX0_before wsX0_before (xR 3 73) dC dI (xT C) [.ref (G 0), .int a] (xW G C u) (xW G C u) (p_before u a) sz :=
  xmet_i (by decide) rfl rfl (Nat.le_of_ble_eq_true rfl) rfl (fun p e s m args below meth c Q A ls B hK hA hP hD hl kk => b_before hn ho B hK hA hP hD hl kk)
def p_delete (u : xS) (a : Int32) : Int32 :=
  (if (p_owner u a) < 0 then
    (p_owner u a)
  else (p_owner u a))
def q_delete (u : xS) (a : Int32) : xS :=
  (if (p_owner u a) < 0 then
    u
  else (sOw u (upd (xow u) (a).toNatClampNeg (-4))))
set_option maxHeartbeats 4000000 in
set_option maxRecDepth 100000 in
theorem b_delete {p : Program} {l : Launch} {e : Env} {s : State} {m : MethodId} {args : Array Value} {below : List Frame} {meth : Method} {c : Code} {Q : State → Prop} {A : Nat → Prop} {ls : Array Slot} {dC : Nat → ClassId} {dI : Nat → Nat → Nat} {G : Nat → Nat} {C : Nat → ClassId} {u : xS} {a : Int32} (hn : xn u ≤ 160) (B : CallFix p m c cX0_delete 3 s args wsX0_delete RX0) (hK : va_K (dC, dI) vwCl (xT C) s) (hA : ∀ q : Nat, s.heap.size ≤ q → A q) (hP : va_P (dC, dI) vwCl (xW G C u) s.heap) (hD : va_D A (xW G C u)) (hl : lv_has ls 3 [(0, .ref (G 0)), (1, .int a)]) (kk : (∀ (H : Heap) (locs : List Loc) (pc : Nat) (ls : Array Slot), decode cX0_delete pc = .ok (.ireturn, 1) → va_P (dC, dI) vwCl (xW G C (q_delete u a)) H → va_D A (xW G C (q_delete u a)) → va_S A s.heap H locs → W p l e (xR 3 64) s m args below meth c H locs 0 0 Q (F0 m pc ls [.int (p_delete u a)]))) : W p l e (xR 3 64) s m args below meth c s.heap [] 0 0 Q (F0 m 0 ls []) := by
  obtain ⟨hx, hb, hml, hown, hts⟩ := B
  have hS : va_S A s.heap s.heap [] := va_S.rf
  have hfw : ∀ w ∈ u_ws RX0 TX0 9, w ∈ wsX0_delete := by decide +kernel
  refine lv_aload_n hx hb dX0_delete_0 rfl (lv_at hl 0 rfl) ?_
  refine lv_iload_n hx hb dX0_delete_1 rfl (lv_at hl 1 rfl) ?_
  refine xcall_i (ws := (xW G C u)) (wc := (xW G C u)) (wr := []) (w1 := (xW G C u)) (v := (p_owner u a)) [0, 1, 2, 3, 4, 5, 6, 7] [] (va_runV (As := [.int a]) (rest := []) ⟨hx, hb, hml, hown, hts⟩ (c_owner l dC dI G C _ u a hn) (cwV 1 hts gX0_delete_X0_owner rfl rfl rfl (by decide +kernel) ⟨Nat.le_of_ble_eq_true rfl, Nat.le_of_ble_eq_true rfl⟩) (xpreV (q0 := 0) (ci := 0) (qc := (RX0, TX0, 9)) hK hP hD rfl rfl) rfl rfl hl.1 rfl (lv_room (Nat.le_of_ble_eq_true rfl)) dX0_delete_2 ⟨Nat.zero_le _, Nat.zero_le _⟩) hP hD hS hA rfl rfl (by decide) (by decide) (fun H locs hP hD hS => ?_)
  have hP : va_P (dC, dI) vwCl (xW G C u) H := hP
  have hD : va_D A (xW G C u) := hD
  refine lv_istore_n (lv' := [(2, .int (p_owner u a)), (0, .ref (G 0)), (1, .int a)]) hx hb dX0_delete_5 rfl hl (by decide) rfl (fun ls hl => ?_)
  refine lv_iload_n hx hb dX0_delete_6 rfl (lv_at hl 0 rfl) ?_
  refine lv_if_lt (tgt := 18) hx hb dX0_delete_7 rfl (fun c7 => ?_) (fun c7 => ?_)
  · refine lv_iload_n hx hb dX0_delete_18 rfl (lv_at hl 0 rfl) ?_
    have e8 : q_delete u a = u := by unfold q_delete; rw [if_pos c7]
    have e9 : p_delete u a = (p_owner u a) := by unfold p_delete; rw [if_pos c7]
    exact W.eq (congrArg (fun z => F0 m 19 ls [.int z]) e9.symm) (kk _ _ _ _ dX0_delete_19 (by rw [e8]; exact hP) (by rw [e8]; exact hD) hS)
  · refine lv_aload_n hx hb dX0_delete_10 rfl (lv_at hl 1 rfl) ?_
    refine va_get (D := (dC, dI)) (ci := 0) (v := .ref (G 7)) (C := RX0) (T := TX0) (N := 9) hx hb hts hfw hown hK hP 0 rfl rfl 7 (by decide) (hts (.fieldLink RX0 34 "MeldingHeaps" "owners" "[I") (by decide +kernel)) (fun _ h9 => h9) rfl dX0_delete_11 ?_
    refine lv_iload_n hx hb dX0_delete_14 rfl (lv_at hl 2 rfl) ?_
    refine lv_bipush (v := (-4)) hx hb dX0_delete_15 (by decide) ?_
    refine va_iast (f := (xow u)) hx hb hK hP hD hS 7 6 rfl rfl (owner_in hn c7) dX0_delete_17 (fun H locs hP hD hS => ?_)
    have hP : va_P (dC, dI) vwCl (xW G C (sOw u (upd (xow u) (a).toNatClampNeg (-4)))) H := hP
    have hD : va_D A (xW G C (sOw u (upd (xow u) (a).toNatClampNeg (-4)))) := hD
    refine lv_iload_n hx hb dX0_delete_18 rfl (lv_at hl 0 rfl) ?_
    have e8 : q_delete u a = (sOw u (upd (xow u) (a).toNatClampNeg (-4))) := by unfold q_delete; rw [if_neg c7]
    have e9 : p_delete u a = (p_owner u a) := by unfold p_delete; rw [if_neg c7]
    exact W.eq (congrArg (fun z => F0 m 19 ls [.int z]) e9.symm) (kk _ _ _ _ dX0_delete_19 (by rw [e8]; exact hP) (by rw [e8]; exact hD) hS)
theorem c_delete (l : Launch) (dC : Nat → ClassId) (dI : Nat → Nat → Nat) (G : Nat → Nat) (C : Nat → ClassId) (sz : Nat) (u : xS) (a : Int32) (hn : xn u ≤ 160) : xMi l yX0_delete wsX0_delete (xR 3 64) dC dI (xT C) [.ref (G 0), .int a] (xW G C u) (xW G C (q_delete u a)) (p_delete u a) sz :=
  xmet_i (by decide) rfl rfl (Nat.le_of_ble_eq_true rfl) rfl (fun p e s m args below meth c Q A ls B hK hA hP hD hl kk => b_delete hn B hK hA hP hD hl kk)
def p_clear (u : xS) (h : Int32) : Int32 :=
  (if (p_refusalOfHeap u h) = 0 then
    (p_handOverAll (sFl u (vp_updL (xfl u) (h).toNatClampNeg (-9223372036854775808))) h (-4))
  else (p_refusalOfHeap u h))
def q_clear (u : xS) (h : Int32) : xS :=
  (if (p_refusalOfHeap u h) = 0 then
    (q_handOverAll (sFl u (vp_updL (xfl u) (h).toNatClampNeg (-9223372036854775808))) h (-4))
  else u)
set_option maxHeartbeats 4000000 in
set_option maxRecDepth 100000 in
theorem b_clear {p : Program} {l : Launch} {e : Env} {s : State} {m : MethodId} {args : Array Value} {below : List Frame} {meth : Method} {c : Code} {Q : State → Prop} {A : Nat → Prop} {ls : Array Slot} {dC : Nat → ClassId} {dI : Nat → Nat → Nat} {G : Nat → Nat} {C : Nat → ClassId} {u : xS} {h : Int32} (hm : xm u ≤ 12) (hn : xn u ≤ 160) (B : CallFix p m c cX0_clear 3 s args wsX0_clear RX0) (hK : va_K (dC, dI) vwCl (xT C) s) (hA : ∀ q : Nat, s.heap.size ≤ q → A q) (hP : va_P (dC, dI) vwCl (xW G C u) s.heap) (hD : va_D A (xW G C u)) (hl : lv_has ls 3 [(0, .ref (G 0)), (1, .int h)]) (kk : (∀ (H : Heap) (locs : List Loc) (pc : Nat) (ls : Array Slot), decode cX0_clear pc = .ok (.ireturn, 1) → va_P (dC, dI) vwCl (xW G C (q_clear u h)) H → va_D A (xW G C (q_clear u h)) → va_S A s.heap H locs → W p l e (xR 2 42) s m args below meth c H locs 0 0 Q (F0 m pc ls [.int (p_clear u h)]))) : W p l e (xR 2 42) s m args below meth c s.heap [] 0 0 Q (F0 m 0 ls []) := by
  obtain ⟨hx, hb, hml, hown, hts⟩ := B
  have hS : va_S A s.heap s.heap [] := va_S.rf
  have hfw : ∀ w ∈ u_ws RX0 TX0 9, w ∈ wsX0_clear := by decide +kernel
  refine lv_aload_n hx hb dX0_clear_0 rfl (lv_at hl 0 rfl) ?_
  refine lv_iload_n hx hb dX0_clear_1 rfl (lv_at hl 1 rfl) ?_
  refine xcall_i (ws := (xW G C u)) (wc := (xW G C u)) (wr := []) (w1 := (xW G C u)) (v := (p_refusalOfHeap u h)) [0, 1, 2, 3, 4, 5, 6, 7] [] (va_runV (As := [.int h]) (rest := []) ⟨hx, hb, hml, hown, hts⟩ (c_refusalOfHeap l dC dI G C _ u h hm) (cwV 1 hts gX0_clear_X0_refusalOfHeap rfl rfl rfl (by decide +kernel) ⟨Nat.le_of_ble_eq_true rfl, Nat.le_of_ble_eq_true rfl⟩) (xpreV (q0 := 0) (ci := 0) (qc := (RX0, TX0, 9)) hK hP hD rfl rfl) rfl rfl hl.1 rfl (lv_room (Nat.le_of_ble_eq_true rfl)) dX0_clear_2 ⟨Nat.zero_le _, Nat.zero_le _⟩) hP hD hS hA rfl rfl (by decide) (by decide) (fun H locs hP hD hS => ?_)
  have hP : va_P (dC, dI) vwCl (xW G C u) H := hP
  have hD : va_D A (xW G C u) := hD
  refine lv_istore_n (lv' := [(2, .int (p_refusalOfHeap u h)), (0, .ref (G 0)), (1, .int h)]) hx hb dX0_clear_5 rfl hl (by decide) rfl (fun ls hl => ?_)
  refine lv_iload_n hx hb dX0_clear_6 rfl (lv_at hl 0 rfl) ?_
  refine lv_if_eq (tgt := 12) hx hb dX0_clear_7 rfl (fun c7 => ?_) (fun c7 => ?_)
  · refine lv_aload_n hx hb dX0_clear_12 rfl (lv_at hl 1 rfl) ?_
    refine va_get (D := (dC, dI)) (ci := 0) (v := .ref (G 4)) (C := RX0) (T := TX0) (N := 9) hx hb hts hfw hown hK hP 0 rfl rfl 3 (by decide) (hts (.fieldLink RX0 20 "MeldingHeaps" "floors" "[J") (by decide +kernel)) (fun _ h9 => h9) rfl dX0_clear_13 ?_
    refine lv_iload_n hx hb dX0_clear_16 rfl (lv_at hl 2 rfl) ?_
    refine lv_ldc2 (v := (-9223372036854775808)) hx hb hown (hts (.constantLong RX0 40 (-9223372036854775808)) (by decide +kernel)) dX0_clear_17 ?_
    refine va_last (f := (xfl u)) hx hb hK hP hD hS 4 3 rfl rfl (in_refH hm c7) dX0_clear_20 (fun H locs hP hD hS => ?_)
    have hP : va_P (dC, dI) vwCl (xW G C (sFl u (vp_updL (xfl u) (h).toNatClampNeg (-9223372036854775808)))) H := hP
    have hD : va_D A (xW G C (sFl u (vp_updL (xfl u) (h).toNatClampNeg (-9223372036854775808)))) := hD
    refine lv_aload_n hx hb dX0_clear_21 rfl (lv_at hl 1 rfl) ?_
    refine lv_iload_n hx hb dX0_clear_22 rfl (lv_at hl 2 rfl) ?_
    refine lv_bipush (v := (-4)) hx hb dX0_clear_23 (by decide) ?_
    refine xcall_i (ws := (xW G C (sFl u (vp_updL (xfl u) (h).toNatClampNeg (-9223372036854775808))))) (wc := (xW G C (sFl u (vp_updL (xfl u) (h).toNatClampNeg (-9223372036854775808))))) (wr := []) (w1 := (xW G C (q_handOverAll (sFl u (vp_updL (xfl u) (h).toNatClampNeg (-9223372036854775808))) h (-4)))) (v := (p_handOverAll (sFl u (vp_updL (xfl u) (h).toNatClampNeg (-9223372036854775808))) h (-4))) [0, 1, 2, 3, 4, 5, 6, 7] [] (va_runV (As := [.int h, .int (-4)]) (rest := []) ⟨hx, hb, hml, hown, hts⟩ (c_handOverAll l dC dI G C _ (sFl u (vp_updL (xfl u) (h).toNatClampNeg (-9223372036854775808))) h (-4) hn) (cwV 2 hts gX0_clear_X0_handOverAll rfl rfl rfl (by decide +kernel) ⟨Nat.le_of_ble_eq_true rfl, Nat.le_of_ble_eq_true rfl⟩) (xpreV (q0 := 0) (ci := 0) (qc := (RX0, TX0, 9)) hK hP hD rfl rfl) rfl rfl hl.1 rfl (lv_room (Nat.le_of_ble_eq_true rfl)) dX0_clear_25 ⟨Nat.zero_le _, Nat.zero_le _⟩) hP hD hS hA rfl rfl (by decide) (by decide) (fun H locs hP hD hS => ?_)
    have hP : va_P (dC, dI) vwCl (xW G C (q_handOverAll (sFl u (vp_updL (xfl u) (h).toNatClampNeg (-9223372036854775808))) h (-4))) H := hP
    have hD : va_D A (xW G C (q_handOverAll (sFl u (vp_updL (xfl u) (h).toNatClampNeg (-9223372036854775808))) h (-4))) := hD
    have e8 : q_clear u h = (q_handOverAll (sFl u (vp_updL (xfl u) (h).toNatClampNeg (-9223372036854775808))) h (-4)) := by unfold q_clear; rw [if_pos c7]
    have e9 : p_clear u h = (p_handOverAll (sFl u (vp_updL (xfl u) (h).toNatClampNeg (-9223372036854775808))) h (-4)) := by unfold p_clear; rw [if_pos c7]
    exact W.eq (congrArg (fun z => F0 m 28 ls [.int z]) e9.symm) (kk _ _ _ _ dX0_clear_28 (by rw [e8]; exact hP) (by rw [e8]; exact hD) hS)
  · refine lv_iload_n hx hb dX0_clear_10 rfl (lv_at hl 0 rfl) ?_
    have e8 : q_clear u h = u := by unfold q_clear; rw [if_neg c7]
    have e9 : p_clear u h = (p_refusalOfHeap u h) := by unfold p_clear; rw [if_neg c7]
    exact W.eq (congrArg (fun z => F0 m 11 ls [.int z]) e9.symm) (kk _ _ _ _ dX0_clear_11 (by rw [e8]; exact hP) (by rw [e8]; exact hD) hS)
theorem c_clear (l : Launch) (dC : Nat → ClassId) (dI : Nat → Nat → Nat) (G : Nat → Nat) (C : Nat → ClassId) (sz : Nat) (u : xS) (h : Int32) (hm : xm u ≤ 12) (hn : xn u ≤ 160) : xMi l yX0_clear wsX0_clear (xR 2 42) dC dI (xT C) [.ref (G 0), .int h] (xW G C u) (xW G C (q_clear u h)) (p_clear u h) sz :=
  xmet_i (by decide) rfl rfl (Nat.le_of_ble_eq_true rfl) rfl (fun p e s m args below meth c Q A ls B hK hA hP hD hl kk => b_clear hm hn B hK hA hP hD hl kk)
def p_decrease (u : xS) (a : Int32) (k : Int64) : Int32 :=
  (if (p_refusalOfEntry u a) = 0 then
    (if (lg_cmp (p_weight ((xod u) (((xow u) (a).toNatClampNeg)).toNatClampNeg) k) (p_weight ((xod u) (((xow u) (a).toNatClampNeg)).toNatClampNeg) ((xky u) (a).toNatClampNeg))) ≤ 0 then
      (if (p_isBelowFloor u ((xow u) (a).toNatClampNeg) k) = 0 then
        (if (p_findFirst (sKy u (vp_updL (xky u) (a).toNatClampNeg k)) ((xow u) (a).toNatClampNeg)) = a then
          1
        else 0)
      else (-6))
    else (-5))
  else (p_refusalOfEntry u a))
def q_decrease (u : xS) (a : Int32) (k : Int64) : xS :=
  (if (p_refusalOfEntry u a) = 0 then
    (if (lg_cmp (p_weight ((xod u) (((xow u) (a).toNatClampNeg)).toNatClampNeg) k) (p_weight ((xod u) (((xow u) (a).toNatClampNeg)).toNatClampNeg) ((xky u) (a).toNatClampNeg))) ≤ 0 then
      (if (p_isBelowFloor u ((xow u) (a).toNatClampNeg) k) = 0 then
        (if (p_findFirst (sKy u (vp_updL (xky u) (a).toNatClampNeg k)) ((xow u) (a).toNatClampNeg)) = a then
          (sKy u (vp_updL (xky u) (a).toNatClampNeg k))
        else (sKy u (vp_updL (xky u) (a).toNatClampNeg k)))
      else u)
    else u)
  else u)
set_option maxHeartbeats 4000000 in
set_option maxRecDepth 100000 in
theorem b_decrease {p : Program} {l : Launch} {e : Env} {s : State} {m : MethodId} {args : Array Value} {below : List Frame} {meth : Method} {c : Code} {Q : State → Prop} {A : Nat → Prop} {ls : Array Slot} {dC : Nat → ClassId} {dI : Nat → Nat → Nat} {G : Nat → Nat} {C : Nat → ClassId} {u : xS} {a : Int32} {k : Int64} (hn : xn u ≤ 160) (ho : ∀ j : Nat, j < xn u → xow u j = -4 ∨ vp_in (xow u j) 12) (B : CallFix p m c cX0_decrease 6 s args wsX0_decrease RX0) (hK : va_K (dC, dI) vwCl (xT C) s) (hA : ∀ q : Nat, s.heap.size ≤ q → A q) (hP : va_P (dC, dI) vwCl (xW G C u) s.heap) (hD : va_D A (xW G C u)) (hl : lv_has ls 6 [(0, .ref (G 0)), (1, .int a), (2, .long k)]) (kk : (∀ (H : Heap) (locs : List Loc) (pc : Nat) (ls : Array Slot), decode cX0_decrease pc = .ok (.ireturn, 1) → va_P (dC, dI) vwCl (xW G C (q_decrease u a k)) H → va_D A (xW G C (q_decrease u a k)) → va_S A s.heap H locs → W p l e (xR 3 72) s m args below meth c H locs 0 0 Q (F0 m pc ls [.int (p_decrease u a k)]))) : W p l e (xR 3 72) s m args below meth c s.heap [] 0 0 Q (F0 m 0 ls []) := by
  obtain ⟨hx, hb, hml, hown, hts⟩ := B
  have hS : va_S A s.heap s.heap [] := va_S.rf
  have hfw : ∀ w ∈ u_ws RX0 TX0 9, w ∈ wsX0_decrease := by decide +kernel
  refine lv_aload_n hx hb dX0_decrease_0 rfl (lv_at hl 0 rfl) ?_
  refine lv_iload_n hx hb dX0_decrease_1 rfl (lv_at hl 1 rfl) ?_
  refine xcall_i (ws := (xW G C u)) (wc := (xW G C u)) (wr := []) (w1 := (xW G C u)) (v := (p_refusalOfEntry u a)) [0, 1, 2, 3, 4, 5, 6, 7] [] (va_runV (As := [.int a]) (rest := []) ⟨hx, hb, hml, hown, hts⟩ (c_refusalOfEntry l dC dI G C _ u a hn) (cwV 1 hts gX0_decrease_X0_refusalOfEntry rfl rfl rfl (by decide +kernel) ⟨Nat.le_of_ble_eq_true rfl, Nat.le_of_ble_eq_true rfl⟩) (xpreV (q0 := 0) (ci := 0) (qc := (RX0, TX0, 9)) hK hP hD rfl rfl) rfl rfl hl.1 rfl (lv_room (Nat.le_of_ble_eq_true rfl)) dX0_decrease_2 ⟨Nat.zero_le _, Nat.zero_le _⟩) hP hD hS hA rfl rfl (by decide) (by decide) (fun H locs hP hD hS => ?_)
  have hP : va_P (dC, dI) vwCl (xW G C u) H := hP
  have hD : va_D A (xW G C u) := hD
  refine lv_istore (lv' := [(4, .int (p_refusalOfEntry u a)), (0, .ref (G 0)), (1, .int a), (2, .long k)]) hx hb dX0_decrease_5 hl (by decide) rfl (fun ls hl => ?_)
  refine lv_iload hx hb dX0_decrease_7 (lv_at hl 0 rfl) ?_
  refine lv_if_eq (tgt := 15) hx hb dX0_decrease_9 rfl (fun c9 => ?_) (fun c9 => ?_)
  · refine lv_aload_n hx hb dX0_decrease_15 rfl (lv_at hl 1 rfl) ?_
    refine va_get (D := (dC, dI)) (ci := 0) (v := .ref (G 7)) (C := RX0) (T := TX0) (N := 9) hx hb hts hfw hown hK hP 0 rfl rfl 7 (by decide) (hts (.fieldLink RX0 34 "MeldingHeaps" "owners" "[I") (by decide +kernel)) (fun _ h9 => h9) rfl dX0_decrease_16 ?_
    refine lv_iload_n hx hb dX0_decrease_19 rfl (lv_at hl 2 rfl) ?_
    refine va_iald (f := (xow u)) hx hb hK hP 7 6 rfl rfl ((in_refE hn c9).1) dX0_decrease_20 ?_
    refine lv_istore (lv' := [(5, .int ((xow u) (a).toNatClampNeg)), (4, .int (p_refusalOfEntry u a)), (0, .ref (G 0)), (1, .int a), (2, .long k)]) hx hb dX0_decrease_21 hl (by decide) rfl (fun ls hl => ?_)
    refine lv_aload_n hx hb dX0_decrease_23 rfl (lv_at hl 2 rfl) ?_
    refine va_get (D := (dC, dI)) (ci := 0) (v := .ref (G 2)) (C := RX0) (T := TX0) (N := 9) hx hb hts hfw hown hK hP 0 rfl rfl 1 (by decide) (hts (.fieldLink RX0 13 "MeldingHeaps" "orders" "[I") (by decide +kernel)) (fun _ h9 => h9) rfl dX0_decrease_24 ?_
    refine lv_iload hx hb dX0_decrease_27 (lv_at hl 0 rfl) ?_
    refine va_iald (f := (xod u)) hx hb hK hP 2 1 rfl rfl ((in_own hn ho c9)) dX0_decrease_29 ?_
    refine lv_lload_n hx hb dX0_decrease_30 rfl (lv_at hl 4 rfl) ?_
    refine xcall_l (ws := (xW G C u)) (wc := []) (wr := (xW G C u)) (w1 := []) (v := (p_weight ((xod u) (((xow u) (a).toNatClampNeg)).toNatClampNeg) k)) [] [0, 1, 2, 3, 4, 5, 6, 7] (va_runS (As := [.int ((xod u) (((xow u) (a).toNatClampNeg)).toNatClampNeg), .long k]) (rest := []) ⟨hx, hb, hml, hown, hts⟩ (c_weight l dC dI _ ((xod u) (((xow u) (a).toNatClampNeg)).toNatClampNeg) k) (va_cwS 2 hts gX0_decrease_X0_weight rfl rfl rfl (by decide +kernel) ⟨Nat.le_of_ble_eq_true rfl, Nat.le_of_ble_eq_true rfl⟩) (xpreS hK) rfl rfl hl.1 rfl (lv_room (Nat.le_of_ble_eq_true rfl)) dX0_decrease_31 ⟨Nat.zero_le _, Nat.zero_le _⟩) hP hD hS hA rfl rfl (by decide) (by decide) (fun H locs hP hD hS => ?_)
    have hP : va_P (dC, dI) vwCl (xW G C u) H := hP
    have hD : va_D A (xW G C u) := hD
    refine lv_aload_n hx hb dX0_decrease_34 rfl (lv_at hl 2 rfl) ?_
    refine va_get (D := (dC, dI)) (ci := 0) (v := .ref (G 2)) (C := RX0) (T := TX0) (N := 9) hx hb hts hfw hown hK hP 0 rfl rfl 1 (by decide) (hts (.fieldLink RX0 13 "MeldingHeaps" "orders" "[I") (by decide +kernel)) (fun _ h9 => h9) rfl dX0_decrease_35 ?_
    refine lv_iload hx hb dX0_decrease_38 (lv_at hl 0 rfl) ?_
    refine va_iald (f := (xod u)) hx hb hK hP 2 1 rfl rfl ((in_own hn ho c9)) dX0_decrease_40 ?_
    refine lv_aload_n hx hb dX0_decrease_41 rfl (lv_at hl 2 rfl) ?_
    refine va_get (D := (dC, dI)) (ci := 0) (v := .ref (G 5)) (C := RX0) (T := TX0) (N := 9) hx hb hts hfw hown hK hP 0 rfl rfl 5 (by decide) (hts (.fieldLink RX0 28 "MeldingHeaps" "keys" "[J") (by decide +kernel)) (fun _ h9 => h9) rfl dX0_decrease_42 ?_
    refine lv_iload_n hx hb dX0_decrease_45 rfl (lv_at hl 3 rfl) ?_
    refine va_lald (f := (xky u)) hx hb hK hP 5 4 rfl rfl ((in_refE hn c9).1) dX0_decrease_46 ?_
    refine xcall_l (ws := (xW G C u)) (wc := []) (wr := (xW G C u)) (w1 := []) (v := (p_weight ((xod u) (((xow u) (a).toNatClampNeg)).toNatClampNeg) ((xky u) (a).toNatClampNeg))) [] [0, 1, 2, 3, 4, 5, 6, 7] (va_runS (As := [.int ((xod u) (((xow u) (a).toNatClampNeg)).toNatClampNeg), .long ((xky u) (a).toNatClampNeg)]) (rest := [.long (p_weight ((xod u) (((xow u) (a).toNatClampNeg)).toNatClampNeg) k)]) ⟨hx, hb, hml, hown, hts⟩ (c_weight l dC dI _ ((xod u) (((xow u) (a).toNatClampNeg)).toNatClampNeg) ((xky u) (a).toNatClampNeg)) (va_cwS 2 hts gX0_decrease_X0_weight rfl rfl rfl (by decide +kernel) ⟨Nat.le_of_ble_eq_true rfl, Nat.le_of_ble_eq_true rfl⟩) (xpreS hK) rfl rfl hl.1 rfl (lv_room (Nat.le_of_ble_eq_true rfl)) dX0_decrease_47 ⟨Nat.zero_le _, Nat.zero_le _⟩) hP hD hS hA rfl rfl (by decide) (by decide) (fun H locs hP hD hS => ?_)
    have hP : va_P (dC, dI) vwCl (xW G C u) H := hP
    have hD : va_D A (xW G C u) := hD
    refine W.lcmp hx hb dX0_decrease_50 ?_
    refine lv_if_le (tgt := 57) hx hb dX0_decrease_51 rfl (fun c51 => ?_) (fun c51 => ?_)
    · refine lv_aload_n hx hb dX0_decrease_57 rfl (lv_at hl 2 rfl) ?_
      refine lv_iload hx hb dX0_decrease_58 (lv_at hl 0 rfl) ?_
      refine lv_lload_n hx hb dX0_decrease_60 rfl (lv_at hl 4 rfl) ?_
      refine xcall_i (ws := (xW G C u)) (wc := (xW G C u)) (wr := []) (w1 := (xW G C u)) (v := (p_isBelowFloor u ((xow u) (a).toNatClampNeg) k)) [0, 1, 2, 3, 4, 5, 6, 7] [] (va_runV (As := [.int ((xow u) (a).toNatClampNeg), .long k]) (rest := []) ⟨hx, hb, hml, hown, hts⟩ (c_isBelowFloor l dC dI G C _ u ((xow u) (a).toNatClampNeg) k (in_own hn ho c9)) (cwV 2 hts gX0_decrease_X0_isBelowFloor rfl rfl rfl (by decide +kernel) ⟨Nat.le_of_ble_eq_true rfl, Nat.le_of_ble_eq_true rfl⟩) (xpreV (q0 := 0) (ci := 0) (qc := (RX0, TX0, 9)) hK hP hD rfl rfl) rfl rfl hl.1 rfl (lv_room (Nat.le_of_ble_eq_true rfl)) dX0_decrease_61 ⟨Nat.zero_le _, Nat.zero_le _⟩) hP hD hS hA rfl rfl (by decide) (by decide) (fun H locs hP hD hS => ?_)
      have hP : va_P (dC, dI) vwCl (xW G C u) H := hP
      have hD : va_D A (xW G C u) := hD
      refine lv_if_eq (tgt := 70) hx hb dX0_decrease_64 rfl (fun c64 => ?_) (fun c64 => ?_)
      · refine lv_aload_n hx hb dX0_decrease_70 rfl (lv_at hl 2 rfl) ?_
        refine va_get (D := (dC, dI)) (ci := 0) (v := .ref (G 5)) (C := RX0) (T := TX0) (N := 9) hx hb hts hfw hown hK hP 0 rfl rfl 5 (by decide) (hts (.fieldLink RX0 28 "MeldingHeaps" "keys" "[J") (by decide +kernel)) (fun _ h9 => h9) rfl dX0_decrease_71 ?_
        refine lv_iload_n hx hb dX0_decrease_74 rfl (lv_at hl 3 rfl) ?_
        refine lv_lload_n hx hb dX0_decrease_75 rfl (lv_at hl 4 rfl) ?_
        refine va_last (f := (xky u)) hx hb hK hP hD hS 5 4 rfl rfl ((in_refE hn c9).1) dX0_decrease_76 (fun H locs hP hD hS => ?_)
        have hP : va_P (dC, dI) vwCl (xW G C (sKy u (vp_updL (xky u) (a).toNatClampNeg k))) H := hP
        have hD : va_D A (xW G C (sKy u (vp_updL (xky u) (a).toNatClampNeg k))) := hD
        refine lv_aload_n hx hb dX0_decrease_77 rfl (lv_at hl 2 rfl) ?_
        refine lv_iload hx hb dX0_decrease_78 (lv_at hl 0 rfl) ?_
        refine xcall_i (ws := (xW G C (sKy u (vp_updL (xky u) (a).toNatClampNeg k)))) (wc := (xW G C (sKy u (vp_updL (xky u) (a).toNatClampNeg k)))) (wr := []) (w1 := (xW G C (sKy u (vp_updL (xky u) (a).toNatClampNeg k)))) (v := (p_findFirst (sKy u (vp_updL (xky u) (a).toNatClampNeg k)) ((xow u) (a).toNatClampNeg))) [0, 1, 2, 3, 4, 5, 6, 7] [] (va_runV (As := [.int ((xow u) (a).toNatClampNeg)]) (rest := []) ⟨hx, hb, hml, hown, hts⟩ (c_findFirst l dC dI G C _ (sKy u (vp_updL (xky u) (a).toNatClampNeg k)) ((xow u) (a).toNatClampNeg) hn (in_own hn ho c9)) (cwV 1 hts gX0_decrease_X0_findFirst rfl rfl rfl (by decide +kernel) ⟨Nat.le_of_ble_eq_true rfl, Nat.le_of_ble_eq_true rfl⟩) (xpreV (q0 := 0) (ci := 0) (qc := (RX0, TX0, 9)) hK hP hD rfl rfl) rfl rfl hl.1 rfl (lv_room (Nat.le_of_ble_eq_true rfl)) dX0_decrease_80 ⟨Nat.zero_le _, Nat.zero_le _⟩) hP hD hS hA rfl rfl (by decide) (by decide) (fun H locs hP hD hS => ?_)
        have hP : va_P (dC, dI) vwCl (xW G C (sKy u (vp_updL (xky u) (a).toNatClampNeg k))) H := hP
        have hD : va_D A (xW G C (sKy u (vp_updL (xky u) (a).toNatClampNeg k))) := hD
        refine lv_iload_n hx hb dX0_decrease_83 rfl (lv_at hl 3 rfl) ?_
        refine lv_icmp_ne (tgt := 91) hx hb dX0_decrease_84 rfl (fun c84 => ?_) (fun c84 => ?_)
        · refine lv_iconst (v := 0) hx hb dX0_decrease_91 (by decide) ?_
          have e8 : q_decrease u a k = (sKy u (vp_updL (xky u) (a).toNatClampNeg k)) := by unfold q_decrease; rw [if_pos c9, if_pos c51, if_pos c64, if_neg c84]
          have e9 : p_decrease u a k = 0 := by unfold p_decrease; rw [if_pos c9, if_pos c51, if_pos c64, if_neg c84]
          exact W.eq (congrArg (fun z => F0 m 92 ls [.int z]) e9.symm) (kk _ _ _ _ dX0_decrease_92 (by rw [e8]; exact hP) (by rw [e8]; exact hD) hS)
        · refine lv_iconst (v := 1) hx hb dX0_decrease_87 (by decide) ?_
          refine lv_goto (tgt := 92) hx hb dX0_decrease_88 rfl ?_
          have e8 : q_decrease u a k = (sKy u (vp_updL (xky u) (a).toNatClampNeg k)) := by unfold q_decrease; rw [if_pos c9, if_pos c51, if_pos c64, if_pos c84]
          have e9 : p_decrease u a k = 1 := by unfold p_decrease; rw [if_pos c9, if_pos c51, if_pos c64, if_pos c84]
          exact W.eq (congrArg (fun z => F0 m 92 ls [.int z]) e9.symm) (kk _ _ _ _ dX0_decrease_92 (by rw [e8]; exact hP) (by rw [e8]; exact hD) hS)
      · refine lv_bipush (v := (-6)) hx hb dX0_decrease_67 (by decide) ?_
        have e8 : q_decrease u a k = u := by unfold q_decrease; rw [if_pos c9, if_pos c51, if_neg c64]
        have e9 : p_decrease u a k = (-6) := by unfold p_decrease; rw [if_pos c9, if_pos c51, if_neg c64]
        exact W.eq (congrArg (fun z => F0 m 69 ls [.int z]) e9.symm) (kk _ _ _ _ dX0_decrease_69 (by rw [e8]; exact hP) (by rw [e8]; exact hD) hS)
    · refine lv_bipush (v := (-5)) hx hb dX0_decrease_54 (by decide) ?_
      have e8 : q_decrease u a k = u := by unfold q_decrease; rw [if_pos c9, if_neg c51]
      have e9 : p_decrease u a k = (-5) := by unfold p_decrease; rw [if_pos c9, if_neg c51]
      exact W.eq (congrArg (fun z => F0 m 56 ls [.int z]) e9.symm) (kk _ _ _ _ dX0_decrease_56 (by rw [e8]; exact hP) (by rw [e8]; exact hD) hS)
  · refine lv_iload hx hb dX0_decrease_12 (lv_at hl 0 rfl) ?_
    have e8 : q_decrease u a k = u := by unfold q_decrease; rw [if_neg c9]
    have e9 : p_decrease u a k = (p_refusalOfEntry u a) := by unfold p_decrease; rw [if_neg c9]
    exact W.eq (congrArg (fun z => F0 m 14 ls [.int z]) e9.symm) (kk _ _ _ _ dX0_decrease_14 (by rw [e8]; exact hP) (by rw [e8]; exact hD) hS)
theorem c_decrease (l : Launch) (dC : Nat → ClassId) (dI : Nat → Nat → Nat) (G : Nat → Nat) (C : Nat → ClassId) (sz : Nat) (u : xS) (a : Int32) (k : Int64) (hn : xn u ≤ 160) (ho : ∀ j : Nat, j < xn u → xow u j = -4 ∨ vp_in (xow u j) 12) : xMi l yX0_decrease wsX0_decrease (xR 3 72) dC dI (xT C) [.ref (G 0), .int a, .long k] (xW G C u) (xW G C (q_decrease u a k)) (p_decrease u a k) sz :=
  xmet_i (by decide) rfl rfl (Nat.le_of_ble_eq_true rfl) rfl (fun p e s m args below meth c Q A ls B hK hA hP hD hl kk => b_decrease hn ho B hK hA hP hD hl kk)
def p_meld (u : xS) (a : Int32) (b : Int32) : Int32 :=
  (if (p_refusalOfPair u a b) = 0 then
    (if ((xkd u) (a).toNatClampNeg) = 0 then
      (if ((xkd u) (b).toNatClampNeg) = 0 then
        (if ((xod u) (a).toNatClampNeg) = ((xod u) (b).toNatClampNeg) then
          (p_countEntries (sAb (q_handOverAll u b a) (upd (xab (q_handOverAll u b a)) (b).toNatClampNeg 1)) a)
        else (-7))
      else (-7))
    else (-7))
  else (p_refusalOfPair u a b))
def q_meld (u : xS) (a : Int32) (b : Int32) : xS :=
  (if (p_refusalOfPair u a b) = 0 then
    (if ((xkd u) (a).toNatClampNeg) = 0 then
      (if ((xkd u) (b).toNatClampNeg) = 0 then
        (if ((xod u) (a).toNatClampNeg) = ((xod u) (b).toNatClampNeg) then
          (sAb (q_handOverAll u b a) (upd (xab (q_handOverAll u b a)) (b).toNatClampNeg 1))
        else u)
      else u)
    else u)
  else u)
set_option maxHeartbeats 4000000 in
set_option maxRecDepth 100000 in
theorem b_meld {p : Program} {l : Launch} {e : Env} {s : State} {m : MethodId} {args : Array Value} {below : List Frame} {meth : Method} {c : Code} {Q : State → Prop} {A : Nat → Prop} {ls : Array Slot} {dC : Nat → ClassId} {dI : Nat → Nat → Nat} {G : Nat → Nat} {C : Nat → ClassId} {u : xS} {a : Int32} {b : Int32} (hm : xm u ≤ 12) (hn : xn u ≤ 160) (B : CallFix p m c cX0_meld 4 s args wsX0_meld RX0) (hK : va_K (dC, dI) vwCl (xT C) s) (hA : ∀ q : Nat, s.heap.size ≤ q → A q) (hP : va_P (dC, dI) vwCl (xW G C u) s.heap) (hD : va_D A (xW G C u)) (hl : lv_has ls 4 [(0, .ref (G 0)), (1, .int a), (2, .int b)]) (kk : (∀ (H : Heap) (locs : List Loc) (pc : Nat) (ls : Array Slot), decode cX0_meld pc = .ok (.ireturn, 1) → va_P (dC, dI) vwCl (xW G C (q_meld u a b)) H → va_D A (xW G C (q_meld u a b)) → va_S A s.heap H locs → W p l e (xR 3 65) s m args below meth c H locs 0 0 Q (F0 m pc ls [.int (p_meld u a b)]))) : W p l e (xR 3 65) s m args below meth c s.heap [] 0 0 Q (F0 m 0 ls []) := by
  obtain ⟨hx, hb, hml, hown, hts⟩ := B
  have hS : va_S A s.heap s.heap [] := va_S.rf
  have hfw : ∀ w ∈ u_ws RX0 TX0 9, w ∈ wsX0_meld := by decide +kernel
  refine lv_aload_n hx hb dX0_meld_0 rfl (lv_at hl 0 rfl) ?_
  refine lv_iload_n hx hb dX0_meld_1 rfl (lv_at hl 1 rfl) ?_
  refine lv_iload_n hx hb dX0_meld_2 rfl (lv_at hl 2 rfl) ?_
  refine xcall_i (ws := (xW G C u)) (wc := (xW G C u)) (wr := []) (w1 := (xW G C u)) (v := (p_refusalOfPair u a b)) [0, 1, 2, 3, 4, 5, 6, 7] [] (va_runV (As := [.int a, .int b]) (rest := []) ⟨hx, hb, hml, hown, hts⟩ (c_refusalOfPair l dC dI G C _ u a b hm) (cwV 2 hts gX0_meld_X0_refusalOfPair rfl rfl rfl (by decide +kernel) ⟨Nat.le_of_ble_eq_true rfl, Nat.le_of_ble_eq_true rfl⟩) (xpreV (q0 := 0) (ci := 0) (qc := (RX0, TX0, 9)) hK hP hD rfl rfl) rfl rfl hl.1 rfl (lv_room (Nat.le_of_ble_eq_true rfl)) dX0_meld_3 ⟨Nat.zero_le _, Nat.zero_le _⟩) hP hD hS hA rfl rfl (by decide) (by decide) (fun H locs hP hD hS => ?_)
  have hP : va_P (dC, dI) vwCl (xW G C u) H := hP
  have hD : va_D A (xW G C u) := hD
  refine lv_istore_n (lv' := [(3, .int (p_refusalOfPair u a b)), (0, .ref (G 0)), (1, .int a), (2, .int b)]) hx hb dX0_meld_6 rfl hl (by decide) rfl (fun ls hl => ?_)
  refine lv_iload_n hx hb dX0_meld_7 rfl (lv_at hl 0 rfl) ?_
  refine lv_if_eq (tgt := 13) hx hb dX0_meld_8 rfl (fun c8 => ?_) (fun c8 => ?_)
  · refine lv_aload_n hx hb dX0_meld_13 rfl (lv_at hl 1 rfl) ?_
    refine va_get (D := (dC, dI)) (ci := 0) (v := .ref (G 1)) (C := RX0) (T := TX0) (N := 9) hx hb hts hfw hown hK hP 0 rfl rfl 0 (by decide) (hts (.fieldLink RX0 9 "MeldingHeaps" "kinds" "[I") (by decide +kernel)) (fun _ h9 => h9) rfl dX0_meld_14 ?_
    refine lv_iload_n hx hb dX0_meld_17 rfl (lv_at hl 2 rfl) ?_
    refine va_iald (f := (xkd u)) hx hb hK hP 1 0 rfl rfl ((in_refP hm c8).1) dX0_meld_18 ?_
    refine lv_if_ne (tgt := 46) hx hb dX0_meld_19 rfl (fun c19 => ?_) (fun c19 => ?_)
    · refine lv_bipush (v := (-7)) hx hb dX0_meld_46 (by decide) ?_
      have e8 : q_meld u a b = u := by unfold q_meld; rw [if_pos c8, if_neg c19]
      have e9 : p_meld u a b = (-7) := by unfold p_meld; rw [if_pos c8, if_neg c19]
      exact W.eq (congrArg (fun z => F0 m 48 ls [.int z]) e9.symm) (kk _ _ _ _ dX0_meld_48 (by rw [e8]; exact hP) (by rw [e8]; exact hD) hS)
    · refine lv_aload_n hx hb dX0_meld_22 rfl (lv_at hl 1 rfl) ?_
      refine va_get (D := (dC, dI)) (ci := 0) (v := .ref (G 1)) (C := RX0) (T := TX0) (N := 9) hx hb hts hfw hown hK hP 0 rfl rfl 0 (by decide) (hts (.fieldLink RX0 9 "MeldingHeaps" "kinds" "[I") (by decide +kernel)) (fun _ h9 => h9) rfl dX0_meld_23 ?_
      refine lv_iload_n hx hb dX0_meld_26 rfl (lv_at hl 3 rfl) ?_
      refine va_iald (f := (xkd u)) hx hb hK hP 1 0 rfl rfl ((in_refP hm c8).2) dX0_meld_27 ?_
      refine lv_if_ne (tgt := 46) hx hb dX0_meld_28 rfl (fun c28 => ?_) (fun c28 => ?_)
      · refine lv_bipush (v := (-7)) hx hb dX0_meld_46 (by decide) ?_
        have e8 : q_meld u a b = u := by unfold q_meld; rw [if_pos c8, if_pos c19, if_neg c28]
        have e9 : p_meld u a b = (-7) := by unfold p_meld; rw [if_pos c8, if_pos c19, if_neg c28]
        exact W.eq (congrArg (fun z => F0 m 48 ls [.int z]) e9.symm) (kk _ _ _ _ dX0_meld_48 (by rw [e8]; exact hP) (by rw [e8]; exact hD) hS)
      · refine lv_aload_n hx hb dX0_meld_31 rfl (lv_at hl 1 rfl) ?_
        refine va_get (D := (dC, dI)) (ci := 0) (v := .ref (G 2)) (C := RX0) (T := TX0) (N := 9) hx hb hts hfw hown hK hP 0 rfl rfl 1 (by decide) (hts (.fieldLink RX0 13 "MeldingHeaps" "orders" "[I") (by decide +kernel)) (fun _ h9 => h9) rfl dX0_meld_32 ?_
        refine lv_iload_n hx hb dX0_meld_35 rfl (lv_at hl 2 rfl) ?_
        refine va_iald (f := (xod u)) hx hb hK hP 2 1 rfl rfl ((in_refP hm c8).1) dX0_meld_36 ?_
        refine lv_aload_n hx hb dX0_meld_37 rfl (lv_at hl 1 rfl) ?_
        refine va_get (D := (dC, dI)) (ci := 0) (v := .ref (G 2)) (C := RX0) (T := TX0) (N := 9) hx hb hts hfw hown hK hP 0 rfl rfl 1 (by decide) (hts (.fieldLink RX0 13 "MeldingHeaps" "orders" "[I") (by decide +kernel)) (fun _ h9 => h9) rfl dX0_meld_38 ?_
        refine lv_iload_n hx hb dX0_meld_41 rfl (lv_at hl 3 rfl) ?_
        refine va_iald (f := (xod u)) hx hb hK hP 2 1 rfl rfl ((in_refP hm c8).2) dX0_meld_42 ?_
        refine lv_icmp_eq (tgt := 49) hx hb dX0_meld_43 rfl (fun c43 => ?_) (fun c43 => ?_)
        · refine lv_aload_n hx hb dX0_meld_49 rfl (lv_at hl 1 rfl) ?_
          refine lv_iload_n hx hb dX0_meld_50 rfl (lv_at hl 3 rfl) ?_
          refine lv_iload_n hx hb dX0_meld_51 rfl (lv_at hl 2 rfl) ?_
          refine xcall_i (ws := (xW G C u)) (wc := (xW G C u)) (wr := []) (w1 := (xW G C (q_handOverAll u b a))) (v := (p_handOverAll u b a)) [0, 1, 2, 3, 4, 5, 6, 7] [] (va_runV (As := [.int b, .int a]) (rest := []) ⟨hx, hb, hml, hown, hts⟩ (c_handOverAll l dC dI G C _ u b a hn) (cwV 2 hts gX0_meld_X0_handOverAll rfl rfl rfl (by decide +kernel) ⟨Nat.le_of_ble_eq_true rfl, Nat.le_of_ble_eq_true rfl⟩) (xpreV (q0 := 0) (ci := 0) (qc := (RX0, TX0, 9)) hK hP hD rfl rfl) rfl rfl hl.1 rfl (lv_room (Nat.le_of_ble_eq_true rfl)) dX0_meld_52 ⟨Nat.zero_le _, Nat.zero_le _⟩) hP hD hS hA rfl rfl (by decide) (by decide) (fun H locs hP hD hS => ?_)
          have hP : va_P (dC, dI) vwCl (xW G C (q_handOverAll u b a)) H := hP
          have hD : va_D A (xW G C (q_handOverAll u b a)) := hD
          refine lv_pop hx hb dX0_meld_55 rfl ?_
          refine lv_aload_n hx hb dX0_meld_56 rfl (lv_at hl 1 rfl) ?_
          refine va_get (D := (dC, dI)) (ci := 0) (v := .ref (G 3)) (C := RX0) (T := TX0) (N := 9) hx hb hts hfw hown hK hP 0 rfl rfl 2 (by decide) (hts (.fieldLink RX0 16 "MeldingHeaps" "absorbed" "[Z") (by decide +kernel)) (fun _ h9 => h9) rfl dX0_meld_57 ?_
          refine lv_iload_n hx hb dX0_meld_60 rfl (lv_at hl 3 rfl) ?_
          refine lv_iconst (v := 1) hx hb dX0_meld_61 (by decide) ?_
          refine va_zast (f := (xab (q_handOverAll u b a))) hx hb hK hP hD hS 3 2 rfl rfl ((in_refP hm c8).2) dX0_meld_62 (fun H locs hP hD hS => ?_)
          have hP : va_P (dC, dI) vwCl (xW G C (sAb (q_handOverAll u b a) (upd (xab (q_handOverAll u b a)) (b).toNatClampNeg 1))) H := hP
          have hD : va_D A (xW G C (sAb (q_handOverAll u b a) (upd (xab (q_handOverAll u b a)) (b).toNatClampNeg 1))) := hD
          refine lv_aload_n hx hb dX0_meld_63 rfl (lv_at hl 1 rfl) ?_
          refine lv_iload_n hx hb dX0_meld_64 rfl (lv_at hl 2 rfl) ?_
          refine xcall_i (ws := (xW G C (sAb (q_handOverAll u b a) (upd (xab (q_handOverAll u b a)) (b).toNatClampNeg 1)))) (wc := (xW G C (sAb (q_handOverAll u b a) (upd (xab (q_handOverAll u b a)) (b).toNatClampNeg 1)))) (wr := []) (w1 := (xW G C (sAb (q_handOverAll u b a) (upd (xab (q_handOverAll u b a)) (b).toNatClampNeg 1)))) (v := (p_countEntries (sAb (q_handOverAll u b a) (upd (xab (q_handOverAll u b a)) (b).toNatClampNeg 1)) a)) [0, 1, 2, 3, 4, 5, 6, 7] [] (va_runV (As := [.int a]) (rest := []) ⟨hx, hb, hml, hown, hts⟩ (c_countEntries l dC dI G C _ (sAb (q_handOverAll u b a) (upd (xab (q_handOverAll u b a)) (b).toNatClampNeg 1)) a hn) (cwV 1 hts gX0_meld_X0_countEntries rfl rfl rfl (by decide +kernel) ⟨Nat.le_of_ble_eq_true rfl, Nat.le_of_ble_eq_true rfl⟩) (xpreV (q0 := 0) (ci := 0) (qc := (RX0, TX0, 9)) hK hP hD rfl rfl) rfl rfl hl.1 rfl (lv_room (Nat.le_of_ble_eq_true rfl)) dX0_meld_65 ⟨Nat.zero_le _, Nat.zero_le _⟩) hP hD hS hA rfl rfl (by decide) (by decide) (fun H locs hP hD hS => ?_)
          have hP : va_P (dC, dI) vwCl (xW G C (sAb (q_handOverAll u b a) (upd (xab (q_handOverAll u b a)) (b).toNatClampNeg 1))) H := hP
          have hD : va_D A (xW G C (sAb (q_handOverAll u b a) (upd (xab (q_handOverAll u b a)) (b).toNatClampNeg 1))) := hD
          have e8 : q_meld u a b = (sAb (q_handOverAll u b a) (upd (xab (q_handOverAll u b a)) (b).toNatClampNeg 1)) := by unfold q_meld; rw [if_pos c8, if_pos c19, if_pos c28, if_pos c43]
          have e9 : p_meld u a b = (p_countEntries (sAb (q_handOverAll u b a) (upd (xab (q_handOverAll u b a)) (b).toNatClampNeg 1)) a) := by unfold p_meld; rw [if_pos c8, if_pos c19, if_pos c28, if_pos c43]
          exact W.eq (congrArg (fun z => F0 m 68 ls [.int z]) e9.symm) (kk _ _ _ _ dX0_meld_68 (by rw [e8]; exact hP) (by rw [e8]; exact hD) hS)
        · refine lv_bipush (v := (-7)) hx hb dX0_meld_46 (by decide) ?_
          have e8 : q_meld u a b = u := by unfold q_meld; rw [if_pos c8, if_pos c19, if_pos c28, if_neg c43]
          have e9 : p_meld u a b = (-7) := by unfold p_meld; rw [if_pos c8, if_pos c19, if_pos c28, if_neg c43]
          exact W.eq (congrArg (fun z => F0 m 48 ls [.int z]) e9.symm) (kk _ _ _ _ dX0_meld_48 (by rw [e8]; exact hP) (by rw [e8]; exact hD) hS)
  · refine lv_iload_n hx hb dX0_meld_11 rfl (lv_at hl 0 rfl) ?_
    have e8 : q_meld u a b = u := by unfold q_meld; rw [if_neg c8]
    have e9 : p_meld u a b = (p_refusalOfPair u a b) := by unfold p_meld; rw [if_neg c8]
    exact W.eq (congrArg (fun z => F0 m 12 ls [.int z]) e9.symm) (kk _ _ _ _ dX0_meld_12 (by rw [e8]; exact hP) (by rw [e8]; exact hD) hS)
theorem c_meld (l : Launch) (dC : Nat → ClassId) (dI : Nat → Nat → Nat) (G : Nat → Nat) (C : Nat → ClassId) (sz : Nat) (u : xS) (a : Int32) (b : Int32) (hm : xm u ≤ 12) (hn : xn u ≤ 160) : xMi l yX0_meld wsX0_meld (xR 3 65) dC dI (xT C) [.ref (G 0), .int a, .int b] (xW G C u) (xW G C (q_meld u a b)) (p_meld u a b) sz :=
  xmet_i (by decide) rfl rfl (Nat.le_of_ble_eq_true rfl) rfl (fun p e s m args below meth c Q A ls B hK hA hP hD hl kk => b_meld hm hn B hK hA hP hD hl kk)
