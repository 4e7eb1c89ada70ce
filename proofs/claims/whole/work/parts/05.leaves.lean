def p_weight (o : Int32) (k : Int64) : Int64 := if o = 1 then (-1) - k else if o = 2 then k ^^^ (-9223372036854775808) else if o = 3 then k &&& 65535 else k
set_option maxHeartbeats 4000000 in
set_option maxRecDepth 100000 in
theorem b_weight {p : Program} {l : Launch} {e : Env} {s : State} {m : MethodId} {args : Array Value} {below : List Frame} {meth : Method} {c : Code} {Q : State → Prop} {A : Nat → Prop} {ls : Array Slot} {dC : Nat → ClassId} {dI : Nat → Nat → Nat} {o : Int32} {k : Int64} (B : CallFix p m c cX0_weight 3 s args wsX0_weight RX0) (hP : va_P (dC, dI) vwCl [] s.heap) (hD : va_D A []) (hl : lv_has ls 3 [(0, .int o), (1, .long k)]) (kk : ∀ (H : Heap) (locs : List Loc) (pc : Nat) (ls : Array Slot), decode cX0_weight pc = .ok (.lreturn, 1) → va_P (dC, dI) vwCl [] H → va_D A [] → va_S A s.heap H locs → W p l e (xR 0 0) s m args below meth c H locs 0 0 Q (F0 m pc ls [.long (p_weight o k)])) : W p l e (xR 0 0) s m args below meth c s.heap [] 0 0 Q (F0 m 0 ls []) := by
  obtain ⟨hx, hb, hml, hown, hts⟩ := B
  have hS : va_S A s.heap s.heap [] := va_S.rf
  refine lv_iload_n hx hb dX0_weight_0 rfl (lv_at hl 0 rfl) ?_
  by_cases h1 : o = 1
  · subst h1
    refine lv_tableIn (tgt := 28) hx hb dX0_weight_1 (by decide) (by decide) rfl rfl ?_
    refine lv_ldc2 (v := (-1)) hx hb hown (hts (.constantLong RX0 104 (-1)) (by decide +kernel)) dX0_weight_28 ?_
    refine lv_lload_n hx hb dX0_weight_31 rfl (lv_at hl 1 rfl) ?_
    refine lv_lsub hx hb dX0_weight_32 ?_
    exact kk _ _ _ _ dX0_weight_33 hP hD hS
  by_cases h2 : o = 2
  · subst h2
    refine lv_tableIn (tgt := 34) hx hb dX0_weight_1 (by decide) (by decide) rfl rfl ?_
    refine lv_lload_n hx hb dX0_weight_34 rfl (lv_at hl 1 rfl) ?_
    refine lv_ldc2 (v := (-9223372036854775808)) hx hb hown (hts (.constantLong RX0 40 (-9223372036854775808)) (by decide +kernel)) dX0_weight_35 ?_
    refine lv_lxor hx hb dX0_weight_38 ?_
    exact kk _ _ _ _ dX0_weight_39 hP hD hS
  by_cases h3 : o = 3
  · subst h3
    refine lv_tableIn (tgt := 40) hx hb dX0_weight_1 (by decide) (by decide) rfl rfl ?_
    refine lv_lload_n hx hb dX0_weight_40 rfl (lv_at hl 1 rfl) ?_
    refine lv_ldc2 (v := 65535) hx hb hown (hts (.constantLong RX0 106 65535) (by decide +kernel)) dX0_weight_41 ?_
    refine lv_land hx hb dX0_weight_44 ?_
    exact kk _ _ _ _ dX0_weight_45 hP hD hS
  have ho : o.toInt < 1 ∨ 3 < o.toInt := by
    have e1 := lv_neT h1 (by decide : (1 : Int32).toInt = 1)
    have e2 := lv_neT h2 (by decide : (2 : Int32).toInt = 2)
    have e3 := lv_neT h3 (by decide : (3 : Int32).toInt = 3)
    omega
  refine lv_tableOut (tgt := 46) hx hb dX0_weight_1 ho rfl ?_
  refine lv_lload_n hx hb dX0_weight_46 rfl (lv_at hl 1 rfl) ?_
  have e9 : p_weight o k = k := by unfold p_weight; rw [if_neg h1, if_neg h2, if_neg h3]
  exact W.eq (congrArg (fun z => F0 m 47 ls [.long z]) e9.symm) (kk _ _ _ _ dX0_weight_47 hP hD hS)
theorem c_weight (l : Launch) (dC : Nat → ClassId) (dI : Nat → Nat → Nat) (sz : Nat) (o : Int32) (k : Int64) : xMl l yX0_weight wsX0_weight (xR 0 0) dC dI [] [.int o, .long k] [] [] (p_weight o k) sz :=
  xmet_l (by decide) rfl (Nat.le_of_ble_eq_true rfl) rfl (fun p e s m args below meth c Q A ls B hK hA hP hD hl kk => b_weight B hP hD hl kk)
def p_isHeap (u : xS) (h : Int32) : Int32 :=
  (if h < 0 then
    0
  else (if (nI (xm u)) ≤ h then
      0
    else 1))
set_option maxHeartbeats 4000000 in
set_option maxRecDepth 100000 in
theorem b_isHeap {p : Program} {l : Launch} {e : Env} {s : State} {m : MethodId} {args : Array Value} {below : List Frame} {meth : Method} {c : Code} {Q : State → Prop} {A : Nat → Prop} {ls : Array Slot} {dC : Nat → ClassId} {dI : Nat → Nat → Nat} {G : Nat → Nat} {C : Nat → ClassId} {u : xS} {h : Int32}  (B : CallFix p m c cX0_isHeap 2 s args wsX0_isHeap RX0) (hK : va_K (dC, dI) vwCl (xT C) s) (hA : ∀ q : Nat, s.heap.size ≤ q → A q) (hP : va_P (dC, dI) vwCl (xW G C u) s.heap) (hD : va_D A (xW G C u)) (hl : lv_has ls 2 [(0, .ref (G 0)), (1, .int h)]) (kk : (∀ (H : Heap) (locs : List Loc) (pc : Nat) (ls : Array Slot), decode cX0_isHeap pc = .ok (.ireturn, 1) → va_P (dC, dI) vwCl (xW G C u) H → va_D A (xW G C u) → va_S A s.heap H locs → W p l e (xR 0 0) s m args below meth c H locs 0 0 Q (F0 m pc ls [.int (p_isHeap u h)]))) : W p l e (xR 0 0) s m args below meth c s.heap [] 0 0 Q (F0 m 0 ls []) := by
  obtain ⟨hx, hb, hml, hown, hts⟩ := B
  have hS : va_S A s.heap s.heap [] := va_S.rf
  have hfw : ∀ w ∈ u_ws RX0 TX0 9, w ∈ wsX0_isHeap := by decide +kernel
  refine lv_iload_n hx hb dX0_isHeap_0 rfl (lv_at hl 1 rfl) ?_
  refine lv_if_lt (tgt := 16) hx hb dX0_isHeap_1 rfl (fun c1 => ?_) (fun c1 => ?_)
  · refine lv_iconst (v := 0) hx hb dX0_isHeap_16 (by decide) ?_
    have e9 : p_isHeap u h = 0 := by unfold p_isHeap; rw [if_pos c1]
    exact W.eq (congrArg (fun z => F0 m 17 ls [.int z]) e9.symm) (kk _ _ _ _ dX0_isHeap_17 hP hD hS)
  · refine lv_iload_n hx hb dX0_isHeap_4 rfl (lv_at hl 1 rfl) ?_
    refine lv_aload_n hx hb dX0_isHeap_5 rfl (lv_at hl 0 rfl) ?_
    refine va_get (D := (dC, dI)) (ci := 0) (v := .int (nI (xm u))) (C := RX0) (T := TX0) (N := 9) hx hb hts hfw hown hK hP 0 rfl rfl 4 (by decide) (hts (.fieldLink RX0 24 "MeldingHeaps" "heapCount" "I") (by decide +kernel)) (fun _ h9 => h9) rfl dX0_isHeap_6 ?_
    refine lv_icmp_ge (tgt := 16) hx hb dX0_isHeap_9 rfl (fun c9 => ?_) (fun c9 => ?_)
    · refine lv_iconst (v := 0) hx hb dX0_isHeap_16 (by decide) ?_
      have e9 : p_isHeap u h = 0 := by unfold p_isHeap; rw [if_neg c1, if_pos c9]
      exact W.eq (congrArg (fun z => F0 m 17 ls [.int z]) e9.symm) (kk _ _ _ _ dX0_isHeap_17 hP hD hS)
    · refine lv_iconst (v := 1) hx hb dX0_isHeap_12 (by decide) ?_
      refine lv_goto (tgt := 17) hx hb dX0_isHeap_13 rfl ?_
      have e9 : p_isHeap u h = 1 := by unfold p_isHeap; rw [if_neg c1, if_neg c9]
      exact W.eq (congrArg (fun z => F0 m 17 ls [.int z]) e9.symm) (kk _ _ _ _ dX0_isHeap_17 hP hD hS)
theorem c_isHeap (l : Launch) (dC : Nat → ClassId) (dI : Nat → Nat → Nat) (G : Nat → Nat) (C : Nat → ClassId) (sz : Nat) (u : xS) (h : Int32)  : xMi l yX0_isHeap wsX0_isHeap (xR 0 0) dC dI (xT C) [.ref (G 0), .int h] (xW G C u) (xW G C u) (p_isHeap u h) sz :=
  xmet_i (by decide) rfl (by unfold p_isHeap; (repeat' split) <;> rfl) (Nat.le_of_ble_eq_true rfl) rfl (fun p e s m args below meth c Q A ls B hK hA hP hD hl kk => b_isHeap  B hK hA hP hD hl kk)
def p_isEntry (u : xS) (a : Int32) : Int32 :=
  (if a < 0 then
    0
  else (if (nI (xn u)) ≤ a then
      0
    else 1))
set_option maxHeartbeats 4000000 in
set_option maxRecDepth 100000 in
theorem b_isEntry {p : Program} {l : Launch} {e : Env} {s : State} {m : MethodId} {args : Array Value} {below : List Frame} {meth : Method} {c : Code} {Q : State → Prop} {A : Nat → Prop} {ls : Array Slot} {dC : Nat → ClassId} {dI : Nat → Nat → Nat} {G : Nat → Nat} {C : Nat → ClassId} {u : xS} {a : Int32}  (B : CallFix p m c cX0_isEntry 2 s args wsX0_isEntry RX0) (hK : va_K (dC, dI) vwCl (xT C) s) (hA : ∀ q : Nat, s.heap.size ≤ q → A q) (hP : va_P (dC, dI) vwCl (xW G C u) s.heap) (hD : va_D A (xW G C u)) (hl : lv_has ls 2 [(0, .ref (G 0)), (1, .int a)]) (kk : (∀ (H : Heap) (locs : List Loc) (pc : Nat) (ls : Array Slot), decode cX0_isEntry pc = .ok (.ireturn, 1) → va_P (dC, dI) vwCl (xW G C u) H → va_D A (xW G C u) → va_S A s.heap H locs → W p l e (xR 0 0) s m args below meth c H locs 0 0 Q (F0 m pc ls [.int (p_isEntry u a)]))) : W p l e (xR 0 0) s m args below meth c s.heap [] 0 0 Q (F0 m 0 ls []) := by
  obtain ⟨hx, hb, hml, hown, hts⟩ := B
  have hS : va_S A s.heap s.heap [] := va_S.rf
  have hfw : ∀ w ∈ u_ws RX0 TX0 9, w ∈ wsX0_isEntry := by decide +kernel
  refine lv_iload_n hx hb dX0_isEntry_0 rfl (lv_at hl 1 rfl) ?_
  refine lv_if_lt (tgt := 16) hx hb dX0_isEntry_1 rfl (fun c1 => ?_) (fun c1 => ?_)
  · refine lv_iconst (v := 0) hx hb dX0_isEntry_16 (by decide) ?_
    have e9 : p_isEntry u a = 0 := by unfold p_isEntry; rw [if_pos c1]
    exact W.eq (congrArg (fun z => F0 m 17 ls [.int z]) e9.symm) (kk _ _ _ _ dX0_isEntry_17 hP hD hS)
  · refine lv_iload_n hx hb dX0_isEntry_4 rfl (lv_at hl 1 rfl) ?_
    refine lv_aload_n hx hb dX0_isEntry_5 rfl (lv_at hl 0 rfl) ?_
    refine va_get (D := (dC, dI)) (ci := 0) (v := .int (nI (xn u))) (C := RX0) (T := TX0) (N := 9) hx hb hts hfw hown hK hP 0 rfl rfl 8 (by decide) (hts (.fieldLink RX0 37 "MeldingHeaps" "entryCount" "I") (by decide +kernel)) (fun _ h9 => h9) rfl dX0_isEntry_6 ?_
    refine lv_icmp_ge (tgt := 16) hx hb dX0_isEntry_9 rfl (fun c9 => ?_) (fun c9 => ?_)
    · refine lv_iconst (v := 0) hx hb dX0_isEntry_16 (by decide) ?_
      have e9 : p_isEntry u a = 0 := by unfold p_isEntry; rw [if_neg c1, if_pos c9]
      exact W.eq (congrArg (fun z => F0 m 17 ls [.int z]) e9.symm) (kk _ _ _ _ dX0_isEntry_17 hP hD hS)
    · refine lv_iconst (v := 1) hx hb dX0_isEntry_12 (by decide) ?_
      refine lv_goto (tgt := 17) hx hb dX0_isEntry_13 rfl ?_
      have e9 : p_isEntry u a = 1 := by unfold p_isEntry; rw [if_neg c1, if_neg c9]
      exact W.eq (congrArg (fun z => F0 m 17 ls [.int z]) e9.symm) (kk _ _ _ _ dX0_isEntry_17 hP hD hS)
theorem c_isEntry (l : Launch) (dC : Nat → ClassId) (dI : Nat → Nat → Nat) (G : Nat → Nat) (C : Nat → ClassId) (sz : Nat) (u : xS) (a : Int32)  : xMi l yX0_isEntry wsX0_isEntry (xR 0 0) dC dI (xT C) [.ref (G 0), .int a] (xW G C u) (xW G C u) (p_isEntry u a) sz :=
  xmet_i (by decide) rfl (by unfold p_isEntry; (repeat' split) <;> rfl) (Nat.le_of_ble_eq_true rfl) rfl (fun p e s m args below meth c Q A ls B hK hA hP hD hl kk => b_isEntry  B hK hA hP hD hl kk)
theorem in_isHeap {u : xS} {h : Int32} (hm : xm u ≤ 12) (c : ¬ p_isHeap u h = 0) : vp_in h 12 := by
  unfold p_isHeap at c
  by_cases h1 : h < 0
  · rw [if_pos h1] at c; exact absurd rfl c
  · rw [if_neg h1] at c
    by_cases h2 : (nI (xm u)) ≤ h
    · rw [if_pos h2] at c; exact absurd rfl c
    · obtain ⟨j, hj, rfl⟩ := nI_of h1
      exact vp_in_nI (Nat.lt_of_lt_of_le (Nat.not_le.mp (fun q : xm u ≤ j => h2 (nI_le q hj))) hm) (by decide)
theorem in_isEntry {u : xS} {a : Int32} (hn : xn u ≤ 160) (c : ¬ p_isEntry u a = 0) : vp_in a 160 ∧ ∃ j, j < xn u ∧ a = nI j := by
  unfold p_isEntry at c
  by_cases h1 : a < 0
  · rw [if_pos h1] at c; exact absurd rfl c
  · rw [if_neg h1] at c
    by_cases h2 : (nI (xn u)) ≤ a
    · rw [if_pos h2] at c; exact absurd rfl c
    · obtain ⟨j, hj, rfl⟩ := nI_of h1
      have h3 : j < xn u := Nat.not_le.mp (fun q : xn u ≤ j => h2 (nI_le q hj))
      exact ⟨vp_in_nI (Nat.lt_of_lt_of_le h3 hn) (by decide), j, h3, rfl⟩
def p_refusalOfHeap (u : xS) (h : Int32) : Int32 :=
  (if (p_isHeap u h) = 0 then
    (-2)
  else (if ((xab u) (h).toNatClampNeg) = 0 then
      0
    else (-3)))
set_option maxHeartbeats 4000000 in
set_option maxRecDepth 100000 in
theorem b_refusalOfHeap {p : Program} {l : Launch} {e : Env} {s : State} {m : MethodId} {args : Array Value} {below : List Frame} {meth : Method} {c : Code} {Q : State → Prop} {A : Nat → Prop} {ls : Array Slot} {dC : Nat → ClassId} {dI : Nat → Nat → Nat} {G : Nat → Nat} {C : Nat → ClassId} {u : xS} {h : Int32} (hm : xm u ≤ 12) (B : CallFix p m c cX0_refusalOfHeap 2 s args wsX0_refusalOfHeap RX0) (hK : va_K (dC, dI) vwCl (xT C) s) (hA : ∀ q : Nat, s.heap.size ≤ q → A q) (hP : va_P (dC, dI) vwCl (xW G C u) s.heap) (hD : va_D A (xW G C u)) (hl : lv_has ls 2 [(0, .ref (G 0)), (1, .int h)]) (kk : (∀ (H : Heap) (locs : List Loc) (pc : Nat) (ls : Array Slot), decode cX0_refusalOfHeap pc = .ok (.ireturn, 1) → va_P (dC, dI) vwCl (xW G C u) H → va_D A (xW G C u) → va_S A s.heap H locs → W p l e (xR 1 21) s m args below meth c H locs 0 0 Q (F0 m pc ls [.int (p_refusalOfHeap u h)]))) : W p l e (xR 1 21) s m args below meth c s.heap [] 0 0 Q (F0 m 0 ls []) := by
  obtain ⟨hx, hb, hml, hown, hts⟩ := B
  have hS : va_S A s.heap s.heap [] := va_S.rf
  have hfw : ∀ w ∈ u_ws RX0 TX0 9, w ∈ wsX0_refusalOfHeap := by decide +kernel
  refine lv_aload_n hx hb dX0_refusalOfHeap_0 rfl (lv_at hl 0 rfl) ?_
  refine lv_iload_n hx hb dX0_refusalOfHeap_1 rfl (lv_at hl 1 rfl) ?_
  refine xcall_i (ws := (xW G C u)) (wc := (xW G C u)) (wr := []) (w1 := (xW G C u)) (v := (p_isHeap u h)) [0, 1, 2, 3, 4, 5, 6, 7] [] (va_runV (As := [.int h]) (rest := []) ⟨hx, hb, hml, hown, hts⟩ (c_isHeap l dC dI G C _ u h) (cwV 1 hts gX0_refusalOfHeap_X0_isHeap rfl rfl rfl (by decide +kernel) ⟨Nat.le_of_ble_eq_true rfl, Nat.le_of_ble_eq_true rfl⟩) (xpreV (q0 := 0) (ci := 0) (qc := (RX0, TX0, 9)) hK hP hD rfl rfl) rfl rfl hl.1 rfl (lv_room (Nat.le_of_ble_eq_true rfl)) dX0_refusalOfHeap_2 ⟨Nat.zero_le _, Nat.zero_le _⟩) hP hD hS hA rfl rfl (by decide) (by decide) (fun H locs hP hD hS => ?_)
  have hP : va_P (dC, dI) vwCl (xW G C u) H := hP
  have hD : va_D A (xW G C u) := hD
  refine lv_if_ne (tgt := 11) hx hb dX0_refusalOfHeap_5 rfl (fun c5 => ?_) (fun c5 => ?_)
  · refine lv_aload_n hx hb dX0_refusalOfHeap_11 rfl (lv_at hl 0 rfl) ?_
    refine va_get (D := (dC, dI)) (ci := 0) (v := .ref (G 3)) (C := RX0) (T := TX0) (N := 9) hx hb hts hfw hown hK hP 0 rfl rfl 2 (by decide) (hts (.fieldLink RX0 16 "MeldingHeaps" "absorbed" "[Z") (by decide +kernel)) (fun _ h9 => h9) rfl dX0_refusalOfHeap_12 ?_
    refine lv_iload_n hx hb dX0_refusalOfHeap_15 rfl (lv_at hl 1 rfl) ?_
    refine va_zald (f := (xab u)) hx hb hK hP 3 2 rfl rfl (in_isHeap hm c5) dX0_refusalOfHeap_16 ?_
    refine lv_if_eq (tgt := 25) hx hb dX0_refusalOfHeap_17 rfl (fun c17 => ?_) (fun c17 => ?_)
    · refine lv_iconst (v := 0) hx hb dX0_refusalOfHeap_25 (by decide) ?_
      have e9 : p_refusalOfHeap u h = 0 := by unfold p_refusalOfHeap; rw [if_neg c5, if_pos c17]
      exact W.eq (congrArg (fun z => F0 m 26 ls [.int z]) e9.symm) (kk _ _ _ _ dX0_refusalOfHeap_26 hP hD hS)
    · refine lv_bipush (v := (-3)) hx hb dX0_refusalOfHeap_20 (by decide) ?_
      refine lv_goto (tgt := 26) hx hb dX0_refusalOfHeap_22 rfl ?_
      have e9 : p_refusalOfHeap u h = (-3) := by unfold p_refusalOfHeap; rw [if_neg c5, if_neg c17]
      exact W.eq (congrArg (fun z => F0 m 26 ls [.int z]) e9.symm) (kk _ _ _ _ dX0_refusalOfHeap_26 hP hD hS)
  · refine lv_bipush (v := (-2)) hx hb dX0_refusalOfHeap_8 (by decide) ?_
    have e9 : p_refusalOfHeap u h = (-2) := by unfold p_refusalOfHeap; rw [if_pos c5]
    exact W.eq (congrArg (fun z => F0 m 10 ls [.int z]) e9.symm) (kk _ _ _ _ dX0_refusalOfHeap_10 hP hD hS)
theorem c_refusalOfHeap (l : Launch) (dC : Nat → ClassId) (dI : Nat → Nat → Nat) (G : Nat → Nat) (C : Nat → ClassId) (sz : Nat) (u : xS) (h : Int32) (hm : xm u ≤ 12) : xMi l yX0_refusalOfHeap wsX0_refusalOfHeap (xR 1 21) dC dI (xT C) [.ref (G 0), .int h] (xW G C u) (xW G C u) (p_refusalOfHeap u h) sz :=
  xmet_i (by decide) rfl rfl (Nat.le_of_ble_eq_true rfl) rfl (fun p e s m args below meth c Q A ls B hK hA hP hD hl kk => b_refusalOfHeap hm B hK hA hP hD hl kk)
theorem in_refH {u : xS} {h : Int32} (hm : xm u ≤ 12) (c : p_refusalOfHeap u h = 0) : vp_in h 12 := by
  unfold p_refusalOfHeap at c
  by_cases h1 : p_isHeap u h = 0
  · rw [if_pos h1] at c; exact absurd c (by decide)
  · exact in_isHeap hm h1
def p_refusalOfLastOf (u : xS) (h : Int32) : Int32 :=
  (if (p_refusalOfHeap u h) = 0 then
    (if ((xkd u) (h).toNatClampNeg) = 1 then
      0
    else (-7))
  else (p_refusalOfHeap u h))
set_option maxHeartbeats 4000000 in
set_option maxRecDepth 100000 in
theorem b_refusalOfLastOf {p : Program} {l : Launch} {e : Env} {s : State} {m : MethodId} {args : Array Value} {below : List Frame} {meth : Method} {c : Code} {Q : State → Prop} {A : Nat → Prop} {ls : Array Slot} {dC : Nat → ClassId} {dI : Nat → Nat → Nat} {G : Nat → Nat} {C : Nat → ClassId} {u : xS} {h : Int32} (hm : xm u ≤ 12) (B : CallFix p m c cX0_refusalOfLastOf 3 s args wsX0_refusalOfLastOf RX0) (hK : va_K (dC, dI) vwCl (xT C) s) (hA : ∀ q : Nat, s.heap.size ≤ q → A q) (hP : va_P (dC, dI) vwCl (xW G C u) s.heap) (hD : va_D A (xW G C u)) (hl : lv_has ls 3 [(0, .ref (G 0)), (1, .int h)]) (kk : (∀ (H : Heap) (locs : List Loc) (pc : Nat) (ls : Array Slot), decode cX0_refusalOfLastOf pc = .ok (.ireturn, 1) → va_P (dC, dI) vwCl (xW G C u) H → va_D A (xW G C u) → va_S A s.heap H locs → W p l e (xR 2 42) s m args below meth c H locs 0 0 Q (F0 m pc ls [.int (p_refusalOfLastOf u h)]))) : W p l e (xR 2 42) s m args below meth c s.heap [] 0 0 Q (F0 m 0 ls []) := by
  obtain ⟨hx, hb, hml, hown, hts⟩ := B
  have hS : va_S A s.heap s.heap [] := va_S.rf
  have hfw : ∀ w ∈ u_ws RX0 TX0 9, w ∈ wsX0_refusalOfLastOf := by decide +kernel
  refine lv_aload_n hx hb dX0_refusalOfLastOf_0 rfl (lv_at hl 0 rfl) ?_
  refine lv_iload_n hx hb dX0_refusalOfLastOf_1 rfl (lv_at hl 1 rfl) ?_
  refine xcall_i (ws := (xW G C u)) (wc := (xW G C u)) (wr := []) (w1 := (xW G C u)) (v := (p_refusalOfHeap u h)) [0, 1, 2, 3, 4, 5, 6, 7] [] (va_runV (As := [.int h]) (rest := []) ⟨hx, hb, hml, hown, hts⟩ (c_refusalOfHeap l dC dI G C _ u h hm) (cwV 1 hts gX0_refusalOfLastOf_X0_refusalOfHeap rfl rfl rfl (by decide +kernel) ⟨Nat.le_of_ble_eq_true rfl, Nat.le_of_ble_eq_true rfl⟩) (xpreV (q0 := 0) (ci := 0) (qc := (RX0, TX0, 9)) hK hP hD rfl rfl) rfl rfl hl.1 rfl (lv_room (Nat.le_of_ble_eq_true rfl)) dX0_refusalOfLastOf_2 ⟨Nat.zero_le _, Nat.zero_le _⟩) hP hD hS hA rfl rfl (by decide) (by decide) (fun H locs hP hD hS => ?_)
  have hP : va_P (dC, dI) vwCl (xW G C u) H := hP
  have hD : va_D A (xW G C u) := hD
  refine lv_istore_n (lv' := [(2, .int (p_refusalOfHeap u h)), (0, .ref (G 0)), (1, .int h)]) hx hb dX0_refusalOfLastOf_5 rfl hl (by decide) rfl (fun ls hl => ?_)
  refine lv_iload_n hx hb dX0_refusalOfLastOf_6 rfl (lv_at hl 0 rfl) ?_
  refine lv_if_eq (tgt := 12) hx hb dX0_refusalOfLastOf_7 rfl (fun c7 => ?_) (fun c7 => ?_)
  · refine lv_aload_n hx hb dX0_refusalOfLastOf_12 rfl (lv_at hl 1 rfl) ?_
    refine va_get (D := (dC, dI)) (ci := 0) (v := .ref (G 1)) (C := RX0) (T := TX0) (N := 9) hx hb hts hfw hown hK hP 0 rfl rfl 0 (by decide) (hts (.fieldLink RX0 9 "MeldingHeaps" "kinds" "[I") (by decide +kernel)) (fun _ h9 => h9) rfl dX0_refusalOfLastOf_13 ?_
    refine lv_iload_n hx hb dX0_refusalOfLastOf_16 rfl (lv_at hl 2 rfl) ?_
    refine va_iald (f := (xkd u)) hx hb hK hP 1 0 rfl rfl (in_refH hm c7) dX0_refusalOfLastOf_17 ?_
    refine lv_iconst (v := 1) hx hb dX0_refusalOfLastOf_18 (by decide) ?_
    refine lv_icmp_ne (tgt := 26) hx hb dX0_refusalOfLastOf_19 rfl (fun c19 => ?_) (fun c19 => ?_)
    · refine lv_bipush (v := (-7)) hx hb dX0_refusalOfLastOf_26 (by decide) ?_
      have e9 : p_refusalOfLastOf u h = (-7) := by unfold p_refusalOfLastOf; rw [if_pos c7, if_neg c19]
      exact W.eq (congrArg (fun z => F0 m 28 ls [.int z]) e9.symm) (kk _ _ _ _ dX0_refusalOfLastOf_28 hP hD hS)
    · refine lv_iconst (v := 0) hx hb dX0_refusalOfLastOf_22 (by decide) ?_
      refine lv_goto (tgt := 28) hx hb dX0_refusalOfLastOf_23 rfl ?_
      have e9 : p_refusalOfLastOf u h = 0 := by unfold p_refusalOfLastOf; rw [if_pos c7, if_pos c19]
      exact W.eq (congrArg (fun z => F0 m 28 ls [.int z]) e9.symm) (kk _ _ _ _ dX0_refusalOfLastOf_28 hP hD hS)
  · refine lv_iload_n hx hb dX0_refusalOfLastOf_10 rfl (lv_at hl 0 rfl) ?_
    have e9 : p_refusalOfLastOf u h = (p_refusalOfHeap u h) := by unfold p_refusalOfLastOf; rw [if_neg c7]
    exact W.eq (congrArg (fun z => F0 m 11 ls [.int z]) e9.symm) (kk _ _ _ _ dX0_refusalOfLastOf_11 hP hD hS)
theorem c_refusalOfLastOf (l : Launch) (dC : Nat → ClassId) (dI : Nat → Nat → Nat) (G : Nat → Nat) (C : Nat → ClassId) (sz : Nat) (u : xS) (h : Int32) (hm : xm u ≤ 12) : xMi l yX0_refusalOfLastOf wsX0_refusalOfLastOf (xR 2 42) dC dI (xT C) [.ref (G 0), .int h] (xW G C u) (xW G C u) (p_refusalOfLastOf u h) sz :=
  xmet_i (by decide) rfl rfl (Nat.le_of_ble_eq_true rfl) rfl (fun p e s m args below meth c Q A ls B hK hA hP hD hl kk => b_refusalOfLastOf hm B hK hA hP hD hl kk)
def p_refusalOfPair (u : xS) (a : Int32) (b : Int32) : Int32 :=
  (if (p_refusalOfHeap u a) = 0 then
    (if (p_refusalOfHeap u b) = 0 then
      (if a = b then
        (-7)
      else 0)
    else (p_refusalOfHeap u b))
  else (if (p_refusalOfHeap u a) = 0 then
      (if a = b then
        (-7)
      else 0)
    else (p_refusalOfHeap u a)))
set_option maxHeartbeats 4000000 in
set_option maxRecDepth 100000 in
theorem b_refusalOfPair {p : Program} {l : Launch} {e : Env} {s : State} {m : MethodId} {args : Array Value} {below : List Frame} {meth : Method} {c : Code} {Q : State → Prop} {A : Nat → Prop} {ls : Array Slot} {dC : Nat → ClassId} {dI : Nat → Nat → Nat} {G : Nat → Nat} {C : Nat → ClassId} {u : xS} {a : Int32} {b : Int32} (hm : xm u ≤ 12) (B : CallFix p m c cX0_refusalOfPair 4 s args wsX0_refusalOfPair RX0) (hK : va_K (dC, dI) vwCl (xT C) s) (hA : ∀ q : Nat, s.heap.size ≤ q → A q) (hP : va_P (dC, dI) vwCl (xW G C u) s.heap) (hD : va_D A (xW G C u)) (hl : lv_has ls 4 [(0, .ref (G 0)), (1, .int a), (2, .int b)]) (kk : (∀ (H : Heap) (locs : List Loc) (pc : Nat) (ls : Array Slot), decode cX0_refusalOfPair pc = .ok (.ireturn, 1) → va_P (dC, dI) vwCl (xW G C u) H → va_D A (xW G C u) → va_S A s.heap H locs → W p l e (xR 2 42) s m args below meth c H locs 0 0 Q (F0 m pc ls [.int (p_refusalOfPair u a b)]))) : W p l e (xR 2 42) s m args below meth c s.heap [] 0 0 Q (F0 m 0 ls []) := by
  obtain ⟨hx, hb, hml, hown, hts⟩ := B
  have hS : va_S A s.heap s.heap [] := va_S.rf
  refine lv_aload_n hx hb dX0_refusalOfPair_0 rfl (lv_at hl 0 rfl) ?_
  refine lv_iload_n hx hb dX0_refusalOfPair_1 rfl (lv_at hl 1 rfl) ?_
  refine xcall_i (ws := (xW G C u)) (wc := (xW G C u)) (wr := []) (w1 := (xW G C u)) (v := (p_refusalOfHeap u a)) [0, 1, 2, 3, 4, 5, 6, 7] [] (va_runV (As := [.int a]) (rest := []) ⟨hx, hb, hml, hown, hts⟩ (c_refusalOfHeap l dC dI G C _ u a hm) (cwV 1 hts gX0_refusalOfPair_X0_refusalOfHeap rfl rfl rfl (by decide +kernel) ⟨Nat.le_of_ble_eq_true rfl, Nat.le_of_ble_eq_true rfl⟩) (xpreV (q0 := 0) (ci := 0) (qc := (RX0, TX0, 9)) hK hP hD rfl rfl) rfl rfl hl.1 rfl (lv_room (Nat.le_of_ble_eq_true rfl)) dX0_refusalOfPair_2 ⟨Nat.zero_le _, Nat.zero_le _⟩) hP hD hS hA rfl rfl (by decide) (by decide) (fun H locs hP hD hS => ?_)
  have hP : va_P (dC, dI) vwCl (xW G C u) H := hP
  have hD : va_D A (xW G C u) := hD
  refine lv_istore_n (lv' := [(3, .int (p_refusalOfHeap u a)), (0, .ref (G 0)), (1, .int a), (2, .int b)]) hx hb dX0_refusalOfPair_5 rfl hl (by decide) rfl (fun ls hl => ?_)
  refine lv_iload_n hx hb dX0_refusalOfPair_6 rfl (lv_at hl 0 rfl) ?_
  refine lv_if_ne (tgt := 16) hx hb dX0_refusalOfPair_7 rfl (fun c7 => ?_) (fun c7 => ?_)
  · refine lv_iload_n hx hb dX0_refusalOfPair_16 rfl (lv_at hl 0 rfl) ?_
    refine lv_if_eq (tgt := 22) hx hb dX0_refusalOfPair_17 rfl (fun c17 => ?_) (fun c17 => ?_)
    · refine lv_iload_n hx hb dX0_refusalOfPair_22 rfl (lv_at hl 2 rfl) ?_
      refine lv_iload_n hx hb dX0_refusalOfPair_23 rfl (lv_at hl 3 rfl) ?_
      refine lv_icmp_ne (tgt := 32) hx hb dX0_refusalOfPair_24 rfl (fun c24 => ?_) (fun c24 => ?_)
      · refine lv_iconst (v := 0) hx hb dX0_refusalOfPair_32 (by decide) ?_
        have e9 : p_refusalOfPair u a b = 0 := by unfold p_refusalOfPair; rw [if_neg c7, if_pos c17, if_neg c24]
        exact W.eq (congrArg (fun z => F0 m 33 ls [.int z]) e9.symm) (kk _ _ _ _ dX0_refusalOfPair_33 hP hD hS)
      · refine lv_bipush (v := (-7)) hx hb dX0_refusalOfPair_27 (by decide) ?_
        refine lv_goto (tgt := 33) hx hb dX0_refusalOfPair_29 rfl ?_
        have e9 : p_refusalOfPair u a b = (-7) := by unfold p_refusalOfPair; rw [if_neg c7, if_pos c17, if_pos c24]
        exact W.eq (congrArg (fun z => F0 m 33 ls [.int z]) e9.symm) (kk _ _ _ _ dX0_refusalOfPair_33 hP hD hS)
    · refine lv_iload_n hx hb dX0_refusalOfPair_20 rfl (lv_at hl 0 rfl) ?_
      have e9 : p_refusalOfPair u a b = (p_refusalOfHeap u a) := by unfold p_refusalOfPair; rw [if_neg c7, if_neg c17]
      exact W.eq (congrArg (fun z => F0 m 21 ls [.int z]) e9.symm) (kk _ _ _ _ dX0_refusalOfPair_21 hP hD hS)
  · refine lv_aload_n hx hb dX0_refusalOfPair_10 rfl (lv_at hl 1 rfl) ?_
    refine lv_iload_n hx hb dX0_refusalOfPair_11 rfl (lv_at hl 3 rfl) ?_
    refine xcall_i (ws := (xW G C u)) (wc := (xW G C u)) (wr := []) (w1 := (xW G C u)) (v := (p_refusalOfHeap u b)) [0, 1, 2, 3, 4, 5, 6, 7] [] (va_runV (As := [.int b]) (rest := []) ⟨hx, hb, hml, hown, hts⟩ (c_refusalOfHeap l dC dI G C _ u b hm) (cwV 1 hts gX0_refusalOfPair_X0_refusalOfHeap rfl rfl rfl (by decide +kernel) ⟨Nat.le_of_ble_eq_true rfl, Nat.le_of_ble_eq_true rfl⟩) (xpreV (q0 := 0) (ci := 0) (qc := (RX0, TX0, 9)) hK hP hD rfl rfl) rfl rfl hl.1 rfl (lv_room (Nat.le_of_ble_eq_true rfl)) dX0_refusalOfPair_12 ⟨Nat.zero_le _, Nat.zero_le _⟩) hP hD hS hA rfl rfl (by decide) (by decide) (fun H locs hP hD hS => ?_)
    have hP : va_P (dC, dI) vwCl (xW G C u) H := hP
    have hD : va_D A (xW G C u) := hD
    refine lv_istore_n (lv' := [(3, .int (p_refusalOfHeap u b)), (0, .ref (G 0)), (1, .int a), (2, .int b)]) hx hb dX0_refusalOfPair_15 rfl hl (by decide) rfl (fun ls hl => ?_)
    refine lv_iload_n hx hb dX0_refusalOfPair_16 rfl (lv_at hl 0 rfl) ?_
    refine lv_if_eq (tgt := 22) hx hb dX0_refusalOfPair_17 rfl (fun c17 => ?_) (fun c17 => ?_)
    · refine lv_iload_n hx hb dX0_refusalOfPair_22 rfl (lv_at hl 2 rfl) ?_
      refine lv_iload_n hx hb dX0_refusalOfPair_23 rfl (lv_at hl 3 rfl) ?_
      refine lv_icmp_ne (tgt := 32) hx hb dX0_refusalOfPair_24 rfl (fun c24 => ?_) (fun c24 => ?_)
      · refine lv_iconst (v := 0) hx hb dX0_refusalOfPair_32 (by decide) ?_
        have e9 : p_refusalOfPair u a b = 0 := by unfold p_refusalOfPair; rw [if_pos c7, if_pos c17, if_neg c24]
        exact W.eq (congrArg (fun z => F0 m 33 ls [.int z]) e9.symm) (kk _ _ _ _ dX0_refusalOfPair_33 hP hD hS)
      · refine lv_bipush (v := (-7)) hx hb dX0_refusalOfPair_27 (by decide) ?_
        refine lv_goto (tgt := 33) hx hb dX0_refusalOfPair_29 rfl ?_
        have e9 : p_refusalOfPair u a b = (-7) := by unfold p_refusalOfPair; rw [if_pos c7, if_pos c17, if_pos c24]
        exact W.eq (congrArg (fun z => F0 m 33 ls [.int z]) e9.symm) (kk _ _ _ _ dX0_refusalOfPair_33 hP hD hS)
    · refine lv_iload_n hx hb dX0_refusalOfPair_20 rfl (lv_at hl 0 rfl) ?_
      have e9 : p_refusalOfPair u a b = (p_refusalOfHeap u b) := by unfold p_refusalOfPair; rw [if_pos c7, if_neg c17]
      exact W.eq (congrArg (fun z => F0 m 21 ls [.int z]) e9.symm) (kk _ _ _ _ dX0_refusalOfPair_21 hP hD hS)
theorem c_refusalOfPair (l : Launch) (dC : Nat → ClassId) (dI : Nat → Nat → Nat) (G : Nat → Nat) (C : Nat → ClassId) (sz : Nat) (u : xS) (a : Int32) (b : Int32) (hm : xm u ≤ 12) : xMi l yX0_refusalOfPair wsX0_refusalOfPair (xR 2 42) dC dI (xT C) [.ref (G 0), .int a, .int b] (xW G C u) (xW G C u) (p_refusalOfPair u a b) sz :=
  xmet_i (by decide) rfl rfl (Nat.le_of_ble_eq_true rfl) rfl (fun p e s m args below meth c Q A ls B hK hA hP hD hl kk => b_refusalOfPair hm B hK hA hP hD hl kk)
theorem in_refP {u : xS} {a b : Int32} (hm : xm u ≤ 12) (c : p_refusalOfPair u a b = 0) : vp_in a 12 ∧ vp_in b 12 := by
  unfold p_refusalOfPair at c
  by_cases h1 : p_refusalOfHeap u a = 0
  · rw [if_pos h1] at c
    by_cases h2 : p_refusalOfHeap u b = 0
    · exact ⟨in_refH hm h1, in_refH hm h2⟩
    · rw [if_neg h2] at c; exact absurd c h2
  · rw [if_neg h1, if_neg h1] at c; exact absurd c h1
def p_refusalOfEntry (u : xS) (a : Int32) : Int32 :=
  (if (p_isEntry u a) = 0 then
    (-2)
  else (if ((xow u) (a).toNatClampNeg) = (-4) then
      (-4)
    else 0))
set_option maxHeartbeats 4000000 in
set_option maxRecDepth 100000 in
theorem b_refusalOfEntry {p : Program} {l : Launch} {e : Env} {s : State} {m : MethodId} {args : Array Value} {below : List Frame} {meth : Method} {c : Code} {Q : State → Prop} {A : Nat → Prop} {ls : Array Slot} {dC : Nat → ClassId} {dI : Nat → Nat → Nat} {G : Nat → Nat} {C : Nat → ClassId} {u : xS} {a : Int32} (hn : xn u ≤ 160) (B : CallFix p m c cX0_refusalOfEntry 2 s args wsX0_refusalOfEntry RX0) (hK : va_K (dC, dI) vwCl (xT C) s) (hA : ∀ q : Nat, s.heap.size ≤ q → A q) (hP : va_P (dC, dI) vwCl (xW G C u) s.heap) (hD : va_D A (xW G C u)) (hl : lv_has ls 2 [(0, .ref (G 0)), (1, .int a)]) (kk : (∀ (H : Heap) (locs : List Loc) (pc : Nat) (ls : Array Slot), decode cX0_refusalOfEntry pc = .ok (.ireturn, 1) → va_P (dC, dI) vwCl (xW G C u) H → va_D A (xW G C u) → va_S A s.heap H locs → W p l e (xR 1 21) s m args below meth c H locs 0 0 Q (F0 m pc ls [.int (p_refusalOfEntry u a)]))) : W p l e (xR 1 21) s m args below meth c s.heap [] 0 0 Q (F0 m 0 ls []) := by
  obtain ⟨hx, hb, hml, hown, hts⟩ := B
  have hS : va_S A s.heap s.heap [] := va_S.rf
  have hfw : ∀ w ∈ u_ws RX0 TX0 9, w ∈ wsX0_refusalOfEntry := by decide +kernel
  refine lv_aload_n hx hb dX0_refusalOfEntry_0 rfl (lv_at hl 0 rfl) ?_
  refine lv_iload_n hx hb dX0_refusalOfEntry_1 rfl (lv_at hl 1 rfl) ?_
  refine xcall_i (ws := (xW G C u)) (wc := (xW G C u)) (wr := []) (w1 := (xW G C u)) (v := (p_isEntry u a)) [0, 1, 2, 3, 4, 5, 6, 7] [] (va_runV (As := [.int a]) (rest := []) ⟨hx, hb, hml, hown, hts⟩ (c_isEntry l dC dI G C _ u a) (cwV 1 hts gX0_refusalOfEntry_X0_isEntry rfl rfl rfl (by decide +kernel) ⟨Nat.le_of_ble_eq_true rfl, Nat.le_of_ble_eq_true rfl⟩) (xpreV (q0 := 0) (ci := 0) (qc := (RX0, TX0, 9)) hK hP hD rfl rfl) rfl rfl hl.1 rfl (lv_room (Nat.le_of_ble_eq_true rfl)) dX0_refusalOfEntry_2 ⟨Nat.zero_le _, Nat.zero_le _⟩) hP hD hS hA rfl rfl (by decide) (by decide) (fun H locs hP hD hS => ?_)
  have hP : va_P (dC, dI) vwCl (xW G C u) H := hP
  have hD : va_D A (xW G C u) := hD
  refine lv_if_ne (tgt := 11) hx hb dX0_refusalOfEntry_5 rfl (fun c5 => ?_) (fun c5 => ?_)
  · refine lv_aload_n hx hb dX0_refusalOfEntry_11 rfl (lv_at hl 0 rfl) ?_
    refine va_get (D := (dC, dI)) (ci := 0) (v := .ref (G 7)) (C := RX0) (T := TX0) (N := 9) hx hb hts hfw hown hK hP 0 rfl rfl 7 (by decide) (hts (.fieldLink RX0 34 "MeldingHeaps" "owners" "[I") (by decide +kernel)) (fun _ h9 => h9) rfl dX0_refusalOfEntry_12 ?_
    refine lv_iload_n hx hb dX0_refusalOfEntry_15 rfl (lv_at hl 1 rfl) ?_
    refine va_iald (f := (xow u)) hx hb hK hP 7 6 rfl rfl ((in_isEntry hn c5).1) dX0_refusalOfEntry_16 ?_
    refine lv_bipush (v := (-4)) hx hb dX0_refusalOfEntry_17 (by decide) ?_
    refine lv_icmp_ne (tgt := 27) hx hb dX0_refusalOfEntry_19 rfl (fun c19 => ?_) (fun c19 => ?_)
    · refine lv_iconst (v := 0) hx hb dX0_refusalOfEntry_27 (by decide) ?_
      have e9 : p_refusalOfEntry u a = 0 := by unfold p_refusalOfEntry; rw [if_neg c5, if_neg c19]
      exact W.eq (congrArg (fun z => F0 m 28 ls [.int z]) e9.symm) (kk _ _ _ _ dX0_refusalOfEntry_28 hP hD hS)
    · refine lv_bipush (v := (-4)) hx hb dX0_refusalOfEntry_22 (by decide) ?_
      refine lv_goto (tgt := 28) hx hb dX0_refusalOfEntry_24 rfl ?_
      have e9 : p_refusalOfEntry u a = (-4) := by unfold p_refusalOfEntry; rw [if_neg c5, if_pos c19]
      exact W.eq (congrArg (fun z => F0 m 28 ls [.int z]) e9.symm) (kk _ _ _ _ dX0_refusalOfEntry_28 hP hD hS)
  · refine lv_bipush (v := (-2)) hx hb dX0_refusalOfEntry_8 (by decide) ?_
    have e9 : p_refusalOfEntry u a = (-2) := by unfold p_refusalOfEntry; rw [if_pos c5]
    exact W.eq (congrArg (fun z => F0 m 10 ls [.int z]) e9.symm) (kk _ _ _ _ dX0_refusalOfEntry_10 hP hD hS)
theorem c_refusalOfEntry (l : Launch) (dC : Nat → ClassId) (dI : Nat → Nat → Nat) (G : Nat → Nat) (C : Nat → ClassId) (sz : Nat) (u : xS) (a : Int32) (hn : xn u ≤ 160) : xMi l yX0_refusalOfEntry wsX0_refusalOfEntry (xR 1 21) dC dI (xT C) [.ref (G 0), .int a] (xW G C u) (xW G C u) (p_refusalOfEntry u a) sz :=
  xmet_i (by decide) rfl rfl (Nat.le_of_ble_eq_true rfl) rfl (fun p e s m args below meth c Q A ls B hK hA hP hD hl kk => b_refusalOfEntry hn B hK hA hP hD hl kk)
theorem in_refE {u : xS} {a : Int32} (hn : xn u ≤ 160) (c : p_refusalOfEntry u a = 0) : vp_in a 160 ∧ (∃ j, j < xn u ∧ a = nI j) ∧ ¬ xow u a.toNatClampNeg = -4 := by
  unfold p_refusalOfEntry at c
  by_cases h1 : p_isEntry u a = 0
  · rw [if_pos h1] at c; exact absurd c (by decide)
  · rw [if_neg h1] at c
    by_cases h2 : xow u a.toNatClampNeg = -4
    · rw [if_pos h2] at c; exact absurd c (by decide)
    · exact ⟨(in_isEntry hn h1).1, (in_isEntry hn h1).2, h2⟩
theorem in_own {u : xS} {a : Int32} (hn : xn u ≤ 160) (ho : ∀ j : Nat, j < xn u → xow u j = -4 ∨ vp_in (xow u j) 12) (c : p_refusalOfEntry u a = 0) : vp_in (xow u a.toNatClampNeg) 12 := by
  obtain ⟨-, ⟨j, hj, rfl⟩, h2⟩ := in_refE hn c
  rw [nI_clamp (show j < 2 ^ 31 by omega)] at h2 ⊢
  exact (ho j hj).resolve_left h2
def p_isBelowFloor (u : xS) (h : Int32) (k : Int64) : Int32 :=
  (if 0 ≤ (lg_cmp (p_weight ((xod u) (h).toNatClampNeg) k) ((xfl u) (h).toNatClampNeg)) then
    0
  else 1)
set_option maxHeartbeats 4000000 in
set_option maxRecDepth 100000 in
theorem b_isBelowFloor {p : Program} {l : Launch} {e : Env} {s : State} {m : MethodId} {args : Array Value} {below : List Frame} {meth : Method} {c : Code} {Q : State → Prop} {A : Nat → Prop} {ls : Array Slot} {dC : Nat → ClassId} {dI : Nat → Nat → Nat} {G : Nat → Nat} {C : Nat → ClassId} {u : xS} {h : Int32} {k : Int64} (hh : vp_in h 12) (B : CallFix p m c cX0_isBelowFloor 4 s args wsX0_isBelowFloor RX0) (hK : va_K (dC, dI) vwCl (xT C) s) (hA : ∀ q : Nat, s.heap.size ≤ q → A q) (hP : va_P (dC, dI) vwCl (xW G C u) s.heap) (hD : va_D A (xW G C u)) (hl : lv_has ls 4 [(0, .ref (G 0)), (1, .int h), (2, .long k)]) (kk : (∀ (H : Heap) (locs : List Loc) (pc : Nat) (ls : Array Slot), decode cX0_isBelowFloor pc = .ok (.ireturn, 1) → va_P (dC, dI) vwCl (xW G C u) H → va_D A (xW G C u) → va_S A s.heap H locs → W p l e (xR 1 22) s m args below meth c H locs 0 0 Q (F0 m pc ls [.int (p_isBelowFloor u h k)]))) : W p l e (xR 1 22) s m args below meth c s.heap [] 0 0 Q (F0 m 0 ls []) := by
  obtain ⟨hx, hb, hml, hown, hts⟩ := B
  have hS : va_S A s.heap s.heap [] := va_S.rf
  have hfw : ∀ w ∈ u_ws RX0 TX0 9, w ∈ wsX0_isBelowFloor := by decide +kernel
  refine lv_aload_n hx hb dX0_isBelowFloor_0 rfl (lv_at hl 0 rfl) ?_
  refine va_get (D := (dC, dI)) (ci := 0) (v := .ref (G 2)) (C := RX0) (T := TX0) (N := 9) hx hb hts hfw hown hK hP 0 rfl rfl 1 (by decide) (hts (.fieldLink RX0 13 "MeldingHeaps" "orders" "[I") (by decide +kernel)) (fun _ h9 => h9) rfl dX0_isBelowFloor_1 ?_
  refine lv_iload_n hx hb dX0_isBelowFloor_4 rfl (lv_at hl 1 rfl) ?_
  refine va_iald (f := (xod u)) hx hb hK hP 2 1 rfl rfl (hh) dX0_isBelowFloor_5 ?_
  refine lv_lload_n hx hb dX0_isBelowFloor_6 rfl (lv_at hl 2 rfl) ?_
  refine xcall_l (ws := (xW G C u)) (wc := []) (wr := (xW G C u)) (w1 := []) (v := (p_weight ((xod u) (h).toNatClampNeg) k)) [] [0, 1, 2, 3, 4, 5, 6, 7] (va_runS (As := [.int ((xod u) (h).toNatClampNeg), .long k]) (rest := []) ⟨hx, hb, hml, hown, hts⟩ (c_weight l dC dI _ ((xod u) (h).toNatClampNeg) k) (va_cwS 2 hts gX0_isBelowFloor_X0_weight rfl rfl rfl (by decide +kernel) ⟨Nat.le_of_ble_eq_true rfl, Nat.le_of_ble_eq_true rfl⟩) (xpreS hK) rfl rfl hl.1 rfl (lv_room (Nat.le_of_ble_eq_true rfl)) dX0_isBelowFloor_7 ⟨Nat.zero_le _, Nat.zero_le _⟩) hP hD hS hA rfl rfl (by decide) (by decide) (fun H locs hP hD hS => ?_)
  have hP : va_P (dC, dI) vwCl (xW G C u) H := hP
  have hD : va_D A (xW G C u) := hD
  refine lv_aload_n hx hb dX0_isBelowFloor_10 rfl (lv_at hl 0 rfl) ?_
  refine va_get (D := (dC, dI)) (ci := 0) (v := .ref (G 4)) (C := RX0) (T := TX0) (N := 9) hx hb hts hfw hown hK hP 0 rfl rfl 3 (by decide) (hts (.fieldLink RX0 20 "MeldingHeaps" "floors" "[J") (by decide +kernel)) (fun _ h9 => h9) rfl dX0_isBelowFloor_11 ?_
  refine lv_iload_n hx hb dX0_isBelowFloor_14 rfl (lv_at hl 1 rfl) ?_
  refine va_lald (f := (xfl u)) hx hb hK hP 4 3 rfl rfl (hh) dX0_isBelowFloor_15 ?_
  refine W.lcmp hx hb dX0_isBelowFloor_16 ?_
  refine lv_if_ge (tgt := 24) hx hb dX0_isBelowFloor_17 rfl (fun c17 => ?_) (fun c17 => ?_)
  · refine lv_iconst (v := 0) hx hb dX0_isBelowFloor_24 (by decide) ?_
    have e9 : p_isBelowFloor u h k = 0 := by unfold p_isBelowFloor; rw [if_pos c17]
    exact W.eq (congrArg (fun z => F0 m 25 ls [.int z]) e9.symm) (kk _ _ _ _ dX0_isBelowFloor_25 hP hD hS)
  · refine lv_iconst (v := 1) hx hb dX0_isBelowFloor_20 (by decide) ?_
    refine lv_goto (tgt := 25) hx hb dX0_isBelowFloor_21 rfl ?_
    have e9 : p_isBelowFloor u h k = 1 := by unfold p_isBelowFloor; rw [if_neg c17]
    exact W.eq (congrArg (fun z => F0 m 25 ls [.int z]) e9.symm) (kk _ _ _ _ dX0_isBelowFloor_25 hP hD hS)
theorem c_isBelowFloor (l : Launch) (dC : Nat → ClassId) (dI : Nat → Nat → Nat) (G : Nat → Nat) (C : Nat → ClassId) (sz : Nat) (u : xS) (h : Int32) (k : Int64) (hh : vp_in h 12) : xMi l yX0_isBelowFloor wsX0_isBelowFloor (xR 1 22) dC dI (xT C) [.ref (G 0), .int h, .long k] (xW G C u) (xW G C u) (p_isBelowFloor u h k) sz :=
  xmet_i (by decide) rfl (by unfold p_isBelowFloor; (repeat' split) <;> rfl) (Nat.le_of_ble_eq_true rfl) rfl (fun p e s m args below meth c Q A ls B hK hA hP hD hl kk => b_isBelowFloor hh B hK hA hP hD hl kk)
def q_raiseFloor (u : xS) (h : Int32) (k : Int64) : xS :=
  (if ((xkd u) (h).toNatClampNeg) = 2 then
    (sFl u (vp_updL (xfl u) (h).toNatClampNeg (p_weight ((xod u) (h).toNatClampNeg) k)))
  else u)
set_option maxHeartbeats 4000000 in
set_option maxRecDepth 100000 in
theorem b_raiseFloor {p : Program} {l : Launch} {e : Env} {s : State} {m : MethodId} {args : Array Value} {below : List Frame} {meth : Method} {c : Code} {Q : State → Prop} {A : Nat → Prop} {ls : Array Slot} {dC : Nat → ClassId} {dI : Nat → Nat → Nat} {G : Nat → Nat} {C : Nat → ClassId} {u : xS} {h : Int32} {k : Int64} (hh : vp_in h 12) (B : CallFix p m c cX0_raiseFloor 4 s args wsX0_raiseFloor RX0) (hK : va_K (dC, dI) vwCl (xT C) s) (hA : ∀ q : Nat, s.heap.size ≤ q → A q) (hP : va_P (dC, dI) vwCl (xW G C u) s.heap) (hD : va_D A (xW G C u)) (hl : lv_has ls 4 [(0, .ref (G 0)), (1, .int h), (2, .long k)]) (kk : (∀ (H : Heap) (locs : List Loc) (pc : Nat) (ls : Array Slot), decode cX0_raiseFloor pc = .ok (.return_, 1) → va_P (dC, dI) vwCl (xW G C (q_raiseFloor u h k)) H → va_D A (xW G C (q_raiseFloor u h k)) → va_S A s.heap H locs → W p l e (xR 1 22) s m args below meth c H locs 0 0 Q (F0 m pc ls []))) : W p l e (xR 1 22) s m args below meth c s.heap [] 0 0 Q (F0 m 0 ls []) := by
  obtain ⟨hx, hb, hml, hown, hts⟩ := B
  have hS : va_S A s.heap s.heap [] := va_S.rf
  have hfw : ∀ w ∈ u_ws RX0 TX0 9, w ∈ wsX0_raiseFloor := by decide +kernel
  refine lv_aload_n hx hb dX0_raiseFloor_0 rfl (lv_at hl 0 rfl) ?_
  refine va_get (D := (dC, dI)) (ci := 0) (v := .ref (G 1)) (C := RX0) (T := TX0) (N := 9) hx hb hts hfw hown hK hP 0 rfl rfl 0 (by decide) (hts (.fieldLink RX0 9 "MeldingHeaps" "kinds" "[I") (by decide +kernel)) (fun _ h9 => h9) rfl dX0_raiseFloor_1 ?_
  refine lv_iload_n hx hb dX0_raiseFloor_4 rfl (lv_at hl 1 rfl) ?_
  refine va_iald (f := (xkd u)) hx hb hK hP 1 0 rfl rfl (hh) dX0_raiseFloor_5 ?_
  refine lv_iconst (v := 2) hx hb dX0_raiseFloor_6 (by decide) ?_
  refine lv_icmp_ne (tgt := 26) hx hb dX0_raiseFloor_7 rfl (fun c7 => ?_) (fun c7 => ?_)
  · have e8 : q_raiseFloor u h k = u := by unfold q_raiseFloor; rw [if_neg c7]
    exact kk _ _ _ _ dX0_raiseFloor_26 (by rw [e8]; exact hP) (by rw [e8]; exact hD) hS
  · refine lv_aload_n hx hb dX0_raiseFloor_10 rfl (lv_at hl 0 rfl) ?_
    refine va_get (D := (dC, dI)) (ci := 0) (v := .ref (G 4)) (C := RX0) (T := TX0) (N := 9) hx hb hts hfw hown hK hP 0 rfl rfl 3 (by decide) (hts (.fieldLink RX0 20 "MeldingHeaps" "floors" "[J") (by decide +kernel)) (fun _ h9 => h9) rfl dX0_raiseFloor_11 ?_
    refine lv_iload_n hx hb dX0_raiseFloor_14 rfl (lv_at hl 1 rfl) ?_
    refine lv_aload_n hx hb dX0_raiseFloor_15 rfl (lv_at hl 0 rfl) ?_
    refine va_get (D := (dC, dI)) (ci := 0) (v := .ref (G 2)) (C := RX0) (T := TX0) (N := 9) hx hb hts hfw hown hK hP 0 rfl rfl 1 (by decide) (hts (.fieldLink RX0 13 "MeldingHeaps" "orders" "[I") (by decide +kernel)) (fun _ h9 => h9) rfl dX0_raiseFloor_16 ?_
    refine lv_iload_n hx hb dX0_raiseFloor_19 rfl (lv_at hl 1 rfl) ?_
    refine va_iald (f := (xod u)) hx hb hK hP 2 1 rfl rfl (hh) dX0_raiseFloor_20 ?_
    refine lv_lload_n hx hb dX0_raiseFloor_21 rfl (lv_at hl 2 rfl) ?_
    refine xcall_l (ws := (xW G C u)) (wc := []) (wr := (xW G C u)) (w1 := []) (v := (p_weight ((xod u) (h).toNatClampNeg) k)) [] [0, 1, 2, 3, 4, 5, 6, 7] (va_runS (As := [.int ((xod u) (h).toNatClampNeg), .long k]) (rest := [.int h, .ref (G 4)]) ⟨hx, hb, hml, hown, hts⟩ (c_weight l dC dI _ ((xod u) (h).toNatClampNeg) k) (va_cwS 2 hts gX0_raiseFloor_X0_weight rfl rfl rfl (by decide +kernel) ⟨Nat.le_of_ble_eq_true rfl, Nat.le_of_ble_eq_true rfl⟩) (xpreS hK) rfl rfl hl.1 rfl (lv_room (Nat.le_of_ble_eq_true rfl)) dX0_raiseFloor_22 ⟨Nat.zero_le _, Nat.zero_le _⟩) hP hD hS hA rfl rfl (by decide) (by decide) (fun H locs hP hD hS => ?_)
    have hP : va_P (dC, dI) vwCl (xW G C u) H := hP
    have hD : va_D A (xW G C u) := hD
    refine va_last (f := (xfl u)) hx hb hK hP hD hS 4 3 rfl rfl (hh) dX0_raiseFloor_25 (fun H locs hP hD hS => ?_)
    have hP : va_P (dC, dI) vwCl (xW G C (sFl u (vp_updL (xfl u) (h).toNatClampNeg (p_weight ((xod u) (h).toNatClampNeg) k)))) H := hP
    have hD : va_D A (xW G C (sFl u (vp_updL (xfl u) (h).toNatClampNeg (p_weight ((xod u) (h).toNatClampNeg) k)))) := hD
    have e8 : q_raiseFloor u h k = (sFl u (vp_updL (xfl u) (h).toNatClampNeg (p_weight ((xod u) (h).toNatClampNeg) k))) := by unfold q_raiseFloor; rw [if_pos c7]
    exact kk _ _ _ _ dX0_raiseFloor_26 (by rw [e8]; exact hP) (by rw [e8]; exact hD) hS
theorem c_raiseFloor (l : Launch) (dC : Nat → ClassId) (dI : Nat → Nat → Nat) (G : Nat → Nat) (C : Nat → ClassId) (sz : Nat) (u : xS) (h : Int32) (k : Int64) (hh : vp_in h 12) : xMv l yX0_raiseFloor wsX0_raiseFloor (xR 1 22) dC dI (xT C) [.ref (G 0), .int h, .long k] (xW G C u) (xW G C (q_raiseFloor u h k)) sz :=
  xmet_v (by decide) rfl (Nat.le_of_ble_eq_true rfl) rfl (fun p e s m args below meth c Q A ls B hK hA hP hD hl kk => b_raiseFloor hh B hK hA hP hD hl kk)
def p_isBefore (u : xS) (o : Int32) (a : Int32) (b : Int32) : Int32 :=
  (if (lg_cmp (p_weight o ((xky u) (a).toNatClampNeg)) (p_weight o ((xky u) (b).toNatClampNeg))) < 0 then
    1
  else (if (lg_cmp (p_weight o ((xky u) (a).toNatClampNeg)) (p_weight o ((xky u) (b).toNatClampNeg))) = 0 then
      (if b ≤ a then
        0
      else 1)
    else 0))
set_option maxHeartbeats 4000000 in
set_option maxRecDepth 100000 in
theorem b_isBefore {p : Program} {l : Launch} {e : Env} {s : State} {m : MethodId} {args : Array Value} {below : List Frame} {meth : Method} {c : Code} {Q : State → Prop} {A : Nat → Prop} {ls : Array Slot} {dC : Nat → ClassId} {dI : Nat → Nat → Nat} {G : Nat → Nat} {C : Nat → ClassId} {u : xS} {o : Int32} {a : Int32} {b : Int32} (ha2 : vp_in a 160) (hb2 : vp_in b 160) (B : CallFix p m c cX0_isBefore 8 s args wsX0_isBefore RX0) (hK : va_K (dC, dI) vwCl (xT C) s) (hA : ∀ q : Nat, s.heap.size ≤ q → A q) (hP : va_P (dC, dI) vwCl (xW G C u) s.heap) (hD : va_D A (xW G C u)) (hl : lv_has ls 8 [(0, .ref (G 0)), (1, .int o), (2, .int a), (3, .int b)]) (kk : (∀ (H : Heap) (locs : List Loc) (pc : Nat) (ls : Array Slot), decode cX0_isBefore pc = .ok (.ireturn, 1) → va_P (dC, dI) vwCl (xW G C u) H → va_D A (xW G C u) → va_S A s.heap H locs → W p l e (xR 1 22) s m args below meth c H locs 0 0 Q (F0 m pc ls [.int (p_isBefore u o a b)]))) : W p l e (xR 1 22) s m args below meth c s.heap [] 0 0 Q (F0 m 0 ls []) := by
  obtain ⟨hx, hb, hml, hown, hts⟩ := B
  have hS : va_S A s.heap s.heap [] := va_S.rf
  have hfw : ∀ w ∈ u_ws RX0 TX0 9, w ∈ wsX0_isBefore := by decide +kernel
  refine lv_iload_n hx hb dX0_isBefore_0 rfl (lv_at hl 1 rfl) ?_
  refine lv_aload_n hx hb dX0_isBefore_1 rfl (lv_at hl 0 rfl) ?_
  refine va_get (D := (dC, dI)) (ci := 0) (v := .ref (G 5)) (C := RX0) (T := TX0) (N := 9) hx hb hts hfw hown hK hP 0 rfl rfl 5 (by decide) (hts (.fieldLink RX0 28 "MeldingHeaps" "keys" "[J") (by decide +kernel)) (fun _ h9 => h9) rfl dX0_isBefore_2 ?_
  refine lv_iload_n hx hb dX0_isBefore_5 rfl (lv_at hl 2 rfl) ?_
  refine va_lald (f := (xky u)) hx hb hK hP 5 4 rfl rfl (ha2) dX0_isBefore_6 ?_
  refine xcall_l (ws := (xW G C u)) (wc := []) (wr := (xW G C u)) (w1 := []) (v := (p_weight o ((xky u) (a).toNatClampNeg))) [] [0, 1, 2, 3, 4, 5, 6, 7] (va_runS (As := [.int o, .long ((xky u) (a).toNatClampNeg)]) (rest := []) ⟨hx, hb, hml, hown, hts⟩ (c_weight l dC dI _ o ((xky u) (a).toNatClampNeg)) (va_cwS 2 hts gX0_isBefore_X0_weight rfl rfl rfl (by decide +kernel) ⟨Nat.le_of_ble_eq_true rfl, Nat.le_of_ble_eq_true rfl⟩) (xpreS hK) rfl rfl hl.1 rfl (lv_room (Nat.le_of_ble_eq_true rfl)) dX0_isBefore_7 ⟨Nat.zero_le _, Nat.zero_le _⟩) hP hD hS hA rfl rfl (by decide) (by decide) (fun H locs hP hD hS => ?_)
  have hP : va_P (dC, dI) vwCl (xW G C u) H := hP
  have hD : va_D A (xW G C u) := hD
  refine lv_lstore (lv' := [(4, .long (p_weight o ((xky u) (a).toNatClampNeg))), (0, .ref (G 0)), (1, .int o), (2, .int a), (3, .int b)]) hx hb dX0_isBefore_10 hl (by decide) rfl (fun ls hl => ?_)
  refine lv_iload_n hx hb dX0_isBefore_12 rfl (lv_at hl 2 rfl) ?_
  refine lv_aload_n hx hb dX0_isBefore_13 rfl (lv_at hl 1 rfl) ?_
  refine va_get (D := (dC, dI)) (ci := 0) (v := .ref (G 5)) (C := RX0) (T := TX0) (N := 9) hx hb hts hfw hown hK hP 0 rfl rfl 5 (by decide) (hts (.fieldLink RX0 28 "MeldingHeaps" "keys" "[J") (by decide +kernel)) (fun _ h9 => h9) rfl dX0_isBefore_14 ?_
  refine lv_iload_n hx hb dX0_isBefore_17 rfl (lv_at hl 4 rfl) ?_
  refine va_lald (f := (xky u)) hx hb hK hP 5 4 rfl rfl (hb2) dX0_isBefore_18 ?_
  refine xcall_l (ws := (xW G C u)) (wc := []) (wr := (xW G C u)) (w1 := []) (v := (p_weight o ((xky u) (b).toNatClampNeg))) [] [0, 1, 2, 3, 4, 5, 6, 7] (va_runS (As := [.int o, .long ((xky u) (b).toNatClampNeg)]) (rest := []) ⟨hx, hb, hml, hown, hts⟩ (c_weight l dC dI _ o ((xky u) (b).toNatClampNeg)) (va_cwS 2 hts gX0_isBefore_X0_weight rfl rfl rfl (by decide +kernel) ⟨Nat.le_of_ble_eq_true rfl, Nat.le_of_ble_eq_true rfl⟩) (xpreS hK) rfl rfl hl.1 rfl (lv_room (Nat.le_of_ble_eq_true rfl)) dX0_isBefore_19 ⟨Nat.zero_le _, Nat.zero_le _⟩) hP hD hS hA rfl rfl (by decide) (by decide) (fun H locs hP hD hS => ?_)
  have hP : va_P (dC, dI) vwCl (xW G C u) H := hP
  have hD : va_D A (xW G C u) := hD
  refine lv_lstore (lv' := [(6, .long (p_weight o ((xky u) (b).toNatClampNeg))), (4, .long (p_weight o ((xky u) (a).toNatClampNeg))), (0, .ref (G 0)), (1, .int o), (2, .int a), (3, .int b)]) hx hb dX0_isBefore_22 hl (by decide) rfl (fun ls hl => ?_)
  refine lv_lload hx hb dX0_isBefore_24 (lv_at hl 1 rfl) ?_
  refine lv_lload hx hb dX0_isBefore_26 (lv_at hl 0 rfl) ?_
  refine W.lcmp hx hb dX0_isBefore_28 ?_
  refine lv_if_lt (tgt := 45) hx hb dX0_isBefore_29 rfl (fun c29 => ?_) (fun c29 => ?_)
  · refine lv_iconst (v := 1) hx hb dX0_isBefore_45 (by decide) ?_
    refine lv_goto (tgt := 50) hx hb dX0_isBefore_46 rfl ?_
    have e9 : p_isBefore u o a b = 1 := by unfold p_isBefore; rw [if_pos c29]
    exact W.eq (congrArg (fun z => F0 m 50 ls [.int z]) e9.symm) (kk _ _ _ _ dX0_isBefore_50 hP hD hS)
  · refine lv_lload hx hb dX0_isBefore_32 (lv_at hl 1 rfl) ?_
    refine lv_lload hx hb dX0_isBefore_34 (lv_at hl 0 rfl) ?_
    refine W.lcmp hx hb dX0_isBefore_36 ?_
    refine lv_if_ne (tgt := 49) hx hb dX0_isBefore_37 rfl (fun c37 => ?_) (fun c37 => ?_)
    · refine lv_iconst (v := 0) hx hb dX0_isBefore_49 (by decide) ?_
      have e9 : p_isBefore u o a b = 0 := by unfold p_isBefore; rw [if_neg c29, if_neg c37]
      exact W.eq (congrArg (fun z => F0 m 50 ls [.int z]) e9.symm) (kk _ _ _ _ dX0_isBefore_50 hP hD hS)
    · refine lv_iload_n hx hb dX0_isBefore_40 rfl (lv_at hl 4 rfl) ?_
      refine lv_iload_n hx hb dX0_isBefore_41 rfl (lv_at hl 5 rfl) ?_
      refine lv_icmp_ge (tgt := 49) hx hb dX0_isBefore_42 rfl (fun c42 => ?_) (fun c42 => ?_)
      · refine lv_iconst (v := 0) hx hb dX0_isBefore_49 (by decide) ?_
        have e9 : p_isBefore u o a b = 0 := by unfold p_isBefore; rw [if_neg c29, if_pos c37, if_pos c42]
        exact W.eq (congrArg (fun z => F0 m 50 ls [.int z]) e9.symm) (kk _ _ _ _ dX0_isBefore_50 hP hD hS)
      · refine lv_iconst (v := 1) hx hb dX0_isBefore_45 (by decide) ?_
        refine lv_goto (tgt := 50) hx hb dX0_isBefore_46 rfl ?_
        have e9 : p_isBefore u o a b = 1 := by unfold p_isBefore; rw [if_neg c29, if_pos c37, if_neg c42]
        exact W.eq (congrArg (fun z => F0 m 50 ls [.int z]) e9.symm) (kk _ _ _ _ dX0_isBefore_50 hP hD hS)
theorem c_isBefore (l : Launch) (dC : Nat → ClassId) (dI : Nat → Nat → Nat) (G : Nat → Nat) (C : Nat → ClassId) (sz : Nat) (u : xS) (o : Int32) (a : Int32) (b : Int32) (ha2 : vp_in a 160) (hb2 : vp_in b 160) : xMi l yX0_isBefore wsX0_isBefore (xR 1 22) dC dI (xT C) [.ref (G 0), .int o, .int a, .int b] (xW G C u) (xW G C u) (p_isBefore u o a b) sz :=
  xmet_i (by decide) rfl (by unfold p_isBefore; (repeat' split) <;> rfl) (Nat.le_of_ble_eq_true rfl) rfl (fun p e s m args below meth c Q A ls B hK hA hP hD hl kk => b_isBefore ha2 hb2 B hK hA hP hD hl kk)
