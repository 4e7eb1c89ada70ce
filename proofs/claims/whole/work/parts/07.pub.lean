theorem cnt_in {n N : Nat} {X : Int32} (c : nI n < X) (hX : X = nI N := by decide) (hN : N < 2 ^ 31 := by decide) (hn : n < 2 ^ 31 := by omega) : vp_in (nI n) N := by
  subst hX
  exact vp_in_nI ((nI_ltI hn hN).mp c) hN
theorem in_refL {u : xS} {h : Int32} (hm : xm u ≤ 12) (c : p_refusalOfLastOf u h = 0) : vp_in h 12 := by
  unfold p_refusalOfLastOf at c
  by_cases h1 : p_refusalOfHeap u h = 0
  · exact in_refH hm h1
  · rw [if_neg h1] at c; exact absurd c h1
theorem refH_neg {u : xS} {h : Int32} (c : ¬ p_refusalOfHeap u h = 0) : p_refusalOfHeap u h < 0 := by
  unfold p_refusalOfHeap at c ⊢
  by_cases h1 : p_isHeap u h = 0
  · rw [if_pos h1]; decide
  · rw [if_neg h1] at c ⊢
    by_cases h2 : (xab u h.toNatClampNeg) = 0
    · rw [if_pos h2] at c; exact absurd rfl c
    · rw [if_neg h2]; decide
theorem refL_neg {u : xS} {h : Int32} (c : ¬ p_refusalOfLastOf u h = 0) : p_refusalOfLastOf u h < 0 := by
  unfold p_refusalOfLastOf at c ⊢
  by_cases h1 : p_refusalOfHeap u h = 0
  · rw [if_pos h1] at c ⊢
    by_cases h2 : (xkd u h.toNatClampNeg) = 1
    · rw [if_pos h2] at c; exact absurd rfl c
    · rw [if_neg h2]; decide
  · rw [if_neg h1]; exact refH_neg h1
def p_first (u : xS) (h : Int32) : Int32 :=
  (if (p_refusalOfHeap u h) = 0 then
    (p_findFirst u h)
  else (p_refusalOfHeap u h))
set_option maxHeartbeats 4000000 in
set_option maxRecDepth 100000 in
theorem b_first {p : Program} {l : Launch} {e : Env} {s : State} {m : MethodId} {args : Array Value} {below : List Frame} {meth : Method} {c : Code} {Q : State → Prop} {A : Nat → Prop} {ls : Array Slot} {dC : Nat → ClassId} {dI : Nat → Nat → Nat} {G : Nat → Nat} {C : Nat → ClassId} {u : xS} {h : Int32} (hm : xm u ≤ 12) (hn : xn u ≤ 160) (B : CallFix p m c cX0_first 3 s args wsX0_first RX0) (hK : va_K (dC, dI) vwCl (xT C) s) (hA : ∀ q : Nat, s.heap.size ≤ q → A q) (hP : va_P (dC, dI) vwCl (xW G C u) s.heap) (hD : va_D A (xW G C u)) (hl : lv_has ls 3 [(0, .ref (G 0)), (1, .int h)]) (kk : (∀ (H : Heap) (locs : List Loc) (pc : Nat) (ls : Array Slot), decode cX0_first pc = .ok (.ireturn, 1) → va_P (dC, dI) vwCl (xW G C u) H → va_D A (xW G C u) → va_S A s.heap H locs → W p l e (xR 3 72) s m args below meth c H locs 0 0 Q (F0 m pc ls [.int (p_first u h)]))) : W p l e (xR 3 72) s m args below meth c s.heap [] 0 0 Q (F0 m 0 ls []) := by
  obtain ⟨hx, hb, hml, hown, hts⟩ := B
  have hS : va_S A s.heap s.heap [] := va_S.rf
  refine lv_aload_n hx hb dX0_first_0 rfl (lv_at hl 0 rfl) ?_
  refine lv_iload_n hx hb dX0_first_1 rfl (lv_at hl 1 rfl) ?_
  refine xcall_i (ws := (xW G C u)) (wc := (xW G C u)) (wr := []) (w1 := (xW G C u)) (v := (p_refusalOfHeap u h)) [0, 1, 2, 3, 4, 5, 6, 7] [] (va_runV (As := [.int h]) (rest := []) ⟨hx, hb, hml, hown, hts⟩ (c_refusalOfHeap l dC dI G C _ u h hm) (cwV 1 hts gX0_first_X0_refusalOfHeap rfl rfl rfl (by decide +kernel) ⟨Nat.le_of_ble_eq_true rfl, Nat.le_of_ble_eq_true rfl⟩) (xpreV (q0 := 0) (ci := 0) (qc := (RX0, TX0, 9)) hK hP hD rfl rfl) rfl rfl hl.1 rfl (lv_room (Nat.le_of_ble_eq_true rfl)) dX0_first_2 ⟨Nat.zero_le _, Nat.zero_le _⟩) hP hD hS hA rfl rfl (by decide) (by decide) (fun H locs hP hD hS => ?_)
  have hP : va_P (dC, dI) vwCl (xW G C u) H := hP
  have hD : va_D A (xW G C u) := hD
  refine lv_istore_n (lv' := [(2, .int (p_refusalOfHeap u h)), (0, .ref (G 0)), (1, .int h)]) hx hb dX0_first_5 rfl hl (by decide) rfl (fun ls hl => ?_)
  refine lv_iload_n hx hb dX0_first_6 rfl (lv_at hl 0 rfl) ?_
  refine lv_if_eq (tgt := 14) hx hb dX0_first_7 rfl (fun c7 => ?_) (fun c7 => ?_)
  · refine lv_aload_n hx hb dX0_first_14 rfl (lv_at hl 1 rfl) ?_
    refine lv_iload_n hx hb dX0_first_15 rfl (lv_at hl 2 rfl) ?_
    refine xcall_i (ws := (xW G C u)) (wc := (xW G C u)) (wr := []) (w1 := (xW G C u)) (v := (p_findFirst u h)) [0, 1, 2, 3, 4, 5, 6, 7] [] (va_runV (As := [.int h]) (rest := []) ⟨hx, hb, hml, hown, hts⟩ (c_findFirst l dC dI G C _ u h hn (in_refH hm c7)) (cwV 1 hts gX0_first_X0_findFirst rfl rfl rfl (by decide +kernel) ⟨Nat.le_of_ble_eq_true rfl, Nat.le_of_ble_eq_true rfl⟩) (xpreV (q0 := 0) (ci := 0) (qc := (RX0, TX0, 9)) hK hP hD rfl rfl) rfl rfl hl.1 rfl (lv_room (Nat.le_of_ble_eq_true rfl)) dX0_first_16 ⟨Nat.zero_le _, Nat.zero_le _⟩) hP hD hS hA rfl rfl (by decide) (by decide) (fun H locs hP hD hS => ?_)
    have hP : va_P (dC, dI) vwCl (xW G C u) H := hP
    have hD : va_D A (xW G C u) := hD
    have e9 : p_first u h = (p_findFirst u h) := by unfold p_first; rw [if_pos c7]
    exact W.eq (congrArg (fun z => F0 m 19 ls [.int z]) e9.symm) (kk _ _ _ _ dX0_first_19 hP hD hS)
  · refine lv_iload_n hx hb dX0_first_10 rfl (lv_at hl 0 rfl) ?_
    refine lv_goto (tgt := 19) hx hb dX0_first_11 rfl ?_
    have e9 : p_first u h = (p_refusalOfHeap u h) := by unfold p_first; rw [if_neg c7]
    exact W.eq (congrArg (fun z => F0 m 19 ls [.int z]) e9.symm) (kk _ _ _ _ dX0_first_19 hP hD hS)
theorem c_first (l : Launch) (dC : Nat → ClassId) (dI : Nat → Nat → Nat) (G : Nat → Nat) (C : Nat → ClassId) (sz : Nat) (u : xS) (h : Int32) (hm : xm u ≤ 12) (hn : xn u ≤ 160) : xMi l yX0_first wsX0_first (xR 3 72) dC dI (xT C) [.ref (G 0), .int h] (xW G C u) (xW G C u) (p_first u h) sz :=
  xmet_i (by decide) rfl rfl (Nat.le_of_ble_eq_true rfl) rfl (fun p e s m args below meth c Q A ls B hK hA hP hD hl kk => b_first hm hn B hK hA hP hD hl kk)
def p_last (u : xS) (h : Int32) : Int32 :=
  (if (p_refusalOfLastOf u h) = 0 then
    (p_findLast u h)
  else (p_refusalOfLastOf u h))
set_option maxHeartbeats 4000000 in
set_option maxRecDepth 100000 in
theorem b_last {p : Program} {l : Launch} {e : Env} {s : State} {m : MethodId} {args : Array Value} {below : List Frame} {meth : Method} {c : Code} {Q : State → Prop} {A : Nat → Prop} {ls : Array Slot} {dC : Nat → ClassId} {dI : Nat → Nat → Nat} {G : Nat → Nat} {C : Nat → ClassId} {u : xS} {h : Int32} (hm : xm u ≤ 12) (hn : xn u ≤ 160) (B : CallFix p m c cX0_last 3 s args wsX0_last RX0) (hK : va_K (dC, dI) vwCl (xT C) s) (hA : ∀ q : Nat, s.heap.size ≤ q → A q) (hP : va_P (dC, dI) vwCl (xW G C u) s.heap) (hD : va_D A (xW G C u)) (hl : lv_has ls 3 [(0, .ref (G 0)), (1, .int h)]) (kk : (∀ (H : Heap) (locs : List Loc) (pc : Nat) (ls : Array Slot), decode cX0_last pc = .ok (.ireturn, 1) → va_P (dC, dI) vwCl (xW G C u) H → va_D A (xW G C u) → va_S A s.heap H locs → W p l e (xR 3 72) s m args below meth c H locs 0 0 Q (F0 m pc ls [.int (p_last u h)]))) : W p l e (xR 3 72) s m args below meth c s.heap [] 0 0 Q (F0 m 0 ls []) := by
  obtain ⟨hx, hb, hml, hown, hts⟩ := B
  have hS : va_S A s.heap s.heap [] := va_S.rf
  refine lv_aload_n hx hb dX0_last_0 rfl (lv_at hl 0 rfl) ?_
  refine lv_iload_n hx hb dX0_last_1 rfl (lv_at hl 1 rfl) ?_
  refine xcall_i (ws := (xW G C u)) (wc := (xW G C u)) (wr := []) (w1 := (xW G C u)) (v := (p_refusalOfLastOf u h)) [0, 1, 2, 3, 4, 5, 6, 7] [] (va_runV (As := [.int h]) (rest := []) ⟨hx, hb, hml, hown, hts⟩ (c_refusalOfLastOf l dC dI G C _ u h hm) (cwV 1 hts gX0_last_X0_refusalOfLastOf rfl rfl rfl (by decide +kernel) ⟨Nat.le_of_ble_eq_true rfl, Nat.le_of_ble_eq_true rfl⟩) (xpreV (q0 := 0) (ci := 0) (qc := (RX0, TX0, 9)) hK hP hD rfl rfl) rfl rfl hl.1 rfl (lv_room (Nat.le_of_ble_eq_true rfl)) dX0_last_2 ⟨Nat.zero_le _, Nat.zero_le _⟩) hP hD hS hA rfl rfl (by decide) (by decide) (fun H locs hP hD hS => ?_)
  have hP : va_P (dC, dI) vwCl (xW G C u) H := hP
  have hD : va_D A (xW G C u) := hD
  refine lv_istore_n (lv' := [(2, .int (p_refusalOfLastOf u h)), (0, .ref (G 0)), (1, .int h)]) hx hb dX0_last_5 rfl hl (by decide) rfl (fun ls hl => ?_)
  refine lv_iload_n hx hb dX0_last_6 rfl (lv_at hl 0 rfl) ?_
  refine lv_if_eq (tgt := 14) hx hb dX0_last_7 rfl (fun c7 => ?_) (fun c7 => ?_)
  · refine lv_aload_n hx hb dX0_last_14 rfl (lv_at hl 1 rfl) ?_
    refine lv_iload_n hx hb dX0_last_15 rfl (lv_at hl 2 rfl) ?_
    refine xcall_i (ws := (xW G C u)) (wc := (xW G C u)) (wr := []) (w1 := (xW G C u)) (v := (p_findLast u h)) [0, 1, 2, 3, 4, 5, 6, 7] [] (va_runV (As := [.int h]) (rest := []) ⟨hx, hb, hml, hown, hts⟩ (c_findLast l dC dI G C _ u h hn (in_refL hm c7)) (cwV 1 hts gX0_last_X0_findLast rfl rfl rfl (by decide +kernel) ⟨Nat.le_of_ble_eq_true rfl, Nat.le_of_ble_eq_true rfl⟩) (xpreV (q0 := 0) (ci := 0) (qc := (RX0, TX0, 9)) hK hP hD rfl rfl) rfl rfl hl.1 rfl (lv_room (Nat.le_of_ble_eq_true rfl)) dX0_last_16 ⟨Nat.zero_le _, Nat.zero_le _⟩) hP hD hS hA rfl rfl (by decide) (by decide) (fun H locs hP hD hS => ?_)
    have hP : va_P (dC, dI) vwCl (xW G C u) H := hP
    have hD : va_D A (xW G C u) := hD
    have e9 : p_last u h = (p_findLast u h) := by unfold p_last; rw [if_pos c7]
    exact W.eq (congrArg (fun z => F0 m 19 ls [.int z]) e9.symm) (kk _ _ _ _ dX0_last_19 hP hD hS)
  · refine lv_iload_n hx hb dX0_last_10 rfl (lv_at hl 0 rfl) ?_
    refine lv_goto (tgt := 19) hx hb dX0_last_11 rfl ?_
    have e9 : p_last u h = (p_refusalOfLastOf u h) := by unfold p_last; rw [if_neg c7]
    exact W.eq (congrArg (fun z => F0 m 19 ls [.int z]) e9.symm) (kk _ _ _ _ dX0_last_19 hP hD hS)
theorem c_last (l : Launch) (dC : Nat → ClassId) (dI : Nat → Nat → Nat) (G : Nat → Nat) (C : Nat → ClassId) (sz : Nat) (u : xS) (h : Int32) (hm : xm u ≤ 12) (hn : xn u ≤ 160) : xMi l yX0_last wsX0_last (xR 3 72) dC dI (xT C) [.ref (G 0), .int h] (xW G C u) (xW G C u) (p_last u h) sz :=
  xmet_i (by decide) rfl rfl (Nat.le_of_ble_eq_true rfl) rfl (fun p e s m args below meth c Q A ls B hK hA hP hD hl kk => b_last hm hn B hK hA hP hD hl kk)
theorem first_in {u : xS} {h : Int32} (hm : xm u ≤ 12) (hn : xn u ≤ 160) (c : ¬ p_first u h < 0) : vp_in h 12 ∧ vp_in (p_first u h) 160 := by
  unfold p_first at c ⊢
  by_cases h1 : p_refusalOfHeap u h = 0
  · rw [if_pos h1] at c ⊢
    refine ⟨in_refH hm h1, findFirst_vp hn (fun q => c ?_)⟩
    show p_findFirstL u h (xn u) < 0
    rw [q]; decide
  · rw [if_neg h1] at c; exact absurd (refH_neg h1) c
theorem last_in {u : xS} {h : Int32} (hm : xm u ≤ 12) (hn : xn u ≤ 160) (c : ¬ p_last u h < 0) : vp_in h 12 ∧ vp_in (p_last u h) 160 := by
  unfold p_last at c ⊢
  by_cases h1 : p_refusalOfLastOf u h = 0
  · rw [if_pos h1] at c ⊢
    refine ⟨in_refL hm h1, findLast_vp hn (fun q => c ?_)⟩
    show p_findLastL u h (xn u) < 0
    rw [q]; decide
  · rw [if_neg h1] at c; exact absurd (refL_neg h1) c
def p_open (u : xS) (a : Int32) (b : Int32) : Int32 :=
  (if a < 0 then
    (-2)
  else (if 2 < a then
      (-2)
    else (if b < 0 then
        (-2)
      else (if b ≤ 3 then
          (if (nI (xm u)) < 12 then
            (nI (xm u))
          else (-8))
        else (-2)))))
def q_open (u : xS) (a : Int32) (b : Int32) : xS :=
  (if a < 0 then
    u
  else (if 2 < a then
      u
    else (if b < 0 then
        u
      else (if b ≤ 3 then
          (if (nI (xm u)) < 12 then
            (sM (sFl (sAb (sOd (sKd u (upd (xkd u) ((nI (xm u))).toNatClampNeg a)) (upd (xod u) ((nI (xm u))).toNatClampNeg b)) (upd (xab u) ((nI (xm u))).toNatClampNeg 0)) (vp_updL (xfl u) ((nI (xm u))).toNatClampNeg (-9223372036854775808))) ((xm u) + 1))
          else u)
        else u))))
set_option maxHeartbeats 4000000 in
set_option maxRecDepth 100000 in
theorem b_open {p : Program} {l : Launch} {e : Env} {s : State} {m : MethodId} {args : Array Value} {below : List Frame} {meth : Method} {c : Code} {Q : State → Prop} {A : Nat → Prop} {ls : Array Slot} {dC : Nat → ClassId} {dI : Nat → Nat → Nat} {G : Nat → Nat} {C : Nat → ClassId} {u : xS} {a : Int32} {b : Int32} (hm : xm u ≤ 12) (B : CallFix p m c cX0_open 4 s args wsX0_open RX0) (hK : va_K (dC, dI) vwCl (xT C) s) (hA : ∀ q : Nat, s.heap.size ≤ q → A q) (hP : va_P (dC, dI) vwCl (xW G C u) s.heap) (hD : va_D A (xW G C u)) (hl : lv_has ls 4 [(0, .ref (G 0)), (1, .int a), (2, .int b)]) (kk : (∀ (H : Heap) (locs : List Loc) (pc : Nat) (ls : Array Slot), decode cX0_open pc = .ok (.ireturn, 1) → va_P (dC, dI) vwCl (xW G C (q_open u a b)) H → va_D A (xW G C (q_open u a b)) → va_S A s.heap H locs → W p l e (xR 0 0) s m args below meth c H locs 0 0 Q (F0 m pc ls [.int (p_open u a b)]))) : W p l e (xR 0 0) s m args below meth c s.heap [] 0 0 Q (F0 m 0 ls []) := by
  obtain ⟨hx, hb, hml, hown, hts⟩ := B
  have hS : va_S A s.heap s.heap [] := va_S.rf
  have hfw : ∀ w ∈ u_ws RX0 TX0 9, w ∈ wsX0_open := by decide +kernel
  refine lv_iload_n hx hb dX0_open_0 rfl (lv_at hl 1 rfl) ?_
  refine lv_if_lt (tgt := 18) hx hb dX0_open_1 rfl (fun c1 => ?_) (fun c1 => ?_)
  · refine lv_bipush (v := (-2)) hx hb dX0_open_18 (by decide) ?_
    have e8 : q_open u a b = u := by unfold q_open; rw [if_pos c1]
    have e9 : p_open u a b = (-2) := by unfold p_open; rw [if_pos c1]
    exact W.eq (congrArg (fun z => F0 m 20 ls [.int z]) e9.symm) (kk _ _ _ _ dX0_open_20 (by rw [e8]; exact hP) (by rw [e8]; exact hD) hS)
  · refine lv_iload_n hx hb dX0_open_4 rfl (lv_at hl 1 rfl) ?_
    refine lv_iconst (v := 2) hx hb dX0_open_5 (by decide) ?_
    refine lv_icmp_gt (tgt := 18) hx hb dX0_open_6 rfl (fun c6 => ?_) (fun c6 => ?_)
    · refine lv_bipush (v := (-2)) hx hb dX0_open_18 (by decide) ?_
      have e8 : q_open u a b = u := by unfold q_open; rw [if_neg c1, if_pos c6]
      have e9 : p_open u a b = (-2) := by unfold p_open; rw [if_neg c1, if_pos c6]
      exact W.eq (congrArg (fun z => F0 m 20 ls [.int z]) e9.symm) (kk _ _ _ _ dX0_open_20 (by rw [e8]; exact hP) (by rw [e8]; exact hD) hS)
    · refine lv_iload_n hx hb dX0_open_9 rfl (lv_at hl 2 rfl) ?_
      refine lv_if_lt (tgt := 18) hx hb dX0_open_10 rfl (fun c10 => ?_) (fun c10 => ?_)
      · refine lv_bipush (v := (-2)) hx hb dX0_open_18 (by decide) ?_
        have e8 : q_open u a b = u := by unfold q_open; rw [if_neg c1, if_neg c6, if_pos c10]
        have e9 : p_open u a b = (-2) := by unfold p_open; rw [if_neg c1, if_neg c6, if_pos c10]
        exact W.eq (congrArg (fun z => F0 m 20 ls [.int z]) e9.symm) (kk _ _ _ _ dX0_open_20 (by rw [e8]; exact hP) (by rw [e8]; exact hD) hS)
      · refine lv_iload_n hx hb dX0_open_13 rfl (lv_at hl 2 rfl) ?_
        refine lv_iconst (v := 3) hx hb dX0_open_14 (by decide) ?_
        refine lv_icmp_le (tgt := 21) hx hb dX0_open_15 rfl (fun c15 => ?_) (fun c15 => ?_)
        · refine lv_aload_n hx hb dX0_open_21 rfl (lv_at hl 0 rfl) ?_
          refine va_get (D := (dC, dI)) (ci := 0) (v := .int (nI (xm u))) (C := RX0) (T := TX0) (N := 9) hx hb hts hfw hown hK hP 0 rfl rfl 4 (by decide) (hts (.fieldLink RX0 24 "MeldingHeaps" "heapCount" "I") (by decide +kernel)) (fun _ h9 => h9) rfl dX0_open_22 ?_
          refine lv_bipush (v := 12) hx hb dX0_open_25 (by decide) ?_
          refine lv_icmp_lt (tgt := 33) hx hb dX0_open_27 rfl (fun c27 => ?_) (fun c27 => ?_)
          · refine lv_aload_n hx hb dX0_open_33 rfl (lv_at hl 0 rfl) ?_
            refine va_get (D := (dC, dI)) (ci := 0) (v := .int (nI (xm u))) (C := RX0) (T := TX0) (N := 9) hx hb hts hfw hown hK hP 0 rfl rfl 4 (by decide) (hts (.fieldLink RX0 24 "MeldingHeaps" "heapCount" "I") (by decide +kernel)) (fun _ h9 => h9) rfl dX0_open_34 ?_
            refine lv_istore_n (lv' := [(3, .int (nI (xm u))), (0, .ref (G 0)), (1, .int a), (2, .int b)]) hx hb dX0_open_37 rfl hl (by decide) rfl (fun ls hl => ?_)
            refine lv_aload_n hx hb dX0_open_38 rfl (lv_at hl 1 rfl) ?_
            refine va_get (D := (dC, dI)) (ci := 0) (v := .ref (G 1)) (C := RX0) (T := TX0) (N := 9) hx hb hts hfw hown hK hP 0 rfl rfl 0 (by decide) (hts (.fieldLink RX0 9 "MeldingHeaps" "kinds" "[I") (by decide +kernel)) (fun _ h9 => h9) rfl dX0_open_39 ?_
            refine lv_iload_n hx hb dX0_open_42 rfl (lv_at hl 0 rfl) ?_
            refine lv_iload_n hx hb dX0_open_43 rfl (lv_at hl 2 rfl) ?_
            refine va_iast (f := (xkd u)) hx hb hK hP hD hS 1 0 rfl rfl (cnt_in c27) dX0_open_44 (fun H locs hP hD hS => ?_)
            have hP : va_P (dC, dI) vwCl (xW G C (sKd u (upd (xkd u) ((nI (xm u))).toNatClampNeg a))) H := hP
            have hD : va_D A (xW G C (sKd u (upd (xkd u) ((nI (xm u))).toNatClampNeg a))) := hD
            refine lv_aload_n hx hb dX0_open_45 rfl (lv_at hl 1 rfl) ?_
            refine va_get (D := (dC, dI)) (ci := 0) (v := .ref (G 2)) (C := RX0) (T := TX0) (N := 9) hx hb hts hfw hown hK hP 0 rfl rfl 1 (by decide) (hts (.fieldLink RX0 13 "MeldingHeaps" "orders" "[I") (by decide +kernel)) (fun _ h9 => h9) rfl dX0_open_46 ?_
            refine lv_iload_n hx hb dX0_open_49 rfl (lv_at hl 0 rfl) ?_
            refine lv_iload_n hx hb dX0_open_50 rfl (lv_at hl 3 rfl) ?_
            refine va_iast (f := (xod u)) hx hb hK hP hD hS 2 1 rfl rfl (cnt_in c27) dX0_open_51 (fun H locs hP hD hS => ?_)
            have hP : va_P (dC, dI) vwCl (xW G C (sOd (sKd u (upd (xkd u) ((nI (xm u))).toNatClampNeg a)) (upd (xod u) ((nI (xm u))).toNatClampNeg b))) H := hP
            have hD : va_D A (xW G C (sOd (sKd u (upd (xkd u) ((nI (xm u))).toNatClampNeg a)) (upd (xod u) ((nI (xm u))).toNatClampNeg b))) := hD
            refine lv_aload_n hx hb dX0_open_52 rfl (lv_at hl 1 rfl) ?_
            refine va_get (D := (dC, dI)) (ci := 0) (v := .ref (G 3)) (C := RX0) (T := TX0) (N := 9) hx hb hts hfw hown hK hP 0 rfl rfl 2 (by decide) (hts (.fieldLink RX0 16 "MeldingHeaps" "absorbed" "[Z") (by decide +kernel)) (fun _ h9 => h9) rfl dX0_open_53 ?_
            refine lv_iload_n hx hb dX0_open_56 rfl (lv_at hl 0 rfl) ?_
            refine lv_iconst (v := 0) hx hb dX0_open_57 (by decide) ?_
            refine va_zast (f := (xab u)) hx hb hK hP hD hS 3 2 rfl rfl (cnt_in c27) dX0_open_58 (fun H locs hP hD hS => ?_)
            have hP : va_P (dC, dI) vwCl (xW G C (sAb (sOd (sKd u (upd (xkd u) ((nI (xm u))).toNatClampNeg a)) (upd (xod u) ((nI (xm u))).toNatClampNeg b)) (upd (xab u) ((nI (xm u))).toNatClampNeg 0))) H := hP
            have hD : va_D A (xW G C (sAb (sOd (sKd u (upd (xkd u) ((nI (xm u))).toNatClampNeg a)) (upd (xod u) ((nI (xm u))).toNatClampNeg b)) (upd (xab u) ((nI (xm u))).toNatClampNeg 0))) := hD
            refine lv_aload_n hx hb dX0_open_59 rfl (lv_at hl 1 rfl) ?_
            refine va_get (D := (dC, dI)) (ci := 0) (v := .ref (G 4)) (C := RX0) (T := TX0) (N := 9) hx hb hts hfw hown hK hP 0 rfl rfl 3 (by decide) (hts (.fieldLink RX0 20 "MeldingHeaps" "floors" "[J") (by decide +kernel)) (fun _ h9 => h9) rfl dX0_open_60 ?_
            refine lv_iload_n hx hb dX0_open_63 rfl (lv_at hl 0 rfl) ?_
            refine lv_ldc2 (v := (-9223372036854775808)) hx hb hown (hts (.constantLong RX0 40 (-9223372036854775808)) (by decide +kernel)) dX0_open_64 ?_
            refine va_last (f := (xfl u)) hx hb hK hP hD hS 4 3 rfl rfl (cnt_in c27) dX0_open_67 (fun H locs hP hD hS => ?_)
            have hP : va_P (dC, dI) vwCl (xW G C (sFl (sAb (sOd (sKd u (upd (xkd u) ((nI (xm u))).toNatClampNeg a)) (upd (xod u) ((nI (xm u))).toNatClampNeg b)) (upd (xab u) ((nI (xm u))).toNatClampNeg 0)) (vp_updL (xfl u) ((nI (xm u))).toNatClampNeg (-9223372036854775808)))) H := hP
            have hD : va_D A (xW G C (sFl (sAb (sOd (sKd u (upd (xkd u) ((nI (xm u))).toNatClampNeg a)) (upd (xod u) ((nI (xm u))).toNatClampNeg b)) (upd (xab u) ((nI (xm u))).toNatClampNeg 0)) (vp_updL (xfl u) ((nI (xm u))).toNatClampNeg (-9223372036854775808)))) := hD
            refine lv_aload_n hx hb dX0_open_68 rfl (lv_at hl 1 rfl) ?_
            refine lv_dup hx hb dX0_open_69 rfl ?_
            refine va_get (D := (dC, dI)) (ci := 0) (v := .int (nI (xm u))) (C := RX0) (T := TX0) (N := 9) hx hb hts hfw hown hK hP 0 rfl rfl 4 (by decide) (hts (.fieldLink RX0 24 "MeldingHeaps" "heapCount" "I") (by decide +kernel)) (fun _ h9 => h9) rfl dX0_open_70 ?_
            refine lv_iconst (v := 1) hx hb dX0_open_73 (by decide) ?_
            refine lv_iadd hx hb dX0_open_74 ?_
            refine W.eq (congrArg (fun z => F0 m 75 ls (.int z :: [.ref (G 0)])) (nI_1 (xm u))) ?_
            refine va_put (D := (dC, dI)) (ci := 0) (v := .int (nI ((xm u) + 1))) (ty := .int) (C := RX0) (T := TX0) (N := 9) hx hb hts hfw tyX0 tyX0_ok nmX0 hown hK hP hD hS 0 rfl rfl 4 (by decide) (hts (.fieldLink RX0 24 "MeldingHeaps" "heapCount" "I") (by decide +kernel)) (fun _ h9 => h9) rfl (by decide +kernel) rfl rfl (Nat.le_of_ble_eq_true rfl) dX0_open_75 (fun H locs hP hD hS => ?_)
            have hP : va_P (dC, dI) vwCl (xW G C (sM (sFl (sAb (sOd (sKd u (upd (xkd u) ((nI (xm u))).toNatClampNeg a)) (upd (xod u) ((nI (xm u))).toNatClampNeg b)) (upd (xab u) ((nI (xm u))).toNatClampNeg 0)) (vp_updL (xfl u) ((nI (xm u))).toNatClampNeg (-9223372036854775808))) ((xm u) + 1))) H := hP
            have hD : va_D A (xW G C (sM (sFl (sAb (sOd (sKd u (upd (xkd u) ((nI (xm u))).toNatClampNeg a)) (upd (xod u) ((nI (xm u))).toNatClampNeg b)) (upd (xab u) ((nI (xm u))).toNatClampNeg 0)) (vp_updL (xfl u) ((nI (xm u))).toNatClampNeg (-9223372036854775808))) ((xm u) + 1))) := hD
            refine lv_iload_n hx hb dX0_open_78 rfl (lv_at hl 0 rfl) ?_
            have e8 : q_open u a b = (sM (sFl (sAb (sOd (sKd u (upd (xkd u) ((nI (xm u))).toNatClampNeg a)) (upd (xod u) ((nI (xm u))).toNatClampNeg b)) (upd (xab u) ((nI (xm u))).toNatClampNeg 0)) (vp_updL (xfl u) ((nI (xm u))).toNatClampNeg (-9223372036854775808))) ((xm u) + 1)) := by unfold q_open; rw [if_neg c1, if_neg c6, if_neg c10, if_pos c15, if_pos c27]
            have e9 : p_open u a b = (nI (xm u)) := by unfold p_open; rw [if_neg c1, if_neg c6, if_neg c10, if_pos c15, if_pos c27]
            exact W.eq (congrArg (fun z => F0 m 79 ls [.int z]) e9.symm) (kk _ _ _ _ dX0_open_79 (by rw [e8]; exact hP) (by rw [e8]; exact hD) hS)
          · refine lv_bipush (v := (-8)) hx hb dX0_open_30 (by decide) ?_
            have e8 : q_open u a b = u := by unfold q_open; rw [if_neg c1, if_neg c6, if_neg c10, if_pos c15, if_neg c27]
            have e9 : p_open u a b = (-8) := by unfold p_open; rw [if_neg c1, if_neg c6, if_neg c10, if_pos c15, if_neg c27]
            exact W.eq (congrArg (fun z => F0 m 32 ls [.int z]) e9.symm) (kk _ _ _ _ dX0_open_32 (by rw [e8]; exact hP) (by rw [e8]; exact hD) hS)
        · refine lv_bipush (v := (-2)) hx hb dX0_open_18 (by decide) ?_
          have e8 : q_open u a b = u := by unfold q_open; rw [if_neg c1, if_neg c6, if_neg c10, if_neg c15]
          have e9 : p_open u a b = (-2) := by unfold p_open; rw [if_neg c1, if_neg c6, if_neg c10, if_neg c15]
          exact W.eq (congrArg (fun z => F0 m 20 ls [.int z]) e9.symm) (kk _ _ _ _ dX0_open_20 (by rw [e8]; exact hP) (by rw [e8]; exact hD) hS)
theorem c_open (l : Launch) (dC : Nat → ClassId) (dI : Nat → Nat → Nat) (G : Nat → Nat) (C : Nat → ClassId) (sz : Nat) (u : xS) (a : Int32) (b : Int32) (hm : xm u ≤ 12) : xMi l yX0_open wsX0_open (xR 0 0) dC dI (xT C) [.ref (G 0), .int a, .int b] (xW G C u) (xW G C (q_open u a b)) (p_open u a b) sz :=
  xmet_i (by decide) rfl rfl (Nat.le_of_ble_eq_true rfl) rfl (fun p e s m args below meth c Q A ls B hK hA hP hD hl kk => b_open hm B hK hA hP hD hl kk)
def p_insert (u : xS) (h : Int32) (k : Int64) (v : Int32) : Int32 :=
  (if (p_refusalOfHeap u h) = 0 then
    (if (p_isBelowFloor u h k) = 0 then
      (if (nI (xn u)) < 160 then
        (nI (xn u))
      else (-8))
    else (-6))
  else (p_refusalOfHeap u h))
def q_insert (u : xS) (h : Int32) (k : Int64) (v : Int32) : xS :=
  (if (p_refusalOfHeap u h) = 0 then
    (if (p_isBelowFloor u h k) = 0 then
      (if (nI (xn u)) < 160 then
        (sN (sOw (sVl (sKy u (vp_updL (xky u) ((nI (xn u))).toNatClampNeg k)) (upd (xvl u) ((nI (xn u))).toNatClampNeg v)) (upd (xow u) ((nI (xn u))).toNatClampNeg h)) ((xn u) + 1))
      else u)
    else u)
  else u)
set_option maxHeartbeats 4000000 in
set_option maxRecDepth 100000 in
theorem b_insert {p : Program} {l : Launch} {e : Env} {s : State} {m : MethodId} {args : Array Value} {below : List Frame} {meth : Method} {c : Code} {Q : State → Prop} {A : Nat → Prop} {ls : Array Slot} {dC : Nat → ClassId} {dI : Nat → Nat → Nat} {G : Nat → Nat} {C : Nat → ClassId} {u : xS} {h : Int32} {k : Int64} {v : Int32} (hm : xm u ≤ 12) (hn : xn u ≤ 160) (B : CallFix p m c cX0_insert 7 s args wsX0_insert RX0) (hK : va_K (dC, dI) vwCl (xT C) s) (hA : ∀ q : Nat, s.heap.size ≤ q → A q) (hP : va_P (dC, dI) vwCl (xW G C u) s.heap) (hD : va_D A (xW G C u)) (hl : lv_has ls 7 [(0, .ref (G 0)), (1, .int h), (2, .long k), (4, .int v)]) (kk : (∀ (H : Heap) (locs : List Loc) (pc : Nat) (ls : Array Slot), decode cX0_insert pc = .ok (.ireturn, 1) → va_P (dC, dI) vwCl (xW G C (q_insert u h k v)) H → va_D A (xW G C (q_insert u h k v)) → va_S A s.heap H locs → W p l e (xR 2 45) s m args below meth c H locs 0 0 Q (F0 m pc ls [.int (p_insert u h k v)]))) : W p l e (xR 2 45) s m args below meth c s.heap [] 0 0 Q (F0 m 0 ls []) := by
  obtain ⟨hx, hb, hml, hown, hts⟩ := B
  have hS : va_S A s.heap s.heap [] := va_S.rf
  have hfw : ∀ w ∈ u_ws RX0 TX0 9, w ∈ wsX0_insert := by decide +kernel
  refine lv_aload_n hx hb dX0_insert_0 rfl (lv_at hl 0 rfl) ?_
  refine lv_iload_n hx hb dX0_insert_1 rfl (lv_at hl 1 rfl) ?_
  refine xcall_i (ws := (xW G C u)) (wc := (xW G C u)) (wr := []) (w1 := (xW G C u)) (v := (p_refusalOfHeap u h)) [0, 1, 2, 3, 4, 5, 6, 7] [] (va_runV (As := [.int h]) (rest := []) ⟨hx, hb, hml, hown, hts⟩ (c_refusalOfHeap l dC dI G C _ u h hm) (cwV 1 hts gX0_insert_X0_refusalOfHeap rfl rfl rfl (by decide +kernel) ⟨Nat.le_of_ble_eq_true rfl, Nat.le_of_ble_eq_true rfl⟩) (xpreV (q0 := 0) (ci := 0) (qc := (RX0, TX0, 9)) hK hP hD rfl rfl) rfl rfl hl.1 rfl (lv_room (Nat.le_of_ble_eq_true rfl)) dX0_insert_2 ⟨Nat.zero_le _, Nat.zero_le _⟩) hP hD hS hA rfl rfl (by decide) (by decide) (fun H locs hP hD hS => ?_)
  have hP : va_P (dC, dI) vwCl (xW G C u) H := hP
  have hD : va_D A (xW G C u) := hD
  refine lv_istore (lv' := [(5, .int (p_refusalOfHeap u h)), (0, .ref (G 0)), (1, .int h), (2, .long k), (4, .int v)]) hx hb dX0_insert_5 hl (by decide) rfl (fun ls hl => ?_)
  refine lv_iload hx hb dX0_insert_7 (lv_at hl 0 rfl) ?_
  refine lv_if_eq (tgt := 15) hx hb dX0_insert_9 rfl (fun c9 => ?_) (fun c9 => ?_)
  · refine lv_aload_n hx hb dX0_insert_15 rfl (lv_at hl 1 rfl) ?_
    refine lv_iload_n hx hb dX0_insert_16 rfl (lv_at hl 2 rfl) ?_
    refine lv_lload_n hx hb dX0_insert_17 rfl (lv_at hl 3 rfl) ?_
    refine xcall_i (ws := (xW G C u)) (wc := (xW G C u)) (wr := []) (w1 := (xW G C u)) (v := (p_isBelowFloor u h k)) [0, 1, 2, 3, 4, 5, 6, 7] [] (va_runV (As := [.int h, .long k]) (rest := []) ⟨hx, hb, hml, hown, hts⟩ (c_isBelowFloor l dC dI G C _ u h k (in_refH hm c9)) (cwV 2 hts gX0_insert_X0_isBelowFloor rfl rfl rfl (by decide +kernel) ⟨Nat.le_of_ble_eq_true rfl, Nat.le_of_ble_eq_true rfl⟩) (xpreV (q0 := 0) (ci := 0) (qc := (RX0, TX0, 9)) hK hP hD rfl rfl) rfl rfl hl.1 rfl (lv_room (Nat.le_of_ble_eq_true rfl)) dX0_insert_18 ⟨Nat.zero_le _, Nat.zero_le _⟩) hP hD hS hA rfl rfl (by decide) (by decide) (fun H locs hP hD hS => ?_)
    have hP : va_P (dC, dI) vwCl (xW G C u) H := hP
    have hD : va_D A (xW G C u) := hD
    refine lv_if_eq (tgt := 27) hx hb dX0_insert_21 rfl (fun c21 => ?_) (fun c21 => ?_)
    · refine lv_aload_n hx hb dX0_insert_27 rfl (lv_at hl 1 rfl) ?_
      refine va_get (D := (dC, dI)) (ci := 0) (v := .int (nI (xn u))) (C := RX0) (T := TX0) (N := 9) hx hb hts hfw hown hK hP 0 rfl rfl 8 (by decide) (hts (.fieldLink RX0 37 "MeldingHeaps" "entryCount" "I") (by decide +kernel)) (fun _ h9 => h9) rfl dX0_insert_28 ?_
      refine lv_sipush (v := 160) hx hb dX0_insert_31 (by decide) ?_
      refine lv_icmp_lt (tgt := 40) hx hb dX0_insert_34 rfl (fun c34 => ?_) (fun c34 => ?_)
      · refine lv_aload_n hx hb dX0_insert_40 rfl (lv_at hl 1 rfl) ?_
        refine va_get (D := (dC, dI)) (ci := 0) (v := .int (nI (xn u))) (C := RX0) (T := TX0) (N := 9) hx hb hts hfw hown hK hP 0 rfl rfl 8 (by decide) (hts (.fieldLink RX0 37 "MeldingHeaps" "entryCount" "I") (by decide +kernel)) (fun _ h9 => h9) rfl dX0_insert_41 ?_
        refine lv_istore (lv' := [(6, .int (nI (xn u))), (5, .int (p_refusalOfHeap u h)), (0, .ref (G 0)), (1, .int h), (2, .long k), (4, .int v)]) hx hb dX0_insert_44 hl (by decide) rfl (fun ls hl => ?_)
        refine lv_aload_n hx hb dX0_insert_46 rfl (lv_at hl 2 rfl) ?_
        refine va_get (D := (dC, dI)) (ci := 0) (v := .ref (G 5)) (C := RX0) (T := TX0) (N := 9) hx hb hts hfw hown hK hP 0 rfl rfl 5 (by decide) (hts (.fieldLink RX0 28 "MeldingHeaps" "keys" "[J") (by decide +kernel)) (fun _ h9 => h9) rfl dX0_insert_47 ?_
        refine lv_iload hx hb dX0_insert_50 (lv_at hl 0 rfl) ?_
        refine lv_lload_n hx hb dX0_insert_52 rfl (lv_at hl 4 rfl) ?_
        refine va_last (f := (xky u)) hx hb hK hP hD hS 5 4 rfl rfl (cnt_in c34) dX0_insert_53 (fun H locs hP hD hS => ?_)
        have hP : va_P (dC, dI) vwCl (xW G C (sKy u (vp_updL (xky u) ((nI (xn u))).toNatClampNeg k))) H := hP
        have hD : va_D A (xW G C (sKy u (vp_updL (xky u) ((nI (xn u))).toNatClampNeg k))) := hD
        refine lv_aload_n hx hb dX0_insert_54 rfl (lv_at hl 2 rfl) ?_
        refine va_get (D := (dC, dI)) (ci := 0) (v := .ref (G 6)) (C := RX0) (T := TX0) (N := 9) hx hb hts hfw hown hK hP 0 rfl rfl 6 (by decide) (hts (.fieldLink RX0 31 "MeldingHeaps" "values" "[I") (by decide +kernel)) (fun _ h9 => h9) rfl dX0_insert_55 ?_
        refine lv_iload hx hb dX0_insert_58 (lv_at hl 0 rfl) ?_
        refine lv_iload hx hb dX0_insert_60 (lv_at hl 5 rfl) ?_
        refine va_iast (f := (xvl u)) hx hb hK hP hD hS 6 5 rfl rfl (cnt_in c34) dX0_insert_62 (fun H locs hP hD hS => ?_)
        have hP : va_P (dC, dI) vwCl (xW G C (sVl (sKy u (vp_updL (xky u) ((nI (xn u))).toNatClampNeg k)) (upd (xvl u) ((nI (xn u))).toNatClampNeg v))) H := hP
        have hD : va_D A (xW G C (sVl (sKy u (vp_updL (xky u) ((nI (xn u))).toNatClampNeg k)) (upd (xvl u) ((nI (xn u))).toNatClampNeg v))) := hD
        refine lv_aload_n hx hb dX0_insert_63 rfl (lv_at hl 2 rfl) ?_
        refine va_get (D := (dC, dI)) (ci := 0) (v := .ref (G 7)) (C := RX0) (T := TX0) (N := 9) hx hb hts hfw hown hK hP 0 rfl rfl 7 (by decide) (hts (.fieldLink RX0 34 "MeldingHeaps" "owners" "[I") (by decide +kernel)) (fun _ h9 => h9) rfl dX0_insert_64 ?_
        refine lv_iload hx hb dX0_insert_67 (lv_at hl 0 rfl) ?_
        refine lv_iload_n hx hb dX0_insert_69 rfl (lv_at hl 3 rfl) ?_
        refine va_iast (f := (xow u)) hx hb hK hP hD hS 7 6 rfl rfl (cnt_in c34) dX0_insert_70 (fun H locs hP hD hS => ?_)
        have hP : va_P (dC, dI) vwCl (xW G C (sOw (sVl (sKy u (vp_updL (xky u) ((nI (xn u))).toNatClampNeg k)) (upd (xvl u) ((nI (xn u))).toNatClampNeg v)) (upd (xow u) ((nI (xn u))).toNatClampNeg h))) H := hP
        have hD : va_D A (xW G C (sOw (sVl (sKy u (vp_updL (xky u) ((nI (xn u))).toNatClampNeg k)) (upd (xvl u) ((nI (xn u))).toNatClampNeg v)) (upd (xow u) ((nI (xn u))).toNatClampNeg h))) := hD
        refine lv_aload_n hx hb dX0_insert_71 rfl (lv_at hl 2 rfl) ?_
        refine lv_dup hx hb dX0_insert_72 rfl ?_
        refine va_get (D := (dC, dI)) (ci := 0) (v := .int (nI (xn u))) (C := RX0) (T := TX0) (N := 9) hx hb hts hfw hown hK hP 0 rfl rfl 8 (by decide) (hts (.fieldLink RX0 37 "MeldingHeaps" "entryCount" "I") (by decide +kernel)) (fun _ h9 => h9) rfl dX0_insert_73 ?_
        refine lv_iconst (v := 1) hx hb dX0_insert_76 (by decide) ?_
        refine lv_iadd hx hb dX0_insert_77 ?_
        refine W.eq (congrArg (fun z => F0 m 78 ls (.int z :: [.ref (G 0)])) (nI_1 (xn u))) ?_
        refine va_put (D := (dC, dI)) (ci := 0) (v := .int (nI ((xn u) + 1))) (ty := .int) (C := RX0) (T := TX0) (N := 9) hx hb hts hfw tyX0 tyX0_ok nmX0 hown hK hP hD hS 0 rfl rfl 8 (by decide) (hts (.fieldLink RX0 37 "MeldingHeaps" "entryCount" "I") (by decide +kernel)) (fun _ h9 => h9) rfl (by decide +kernel) rfl rfl (Nat.le_of_ble_eq_true rfl) dX0_insert_78 (fun H locs hP hD hS => ?_)
        have hP : va_P (dC, dI) vwCl (xW G C (sN (sOw (sVl (sKy u (vp_updL (xky u) ((nI (xn u))).toNatClampNeg k)) (upd (xvl u) ((nI (xn u))).toNatClampNeg v)) (upd (xow u) ((nI (xn u))).toNatClampNeg h)) ((xn u) + 1))) H := hP
        have hD : va_D A (xW G C (sN (sOw (sVl (sKy u (vp_updL (xky u) ((nI (xn u))).toNatClampNeg k)) (upd (xvl u) ((nI (xn u))).toNatClampNeg v)) (upd (xow u) ((nI (xn u))).toNatClampNeg h)) ((xn u) + 1))) := hD
        refine lv_iload hx hb dX0_insert_81 (lv_at hl 0 rfl) ?_
        have e8 : q_insert u h k v = (sN (sOw (sVl (sKy u (vp_updL (xky u) ((nI (xn u))).toNatClampNeg k)) (upd (xvl u) ((nI (xn u))).toNatClampNeg v)) (upd (xow u) ((nI (xn u))).toNatClampNeg h)) ((xn u) + 1)) := by unfold q_insert; rw [if_pos c9, if_pos c21, if_pos c34]
        have e9 : p_insert u h k v = (nI (xn u)) := by unfold p_insert; rw [if_pos c9, if_pos c21, if_pos c34]
        exact W.eq (congrArg (fun z => F0 m 83 ls [.int z]) e9.symm) (kk _ _ _ _ dX0_insert_83 (by rw [e8]; exact hP) (by rw [e8]; exact hD) hS)
      · refine lv_bipush (v := (-8)) hx hb dX0_insert_37 (by decide) ?_
        have e8 : q_insert u h k v = u := by unfold q_insert; rw [if_pos c9, if_pos c21, if_neg c34]
        have e9 : p_insert u h k v = (-8) := by unfold p_insert; rw [if_pos c9, if_pos c21, if_neg c34]
        exact W.eq (congrArg (fun z => F0 m 39 ls [.int z]) e9.symm) (kk _ _ _ _ dX0_insert_39 (by rw [e8]; exact hP) (by rw [e8]; exact hD) hS)
    · refine lv_bipush (v := (-6)) hx hb dX0_insert_24 (by decide) ?_
      have e8 : q_insert u h k v = u := by unfold q_insert; rw [if_pos c9, if_neg c21]
      have e9 : p_insert u h k v = (-6) := by unfold p_insert; rw [if_pos c9, if_neg c21]
      exact W.eq (congrArg (fun z => F0 m 26 ls [.int z]) e9.symm) (kk _ _ _ _ dX0_insert_26 (by rw [e8]; exact hP) (by rw [e8]; exact hD) hS)
  · refine lv_iload hx hb dX0_insert_12 (lv_at hl 0 rfl) ?_
    have e8 : q_insert u h k v = u := by unfold q_insert; rw [if_neg c9]
    have e9 : p_insert u h k v = (p_refusalOfHeap u h) := by unfold p_insert; rw [if_neg c9]
    exact W.eq (congrArg (fun z => F0 m 14 ls [.int z]) e9.symm) (kk _ _ _ _ dX0_insert_14 (by rw [e8]; exact hP) (by rw [e8]; exact hD) hS)
theorem c_insert (l : Launch) (dC : Nat → ClassId) (dI : Nat → Nat → Nat) (G : Nat → Nat) (C : Nat → ClassId) (sz : Nat) (u : xS) (h : Int32) (k : Int64) (v : Int32) (hm : xm u ≤ 12) (hn : xn u ≤ 160) : xMi l yX0_insert wsX0_insert (xR 2 45) dC dI (xT C) [.ref (G 0), .int h, .long k, .int v] (xW G C u) (xW G C (q_insert u h k v)) (p_insert u h k v) sz :=
  xmet_i (by decide) rfl rfl (Nat.le_of_ble_eq_true rfl) rfl (fun p e s m args below meth c Q A ls B hK hA hP hD hl kk => b_insert hm hn B hK hA hP hD hl kk)
def p_take (u : xS) (h : Int32) : Int32 :=
  (if (p_first u h) < 0 then
    (p_first u h)
  else (p_first u h))
def q_take (u : xS) (h : Int32) : xS :=
  (if (p_first u h) < 0 then
    u
  else (sOw (q_raiseFloor u h ((xky u) ((p_first u h)).toNatClampNeg)) (upd (xow (q_raiseFloor u h ((xky u) ((p_first u h)).toNatClampNeg))) ((p_first u h)).toNatClampNeg (-4))))
set_option maxHeartbeats 4000000 in
set_option maxRecDepth 100000 in
theorem b_take {p : Program} {l : Launch} {e : Env} {s : State} {m : MethodId} {args : Array Value} {below : List Frame} {meth : Method} {c : Code} {Q : State → Prop} {A : Nat → Prop} {ls : Array Slot} {dC : Nat → ClassId} {dI : Nat → Nat → Nat} {G : Nat → Nat} {C : Nat → ClassId} {u : xS} {h : Int32} (hm : xm u ≤ 12) (hn : xn u ≤ 160) (B : CallFix p m c cX0_take 3 s args wsX0_take RX0) (hK : va_K (dC, dI) vwCl (xT C) s) (hA : ∀ q : Nat, s.heap.size ≤ q → A q) (hP : va_P (dC, dI) vwCl (xW G C u) s.heap) (hD : va_D A (xW G C u)) (hl : lv_has ls 3 [(0, .ref (G 0)), (1, .int h)]) (kk : (∀ (H : Heap) (locs : List Loc) (pc : Nat) (ls : Array Slot), decode cX0_take pc = .ok (.ireturn, 1) → va_P (dC, dI) vwCl (xW G C (q_take u h)) H → va_D A (xW G C (q_take u h)) → va_S A s.heap H locs → W p l e (xR 4 94) s m args below meth c H locs 0 0 Q (F0 m pc ls [.int (p_take u h)]))) : W p l e (xR 4 94) s m args below meth c s.heap [] 0 0 Q (F0 m 0 ls []) := by
  obtain ⟨hx, hb, hml, hown, hts⟩ := B
  have hS : va_S A s.heap s.heap [] := va_S.rf
  have hfw : ∀ w ∈ u_ws RX0 TX0 9, w ∈ wsX0_take := by decide +kernel
  refine lv_aload_n hx hb dX0_take_0 rfl (lv_at hl 0 rfl) ?_
  refine lv_iload_n hx hb dX0_take_1 rfl (lv_at hl 1 rfl) ?_
  refine xcall_i (ws := (xW G C u)) (wc := (xW G C u)) (wr := []) (w1 := (xW G C u)) (v := (p_first u h)) [0, 1, 2, 3, 4, 5, 6, 7] [] (va_runV (As := [.int h]) (rest := []) ⟨hx, hb, hml, hown, hts⟩ (c_first l dC dI G C _ u h hm hn) (cwV 1 hts gX0_take_X0_first rfl rfl rfl (by decide +kernel) ⟨Nat.le_of_ble_eq_true rfl, Nat.le_of_ble_eq_true rfl⟩) (xpreV (q0 := 0) (ci := 0) (qc := (RX0, TX0, 9)) hK hP hD rfl rfl) rfl rfl hl.1 rfl (lv_room (Nat.le_of_ble_eq_true rfl)) dX0_take_2 ⟨Nat.zero_le _, Nat.zero_le _⟩) hP hD hS hA rfl rfl (by decide) (by decide) (fun H locs hP hD hS => ?_)
  have hP : va_P (dC, dI) vwCl (xW G C u) H := hP
  have hD : va_D A (xW G C u) := hD
  refine lv_istore_n (lv' := [(2, .int (p_first u h)), (0, .ref (G 0)), (1, .int h)]) hx hb dX0_take_5 rfl hl (by decide) rfl (fun ls hl => ?_)
  refine lv_iload_n hx hb dX0_take_6 rfl (lv_at hl 0 rfl) ?_
  refine lv_if_lt (tgt := 29) hx hb dX0_take_7 rfl (fun c7 => ?_) (fun c7 => ?_)
  · refine lv_iload_n hx hb dX0_take_29 rfl (lv_at hl 0 rfl) ?_
    have e8 : q_take u h = u := by unfold q_take; rw [if_pos c7]
    have e9 : p_take u h = (p_first u h) := by unfold p_take; rw [if_pos c7]
    exact W.eq (congrArg (fun z => F0 m 30 ls [.int z]) e9.symm) (kk _ _ _ _ dX0_take_30 (by rw [e8]; exact hP) (by rw [e8]; exact hD) hS)
  · refine lv_aload_n hx hb dX0_take_10 rfl (lv_at hl 1 rfl) ?_
    refine lv_iload_n hx hb dX0_take_11 rfl (lv_at hl 2 rfl) ?_
    refine lv_aload_n hx hb dX0_take_12 rfl (lv_at hl 1 rfl) ?_
    refine va_get (D := (dC, dI)) (ci := 0) (v := .ref (G 5)) (C := RX0) (T := TX0) (N := 9) hx hb hts hfw hown hK hP 0 rfl rfl 5 (by decide) (hts (.fieldLink RX0 28 "MeldingHeaps" "keys" "[J") (by decide +kernel)) (fun _ h9 => h9) rfl dX0_take_13 ?_
    refine lv_iload_n hx hb dX0_take_16 rfl (lv_at hl 0 rfl) ?_
    refine va_lald (f := (xky u)) hx hb hK hP 5 4 rfl rfl ((first_in hm hn c7).2) dX0_take_17 ?_
    refine xcall_v (ws := (xW G C u)) (wc := (xW G C u)) (wr := []) (w1 := (xW G C (q_raiseFloor u h ((xky u) ((p_first u h)).toNatClampNeg)))) [0, 1, 2, 3, 4, 5, 6, 7] [] (va_runV (As := [.int h, .long ((xky u) ((p_first u h)).toNatClampNeg)]) (rest := []) ⟨hx, hb, hml, hown, hts⟩ (c_raiseFloor l dC dI G C _ u h ((xky u) ((p_first u h)).toNatClampNeg) (first_in hm hn c7).1) (cwV 2 hts gX0_take_X0_raiseFloor rfl rfl rfl (by decide +kernel) ⟨Nat.le_of_ble_eq_true rfl, Nat.le_of_ble_eq_true rfl⟩) (xpreV (q0 := 0) (ci := 0) (qc := (RX0, TX0, 9)) hK hP hD rfl rfl) rfl rfl hl.1 rfl (lv_room (Nat.le_of_ble_eq_true rfl)) dX0_take_18 ⟨Nat.zero_le _, Nat.zero_le _⟩) hP hD hS hA rfl rfl (by decide) (by decide) (fun H locs hP hD hS => ?_)
    have hP : va_P (dC, dI) vwCl (xW G C (q_raiseFloor u h ((xky u) ((p_first u h)).toNatClampNeg))) H := hP
    have hD : va_D A (xW G C (q_raiseFloor u h ((xky u) ((p_first u h)).toNatClampNeg))) := hD
    refine lv_aload_n hx hb dX0_take_21 rfl (lv_at hl 1 rfl) ?_
    refine va_get (D := (dC, dI)) (ci := 0) (v := .ref (G 7)) (C := RX0) (T := TX0) (N := 9) hx hb hts hfw hown hK hP 0 rfl rfl 7 (by decide) (hts (.fieldLink RX0 34 "MeldingHeaps" "owners" "[I") (by decide +kernel)) (fun _ h9 => h9) rfl dX0_take_22 ?_
    refine lv_iload_n hx hb dX0_take_25 rfl (lv_at hl 0 rfl) ?_
    refine lv_bipush (v := (-4)) hx hb dX0_take_26 (by decide) ?_
    refine va_iast (f := (xow (q_raiseFloor u h ((xky u) ((p_first u h)).toNatClampNeg)))) hx hb hK hP hD hS 7 6 rfl rfl ((first_in hm hn c7).2) dX0_take_28 (fun H locs hP hD hS => ?_)
    have hP : va_P (dC, dI) vwCl (xW G C (sOw (q_raiseFloor u h ((xky u) ((p_first u h)).toNatClampNeg)) (upd (xow (q_raiseFloor u h ((xky u) ((p_first u h)).toNatClampNeg))) ((p_first u h)).toNatClampNeg (-4)))) H := hP
    have hD : va_D A (xW G C (sOw (q_raiseFloor u h ((xky u) ((p_first u h)).toNatClampNeg)) (upd (xow (q_raiseFloor u h ((xky u) ((p_first u h)).toNatClampNeg))) ((p_first u h)).toNatClampNeg (-4)))) := hD
    refine lv_iload_n hx hb dX0_take_29 rfl (lv_at hl 0 rfl) ?_
    have e8 : q_take u h = (sOw (q_raiseFloor u h ((xky u) ((p_first u h)).toNatClampNeg)) (upd (xow (q_raiseFloor u h ((xky u) ((p_first u h)).toNatClampNeg))) ((p_first u h)).toNatClampNeg (-4))) := by unfold q_take; rw [if_neg c7]
    have e9 : p_take u h = (p_first u h) := by unfold p_take; rw [if_neg c7]
    exact W.eq (congrArg (fun z => F0 m 30 ls [.int z]) e9.symm) (kk _ _ _ _ dX0_take_30 (by rw [e8]; exact hP) (by rw [e8]; exact hD) hS)
theorem c_take (l : Launch) (dC : Nat → ClassId) (dI : Nat → Nat → Nat) (G : Nat → Nat) (C : Nat → ClassId) (sz : Nat) (u : xS) (h : Int32) (hm : xm u ≤ 12) (hn : xn u ≤ 160) : xMi l yX0_take wsX0_take (xR 4 94) dC dI (xT C) [.ref (G 0), .int h] (xW G C u) (xW G C (q_take u h)) (p_take u h) sz :=
  xmet_i (by decide) rfl rfl (Nat.le_of_ble_eq_true rfl) rfl (fun p e s m args below meth c Q A ls B hK hA hP hD hl kk => b_take hm hn B hK hA hP hD hl kk)
def p_takeLast (u : xS) (h : Int32) : Int32 :=
  (if (p_last u h) < 0 then
    (p_last u h)
  else (p_last u h))
def q_takeLast (u : xS) (h : Int32) : xS :=
  (if (p_last u h) < 0 then
    u
  else (sOw u (upd (xow u) ((p_last u h)).toNatClampNeg (-4))))
set_option maxHeartbeats 4000000 in
set_option maxRecDepth 100000 in
theorem b_takeLast {p : Program} {l : Launch} {e : Env} {s : State} {m : MethodId} {args : Array Value} {below : List Frame} {meth : Method} {c : Code} {Q : State → Prop} {A : Nat → Prop} {ls : Array Slot} {dC : Nat → ClassId} {dI : Nat → Nat → Nat} {G : Nat → Nat} {C : Nat → ClassId} {u : xS} {h : Int32} (hm : xm u ≤ 12) (hn : xn u ≤ 160) (B : CallFix p m c cX0_takeLast 3 s args wsX0_takeLast RX0) (hK : va_K (dC, dI) vwCl (xT C) s) (hA : ∀ q : Nat, s.heap.size ≤ q → A q) (hP : va_P (dC, dI) vwCl (xW G C u) s.heap) (hD : va_D A (xW G C u)) (hl : lv_has ls 3 [(0, .ref (G 0)), (1, .int h)]) (kk : (∀ (H : Heap) (locs : List Loc) (pc : Nat) (ls : Array Slot), decode cX0_takeLast pc = .ok (.ireturn, 1) → va_P (dC, dI) vwCl (xW G C (q_takeLast u h)) H → va_D A (xW G C (q_takeLast u h)) → va_S A s.heap H locs → W p l e (xR 4 94) s m args below meth c H locs 0 0 Q (F0 m pc ls [.int (p_takeLast u h)]))) : W p l e (xR 4 94) s m args below meth c s.heap [] 0 0 Q (F0 m 0 ls []) := by
  obtain ⟨hx, hb, hml, hown, hts⟩ := B
  have hS : va_S A s.heap s.heap [] := va_S.rf
  have hfw : ∀ w ∈ u_ws RX0 TX0 9, w ∈ wsX0_takeLast := by decide +kernel
  refine lv_aload_n hx hb dX0_takeLast_0 rfl (lv_at hl 0 rfl) ?_
  refine lv_iload_n hx hb dX0_takeLast_1 rfl (lv_at hl 1 rfl) ?_
  refine xcall_i (ws := (xW G C u)) (wc := (xW G C u)) (wr := []) (w1 := (xW G C u)) (v := (p_last u h)) [0, 1, 2, 3, 4, 5, 6, 7] [] (va_runV (As := [.int h]) (rest := []) ⟨hx, hb, hml, hown, hts⟩ (c_last l dC dI G C _ u h hm hn) (cwV 1 hts gX0_takeLast_X0_last rfl rfl rfl (by decide +kernel) ⟨Nat.le_of_ble_eq_true rfl, Nat.le_of_ble_eq_true rfl⟩) (xpreV (q0 := 0) (ci := 0) (qc := (RX0, TX0, 9)) hK hP hD rfl rfl) rfl rfl hl.1 rfl (lv_room (Nat.le_of_ble_eq_true rfl)) dX0_takeLast_2 ⟨Nat.zero_le _, Nat.zero_le _⟩) hP hD hS hA rfl rfl (by decide) (by decide) (fun H locs hP hD hS => ?_)
  have hP : va_P (dC, dI) vwCl (xW G C u) H := hP
  have hD : va_D A (xW G C u) := hD
  refine lv_istore_n (lv' := [(2, .int (p_last u h)), (0, .ref (G 0)), (1, .int h)]) hx hb dX0_takeLast_5 rfl hl (by decide) rfl (fun ls hl => ?_)
  refine lv_iload_n hx hb dX0_takeLast_6 rfl (lv_at hl 0 rfl) ?_
  refine lv_if_lt (tgt := 18) hx hb dX0_takeLast_7 rfl (fun c7 => ?_) (fun c7 => ?_)
  · refine lv_iload_n hx hb dX0_takeLast_18 rfl (lv_at hl 0 rfl) ?_
    have e8 : q_takeLast u h = u := by unfold q_takeLast; rw [if_pos c7]
    have e9 : p_takeLast u h = (p_last u h) := by unfold p_takeLast; rw [if_pos c7]
    exact W.eq (congrArg (fun z => F0 m 19 ls [.int z]) e9.symm) (kk _ _ _ _ dX0_takeLast_19 (by rw [e8]; exact hP) (by rw [e8]; exact hD) hS)
  · refine lv_aload_n hx hb dX0_takeLast_10 rfl (lv_at hl 1 rfl) ?_
    refine va_get (D := (dC, dI)) (ci := 0) (v := .ref (G 7)) (C := RX0) (T := TX0) (N := 9) hx hb hts hfw hown hK hP 0 rfl rfl 7 (by decide) (hts (.fieldLink RX0 34 "MeldingHeaps" "owners" "[I") (by decide +kernel)) (fun _ h9 => h9) rfl dX0_takeLast_11 ?_
    refine lv_iload_n hx hb dX0_takeLast_14 rfl (lv_at hl 0 rfl) ?_
    refine lv_bipush (v := (-4)) hx hb dX0_takeLast_15 (by decide) ?_
    refine va_iast (f := (xow u)) hx hb hK hP hD hS 7 6 rfl rfl ((last_in hm hn c7).2) dX0_takeLast_17 (fun H locs hP hD hS => ?_)
    have hP : va_P (dC, dI) vwCl (xW G C (sOw u (upd (xow u) ((p_last u h)).toNatClampNeg (-4)))) H := hP
    have hD : va_D A (xW G C (sOw u (upd (xow u) ((p_last u h)).toNatClampNeg (-4)))) := hD
    refine lv_iload_n hx hb dX0_takeLast_18 rfl (lv_at hl 0 rfl) ?_
    have e8 : q_takeLast u h = (sOw u (upd (xow u) ((p_last u h)).toNatClampNeg (-4))) := by unfold q_takeLast; rw [if_neg c7]
    have e9 : p_takeLast u h = (p_last u h) := by unfold p_takeLast; rw [if_neg c7]
    exact W.eq (congrArg (fun z => F0 m 19 ls [.int z]) e9.symm) (kk _ _ _ _ dX0_takeLast_19 (by rw [e8]; exact hP) (by rw [e8]; exact hD) hS)
theorem c_takeLast (l : Launch) (dC : Nat → ClassId) (dI : Nat → Nat → Nat) (G : Nat → Nat) (C : Nat → ClassId) (sz : Nat) (u : xS) (h : Int32) (hm : xm u ≤ 12) (hn : xn u ≤ 160) : xMi l yX0_takeLast wsX0_takeLast (xR 4 94) dC dI (xT C) [.ref (G 0), .int h] (xW G C u) (xW G C (q_takeLast u h)) (p_takeLast u h) sz :=
  xmet_i (by decide) rfl rfl (Nat.le_of_ble_eq_true rfl) rfl (fun p e s m args below meth c Q A ls B hK hA hP hD hl kk => b_takeLast hm hn B hK hA hP hD hl kk)
