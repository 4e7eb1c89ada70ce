def yp_open (u : xS) (a : Int32) (b : Int32) : Int32 :=
  (if a < 0 then
    (-2)
  else (if 2 < a then
      (-2)
    else (if b < 0 then
        (-2)
      else (if b ≤ 3 then
          (if (nI (xm u)) = 12 then
            (-8)
          else ((nI ((xm u) + 1)) - 1))
        else (-2)))))
def yq_open (u : xS) (a : Int32) (b : Int32) : xS :=
  (if a < 0 then
    u
  else (if 2 < a then
      u
    else (if b < 0 then
        u
      else (if b ≤ 3 then
          (if (nI (xm u)) = 12 then
            u
          else (sM (sFl (sOd (sKd u (upd (xkd u) ((nI (xm u))).toNatClampNeg a)) (upd (xod u) ((nI (xm u))).toNatClampNeg b)) (vp_updL (xfl u) ((nI (xm u))).toNatClampNeg (-9223372036854775808))) ((xm u) + 1)))
        else u))))
set_option maxHeartbeats 4000000 in
set_option maxRecDepth 100000 in
theorem yb_open {p : Program} {l : Launch} {e : Env} {s : State} {m : MethodId} {args : Array Value} {below : List Frame} {meth : Method} {c : Code} {Q : State → Prop} {A : Nat → Prop} {ls : Array Slot} {dC : Nat → ClassId} {dI : Nat → Nat → Nat} {G : Nat → Nat} {C : Nat → ClassId} {u : xS} {a : Int32} {b : Int32} (hm : xm u ≤ 12) (B : CallFix p m c cY_open 3 s args wsY_open RX1) (hK : va_K (dC, dI) vwCl (yT C) s) (hA : ∀ q : Nat, s.heap.size ≤ q → A q) (hP : va_P (dC, dI) vwCl (yW G C u) s.heap) (hD : va_D A (yW G C u)) (hl : lv_has ls 3 [(0, .ref (G 0)), (1, .int a), (2, .int b)]) (kk : (∀ (H : Heap) (locs : List Loc) (pc : Nat) (ls : Array Slot), decode cY_open pc = .ok (.ireturn, 1) → va_P (dC, dI) vwCl (yW G C (yq_open u a b)) H → va_D A (yW G C (yq_open u a b)) → va_S A s.heap H locs → W p l e (xR 0 0) s m args below meth c H locs 0 0 Q (F0 m pc ls [.int (yp_open u a b)]))) : W p l e (xR 0 0) s m args below meth c s.heap [] 0 0 Q (F0 m 0 ls []) := by
  obtain ⟨hx, hb, hml, hown, hts⟩ := B
  have hS : va_S A s.heap s.heap [] := va_S.rf
  have hfw : ∀ w ∈ u_ws RX1 TX1 9, w ∈ wsY_open := by decide +kernel
  refine lv_iload_n hx hb dY_open_0 rfl (lv_at hl 1 rfl) ?_
  refine lv_if_lt (tgt := 18) hx hb dY_open_1 rfl (fun c1 => ?_) (fun c1 => ?_)
  · refine lv_bipush (v := (-2)) hx hb dY_open_18 (by decide) ?_
    have e8 : yq_open u a b = u := by unfold yq_open; rw [if_pos c1]
    have e9 : yp_open u a b = (-2) := by unfold yp_open; rw [if_pos c1]
    exact W.eq (congrArg (fun z => F0 m 20 ls [.int z]) e9.symm) (kk _ _ _ _ dY_open_20 (by rw [e8]; exact hP) (by rw [e8]; exact hD) hS)
  · refine lv_iload_n hx hb dY_open_4 rfl (lv_at hl 1 rfl) ?_
    refine lv_iconst (v := 2) hx hb dY_open_5 (by decide) ?_
    refine lv_icmp_gt (tgt := 18) hx hb dY_open_6 rfl (fun c6 => ?_) (fun c6 => ?_)
    · refine lv_bipush (v := (-2)) hx hb dY_open_18 (by decide) ?_
      have e8 : yq_open u a b = u := by unfold yq_open; rw [if_neg c1, if_pos c6]
      have e9 : yp_open u a b = (-2) := by unfold yp_open; rw [if_neg c1, if_pos c6]
      exact W.eq (congrArg (fun z => F0 m 20 ls [.int z]) e9.symm) (kk _ _ _ _ dY_open_20 (by rw [e8]; exact hP) (by rw [e8]; exact hD) hS)
    · refine lv_iload_n hx hb dY_open_9 rfl (lv_at hl 2 rfl) ?_
      refine lv_if_lt (tgt := 18) hx hb dY_open_10 rfl (fun c10 => ?_) (fun c10 => ?_)
      · refine lv_bipush (v := (-2)) hx hb dY_open_18 (by decide) ?_
        have e8 : yq_open u a b = u := by unfold yq_open; rw [if_neg c1, if_neg c6, if_pos c10]
        have e9 : yp_open u a b = (-2) := by unfold yp_open; rw [if_neg c1, if_neg c6, if_pos c10]
        exact W.eq (congrArg (fun z => F0 m 20 ls [.int z]) e9.symm) (kk _ _ _ _ dY_open_20 (by rw [e8]; exact hP) (by rw [e8]; exact hD) hS)
      · refine lv_iload_n hx hb dY_open_13 rfl (lv_at hl 2 rfl) ?_
        refine lv_iconst (v := 3) hx hb dY_open_14 (by decide) ?_
        refine lv_icmp_le (tgt := 21) hx hb dY_open_15 rfl (fun c15 => ?_) (fun c15 => ?_)
        · refine lv_aload_n hx hb dY_open_21 rfl (lv_at hl 0 rfl) ?_
          refine va_get (D := (dC, dI)) (ci := 1) (v := .int (nI (xm u))) (C := RX1) (T := TX1) (N := 9) hx hb hts hfw hown hK hP 0 rfl rfl 0 (by decide) (hts (.fieldLink RX1 33 "MeldingHeapsModel" "opened" "I") (by decide +kernel)) (fun _ h9 => h9) rfl dY_open_22 ?_
          refine lv_bipush (v := 12) hx hb dY_open_25 (by decide) ?_
          refine lv_icmp_ne (tgt := 33) hx hb dY_open_27 rfl (fun c27 => ?_) (fun c27 => ?_)
          · refine lv_aload_n hx hb dY_open_33 rfl (lv_at hl 0 rfl) ?_
            refine va_get (D := (dC, dI)) (ci := 1) (v := .ref (G 1)) (C := RX1) (T := TX1) (N := 9) hx hb hts hfw hown hK hP 0 rfl rfl 1 (by decide) (hts (.fieldLink RX1 7 "MeldingHeapsModel" "kinds" "[I") (by decide +kernel)) (fun _ h9 => h9) rfl dY_open_34 ?_
            refine lv_aload_n hx hb dY_open_37 rfl (lv_at hl 0 rfl) ?_
            refine va_get (D := (dC, dI)) (ci := 1) (v := .int (nI (xm u))) (C := RX1) (T := TX1) (N := 9) hx hb hts hfw hown hK hP 0 rfl rfl 0 (by decide) (hts (.fieldLink RX1 33 "MeldingHeapsModel" "opened" "I") (by decide +kernel)) (fun _ h9 => h9) rfl dY_open_38 ?_
            refine lv_iload_n hx hb dY_open_41 rfl (lv_at hl 1 rfl) ?_
            refine va_iast (f := (xkd u)) hx hb hK hP hD hS 1 0 rfl rfl (cnt_ne c27 hm) dY_open_42 (fun H locs hP hD hS => ?_)
            have hP : va_P (dC, dI) vwCl (yW G C (sKd u (upd (xkd u) ((nI (xm u))).toNatClampNeg a))) H := hP
            have hD : va_D A (yW G C (sKd u (upd (xkd u) ((nI (xm u))).toNatClampNeg a))) := hD
            refine lv_aload_n hx hb dY_open_43 rfl (lv_at hl 0 rfl) ?_
            refine va_get (D := (dC, dI)) (ci := 1) (v := .ref (G 2)) (C := RX1) (T := TX1) (N := 9) hx hb hts hfw hown hK hP 0 rfl rfl 2 (by decide) (hts (.fieldLink RX1 13 "MeldingHeapsModel" "orders" "[I") (by decide +kernel)) (fun _ h9 => h9) rfl dY_open_44 ?_
            refine lv_aload_n hx hb dY_open_47 rfl (lv_at hl 0 rfl) ?_
            refine va_get (D := (dC, dI)) (ci := 1) (v := .int (nI (xm u))) (C := RX1) (T := TX1) (N := 9) hx hb hts hfw hown hK hP 0 rfl rfl 0 (by decide) (hts (.fieldLink RX1 33 "MeldingHeapsModel" "opened" "I") (by decide +kernel)) (fun _ h9 => h9) rfl dY_open_48 ?_
            refine lv_iload_n hx hb dY_open_51 rfl (lv_at hl 2 rfl) ?_
            refine va_iast (f := (xod u)) hx hb hK hP hD hS 2 1 rfl rfl (cnt_ne c27 hm) dY_open_52 (fun H locs hP hD hS => ?_)
            have hP : va_P (dC, dI) vwCl (yW G C (sOd (sKd u (upd (xkd u) ((nI (xm u))).toNatClampNeg a)) (upd (xod u) ((nI (xm u))).toNatClampNeg b))) H := hP
            have hD : va_D A (yW G C (sOd (sKd u (upd (xkd u) ((nI (xm u))).toNatClampNeg a)) (upd (xod u) ((nI (xm u))).toNatClampNeg b))) := hD
            refine lv_aload_n hx hb dY_open_53 rfl (lv_at hl 0 rfl) ?_
            refine va_get (D := (dC, dI)) (ci := 1) (v := .ref (G 4)) (C := RX1) (T := TX1) (N := 9) hx hb hts hfw hown hK hP 0 rfl rfl 4 (by decide) (hts (.fieldLink RX1 20 "MeldingHeapsModel" "floors" "[J") (by decide +kernel)) (fun _ h9 => h9) rfl dY_open_54 ?_
            refine lv_aload_n hx hb dY_open_57 rfl (lv_at hl 0 rfl) ?_
            refine va_get (D := (dC, dI)) (ci := 1) (v := .int (nI (xm u))) (C := RX1) (T := TX1) (N := 9) hx hb hts hfw hown hK hP 0 rfl rfl 0 (by decide) (hts (.fieldLink RX1 33 "MeldingHeapsModel" "opened" "I") (by decide +kernel)) (fun _ h9 => h9) rfl dY_open_58 ?_
            refine lv_ldc2 (v := (-9223372036854775808)) hx hb hown (hts (.constantLong RX1 42 (-9223372036854775808)) (by decide +kernel)) dY_open_61 ?_
            refine va_last (f := (xfl u)) hx hb hK hP hD hS 4 3 rfl rfl (cnt_ne c27 hm) dY_open_64 (fun H locs hP hD hS => ?_)
            have hP : va_P (dC, dI) vwCl (yW G C (sFl (sOd (sKd u (upd (xkd u) ((nI (xm u))).toNatClampNeg a)) (upd (xod u) ((nI (xm u))).toNatClampNeg b)) (vp_updL (xfl u) ((nI (xm u))).toNatClampNeg (-9223372036854775808)))) H := hP
            have hD : va_D A (yW G C (sFl (sOd (sKd u (upd (xkd u) ((nI (xm u))).toNatClampNeg a)) (upd (xod u) ((nI (xm u))).toNatClampNeg b)) (vp_updL (xfl u) ((nI (xm u))).toNatClampNeg (-9223372036854775808)))) := hD
            refine lv_aload_n hx hb dY_open_65 rfl (lv_at hl 0 rfl) ?_
            refine lv_dup hx hb dY_open_66 rfl ?_
            refine va_get (D := (dC, dI)) (ci := 1) (v := .int (nI (xm u))) (C := RX1) (T := TX1) (N := 9) hx hb hts hfw hown hK hP 0 rfl rfl 0 (by decide) (hts (.fieldLink RX1 33 "MeldingHeapsModel" "opened" "I") (by decide +kernel)) (fun _ h9 => h9) rfl dY_open_67 ?_
            refine lv_iconst (v := 1) hx hb dY_open_70 (by decide) ?_
            refine lv_iadd hx hb dY_open_71 ?_
            refine W.eq (congrArg (fun z => F0 m 72 ls (.int z :: [.ref (G 0)])) (nI_1 (xm u))) ?_
            refine va_put (D := (dC, dI)) (ci := 1) (v := .int (nI ((xm u) + 1))) (ty := .int) (C := RX1) (T := TX1) (N := 9) hx hb hts hfw tyX1 tyX1_ok nmX1 hown hK hP hD hS 0 rfl rfl 0 (by decide) (hts (.fieldLink RX1 33 "MeldingHeapsModel" "opened" "I") (by decide +kernel)) (fun _ h9 => h9) rfl (by decide +kernel) rfl rfl (Nat.le_of_ble_eq_true rfl) dY_open_72 (fun H locs hP hD hS => ?_)
            have hP : va_P (dC, dI) vwCl (yW G C (sM (sFl (sOd (sKd u (upd (xkd u) ((nI (xm u))).toNatClampNeg a)) (upd (xod u) ((nI (xm u))).toNatClampNeg b)) (vp_updL (xfl u) ((nI (xm u))).toNatClampNeg (-9223372036854775808))) ((xm u) + 1))) H := hP
            have hD : va_D A (yW G C (sM (sFl (sOd (sKd u (upd (xkd u) ((nI (xm u))).toNatClampNeg a)) (upd (xod u) ((nI (xm u))).toNatClampNeg b)) (vp_updL (xfl u) ((nI (xm u))).toNatClampNeg (-9223372036854775808))) ((xm u) + 1))) := hD
            refine lv_aload_n hx hb dY_open_75 rfl (lv_at hl 0 rfl) ?_
            refine va_get (D := (dC, dI)) (ci := 1) (v := .int (nI ((xm u) + 1))) (C := RX1) (T := TX1) (N := 9) hx hb hts hfw hown hK hP 0 rfl rfl 0 (by decide) (hts (.fieldLink RX1 33 "MeldingHeapsModel" "opened" "I") (by decide +kernel)) (fun _ h9 => h9) rfl dY_open_76 ?_
            refine lv_iconst (v := 1) hx hb dY_open_79 (by decide) ?_
            refine lv_isub hx hb dY_open_80 ?_
            have e8 : yq_open u a b = (sM (sFl (sOd (sKd u (upd (xkd u) ((nI (xm u))).toNatClampNeg a)) (upd (xod u) ((nI (xm u))).toNatClampNeg b)) (vp_updL (xfl u) ((nI (xm u))).toNatClampNeg (-9223372036854775808))) ((xm u) + 1)) := by unfold yq_open; rw [if_neg c1, if_neg c6, if_neg c10, if_pos c15, if_neg c27]
            have e9 : yp_open u a b = ((nI ((xm u) + 1)) - 1) := by unfold yp_open; rw [if_neg c1, if_neg c6, if_neg c10, if_pos c15, if_neg c27]
            exact W.eq (congrArg (fun z => F0 m 81 ls [.int z]) e9.symm) (kk _ _ _ _ dY_open_81 (by rw [e8]; exact hP) (by rw [e8]; exact hD) hS)
          · refine lv_bipush (v := (-8)) hx hb dY_open_30 (by decide) ?_
            have e8 : yq_open u a b = u := by unfold yq_open; rw [if_neg c1, if_neg c6, if_neg c10, if_pos c15, if_pos c27]
            have e9 : yp_open u a b = (-8) := by unfold yp_open; rw [if_neg c1, if_neg c6, if_neg c10, if_pos c15, if_pos c27]
            exact W.eq (congrArg (fun z => F0 m 32 ls [.int z]) e9.symm) (kk _ _ _ _ dY_open_32 (by rw [e8]; exact hP) (by rw [e8]; exact hD) hS)
        · refine lv_bipush (v := (-2)) hx hb dY_open_18 (by decide) ?_
          have e8 : yq_open u a b = u := by unfold yq_open; rw [if_neg c1, if_neg c6, if_neg c10, if_neg c15]
          have e9 : yp_open u a b = (-2) := by unfold yp_open; rw [if_neg c1, if_neg c6, if_neg c10, if_neg c15]
          exact W.eq (congrArg (fun z => F0 m 20 ls [.int z]) e9.symm) (kk _ _ _ _ dY_open_20 (by rw [e8]; exact hP) (by rw [e8]; exact hD) hS)
theorem yc_open (l : Launch) (dC : Nat → ClassId) (dI : Nat → Nat → Nat) (G : Nat → Nat) (C : Nat → ClassId) (sz : Nat) (u : xS) (a : Int32) (b : Int32) (hm : xm u ≤ 12) : xMi l yY_open wsY_open (xR 0 0) dC dI (yT C) [.ref (G 0), .int a, .int b] (yW G C u) (yW G C (yq_open u a b)) (yp_open u a b) sz :=
  xmet_i (by decide) rfl rfl (Nat.le_of_ble_eq_true rfl) rfl (fun p e s m args below meth c Q A ls B hK hA hP hD hl kk => yb_open hm B hK hA hP hD hl kk)
def yp_insert (u : xS) (h : Int32) (k : Int64) (v : Int32) : Int32 :=
  (if (yp_wrongHeap u h) = 0 then
    (if (yp_isBelow u h k) = 0 then
      (if (nI (xn u)) = 160 then
        (-8)
      else ((nI ((xn u) + 1)) - 1))
    else (-6))
  else (yp_wrongHeap u h))
def yq_insert (u : xS) (h : Int32) (k : Int64) (v : Int32) : xS :=
  (if (yp_wrongHeap u h) = 0 then
    (if (yp_isBelow u h k) = 0 then
      (if (nI (xn u)) = 160 then
        u
      else (sN (sOw (sVl (sKy u (vp_updL (xky u) ((nI (xn u))).toNatClampNeg k)) (upd (xvl u) ((nI (xn u))).toNatClampNeg v)) (upd (xow u) ((nI (xn u))).toNatClampNeg h)) ((xn u) + 1)))
    else u)
  else u)
set_option maxHeartbeats 4000000 in
set_option maxRecDepth 100000 in
theorem yb_insert {p : Program} {l : Launch} {e : Env} {s : State} {m : MethodId} {args : Array Value} {below : List Frame} {meth : Method} {c : Code} {Q : State → Prop} {A : Nat → Prop} {ls : Array Slot} {dC : Nat → ClassId} {dI : Nat → Nat → Nat} {G : Nat → Nat} {C : Nat → ClassId} {u : xS} {h : Int32} {k : Int64} {v : Int32} (hm : xm u ≤ 12) (hn : xn u ≤ 160) (B : CallFix p m c cY_insert 6 s args wsY_insert RX1) (hK : va_K (dC, dI) vwCl (yT C) s) (hA : ∀ q : Nat, s.heap.size ≤ q → A q) (hP : va_P (dC, dI) vwCl (yW G C u) s.heap) (hD : va_D A (yW G C u)) (hl : lv_has ls 6 [(0, .ref (G 0)), (1, .int h), (2, .long k), (4, .int v)]) (kk : (∀ (H : Heap) (locs : List Loc) (pc : Nat) (ls : Array Slot), decode cY_insert pc = .ok (.ireturn, 1) → va_P (dC, dI) vwCl (yW G C (yq_insert u h k v)) H → va_D A (yW G C (yq_insert u h k v)) → va_S A s.heap H locs → W p l e (xR 2 47) s m args below meth c H locs 0 0 Q (F0 m pc ls [.int (yp_insert u h k v)]))) : W p l e (xR 2 47) s m args below meth c s.heap [] 0 0 Q (F0 m 0 ls []) := by
  obtain ⟨hx, hb, hml, hown, hts⟩ := B
  have hS : va_S A s.heap s.heap [] := va_S.rf
  have hfw : ∀ w ∈ u_ws RX1 TX1 9, w ∈ wsY_insert := by decide +kernel
  refine lv_aload_n hx hb dY_insert_0 rfl (lv_at hl 0 rfl) ?_
  refine lv_iload_n hx hb dY_insert_1 rfl (lv_at hl 1 rfl) ?_
  refine xcall_i (ws := (yW G C u)) (wc := (yW G C u)) (wr := []) (w1 := (yW G C u)) (v := (yp_wrongHeap u h)) [0, 1, 2, 3, 4, 5, 6, 7] [] (va_runV (As := [.int h]) (rest := []) ⟨hx, hb, hml, hown, hts⟩ (yc_wrongHeap l dC dI G C _ u h hm) (cwV 1 hts gY_insert_Y_wrongHeap rfl rfl rfl (by decide +kernel) ⟨Nat.le_of_ble_eq_true rfl, Nat.le_of_ble_eq_true rfl⟩) (xpreV (q0 := 0) (ci := 1) (qc := (RX1, TX1, 9)) hK hP hD rfl rfl) rfl rfl hl.1 rfl (lv_room (Nat.le_of_ble_eq_true rfl)) dY_insert_2 ⟨Nat.zero_le _, Nat.zero_le _⟩) hP hD hS hA rfl rfl (by decide) (by decide) (fun H locs hP hD hS => ?_)
  have hP : va_P (dC, dI) vwCl (yW G C u) H := hP
  have hD : va_D A (yW G C u) := hD
  refine lv_istore (lv' := [(5, .int (yp_wrongHeap u h)), (0, .ref (G 0)), (1, .int h), (2, .long k), (4, .int v)]) hx hb dY_insert_5 hl (by decide) rfl (fun ls hl => ?_)
  refine lv_iload hx hb dY_insert_7 (lv_at hl 0 rfl) ?_
  refine lv_if_eq (tgt := 15) hx hb dY_insert_9 rfl (fun c9 => ?_) (fun c9 => ?_)
  · refine lv_aload_n hx hb dY_insert_15 rfl (lv_at hl 1 rfl) ?_
    refine lv_iload_n hx hb dY_insert_16 rfl (lv_at hl 2 rfl) ?_
    refine lv_lload_n hx hb dY_insert_17 rfl (lv_at hl 3 rfl) ?_
    refine xcall_i (ws := (yW G C u)) (wc := (yW G C u)) (wr := []) (w1 := (yW G C u)) (v := (yp_isBelow u h k)) [0, 1, 2, 3, 4, 5, 6, 7] [] (va_runV (As := [.int h, .long k]) (rest := []) ⟨hx, hb, hml, hown, hts⟩ (yc_isBelow l dC dI G C _ u h k (yin_wH hm c9)) (cwV 2 hts gY_insert_Y_isBelow rfl rfl rfl (by decide +kernel) ⟨Nat.le_of_ble_eq_true rfl, Nat.le_of_ble_eq_true rfl⟩) (xpreV (q0 := 0) (ci := 1) (qc := (RX1, TX1, 9)) hK hP hD rfl rfl) rfl rfl hl.1 rfl (lv_room (Nat.le_of_ble_eq_true rfl)) dY_insert_18 ⟨Nat.zero_le _, Nat.zero_le _⟩) hP hD hS hA rfl rfl (by decide) (by decide) (fun H locs hP hD hS => ?_)
    have hP : va_P (dC, dI) vwCl (yW G C u) H := hP
    have hD : va_D A (yW G C u) := hD
    refine lv_if_eq (tgt := 27) hx hb dY_insert_21 rfl (fun c21 => ?_) (fun c21 => ?_)
    · refine lv_aload_n hx hb dY_insert_27 rfl (lv_at hl 1 rfl) ?_
      refine va_get (D := (dC, dI)) (ci := 1) (v := .int (nI (xn u))) (C := RX1) (T := TX1) (N := 9) hx hb hts hfw hown hK hP 0 rfl rfl 5 (by decide) (hts (.fieldLink RX1 37 "MeldingHeapsModel" "inserted" "I") (by decide +kernel)) (fun _ h9 => h9) rfl dY_insert_28 ?_
      refine lv_sipush (v := 160) hx hb dY_insert_31 (by decide) ?_
      refine lv_icmp_ne (tgt := 40) hx hb dY_insert_34 rfl (fun c34 => ?_) (fun c34 => ?_)
      · refine lv_aload_n hx hb dY_insert_40 rfl (lv_at hl 1 rfl) ?_
        refine va_get (D := (dC, dI)) (ci := 1) (v := .ref (G 5)) (C := RX1) (T := TX1) (N := 9) hx hb hts hfw hown hK hP 0 rfl rfl 6 (by decide) (hts (.fieldLink RX1 24 "MeldingHeapsModel" "keys" "[J") (by decide +kernel)) (fun _ h9 => h9) rfl dY_insert_41 ?_
        refine lv_aload_n hx hb dY_insert_44 rfl (lv_at hl 1 rfl) ?_
        refine va_get (D := (dC, dI)) (ci := 1) (v := .int (nI (xn u))) (C := RX1) (T := TX1) (N := 9) hx hb hts hfw hown hK hP 0 rfl rfl 5 (by decide) (hts (.fieldLink RX1 37 "MeldingHeapsModel" "inserted" "I") (by decide +kernel)) (fun _ h9 => h9) rfl dY_insert_45 ?_
        refine lv_lload_n hx hb dY_insert_48 rfl (lv_at hl 3 rfl) ?_
        refine va_last (f := (xky u)) hx hb hK hP hD hS 5 4 rfl rfl (cnt_ne c34 hn) dY_insert_49 (fun H locs hP hD hS => ?_)
        have hP : va_P (dC, dI) vwCl (yW G C (sKy u (vp_updL (xky u) ((nI (xn u))).toNatClampNeg k))) H := hP
        have hD : va_D A (yW G C (sKy u (vp_updL (xky u) ((nI (xn u))).toNatClampNeg k))) := hD
        refine lv_aload_n hx hb dY_insert_50 rfl (lv_at hl 1 rfl) ?_
        refine va_get (D := (dC, dI)) (ci := 1) (v := .ref (G 6)) (C := RX1) (T := TX1) (N := 9) hx hb hts hfw hown hK hP 0 rfl rfl 7 (by decide) (hts (.fieldLink RX1 27 "MeldingHeapsModel" "values" "[I") (by decide +kernel)) (fun _ h9 => h9) rfl dY_insert_51 ?_
        refine lv_aload_n hx hb dY_insert_54 rfl (lv_at hl 1 rfl) ?_
        refine va_get (D := (dC, dI)) (ci := 1) (v := .int (nI (xn u))) (C := RX1) (T := TX1) (N := 9) hx hb hts hfw hown hK hP 0 rfl rfl 5 (by decide) (hts (.fieldLink RX1 37 "MeldingHeapsModel" "inserted" "I") (by decide +kernel)) (fun _ h9 => h9) rfl dY_insert_55 ?_
        refine lv_iload hx hb dY_insert_58 (lv_at hl 4 rfl) ?_
        refine va_iast (f := (xvl u)) hx hb hK hP hD hS 6 5 rfl rfl (cnt_ne c34 hn) dY_insert_60 (fun H locs hP hD hS => ?_)
        have hP : va_P (dC, dI) vwCl (yW G C (sVl (sKy u (vp_updL (xky u) ((nI (xn u))).toNatClampNeg k)) (upd (xvl u) ((nI (xn u))).toNatClampNeg v))) H := hP
        have hD : va_D A (yW G C (sVl (sKy u (vp_updL (xky u) ((nI (xn u))).toNatClampNeg k)) (upd (xvl u) ((nI (xn u))).toNatClampNeg v))) := hD
        refine lv_aload_n hx hb dY_insert_61 rfl (lv_at hl 1 rfl) ?_
        refine va_get (D := (dC, dI)) (ci := 1) (v := .ref (G 7)) (C := RX1) (T := TX1) (N := 9) hx hb hts hfw hown hK hP 0 rfl rfl 8 (by decide) (hts (.fieldLink RX1 30 "MeldingHeapsModel" "homes" "[I") (by decide +kernel)) (fun _ h9 => h9) rfl dY_insert_62 ?_
        refine lv_aload_n hx hb dY_insert_65 rfl (lv_at hl 1 rfl) ?_
        refine va_get (D := (dC, dI)) (ci := 1) (v := .int (nI (xn u))) (C := RX1) (T := TX1) (N := 9) hx hb hts hfw hown hK hP 0 rfl rfl 5 (by decide) (hts (.fieldLink RX1 37 "MeldingHeapsModel" "inserted" "I") (by decide +kernel)) (fun _ h9 => h9) rfl dY_insert_66 ?_
        refine lv_iload_n hx hb dY_insert_69 rfl (lv_at hl 2 rfl) ?_
        refine va_iast (f := (xow u)) hx hb hK hP hD hS 7 6 rfl rfl (cnt_ne c34 hn) dY_insert_70 (fun H locs hP hD hS => ?_)
        have hP : va_P (dC, dI) vwCl (yW G C (sOw (sVl (sKy u (vp_updL (xky u) ((nI (xn u))).toNatClampNeg k)) (upd (xvl u) ((nI (xn u))).toNatClampNeg v)) (upd (xow u) ((nI (xn u))).toNatClampNeg h))) H := hP
        have hD : va_D A (yW G C (sOw (sVl (sKy u (vp_updL (xky u) ((nI (xn u))).toNatClampNeg k)) (upd (xvl u) ((nI (xn u))).toNatClampNeg v)) (upd (xow u) ((nI (xn u))).toNatClampNeg h))) := hD
        refine lv_aload_n hx hb dY_insert_71 rfl (lv_at hl 1 rfl) ?_
        refine lv_dup hx hb dY_insert_72 rfl ?_
        refine va_get (D := (dC, dI)) (ci := 1) (v := .int (nI (xn u))) (C := RX1) (T := TX1) (N := 9) hx hb hts hfw hown hK hP 0 rfl rfl 5 (by decide) (hts (.fieldLink RX1 37 "MeldingHeapsModel" "inserted" "I") (by decide +kernel)) (fun _ h9 => h9) rfl dY_insert_73 ?_
        refine lv_iconst (v := 1) hx hb dY_insert_76 (by decide) ?_
        refine lv_iadd hx hb dY_insert_77 ?_
        refine W.eq (congrArg (fun z => F0 m 78 ls (.int z :: [.ref (G 0)])) (nI_1 (xn u))) ?_
        refine va_put (D := (dC, dI)) (ci := 1) (v := .int (nI ((xn u) + 1))) (ty := .int) (C := RX1) (T := TX1) (N := 9) hx hb hts hfw tyX1 tyX1_ok nmX1 hown hK hP hD hS 0 rfl rfl 5 (by decide) (hts (.fieldLink RX1 37 "MeldingHeapsModel" "inserted" "I") (by decide +kernel)) (fun _ h9 => h9) rfl (by decide +kernel) rfl rfl (Nat.le_of_ble_eq_true rfl) dY_insert_78 (fun H locs hP hD hS => ?_)
        have hP : va_P (dC, dI) vwCl (yW G C (sN (sOw (sVl (sKy u (vp_updL (xky u) ((nI (xn u))).toNatClampNeg k)) (upd (xvl u) ((nI (xn u))).toNatClampNeg v)) (upd (xow u) ((nI (xn u))).toNatClampNeg h)) ((xn u) + 1))) H := hP
        have hD : va_D A (yW G C (sN (sOw (sVl (sKy u (vp_updL (xky u) ((nI (xn u))).toNatClampNeg k)) (upd (xvl u) ((nI (xn u))).toNatClampNeg v)) (upd (xow u) ((nI (xn u))).toNatClampNeg h)) ((xn u) + 1))) := hD
        refine lv_aload_n hx hb dY_insert_81 rfl (lv_at hl 1 rfl) ?_
        refine va_get (D := (dC, dI)) (ci := 1) (v := .int (nI ((xn u) + 1))) (C := RX1) (T := TX1) (N := 9) hx hb hts hfw hown hK hP 0 rfl rfl 5 (by decide) (hts (.fieldLink RX1 37 "MeldingHeapsModel" "inserted" "I") (by decide +kernel)) (fun _ h9 => h9) rfl dY_insert_82 ?_
        refine lv_iconst (v := 1) hx hb dY_insert_85 (by decide) ?_
        refine lv_isub hx hb dY_insert_86 ?_
        have e8 : yq_insert u h k v = (sN (sOw (sVl (sKy u (vp_updL (xky u) ((nI (xn u))).toNatClampNeg k)) (upd (xvl u) ((nI (xn u))).toNatClampNeg v)) (upd (xow u) ((nI (xn u))).toNatClampNeg h)) ((xn u) + 1)) := by unfold yq_insert; rw [if_pos c9, if_pos c21, if_neg c34]
        have e9 : yp_insert u h k v = ((nI ((xn u) + 1)) - 1) := by unfold yp_insert; rw [if_pos c9, if_pos c21, if_neg c34]
        exact W.eq (congrArg (fun z => F0 m 87 ls [.int z]) e9.symm) (kk _ _ _ _ dY_insert_87 (by rw [e8]; exact hP) (by rw [e8]; exact hD) hS)
      · refine lv_bipush (v := (-8)) hx hb dY_insert_37 (by decide) ?_
        have e8 : yq_insert u h k v = u := by unfold yq_insert; rw [if_pos c9, if_pos c21, if_pos c34]
        have e9 : yp_insert u h k v = (-8) := by unfold yp_insert; rw [if_pos c9, if_pos c21, if_pos c34]
        exact W.eq (congrArg (fun z => F0 m 39 ls [.int z]) e9.symm) (kk _ _ _ _ dY_insert_39 (by rw [e8]; exact hP) (by rw [e8]; exact hD) hS)
    · refine lv_bipush (v := (-6)) hx hb dY_insert_24 (by decide) ?_
      have e8 : yq_insert u h k v = u := by unfold yq_insert; rw [if_pos c9, if_neg c21]
      have e9 : yp_insert u h k v = (-6) := by unfold yp_insert; rw [if_pos c9, if_neg c21]
      exact W.eq (congrArg (fun z => F0 m 26 ls [.int z]) e9.symm) (kk _ _ _ _ dY_insert_26 (by rw [e8]; exact hP) (by rw [e8]; exact hD) hS)
  · refine lv_iload hx hb dY_insert_12 (lv_at hl 0 rfl) ?_
    have e8 : yq_insert u h k v = u := by unfold yq_insert; rw [if_neg c9]
    have e9 : yp_insert u h k v = (yp_wrongHeap u h) := by unfold yp_insert; rw [if_neg c9]
    exact W.eq (congrArg (fun z => F0 m 14 ls [.int z]) e9.symm) (kk _ _ _ _ dY_insert_14 (by rw [e8]; exact hP) (by rw [e8]; exact hD) hS)
theorem yc_insert (l : Launch) (dC : Nat → ClassId) (dI : Nat → Nat → Nat) (G : Nat → Nat) (C : Nat → ClassId) (sz : Nat) (u : xS) (h : Int32) (k : Int64) (v : Int32) (hm : xm u ≤ 12) (hn : xn u ≤ 160) : xMi l yY_insert wsY_insert (xR 2 47) dC dI (yT C) [.ref (G 0), .int h, .long k, .int v] (yW G C u) (yW G C (yq_insert u h k v)) (yp_insert u h k v) sz :=
  xmet_i (by decide) rfl rfl (Nat.le_of_ble_eq_true rfl) rfl (fun p e s m args below meth c Q A ls B hK hA hP hD hl kk => yb_insert hm hn B hK hA hP hD hl kk)
def yp_first (u : xS) (h : Int32) : Int32 :=
  (if (yp_wrongHeap u h) = 0 then
    (yp_extreme u h 1)
  else (yp_wrongHeap u h))
set_option maxHeartbeats 4000000 in
set_option maxRecDepth 100000 in
theorem yb_first {p : Program} {l : Launch} {e : Env} {s : State} {m : MethodId} {args : Array Value} {below : List Frame} {meth : Method} {c : Code} {Q : State → Prop} {A : Nat → Prop} {ls : Array Slot} {dC : Nat → ClassId} {dI : Nat → Nat → Nat} {G : Nat → Nat} {C : Nat → ClassId} {u : xS} {h : Int32} (hm : xm u ≤ 12) (hn : xn u ≤ 160) (B : CallFix p m c cY_first 3 s args wsY_first RX1) (hK : va_K (dC, dI) vwCl (yT C) s) (hA : ∀ q : Nat, s.heap.size ≤ q → A q) (hP : va_P (dC, dI) vwCl (yW G C u) s.heap) (hD : va_D A (yW G C u)) (hl : lv_has ls 3 [(0, .ref (G 0)), (1, .int h)]) (kk : (∀ (H : Heap) (locs : List Loc) (pc : Nat) (ls : Array Slot), decode cY_first pc = .ok (.ireturn, 1) → va_P (dC, dI) vwCl (yW G C u) H → va_D A (yW G C u) → va_S A s.heap H locs → W p l e (xR 2 52) s m args below meth c H locs 0 0 Q (F0 m pc ls [.int (yp_first u h)]))) : W p l e (xR 2 52) s m args below meth c s.heap [] 0 0 Q (F0 m 0 ls []) := by
  obtain ⟨hx, hb, hml, hown, hts⟩ := B
  have hS : va_S A s.heap s.heap [] := va_S.rf
  refine lv_aload_n hx hb dY_first_0 rfl (lv_at hl 0 rfl) ?_
  refine lv_iload_n hx hb dY_first_1 rfl (lv_at hl 1 rfl) ?_
  refine xcall_i (ws := (yW G C u)) (wc := (yW G C u)) (wr := []) (w1 := (yW G C u)) (v := (yp_wrongHeap u h)) [0, 1, 2, 3, 4, 5, 6, 7] [] (va_runV (As := [.int h]) (rest := []) ⟨hx, hb, hml, hown, hts⟩ (yc_wrongHeap l dC dI G C _ u h hm) (cwV 1 hts gY_first_Y_wrongHeap rfl rfl rfl (by decide +kernel) ⟨Nat.le_of_ble_eq_true rfl, Nat.le_of_ble_eq_true rfl⟩) (xpreV (q0 := 0) (ci := 1) (qc := (RX1, TX1, 9)) hK hP hD rfl rfl) rfl rfl hl.1 rfl (lv_room (Nat.le_of_ble_eq_true rfl)) dY_first_2 ⟨Nat.zero_le _, Nat.zero_le _⟩) hP hD hS hA rfl rfl (by decide) (by decide) (fun H locs hP hD hS => ?_)
  have hP : va_P (dC, dI) vwCl (yW G C u) H := hP
  have hD : va_D A (yW G C u) := hD
  refine lv_istore_n (lv' := [(2, .int (yp_wrongHeap u h)), (0, .ref (G 0)), (1, .int h)]) hx hb dY_first_5 rfl hl (by decide) rfl (fun ls hl => ?_)
  refine lv_iload_n hx hb dY_first_6 rfl (lv_at hl 0 rfl) ?_
  refine lv_if_eq (tgt := 14) hx hb dY_first_7 rfl (fun c7 => ?_) (fun c7 => ?_)
  · refine lv_aload_n hx hb dY_first_14 rfl (lv_at hl 1 rfl) ?_
    refine lv_iload_n hx hb dY_first_15 rfl (lv_at hl 2 rfl) ?_
    refine lv_iconst (v := 1) hx hb dY_first_16 (by decide) ?_
    refine xcall_i (ws := (yW G C u)) (wc := (yW G C u)) (wr := []) (w1 := (yW G C u)) (v := (yp_extreme u h 1)) [0, 1, 2, 3, 4, 5, 6, 7] [] (va_runV (As := [.int h, .int 1]) (rest := []) ⟨hx, hb, hml, hown, hts⟩ (yc_extreme l dC dI G C _ u h 1 hn (yin_wH hm c7)) (cwV 2 hts gY_first_Y_extreme rfl rfl rfl (by decide +kernel) ⟨Nat.le_of_ble_eq_true rfl, Nat.le_of_ble_eq_true rfl⟩) (xpreV (q0 := 0) (ci := 1) (qc := (RX1, TX1, 9)) hK hP hD rfl rfl) rfl rfl hl.1 rfl (lv_room (Nat.le_of_ble_eq_true rfl)) dY_first_17 ⟨Nat.zero_le _, Nat.zero_le _⟩) hP hD hS hA rfl rfl (by decide) (by decide) (fun H locs hP hD hS => ?_)
    have hP : va_P (dC, dI) vwCl (yW G C u) H := hP
    have hD : va_D A (yW G C u) := hD
    have e9 : yp_first u h = (yp_extreme u h 1) := by unfold yp_first; rw [if_pos c7]
    exact W.eq (congrArg (fun z => F0 m 20 ls [.int z]) e9.symm) (kk _ _ _ _ dY_first_20 hP hD hS)
  · refine lv_iload_n hx hb dY_first_10 rfl (lv_at hl 0 rfl) ?_
    refine lv_goto (tgt := 20) hx hb dY_first_11 rfl ?_
    have e9 : yp_first u h = (yp_wrongHeap u h) := by unfold yp_first; rw [if_neg c7]
    exact W.eq (congrArg (fun z => F0 m 20 ls [.int z]) e9.symm) (kk _ _ _ _ dY_first_20 hP hD hS)
theorem yc_first (l : Launch) (dC : Nat → ClassId) (dI : Nat → Nat → Nat) (G : Nat → Nat) (C : Nat → ClassId) (sz : Nat) (u : xS) (h : Int32) (hm : xm u ≤ 12) (hn : xn u ≤ 160) : xMi l yY_first wsY_first (xR 2 52) dC dI (yT C) [.ref (G 0), .int h] (yW G C u) (yW G C u) (yp_first u h) sz :=
  xmet_i (by decide) rfl rfl (Nat.le_of_ble_eq_true rfl) rfl (fun p e s m args below meth c Q A ls B hK hA hP hD hl kk => yb_first hm hn B hK hA hP hD hl kk)
def yp_last (u : xS) (h : Int32) : Int32 :=
  (if (yp_wrongHeap u h) = 0 then
    (if ((xkd u) (h).toNatClampNeg) = 1 then
      (yp_extreme u h 0)
    else (-7))
  else (yp_wrongHeap u h))
set_option maxHeartbeats 4000000 in
set_option maxRecDepth 100000 in
theorem yb_last {p : Program} {l : Launch} {e : Env} {s : State} {m : MethodId} {args : Array Value} {below : List Frame} {meth : Method} {c : Code} {Q : State → Prop} {A : Nat → Prop} {ls : Array Slot} {dC : Nat → ClassId} {dI : Nat → Nat → Nat} {G : Nat → Nat} {C : Nat → ClassId} {u : xS} {h : Int32} (hm : xm u ≤ 12) (hn : xn u ≤ 160) (B : CallFix p m c cY_last 3 s args wsY_last RX1) (hK : va_K (dC, dI) vwCl (yT C) s) (hA : ∀ q : Nat, s.heap.size ≤ q → A q) (hP : va_P (dC, dI) vwCl (yW G C u) s.heap) (hD : va_D A (yW G C u)) (hl : lv_has ls 3 [(0, .ref (G 0)), (1, .int h)]) (kk : (∀ (H : Heap) (locs : List Loc) (pc : Nat) (ls : Array Slot), decode cY_last pc = .ok (.ireturn, 1) → va_P (dC, dI) vwCl (yW G C u) H → va_D A (yW G C u) → va_S A s.heap H locs → W p l e (xR 2 52) s m args below meth c H locs 0 0 Q (F0 m pc ls [.int (yp_last u h)]))) : W p l e (xR 2 52) s m args below meth c s.heap [] 0 0 Q (F0 m 0 ls []) := by
  obtain ⟨hx, hb, hml, hown, hts⟩ := B
  have hS : va_S A s.heap s.heap [] := va_S.rf
  have hfw : ∀ w ∈ u_ws RX1 TX1 9, w ∈ wsY_last := by decide +kernel
  refine lv_aload_n hx hb dY_last_0 rfl (lv_at hl 0 rfl) ?_
  refine lv_iload_n hx hb dY_last_1 rfl (lv_at hl 1 rfl) ?_
  refine xcall_i (ws := (yW G C u)) (wc := (yW G C u)) (wr := []) (w1 := (yW G C u)) (v := (yp_wrongHeap u h)) [0, 1, 2, 3, 4, 5, 6, 7] [] (va_runV (As := [.int h]) (rest := []) ⟨hx, hb, hml, hown, hts⟩ (yc_wrongHeap l dC dI G C _ u h hm) (cwV 1 hts gY_last_Y_wrongHeap rfl rfl rfl (by decide +kernel) ⟨Nat.le_of_ble_eq_true rfl, Nat.le_of_ble_eq_true rfl⟩) (xpreV (q0 := 0) (ci := 1) (qc := (RX1, TX1, 9)) hK hP hD rfl rfl) rfl rfl hl.1 rfl (lv_room (Nat.le_of_ble_eq_true rfl)) dY_last_2 ⟨Nat.zero_le _, Nat.zero_le _⟩) hP hD hS hA rfl rfl (by decide) (by decide) (fun H locs hP hD hS => ?_)
  have hP : va_P (dC, dI) vwCl (yW G C u) H := hP
  have hD : va_D A (yW G C u) := hD
  refine lv_istore_n (lv' := [(2, .int (yp_wrongHeap u h)), (0, .ref (G 0)), (1, .int h)]) hx hb dY_last_5 rfl hl (by decide) rfl (fun ls hl => ?_)
  refine lv_iload_n hx hb dY_last_6 rfl (lv_at hl 0 rfl) ?_
  refine lv_if_eq (tgt := 12) hx hb dY_last_7 rfl (fun c7 => ?_) (fun c7 => ?_)
  · refine lv_aload_n hx hb dY_last_12 rfl (lv_at hl 1 rfl) ?_
    refine va_get (D := (dC, dI)) (ci := 1) (v := .ref (G 1)) (C := RX1) (T := TX1) (N := 9) hx hb hts hfw hown hK hP 0 rfl rfl 1 (by decide) (hts (.fieldLink RX1 7 "MeldingHeapsModel" "kinds" "[I") (by decide +kernel)) (fun _ h9 => h9) rfl dY_last_13 ?_
    refine lv_iload_n hx hb dY_last_16 rfl (lv_at hl 2 rfl) ?_
    refine va_iald (f := (xkd u)) hx hb hK hP 1 0 rfl rfl (yin_wH hm c7) dY_last_17 ?_
    refine lv_iconst (v := 1) hx hb dY_last_18 (by decide) ?_
    refine lv_icmp_ne (tgt := 31) hx hb dY_last_19 rfl (fun c19 => ?_) (fun c19 => ?_)
    · refine lv_bipush (v := (-7)) hx hb dY_last_31 (by decide) ?_
      have e9 : yp_last u h = (-7) := by unfold yp_last; rw [if_pos c7, if_neg c19]
      exact W.eq (congrArg (fun z => F0 m 33 ls [.int z]) e9.symm) (kk _ _ _ _ dY_last_33 hP hD hS)
    · refine lv_aload_n hx hb dY_last_22 rfl (lv_at hl 1 rfl) ?_
      refine lv_iload_n hx hb dY_last_23 rfl (lv_at hl 2 rfl) ?_
      refine lv_iconst (v := 0) hx hb dY_last_24 (by decide) ?_
      refine xcall_i (ws := (yW G C u)) (wc := (yW G C u)) (wr := []) (w1 := (yW G C u)) (v := (yp_extreme u h 0)) [0, 1, 2, 3, 4, 5, 6, 7] [] (va_runV (As := [.int h, .int 0]) (rest := []) ⟨hx, hb, hml, hown, hts⟩ (yc_extreme l dC dI G C _ u h 0 hn (yin_wH hm c7)) (cwV 2 hts gY_last_Y_extreme rfl rfl rfl (by decide +kernel) ⟨Nat.le_of_ble_eq_true rfl, Nat.le_of_ble_eq_true rfl⟩) (xpreV (q0 := 0) (ci := 1) (qc := (RX1, TX1, 9)) hK hP hD rfl rfl) rfl rfl hl.1 rfl (lv_room (Nat.le_of_ble_eq_true rfl)) dY_last_25 ⟨Nat.zero_le _, Nat.zero_le _⟩) hP hD hS hA rfl rfl (by decide) (by decide) (fun H locs hP hD hS => ?_)
      have hP : va_P (dC, dI) vwCl (yW G C u) H := hP
      have hD : va_D A (yW G C u) := hD
      refine lv_goto (tgt := 33) hx hb dY_last_28 rfl ?_
      have e9 : yp_last u h = (yp_extreme u h 0) := by unfold yp_last; rw [if_pos c7, if_pos c19]
      exact W.eq (congrArg (fun z => F0 m 33 ls [.int z]) e9.symm) (kk _ _ _ _ dY_last_33 hP hD hS)
  · refine lv_iload_n hx hb dY_last_10 rfl (lv_at hl 0 rfl) ?_
    have e9 : yp_last u h = (yp_wrongHeap u h) := by unfold yp_last; rw [if_neg c7]
    exact W.eq (congrArg (fun z => F0 m 11 ls [.int z]) e9.symm) (kk _ _ _ _ dY_last_11 hP hD hS)
theorem yc_last (l : Launch) (dC : Nat → ClassId) (dI : Nat → Nat → Nat) (G : Nat → Nat) (C : Nat → ClassId) (sz : Nat) (u : xS) (h : Int32) (hm : xm u ≤ 12) (hn : xn u ≤ 160) : xMi l yY_last wsY_last (xR 2 52) dC dI (yT C) [.ref (G 0), .int h] (yW G C u) (yW G C u) (yp_last u h) sz :=
  xmet_i (by decide) rfl rfl (Nat.le_of_ble_eq_true rfl) rfl (fun p e s m args below meth c Q A ls B hK hA hP hD hl kk => yb_last hm hn B hK hA hP hD hl kk)
theorem yfirst_in {u : xS} {h : Int32} (hm : xm u ≤ 12) (hn : xn u ≤ 160) (c : ¬ yp_first u h < 0) : vp_in h 12 ∧ vp_in (yp_first u h) 160 := by
  unfold yp_first at c ⊢
  by_cases h1 : yp_wrongHeap u h = 0
  · rw [if_pos h1] at c ⊢
    exact ⟨yin_wH hm h1, yex_vp hn c⟩
  · rw [if_neg h1] at c; exact absurd (ywH_neg h1) c
theorem ylast_in {u : xS} {h : Int32} (hm : xm u ≤ 12) (hn : xn u ≤ 160) (c : ¬ yp_last u h < 0) : vp_in (yp_last u h) 160 := by
  unfold yp_last at c ⊢
  by_cases h1 : yp_wrongHeap u h = 0
  · rw [if_pos h1] at c ⊢
    by_cases h2 : (xkd u h.toNatClampNeg) = 1
    · rw [if_pos h2] at c ⊢
      exact yex_vp hn c
    · rw [if_neg h2] at c; exact absurd (by decide) c
  · rw [if_neg h1] at c; exact absurd (ywH_neg h1) c
def yp_take (u : xS) (h : Int32) : Int32 :=
  (if (yp_first u h) < 0 then
    (yp_first u h)
  else (yp_first u h))
def yq_take (u : xS) (h : Int32) : xS :=
  (if (yp_first u h) < 0 then
    u
  else (sOw (yq_leave u h (yp_first u h)) (upd (xow (yq_leave u h (yp_first u h))) ((yp_first u h)).toNatClampNeg (-1))))
set_option maxHeartbeats 4000000 in
set_option maxRecDepth 100000 in
theorem yb_take {p : Program} {l : Launch} {e : Env} {s : State} {m : MethodId} {args : Array Value} {below : List Frame} {meth : Method} {c : Code} {Q : State → Prop} {A : Nat → Prop} {ls : Array Slot} {dC : Nat → ClassId} {dI : Nat → Nat → Nat} {G : Nat → Nat} {C : Nat → ClassId} {u : xS} {h : Int32} (hm : xm u ≤ 12) (hn : xn u ≤ 160) (B : CallFix p m c cY_take 3 s args wsY_take RX1) (hK : va_K (dC, dI) vwCl (yT C) s) (hA : ∀ q : Nat, s.heap.size ≤ q → A q) (hP : va_P (dC, dI) vwCl (yW G C u) s.heap) (hD : va_D A (yW G C u)) (hl : lv_has ls 3 [(0, .ref (G 0)), (1, .int h)]) (kk : (∀ (H : Heap) (locs : List Loc) (pc : Nat) (ls : Array Slot), decode cY_take pc = .ok (.ireturn, 1) → va_P (dC, dI) vwCl (yW G C (yq_take u h)) H → va_D A (yW G C (yq_take u h)) → va_S A s.heap H locs → W p l e (xR 3 74) s m args below meth c H locs 0 0 Q (F0 m pc ls [.int (yp_take u h)]))) : W p l e (xR 3 74) s m args below meth c s.heap [] 0 0 Q (F0 m 0 ls []) := by
  obtain ⟨hx, hb, hml, hown, hts⟩ := B
  have hS : va_S A s.heap s.heap [] := va_S.rf
  have hfw : ∀ w ∈ u_ws RX1 TX1 9, w ∈ wsY_take := by decide +kernel
  refine lv_aload_n hx hb dY_take_0 rfl (lv_at hl 0 rfl) ?_
  refine lv_iload_n hx hb dY_take_1 rfl (lv_at hl 1 rfl) ?_
  refine xcall_i (ws := (yW G C u)) (wc := (yW G C u)) (wr := []) (w1 := (yW G C u)) (v := (yp_first u h)) [0, 1, 2, 3, 4, 5, 6, 7] [] (va_runV (As := [.int h]) (rest := []) ⟨hx, hb, hml, hown, hts⟩ (yc_first l dC dI G C _ u h hm hn) (cwV 1 hts gY_take_Y_first rfl rfl rfl (by decide +kernel) ⟨Nat.le_of_ble_eq_true rfl, Nat.le_of_ble_eq_true rfl⟩) (xpreV (q0 := 0) (ci := 1) (qc := (RX1, TX1, 9)) hK hP hD rfl rfl) rfl rfl hl.1 rfl (lv_room (Nat.le_of_ble_eq_true rfl)) dY_take_2 ⟨Nat.zero_le _, Nat.zero_le _⟩) hP hD hS hA rfl rfl (by decide) (by decide) (fun H locs hP hD hS => ?_)
  have hP : va_P (dC, dI) vwCl (yW G C u) H := hP
  have hD : va_D A (yW G C u) := hD
  refine lv_istore_n (lv' := [(2, .int (yp_first u h)), (0, .ref (G 0)), (1, .int h)]) hx hb dY_take_5 rfl hl (by decide) rfl (fun ls hl => ?_)
  refine lv_iload_n hx hb dY_take_6 rfl (lv_at hl 0 rfl) ?_
  refine lv_if_lt (tgt := 23) hx hb dY_take_7 rfl (fun c7 => ?_) (fun c7 => ?_)
  · refine lv_iload_n hx hb dY_take_23 rfl (lv_at hl 0 rfl) ?_
    have e8 : yq_take u h = u := by unfold yq_take; rw [if_pos c7]
    have e9 : yp_take u h = (yp_first u h) := by unfold yp_take; rw [if_pos c7]
    exact W.eq (congrArg (fun z => F0 m 24 ls [.int z]) e9.symm) (kk _ _ _ _ dY_take_24 (by rw [e8]; exact hP) (by rw [e8]; exact hD) hS)
  · refine lv_aload_n hx hb dY_take_10 rfl (lv_at hl 1 rfl) ?_
    refine lv_iload_n hx hb dY_take_11 rfl (lv_at hl 2 rfl) ?_
    refine lv_iload_n hx hb dY_take_12 rfl (lv_at hl 0 rfl) ?_
    refine xcall_v (ws := (yW G C u)) (wc := (yW G C u)) (wr := []) (w1 := (yW G C (yq_leave u h (yp_first u h)))) [0, 1, 2, 3, 4, 5, 6, 7] [] (va_runV (As := [.int h, .int (yp_first u h)]) (rest := []) ⟨hx, hb, hml, hown, hts⟩ (yc_leave l dC dI G C _ u h (yp_first u h) (yfirst_in hm hn c7).1 (yfirst_in hm hn c7).2) (cwV 2 hts gY_take_Y_leave rfl rfl rfl (by decide +kernel) ⟨Nat.le_of_ble_eq_true rfl, Nat.le_of_ble_eq_true rfl⟩) (xpreV (q0 := 0) (ci := 1) (qc := (RX1, TX1, 9)) hK hP hD rfl rfl) rfl rfl hl.1 rfl (lv_room (Nat.le_of_ble_eq_true rfl)) dY_take_13 ⟨Nat.zero_le _, Nat.zero_le _⟩) hP hD hS hA rfl rfl (by decide) (by decide) (fun H locs hP hD hS => ?_)
    have hP : va_P (dC, dI) vwCl (yW G C (yq_leave u h (yp_first u h))) H := hP
    have hD : va_D A (yW G C (yq_leave u h (yp_first u h))) := hD
    refine lv_aload_n hx hb dY_take_16 rfl (lv_at hl 1 rfl) ?_
    refine va_get (D := (dC, dI)) (ci := 1) (v := .ref (G 7)) (C := RX1) (T := TX1) (N := 9) hx hb hts hfw hown hK hP 0 rfl rfl 8 (by decide) (hts (.fieldLink RX1 30 "MeldingHeapsModel" "homes" "[I") (by decide +kernel)) (fun _ h9 => h9) rfl dY_take_17 ?_
    refine lv_iload_n hx hb dY_take_20 rfl (lv_at hl 0 rfl) ?_
    refine lv_iconst (v := (-1)) hx hb dY_take_21 (by decide) ?_
    refine va_iast (f := (xow (yq_leave u h (yp_first u h)))) hx hb hK hP hD hS 7 6 rfl rfl ((yfirst_in hm hn c7).2) dY_take_22 (fun H locs hP hD hS => ?_)
    have hP : va_P (dC, dI) vwCl (yW G C (sOw (yq_leave u h (yp_first u h)) (upd (xow (yq_leave u h (yp_first u h))) ((yp_first u h)).toNatClampNeg (-1)))) H := hP
    have hD : va_D A (yW G C (sOw (yq_leave u h (yp_first u h)) (upd (xow (yq_leave u h (yp_first u h))) ((yp_first u h)).toNatClampNeg (-1)))) := hD
    refine lv_iload_n hx hb dY_take_23 rfl (lv_at hl 0 rfl) ?_
    have e8 : yq_take u h = (sOw (yq_leave u h (yp_first u h)) (upd (xow (yq_leave u h (yp_first u h))) ((yp_first u h)).toNatClampNeg (-1))) := by unfold yq_take; rw [if_neg c7]
    have e9 : yp_take u h = (yp_first u h) := by unfold yp_take; rw [if_neg c7]
    exact W.eq (congrArg (fun z => F0 m 24 ls [.int z]) e9.symm) (kk _ _ _ _ dY_take_24 (by rw [e8]; exact hP) (by rw [e8]; exact hD) hS)
theorem yc_take (l : Launch) (dC : Nat → ClassId) (dI : Nat → Nat → Nat) (G : Nat → Nat) (C : Nat → ClassId) (sz : Nat) (u : xS) (h : Int32) (hm : xm u ≤ 12) (hn : xn u ≤ 160) : xMi l yY_take wsY_take (xR 3 74) dC dI (yT C) [.ref (G 0), .int h] (yW G C u) (yW G C (yq_take u h)) (yp_take u h) sz :=
  xmet_i (by decide) rfl rfl (Nat.le_of_ble_eq_true rfl) rfl (fun p e s m args below meth c Q A ls B hK hA hP hD hl kk => yb_take hm hn B hK hA hP hD hl kk)
def yp_takeLast (u : xS) (h : Int32) : Int32 :=
  (if (yp_last u h) < 0 then
    (yp_last u h)
  else (yp_last u h))
def yq_takeLast (u : xS) (h : Int32) : xS :=
  (if (yp_last u h) < 0 then
    u
  else (sOw u (upd (xow u) ((yp_last u h)).toNatClampNeg (-1))))
set_option maxHeartbeats 4000000 in
set_option maxRecDepth 100000 in
theorem yb_takeLast {p : Program} {l : Launch} {e : Env} {s : State} {m : MethodId} {args : Array Value} {below : List Frame} {meth : Method} {c : Code} {Q : State → Prop} {A : Nat → Prop} {ls : Array Slot} {dC : Nat → ClassId} {dI : Nat → Nat → Nat} {G : Nat → Nat} {C : Nat → ClassId} {u : xS} {h : Int32} (hm : xm u ≤ 12) (hn : xn u ≤ 160) (B : CallFix p m c cY_takeLast 3 s args wsY_takeLast RX1) (hK : va_K (dC, dI) vwCl (yT C) s) (hA : ∀ q : Nat, s.heap.size ≤ q → A q) (hP : va_P (dC, dI) vwCl (yW G C u) s.heap) (hD : va_D A (yW G C u)) (hl : lv_has ls 3 [(0, .ref (G 0)), (1, .int h)]) (kk : (∀ (H : Heap) (locs : List Loc) (pc : Nat) (ls : Array Slot), decode cY_takeLast pc = .ok (.ireturn, 1) → va_P (dC, dI) vwCl (yW G C (yq_takeLast u h)) H → va_D A (yW G C (yq_takeLast u h)) → va_S A s.heap H locs → W p l e (xR 3 74) s m args below meth c H locs 0 0 Q (F0 m pc ls [.int (yp_takeLast u h)]))) : W p l e (xR 3 74) s m args below meth c s.heap [] 0 0 Q (F0 m 0 ls []) := by
  obtain ⟨hx, hb, hml, hown, hts⟩ := B
  have hS : va_S A s.heap s.heap [] := va_S.rf
  have hfw : ∀ w ∈ u_ws RX1 TX1 9, w ∈ wsY_takeLast := by decide +kernel
  refine lv_aload_n hx hb dY_takeLast_0 rfl (lv_at hl 0 rfl) ?_
  refine lv_iload_n hx hb dY_takeLast_1 rfl (lv_at hl 1 rfl) ?_
  refine xcall_i (ws := (yW G C u)) (wc := (yW G C u)) (wr := []) (w1 := (yW G C u)) (v := (yp_last u h)) [0, 1, 2, 3, 4, 5, 6, 7] [] (va_runV (As := [.int h]) (rest := []) ⟨hx, hb, hml, hown, hts⟩ (yc_last l dC dI G C _ u h hm hn) (cwV 1 hts gY_takeLast_Y_last rfl rfl rfl (by decide +kernel) ⟨Nat.le_of_ble_eq_true rfl, Nat.le_of_ble_eq_true rfl⟩) (xpreV (q0 := 0) (ci := 1) (qc := (RX1, TX1, 9)) hK hP hD rfl rfl) rfl rfl hl.1 rfl (lv_room (Nat.le_of_ble_eq_true rfl)) dY_takeLast_2 ⟨Nat.zero_le _, Nat.zero_le _⟩) hP hD hS hA rfl rfl (by decide) (by decide) (fun H locs hP hD hS => ?_)
  have hP : va_P (dC, dI) vwCl (yW G C u) H := hP
  have hD : va_D A (yW G C u) := hD
  refine lv_istore_n (lv' := [(2, .int (yp_last u h)), (0, .ref (G 0)), (1, .int h)]) hx hb dY_takeLast_5 rfl hl (by decide) rfl (fun ls hl => ?_)
  refine lv_iload_n hx hb dY_takeLast_6 rfl (lv_at hl 0 rfl) ?_
  refine lv_if_lt (tgt := 17) hx hb dY_takeLast_7 rfl (fun c7 => ?_) (fun c7 => ?_)
  · refine lv_iload_n hx hb dY_takeLast_17 rfl (lv_at hl 0 rfl) ?_
    have e8 : yq_takeLast u h = u := by unfold yq_takeLast; rw [if_pos c7]
    have e9 : yp_takeLast u h = (yp_last u h) := by unfold yp_takeLast; rw [if_pos c7]
    exact W.eq (congrArg (fun z => F0 m 18 ls [.int z]) e9.symm) (kk _ _ _ _ dY_takeLast_18 (by rw [e8]; exact hP) (by rw [e8]; exact hD) hS)
  · refine lv_aload_n hx hb dY_takeLast_10 rfl (lv_at hl 1 rfl) ?_
    refine va_get (D := (dC, dI)) (ci := 1) (v := .ref (G 7)) (C := RX1) (T := TX1) (N := 9) hx hb hts hfw hown hK hP 0 rfl rfl 8 (by decide) (hts (.fieldLink RX1 30 "MeldingHeapsModel" "homes" "[I") (by decide +kernel)) (fun _ h9 => h9) rfl dY_takeLast_11 ?_
    refine lv_iload_n hx hb dY_takeLast_14 rfl (lv_at hl 0 rfl) ?_
    refine lv_iconst (v := (-1)) hx hb dY_takeLast_15 (by decide) ?_
    refine va_iast (f := (xow u)) hx hb hK hP hD hS 7 6 rfl rfl (ylast_in hm hn c7) dY_takeLast_16 (fun H locs hP hD hS => ?_)
    have hP : va_P (dC, dI) vwCl (yW G C (sOw u (upd (xow u) ((yp_last u h)).toNatClampNeg (-1)))) H := hP
    have hD : va_D A (yW G C (sOw u (upd (xow u) ((yp_last u h)).toNatClampNeg (-1)))) := hD
    refine lv_iload_n hx hb dY_takeLast_17 rfl (lv_at hl 0 rfl) ?_
    have e8 : yq_takeLast u h = (sOw u (upd (xow u) ((yp_last u h)).toNatClampNeg (-1))) := by unfold yq_takeLast; rw [if_neg c7]
    have e9 : yp_takeLast u h = (yp_last u h) := by unfold yp_takeLast; rw [if_neg c7]
    exact W.eq (congrArg (fun z => F0 m 18 ls [.int z]) e9.symm) (kk _ _ _ _ dY_takeLast_18 (by rw [e8]; exact hP) (by rw [e8]; exact hD) hS)
theorem yc_takeLast (l : Launch) (dC : Nat → ClassId) (dI : Nat → Nat → Nat) (G : Nat → Nat) (C : Nat → ClassId) (sz : Nat) (u : xS) (h : Int32) (hm : xm u ≤ 12) (hn : xn u ≤ 160) : xMi l yY_takeLast wsY_takeLast (xR 3 74) dC dI (yT C) [.ref (G 0), .int h] (yW G C u) (yW G C (yq_takeLast u h)) (yp_takeLast u h) sz :=
  xmet_i (by decide) rfl rfl (Nat.le_of_ble_eq_true rfl) rfl (fun p e s m args below meth c Q A ls B hK hA hP hD hl kk => yb_takeLast hm hn B hK hA hP hD hl kk)
def yp_decrease (u : xS) (a : Int32) (k : Int64) : Int32 :=
  (if (yp_wrongEntry u a) = 0 then
    (if (lg_cmp (yp_weight u ((xow u) (a).toNatClampNeg) k) (yp_weight u ((xow u) (a).toNatClampNeg) ((xky u) (a).toNatClampNeg))) ≤ 0 then
      (if (yp_isBelow u ((xow u) (a).toNatClampNeg) k) = 0 then
        (if (yp_rank (sKy u (vp_updL (xky u) (a).toNatClampNeg k)) a) = 0 then
          1
        else 0)
      else (-6))
    else (-5))
  else (yp_wrongEntry u a))
def yq_decrease (u : xS) (a : Int32) (k : Int64) : xS :=
  (if (yp_wrongEntry u a) = 0 then
    (if (lg_cmp (yp_weight u ((xow u) (a).toNatClampNeg) k) (yp_weight u ((xow u) (a).toNatClampNeg) ((xky u) (a).toNatClampNeg))) ≤ 0 then
      (if (yp_isBelow u ((xow u) (a).toNatClampNeg) k) = 0 then
        (if (yp_rank (sKy u (vp_updL (xky u) (a).toNatClampNeg k)) a) = 0 then
          (sKy u (vp_updL (xky u) (a).toNatClampNeg k))
        else (sKy u (vp_updL (xky u) (a).toNatClampNeg k)))
      else u)
    else u)
  else u)
set_option maxHeartbeats 4000000 in
set_option maxRecDepth 100000 in
theorem yb_decrease {p : Program} {l : Launch} {e : Env} {s : State} {m : MethodId} {args : Array Value} {below : List Frame} {meth : Method} {c : Code} {Q : State → Prop} {A : Nat → Prop} {ls : Array Slot} {dC : Nat → ClassId} {dI : Nat → Nat → Nat} {G : Nat → Nat} {C : Nat → ClassId} {u : xS} {a : Int32} {k : Int64} (hn : xn u ≤ 160) (ho : ∀ j : Nat, j < xn u → xow u j = -1 ∨ vp_in (xow u j) 12) (B : CallFix p m c cY_decrease 6 s args wsY_decrease RX1) (hK : va_K (dC, dI) vwCl (yT C) s) (hA : ∀ q : Nat, s.heap.size ≤ q → A q) (hP : va_P (dC, dI) vwCl (yW G C u) s.heap) (hD : va_D A (yW G C u)) (hl : lv_has ls 6 [(0, .ref (G 0)), (1, .int a), (2, .long k)]) (kk : (∀ (H : Heap) (locs : List Loc) (pc : Nat) (ls : Array Slot), decode cY_decrease pc = .ok (.ireturn, 1) → va_P (dC, dI) vwCl (yW G C (yq_decrease u a k)) H → va_D A (yW G C (yq_decrease u a k)) → va_S A s.heap H locs → W p l e (xR 2 52) s m args below meth c H locs 0 0 Q (F0 m pc ls [.int (yp_decrease u a k)]))) : W p l e (xR 2 52) s m args below meth c s.heap [] 0 0 Q (F0 m 0 ls []) := by
  obtain ⟨hx, hb, hml, hown, hts⟩ := B
  have hS : va_S A s.heap s.heap [] := va_S.rf
  have hfw : ∀ w ∈ u_ws RX1 TX1 9, w ∈ wsY_decrease := by decide +kernel
  refine lv_aload_n hx hb dY_decrease_0 rfl (lv_at hl 0 rfl) ?_
  refine lv_iload_n hx hb dY_decrease_1 rfl (lv_at hl 1 rfl) ?_
  refine xcall_i (ws := (yW G C u)) (wc := (yW G C u)) (wr := []) (w1 := (yW G C u)) (v := (yp_wrongEntry u a)) [0, 1, 2, 3, 4, 5, 6, 7] [] (va_runV (As := [.int a]) (rest := []) ⟨hx, hb, hml, hown, hts⟩ (yc_wrongEntry l dC dI G C _ u a hn) (cwV 1 hts gY_decrease_Y_wrongEntry rfl rfl rfl (by decide +kernel) ⟨Nat.le_of_ble_eq_true rfl, Nat.le_of_ble_eq_true rfl⟩) (xpreV (q0 := 0) (ci := 1) (qc := (RX1, TX1, 9)) hK hP hD rfl rfl) rfl rfl hl.1 rfl (lv_room (Nat.le_of_ble_eq_true rfl)) dY_decrease_2 ⟨Nat.zero_le _, Nat.zero_le _⟩) hP hD hS hA rfl rfl (by decide) (by decide) (fun H locs hP hD hS => ?_)
  have hP : va_P (dC, dI) vwCl (yW G C u) H := hP
  have hD : va_D A (yW G C u) := hD
  refine lv_istore (lv' := [(4, .int (yp_wrongEntry u a)), (0, .ref (G 0)), (1, .int a), (2, .long k)]) hx hb dY_decrease_5 hl (by decide) rfl (fun ls hl => ?_)
  refine lv_iload hx hb dY_decrease_7 (lv_at hl 0 rfl) ?_
  refine lv_if_eq (tgt := 15) hx hb dY_decrease_9 rfl (fun c9 => ?_) (fun c9 => ?_)
  · refine lv_aload_n hx hb dY_decrease_15 rfl (lv_at hl 1 rfl) ?_
    refine va_get (D := (dC, dI)) (ci := 1) (v := .ref (G 7)) (C := RX1) (T := TX1) (N := 9) hx hb hts hfw hown hK hP 0 rfl rfl 8 (by decide) (hts (.fieldLink RX1 30 "MeldingHeapsModel" "homes" "[I") (by decide +kernel)) (fun _ h9 => h9) rfl dY_decrease_16 ?_
    refine lv_iload_n hx hb dY_decrease_19 rfl (lv_at hl 2 rfl) ?_
    refine va_iald (f := (xow u)) hx hb hK hP 7 6 rfl rfl ((yin_wE hn c9).1) dY_decrease_20 ?_
    refine lv_istore (lv' := [(5, .int ((xow u) (a).toNatClampNeg)), (4, .int (yp_wrongEntry u a)), (0, .ref (G 0)), (1, .int a), (2, .long k)]) hx hb dY_decrease_21 hl (by decide) rfl (fun ls hl => ?_)
    refine lv_aload_n hx hb dY_decrease_23 rfl (lv_at hl 2 rfl) ?_
    refine lv_iload hx hb dY_decrease_24 (lv_at hl 0 rfl) ?_
    refine lv_lload_n hx hb dY_decrease_26 rfl (lv_at hl 4 rfl) ?_
    refine xcall_l (ws := (yW G C u)) (wc := (yW G C u)) (wr := []) (w1 := (yW G C u)) (v := (yp_weight u ((xow u) (a).toNatClampNeg) k)) [0, 1, 2, 3, 4, 5, 6, 7] [] (va_runV (As := [.int ((xow u) (a).toNatClampNeg), .long k]) (rest := []) ⟨hx, hb, hml, hown, hts⟩ (yc_weight l dC dI G C _ u ((xow u) (a).toNatClampNeg) k (yin_own hn ho c9)) (cwV 2 hts gY_decrease_Y_weight rfl rfl rfl (by decide +kernel) ⟨Nat.le_of_ble_eq_true rfl, Nat.le_of_ble_eq_true rfl⟩) (xpreV (q0 := 0) (ci := 1) (qc := (RX1, TX1, 9)) hK hP hD rfl rfl) rfl rfl hl.1 rfl (lv_room (Nat.le_of_ble_eq_true rfl)) dY_decrease_27 ⟨Nat.zero_le _, Nat.zero_le _⟩) hP hD hS hA rfl rfl (by decide) (by decide) (fun H locs hP hD hS => ?_)
    have hP : va_P (dC, dI) vwCl (yW G C u) H := hP
    have hD : va_D A (yW G C u) := hD
    refine lv_aload_n hx hb dY_decrease_30 rfl (lv_at hl 2 rfl) ?_
    refine lv_iload hx hb dY_decrease_31 (lv_at hl 0 rfl) ?_
    refine lv_aload_n hx hb dY_decrease_33 rfl (lv_at hl 2 rfl) ?_
    refine va_get (D := (dC, dI)) (ci := 1) (v := .ref (G 5)) (C := RX1) (T := TX1) (N := 9) hx hb hts hfw hown hK hP 0 rfl rfl 6 (by decide) (hts (.fieldLink RX1 24 "MeldingHeapsModel" "keys" "[J") (by decide +kernel)) (fun _ h9 => h9) rfl dY_decrease_34 ?_
    refine lv_iload_n hx hb dY_decrease_37 rfl (lv_at hl 3 rfl) ?_
    refine va_lald (f := (xky u)) hx hb hK hP 5 4 rfl rfl ((yin_wE hn c9).1) dY_decrease_38 ?_
    refine xcall_l (ws := (yW G C u)) (wc := (yW G C u)) (wr := []) (w1 := (yW G C u)) (v := (yp_weight u ((xow u) (a).toNatClampNeg) ((xky u) (a).toNatClampNeg))) [0, 1, 2, 3, 4, 5, 6, 7] [] (va_runV (As := [.int ((xow u) (a).toNatClampNeg), .long ((xky u) (a).toNatClampNeg)]) (rest := [.long (yp_weight u ((xow u) (a).toNatClampNeg) k)]) ⟨hx, hb, hml, hown, hts⟩ (yc_weight l dC dI G C _ u ((xow u) (a).toNatClampNeg) ((xky u) (a).toNatClampNeg) (yin_own hn ho c9)) (cwV 2 hts gY_decrease_Y_weight rfl rfl rfl (by decide +kernel) ⟨Nat.le_of_ble_eq_true rfl, Nat.le_of_ble_eq_true rfl⟩) (xpreV (q0 := 0) (ci := 1) (qc := (RX1, TX1, 9)) hK hP hD rfl rfl) rfl rfl hl.1 rfl (lv_room (Nat.le_of_ble_eq_true rfl)) dY_decrease_39 ⟨Nat.zero_le _, Nat.zero_le _⟩) hP hD hS hA rfl rfl (by decide) (by decide) (fun H locs hP hD hS => ?_)
    have hP : va_P (dC, dI) vwCl (yW G C u) H := hP
    have hD : va_D A (yW G C u) := hD
    refine W.lcmp hx hb dY_decrease_42 ?_
    refine lv_if_le (tgt := 49) hx hb dY_decrease_43 rfl (fun c43 => ?_) (fun c43 => ?_)
    · refine lv_aload_n hx hb dY_decrease_49 rfl (lv_at hl 2 rfl) ?_
      refine lv_iload hx hb dY_decrease_50 (lv_at hl 0 rfl) ?_
      refine lv_lload_n hx hb dY_decrease_52 rfl (lv_at hl 4 rfl) ?_
      refine xcall_i (ws := (yW G C u)) (wc := (yW G C u)) (wr := []) (w1 := (yW G C u)) (v := (yp_isBelow u ((xow u) (a).toNatClampNeg) k)) [0, 1, 2, 3, 4, 5, 6, 7] [] (va_runV (As := [.int ((xow u) (a).toNatClampNeg), .long k]) (rest := []) ⟨hx, hb, hml, hown, hts⟩ (yc_isBelow l dC dI G C _ u ((xow u) (a).toNatClampNeg) k (yin_own hn ho c9)) (cwV 2 hts gY_decrease_Y_isBelow rfl rfl rfl (by decide +kernel) ⟨Nat.le_of_ble_eq_true rfl, Nat.le_of_ble_eq_true rfl⟩) (xpreV (q0 := 0) (ci := 1) (qc := (RX1, TX1, 9)) hK hP hD rfl rfl) rfl rfl hl.1 rfl (lv_room (Nat.le_of_ble_eq_true rfl)) dY_decrease_53 ⟨Nat.zero_le _, Nat.zero_le _⟩) hP hD hS hA rfl rfl (by decide) (by decide) (fun H locs hP hD hS => ?_)
      have hP : va_P (dC, dI) vwCl (yW G C u) H := hP
      have hD : va_D A (yW G C u) := hD
      refine lv_if_eq (tgt := 62) hx hb dY_decrease_56 rfl (fun c56 => ?_) (fun c56 => ?_)
      · refine lv_aload_n hx hb dY_decrease_62 rfl (lv_at hl 2 rfl) ?_
        refine va_get (D := (dC, dI)) (ci := 1) (v := .ref (G 5)) (C := RX1) (T := TX1) (N := 9) hx hb hts hfw hown hK hP 0 rfl rfl 6 (by decide) (hts (.fieldLink RX1 24 "MeldingHeapsModel" "keys" "[J") (by decide +kernel)) (fun _ h9 => h9) rfl dY_decrease_63 ?_
        refine lv_iload_n hx hb dY_decrease_66 rfl (lv_at hl 3 rfl) ?_
        refine lv_lload_n hx hb dY_decrease_67 rfl (lv_at hl 4 rfl) ?_
        refine va_last (f := (xky u)) hx hb hK hP hD hS 5 4 rfl rfl ((yin_wE hn c9).1) dY_decrease_68 (fun H locs hP hD hS => ?_)
        have hP : va_P (dC, dI) vwCl (yW G C (sKy u (vp_updL (xky u) (a).toNatClampNeg k))) H := hP
        have hD : va_D A (yW G C (sKy u (vp_updL (xky u) (a).toNatClampNeg k))) := hD
        refine lv_aload_n hx hb dY_decrease_69 rfl (lv_at hl 2 rfl) ?_
        refine lv_iload_n hx hb dY_decrease_70 rfl (lv_at hl 3 rfl) ?_
        refine xcall_i (ws := (yW G C (sKy u (vp_updL (xky u) (a).toNatClampNeg k)))) (wc := (yW G C (sKy u (vp_updL (xky u) (a).toNatClampNeg k)))) (wr := []) (w1 := (yW G C (sKy u (vp_updL (xky u) (a).toNatClampNeg k)))) (v := (yp_rank (sKy u (vp_updL (xky u) (a).toNatClampNeg k)) a)) [0, 1, 2, 3, 4, 5, 6, 7] [] (va_runV (As := [.int a]) (rest := []) ⟨hx, hb, hml, hown, hts⟩ (yc_rank l dC dI G C _ (sKy u (vp_updL (xky u) (a).toNatClampNeg k)) a hn (yin_wE hn c9).1 (yin_own hn ho c9)) (cwV 1 hts gY_decrease_Y_rank rfl rfl rfl (by decide +kernel) ⟨Nat.le_of_ble_eq_true rfl, Nat.le_of_ble_eq_true rfl⟩) (xpreV (q0 := 0) (ci := 1) (qc := (RX1, TX1, 9)) hK hP hD rfl rfl) rfl rfl hl.1 rfl (lv_room (Nat.le_of_ble_eq_true rfl)) dY_decrease_71 ⟨Nat.zero_le _, Nat.zero_le _⟩) hP hD hS hA rfl rfl (by decide) (by decide) (fun H locs hP hD hS => ?_)
        have hP : va_P (dC, dI) vwCl (yW G C (sKy u (vp_updL (xky u) (a).toNatClampNeg k))) H := hP
        have hD : va_D A (yW G C (sKy u (vp_updL (xky u) (a).toNatClampNeg k))) := hD
        refine lv_if_ne (tgt := 81) hx hb dY_decrease_74 rfl (fun c74 => ?_) (fun c74 => ?_)
        · refine lv_iconst (v := 0) hx hb dY_decrease_81 (by decide) ?_
          have e8 : yq_decrease u a k = (sKy u (vp_updL (xky u) (a).toNatClampNeg k)) := by unfold yq_decrease; rw [if_pos c9, if_pos c43, if_pos c56, if_neg c74]
          have e9 : yp_decrease u a k = 0 := by unfold yp_decrease; rw [if_pos c9, if_pos c43, if_pos c56, if_neg c74]
          exact W.eq (congrArg (fun z => F0 m 82 ls [.int z]) e9.symm) (kk _ _ _ _ dY_decrease_82 (by rw [e8]; exact hP) (by rw [e8]; exact hD) hS)
        · refine lv_iconst (v := 1) hx hb dY_decrease_77 (by decide) ?_
          refine lv_goto (tgt := 82) hx hb dY_decrease_78 rfl ?_
          have e8 : yq_decrease u a k = (sKy u (vp_updL (xky u) (a).toNatClampNeg k)) := by unfold yq_decrease; rw [if_pos c9, if_pos c43, if_pos c56, if_pos c74]
          have e9 : yp_decrease u a k = 1 := by unfold yp_decrease; rw [if_pos c9, if_pos c43, if_pos c56, if_pos c74]
          exact W.eq (congrArg (fun z => F0 m 82 ls [.int z]) e9.symm) (kk _ _ _ _ dY_decrease_82 (by rw [e8]; exact hP) (by rw [e8]; exact hD) hS)
      · refine lv_bipush (v := (-6)) hx hb dY_decrease_59 (by decide) ?_
        have e8 : yq_decrease u a k = u := by unfold yq_decrease; rw [if_pos c9, if_pos c43, if_neg c56]
        have e9 : yp_decrease u a k = (-6) := by unfold yp_decrease; rw [if_pos c9, if_pos c43, if_neg c56]
        exact W.eq (congrArg (fun z => F0 m 61 ls [.int z]) e9.symm) (kk _ _ _ _ dY_decrease_61 (by rw [e8]; exact hP) (by rw [e8]; exact hD) hS)
    · refine lv_bipush (v := (-5)) hx hb dY_decrease_46 (by decide) ?_
      have e8 : yq_decrease u a k = u := by unfold yq_decrease; rw [if_pos c9, if_neg c43]
      have e9 : yp_decrease u a k = (-5) := by unfold yp_decrease; rw [if_pos c9, if_neg c43]
      exact W.eq (congrArg (fun z => F0 m 48 ls [.int z]) e9.symm) (kk _ _ _ _ dY_decrease_48 (by rw [e8]; exact hP) (by rw [e8]; exact hD) hS)
  · refine lv_iload hx hb dY_decrease_12 (lv_at hl 0 rfl) ?_
    have e8 : yq_decrease u a k = u := by unfold yq_decrease; rw [if_neg c9]
    have e9 : yp_decrease u a k = (yp_wrongEntry u a) := by unfold yp_decrease; rw [if_neg c9]
    exact W.eq (congrArg (fun z => F0 m 14 ls [.int z]) e9.symm) (kk _ _ _ _ dY_decrease_14 (by rw [e8]; exact hP) (by rw [e8]; exact hD) hS)
theorem yc_decrease (l : Launch) (dC : Nat → ClassId) (dI : Nat → Nat → Nat) (G : Nat → Nat) (C : Nat → ClassId) (sz : Nat) (u : xS) (a : Int32) (k : Int64) (hn : xn u ≤ 160) (ho : ∀ j : Nat, j < xn u → xow u j = -1 ∨ vp_in (xow u j) 12) : xMi l yY_decrease wsY_decrease (xR 2 52) dC dI (yT C) [.ref (G 0), .int a, .long k] (yW G C u) (yW G C (yq_decrease u a k)) (yp_decrease u a k) sz :=
  xmet_i (by decide) rfl rfl (Nat.le_of_ble_eq_true rfl) rfl (fun p e s m args below meth c Q A ls B hK hA hP hD hl kk => yb_decrease hn ho B hK hA hP hD hl kk)
def yp_delete (u : xS) (a : Int32) : Int32 :=
  (if (yp_wrongEntry u a) = 0 then
    ((xow u) (a).toNatClampNeg)
  else (yp_wrongEntry u a))
def yq_delete (u : xS) (a : Int32) : xS :=
  (if (yp_wrongEntry u a) = 0 then
    (sOw u (upd (xow u) (a).toNatClampNeg (-1)))
  else u)
set_option maxHeartbeats 4000000 in
set_option maxRecDepth 100000 in
theorem yb_delete {p : Program} {l : Launch} {e : Env} {s : State} {m : MethodId} {args : Array Value} {below : List Frame} {meth : Method} {c : Code} {Q : State → Prop} {A : Nat → Prop} {ls : Array Slot} {dC : Nat → ClassId} {dI : Nat → Nat → Nat} {G : Nat → Nat} {C : Nat → ClassId} {u : xS} {a : Int32} (hn : xn u ≤ 160) (B : CallFix p m c cY_delete 4 s args wsY_delete RX1) (hK : va_K (dC, dI) vwCl (yT C) s) (hA : ∀ q : Nat, s.heap.size ≤ q → A q) (hP : va_P (dC, dI) vwCl (yW G C u) s.heap) (hD : va_D A (yW G C u)) (hl : lv_has ls 4 [(0, .ref (G 0)), (1, .int a)]) (kk : (∀ (H : Heap) (locs : List Loc) (pc : Nat) (ls : Array Slot), decode cY_delete pc = .ok (.ireturn, 1) → va_P (dC, dI) vwCl (yW G C (yq_delete u a)) H → va_D A (yW G C (yq_delete u a)) → va_S A s.heap H locs → W p l e (xR 1 21) s m args below meth c H locs 0 0 Q (F0 m pc ls [.int (yp_delete u a)]))) : W p l e (xR 1 21) s m args below meth c s.heap [] 0 0 Q (F0 m 0 ls []) := by
  obtain ⟨hx, hb, hml, hown, hts⟩ := B
  have hS : va_S A s.heap s.heap [] := va_S.rf
  have hfw : ∀ w ∈ u_ws RX1 TX1 9, w ∈ wsY_delete := by decide +kernel
  refine lv_aload_n hx hb dY_delete_0 rfl (lv_at hl 0 rfl) ?_
  refine lv_iload_n hx hb dY_delete_1 rfl (lv_at hl 1 rfl) ?_
  refine xcall_i (ws := (yW G C u)) (wc := (yW G C u)) (wr := []) (w1 := (yW G C u)) (v := (yp_wrongEntry u a)) [0, 1, 2, 3, 4, 5, 6, 7] [] (va_runV (As := [.int a]) (rest := []) ⟨hx, hb, hml, hown, hts⟩ (yc_wrongEntry l dC dI G C _ u a hn) (cwV 1 hts gY_delete_Y_wrongEntry rfl rfl rfl (by decide +kernel) ⟨Nat.le_of_ble_eq_true rfl, Nat.le_of_ble_eq_true rfl⟩) (xpreV (q0 := 0) (ci := 1) (qc := (RX1, TX1, 9)) hK hP hD rfl rfl) rfl rfl hl.1 rfl (lv_room (Nat.le_of_ble_eq_true rfl)) dY_delete_2 ⟨Nat.zero_le _, Nat.zero_le _⟩) hP hD hS hA rfl rfl (by decide) (by decide) (fun H locs hP hD hS => ?_)
  have hP : va_P (dC, dI) vwCl (yW G C u) H := hP
  have hD : va_D A (yW G C u) := hD
  refine lv_istore_n (lv' := [(2, .int (yp_wrongEntry u a)), (0, .ref (G 0)), (1, .int a)]) hx hb dY_delete_5 rfl hl (by decide) rfl (fun ls hl => ?_)
  refine lv_iload_n hx hb dY_delete_6 rfl (lv_at hl 0 rfl) ?_
  refine lv_if_eq (tgt := 12) hx hb dY_delete_7 rfl (fun c7 => ?_) (fun c7 => ?_)
  · refine lv_aload_n hx hb dY_delete_12 rfl (lv_at hl 1 rfl) ?_
    refine va_get (D := (dC, dI)) (ci := 1) (v := .ref (G 7)) (C := RX1) (T := TX1) (N := 9) hx hb hts hfw hown hK hP 0 rfl rfl 8 (by decide) (hts (.fieldLink RX1 30 "MeldingHeapsModel" "homes" "[I") (by decide +kernel)) (fun _ h9 => h9) rfl dY_delete_13 ?_
    refine lv_iload_n hx hb dY_delete_16 rfl (lv_at hl 2 rfl) ?_
    refine va_iald (f := (xow u)) hx hb hK hP 7 6 rfl rfl ((yin_wE hn c7).1) dY_delete_17 ?_
    refine lv_istore_n (lv' := [(3, .int ((xow u) (a).toNatClampNeg)), (2, .int (yp_wrongEntry u a)), (0, .ref (G 0)), (1, .int a)]) hx hb dY_delete_18 rfl hl (by decide) rfl (fun ls hl => ?_)
    refine lv_aload_n hx hb dY_delete_19 rfl (lv_at hl 2 rfl) ?_
    refine va_get (D := (dC, dI)) (ci := 1) (v := .ref (G 7)) (C := RX1) (T := TX1) (N := 9) hx hb hts hfw hown hK hP 0 rfl rfl 8 (by decide) (hts (.fieldLink RX1 30 "MeldingHeapsModel" "homes" "[I") (by decide +kernel)) (fun _ h9 => h9) rfl dY_delete_20 ?_
    refine lv_iload_n hx hb dY_delete_23 rfl (lv_at hl 3 rfl) ?_
    refine lv_iconst (v := (-1)) hx hb dY_delete_24 (by decide) ?_
    refine va_iast (f := (xow u)) hx hb hK hP hD hS 7 6 rfl rfl ((yin_wE hn c7).1) dY_delete_25 (fun H locs hP hD hS => ?_)
    have hP : va_P (dC, dI) vwCl (yW G C (sOw u (upd (xow u) (a).toNatClampNeg (-1)))) H := hP
    have hD : va_D A (yW G C (sOw u (upd (xow u) (a).toNatClampNeg (-1)))) := hD
    refine lv_iload_n hx hb dY_delete_26 rfl (lv_at hl 0 rfl) ?_
    have e8 : yq_delete u a = (sOw u (upd (xow u) (a).toNatClampNeg (-1))) := by unfold yq_delete; rw [if_pos c7]
    have e9 : yp_delete u a = ((xow u) (a).toNatClampNeg) := by unfold yp_delete; rw [if_pos c7]
    exact W.eq (congrArg (fun z => F0 m 27 ls [.int z]) e9.symm) (kk _ _ _ _ dY_delete_27 (by rw [e8]; exact hP) (by rw [e8]; exact hD) hS)
  · refine lv_iload_n hx hb dY_delete_10 rfl (lv_at hl 0 rfl) ?_
    have e8 : yq_delete u a = u := by unfold yq_delete; rw [if_neg c7]
    have e9 : yp_delete u a = (yp_wrongEntry u a) := by unfold yp_delete; rw [if_neg c7]
    exact W.eq (congrArg (fun z => F0 m 11 ls [.int z]) e9.symm) (kk _ _ _ _ dY_delete_11 (by rw [e8]; exact hP) (by rw [e8]; exact hD) hS)
theorem yc_delete (l : Launch) (dC : Nat → ClassId) (dI : Nat → Nat → Nat) (G : Nat → Nat) (C : Nat → ClassId) (sz : Nat) (u : xS) (a : Int32) (hn : xn u ≤ 160) : xMi l yY_delete wsY_delete (xR 1 21) dC dI (yT C) [.ref (G 0), .int a] (yW G C u) (yW G C (yq_delete u a)) (yp_delete u a) sz :=
  xmet_i (by decide) rfl rfl (Nat.le_of_ble_eq_true rfl) rfl (fun p e s m args below meth c Q A ls B hK hA hP hD hl kk => yb_delete hn B hK hA hP hD hl kk)
def yp_wrongPair (u : xS) (a : Int32) (b : Int32) : Int32 :=
  (if (yp_wrongHeap u a) = 0 then
    (if (yp_wrongHeap u b) = 0 then
      (if a = b then
        (-7)
      else 0)
    else (yp_wrongHeap u b))
  else (yp_wrongHeap u a))
set_option maxHeartbeats 4000000 in
set_option maxRecDepth 100000 in
theorem yb_wrongPair {p : Program} {l : Launch} {e : Env} {s : State} {m : MethodId} {args : Array Value} {below : List Frame} {meth : Method} {c : Code} {Q : State → Prop} {A : Nat → Prop} {ls : Array Slot} {dC : Nat → ClassId} {dI : Nat → Nat → Nat} {G : Nat → Nat} {C : Nat → ClassId} {u : xS} {a : Int32} {b : Int32} (hm : xm u ≤ 12) (B : CallFix p m c cY_wrongPair 4 s args wsY_wrongPair RX1) (hK : va_K (dC, dI) vwCl (yT C) s) (hA : ∀ q : Nat, s.heap.size ≤ q → A q) (hP : va_P (dC, dI) vwCl (yW G C u) s.heap) (hD : va_D A (yW G C u)) (hl : lv_has ls 4 [(0, .ref (G 0)), (1, .int a), (2, .int b)]) (kk : (∀ (H : Heap) (locs : List Loc) (pc : Nat) (ls : Array Slot), decode cY_wrongPair pc = .ok (.ireturn, 1) → va_P (dC, dI) vwCl (yW G C u) H → va_D A (yW G C u) → va_S A s.heap H locs → W p l e (xR 1 21) s m args below meth c H locs 0 0 Q (F0 m pc ls [.int (yp_wrongPair u a b)]))) : W p l e (xR 1 21) s m args below meth c s.heap [] 0 0 Q (F0 m 0 ls []) := by
  obtain ⟨hx, hb, hml, hown, hts⟩ := B
  have hS : va_S A s.heap s.heap [] := va_S.rf
  refine lv_aload_n hx hb dY_wrongPair_0 rfl (lv_at hl 0 rfl) ?_
  refine lv_iload_n hx hb dY_wrongPair_1 rfl (lv_at hl 1 rfl) ?_
  refine xcall_i (ws := (yW G C u)) (wc := (yW G C u)) (wr := []) (w1 := (yW G C u)) (v := (yp_wrongHeap u a)) [0, 1, 2, 3, 4, 5, 6, 7] [] (va_runV (As := [.int a]) (rest := []) ⟨hx, hb, hml, hown, hts⟩ (yc_wrongHeap l dC dI G C _ u a hm) (cwV 1 hts gY_wrongPair_Y_wrongHeap rfl rfl rfl (by decide +kernel) ⟨Nat.le_of_ble_eq_true rfl, Nat.le_of_ble_eq_true rfl⟩) (xpreV (q0 := 0) (ci := 1) (qc := (RX1, TX1, 9)) hK hP hD rfl rfl) rfl rfl hl.1 rfl (lv_room (Nat.le_of_ble_eq_true rfl)) dY_wrongPair_2 ⟨Nat.zero_le _, Nat.zero_le _⟩) hP hD hS hA rfl rfl (by decide) (by decide) (fun H locs hP hD hS => ?_)
  have hP : va_P (dC, dI) vwCl (yW G C u) H := hP
  have hD : va_D A (yW G C u) := hD
  refine lv_istore_n (lv' := [(3, .int (yp_wrongHeap u a)), (0, .ref (G 0)), (1, .int a), (2, .int b)]) hx hb dY_wrongPair_5 rfl hl (by decide) rfl (fun ls hl => ?_)
  refine lv_iload_n hx hb dY_wrongPair_6 rfl (lv_at hl 0 rfl) ?_
  refine lv_if_eq (tgt := 12) hx hb dY_wrongPair_7 rfl (fun c7 => ?_) (fun c7 => ?_)
  · refine lv_aload_n hx hb dY_wrongPair_12 rfl (lv_at hl 1 rfl) ?_
    refine lv_iload_n hx hb dY_wrongPair_13 rfl (lv_at hl 3 rfl) ?_
    refine xcall_i (ws := (yW G C u)) (wc := (yW G C u)) (wr := []) (w1 := (yW G C u)) (v := (yp_wrongHeap u b)) [0, 1, 2, 3, 4, 5, 6, 7] [] (va_runV (As := [.int b]) (rest := []) ⟨hx, hb, hml, hown, hts⟩ (yc_wrongHeap l dC dI G C _ u b hm) (cwV 1 hts gY_wrongPair_Y_wrongHeap rfl rfl rfl (by decide +kernel) ⟨Nat.le_of_ble_eq_true rfl, Nat.le_of_ble_eq_true rfl⟩) (xpreV (q0 := 0) (ci := 1) (qc := (RX1, TX1, 9)) hK hP hD rfl rfl) rfl rfl hl.1 rfl (lv_room (Nat.le_of_ble_eq_true rfl)) dY_wrongPair_14 ⟨Nat.zero_le _, Nat.zero_le _⟩) hP hD hS hA rfl rfl (by decide) (by decide) (fun H locs hP hD hS => ?_)
    have hP : va_P (dC, dI) vwCl (yW G C u) H := hP
    have hD : va_D A (yW G C u) := hD
    refine lv_istore_n (lv' := [(3, .int (yp_wrongHeap u b)), (0, .ref (G 0)), (1, .int a), (2, .int b)]) hx hb dY_wrongPair_17 rfl hl (by decide) rfl (fun ls hl => ?_)
    refine lv_iload_n hx hb dY_wrongPair_18 rfl (lv_at hl 0 rfl) ?_
    refine lv_if_eq (tgt := 26) hx hb dY_wrongPair_19 rfl (fun c19 => ?_) (fun c19 => ?_)
    · refine lv_iload_n hx hb dY_wrongPair_26 rfl (lv_at hl 2 rfl) ?_
      refine lv_iload_n hx hb dY_wrongPair_27 rfl (lv_at hl 3 rfl) ?_
      refine lv_icmp_ne (tgt := 36) hx hb dY_wrongPair_28 rfl (fun c28 => ?_) (fun c28 => ?_)
      · refine lv_iconst (v := 0) hx hb dY_wrongPair_36 (by decide) ?_
        have e9 : yp_wrongPair u a b = 0 := by unfold yp_wrongPair; rw [if_pos c7, if_pos c19, if_neg c28]
        exact W.eq (congrArg (fun z => F0 m 37 ls [.int z]) e9.symm) (kk _ _ _ _ dY_wrongPair_37 hP hD hS)
      · refine lv_bipush (v := (-7)) hx hb dY_wrongPair_31 (by decide) ?_
        refine lv_goto (tgt := 37) hx hb dY_wrongPair_33 rfl ?_
        have e9 : yp_wrongPair u a b = (-7) := by unfold yp_wrongPair; rw [if_pos c7, if_pos c19, if_pos c28]
        exact W.eq (congrArg (fun z => F0 m 37 ls [.int z]) e9.symm) (kk _ _ _ _ dY_wrongPair_37 hP hD hS)
    · refine lv_iload_n hx hb dY_wrongPair_22 rfl (lv_at hl 0 rfl) ?_
      refine lv_goto (tgt := 37) hx hb dY_wrongPair_23 rfl ?_
      have e9 : yp_wrongPair u a b = (yp_wrongHeap u b) := by unfold yp_wrongPair; rw [if_pos c7, if_neg c19]
      exact W.eq (congrArg (fun z => F0 m 37 ls [.int z]) e9.symm) (kk _ _ _ _ dY_wrongPair_37 hP hD hS)
  · refine lv_iload_n hx hb dY_wrongPair_10 rfl (lv_at hl 0 rfl) ?_
    have e9 : yp_wrongPair u a b = (yp_wrongHeap u a) := by unfold yp_wrongPair; rw [if_neg c7]
    exact W.eq (congrArg (fun z => F0 m 11 ls [.int z]) e9.symm) (kk _ _ _ _ dY_wrongPair_11 hP hD hS)
theorem yc_wrongPair (l : Launch) (dC : Nat → ClassId) (dI : Nat → Nat → Nat) (G : Nat → Nat) (C : Nat → ClassId) (sz : Nat) (u : xS) (a : Int32) (b : Int32) (hm : xm u ≤ 12) : xMi l yY_wrongPair wsY_wrongPair (xR 1 21) dC dI (yT C) [.ref (G 0), .int a, .int b] (yW G C u) (yW G C u) (yp_wrongPair u a b) sz :=
  xmet_i (by decide) rfl rfl (Nat.le_of_ble_eq_true rfl) rfl (fun p e s m args below meth c Q A ls B hK hA hP hD hl kk => yb_wrongPair hm B hK hA hP hD hl kk)
theorem yin_wP {u : xS} {a b : Int32} (hm : xm u ≤ 12) (c : yp_wrongPair u a b = 0) : vp_in a 12 ∧ vp_in b 12 := by
  unfold yp_wrongPair at c
  by_cases h1 : yp_wrongHeap u a = 0
  · rw [if_pos h1] at c
    by_cases h2 : yp_wrongHeap u b = 0
    · exact ⟨yin_wH hm h1, yin_wH hm h2⟩
    · rw [if_neg h2] at c; exact absurd c h2
  · rw [if_neg h1] at c; exact absurd c h1
