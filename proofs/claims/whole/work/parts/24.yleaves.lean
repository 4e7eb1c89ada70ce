theorem lt_in {x : Int32} {n N : Nat} (c1 : ¬ x < 0) (c2 : x < nI n) (hn : n ≤ N) (hN : N < 2 ^ 31) : vp_in x N ∧ ∃ j, j < n ∧ x = nI j := by
  obtain ⟨j, hj, rfl⟩ := nI_of c1
  have h3 : j < n := (nI_ltI hj (by omega)).mp c2
  exact ⟨vp_in_nI (Nat.lt_of_lt_of_le h3 hn) hN, j, h3, rfl⟩
theorem cnt_ne {n N : Nat} {X : Int32} (c : ¬ nI n = X) (hn : n ≤ N) (hX : X = nI N := by decide) (hN : N < 2 ^ 31 := by decide) : vp_in (nI n) N := by
  subst hX
  refine vp_in_nI (Nat.lt_of_le_of_ne hn (fun q => c (by rw [q]))) hN
def yp_wrongHeap (u : xS) (h : Int32) : Int32 :=
  (if h < 0 then
    (-2)
  else (if h < (nI (xm u)) then
      (if ((xab u) (h).toNatClampNeg) = 0 then
        0
      else (-3))
    else (-2)))
set_option maxHeartbeats 4000000 in
set_option maxRecDepth 100000 in
theorem yb_wrongHeap {p : Program} {l : Launch} {e : Env} {s : State} {m : MethodId} {args : Array Value} {below : List Frame} {meth : Method} {c : Code} {Q : State → Prop} {A : Nat → Prop} {ls : Array Slot} {dC : Nat → ClassId} {dI : Nat → Nat → Nat} {G : Nat → Nat} {C : Nat → ClassId} {u : xS} {h : Int32} (hm : xm u ≤ 12) (B : CallFix p m c cY_wrongHeap 2 s args wsY_wrongHeap RX1) (hK : va_K (dC, dI) vwCl (yT C) s) (hA : ∀ q : Nat, s.heap.size ≤ q → A q) (hP : va_P (dC, dI) vwCl (yW G C u) s.heap) (hD : va_D A (yW G C u)) (hl : lv_has ls 2 [(0, .ref (G 0)), (1, .int h)]) (kk : (∀ (H : Heap) (locs : List Loc) (pc : Nat) (ls : Array Slot), decode cY_wrongHeap pc = .ok (.ireturn, 1) → va_P (dC, dI) vwCl (yW G C u) H → va_D A (yW G C u) → va_S A s.heap H locs → W p l e (xR 0 0) s m args below meth c H locs 0 0 Q (F0 m pc ls [.int (yp_wrongHeap u h)]))) : W p l e (xR 0 0) s m args below meth c s.heap [] 0 0 Q (F0 m 0 ls []) := by
  obtain ⟨hx, hb, hml, hown, hts⟩ := B
  have hS : va_S A s.heap s.heap [] := va_S.rf
  have hfw : ∀ w ∈ u_ws RX1 TX1 9, w ∈ wsY_wrongHeap := by decide +kernel
  refine lv_iload_n hx hb dY_wrongHeap_0 rfl (lv_at hl 1 rfl) ?_
  refine lv_if_lt (tgt := 12) hx hb dY_wrongHeap_1 rfl (fun c1 => ?_) (fun c1 => ?_)
  · refine lv_bipush (v := (-2)) hx hb dY_wrongHeap_12 (by decide) ?_
    have e9 : yp_wrongHeap u h = (-2) := by unfold yp_wrongHeap; rw [if_pos c1]
    exact W.eq (congrArg (fun z => F0 m 14 ls [.int z]) e9.symm) (kk _ _ _ _ dY_wrongHeap_14 hP hD hS)
  · refine lv_iload_n hx hb dY_wrongHeap_4 rfl (lv_at hl 1 rfl) ?_
    refine lv_aload_n hx hb dY_wrongHeap_5 rfl (lv_at hl 0 rfl) ?_
    refine va_get (D := (dC, dI)) (ci := 1) (v := .int (nI (xm u))) (C := RX1) (T := TX1) (N := 9) hx hb hts hfw hown hK hP 0 rfl rfl 0 (by decide) (hts (.fieldLink RX1 33 "MeldingHeapsModel" "opened" "I") (by decide +kernel)) (fun _ h9 => h9) rfl dY_wrongHeap_6 ?_
    refine lv_icmp_lt (tgt := 15) hx hb dY_wrongHeap_9 rfl (fun c9 => ?_) (fun c9 => ?_)
    · refine lv_aload_n hx hb dY_wrongHeap_15 rfl (lv_at hl 0 rfl) ?_
      refine va_get (D := (dC, dI)) (ci := 1) (v := .ref (G 3)) (C := RX1) (T := TX1) (N := 9) hx hb hts hfw hown hK hP 0 rfl rfl 3 (by decide) (hts (.fieldLink RX1 16 "MeldingHeapsModel" "gone" "[Z") (by decide +kernel)) (fun _ h9 => h9) rfl dY_wrongHeap_16 ?_
      refine lv_iload_n hx hb dY_wrongHeap_19 rfl (lv_at hl 1 rfl) ?_
      refine va_zald (f := (xab u)) hx hb hK hP 3 2 rfl rfl ((lt_in c1 c9 hm (by decide)).1) dY_wrongHeap_20 ?_
      refine lv_if_eq (tgt := 29) hx hb dY_wrongHeap_21 rfl (fun c21 => ?_) (fun c21 => ?_)
      · refine lv_iconst (v := 0) hx hb dY_wrongHeap_29 (by decide) ?_
        have e9 : yp_wrongHeap u h = 0 := by unfold yp_wrongHeap; rw [if_neg c1, if_pos c9, if_pos c21]
        exact W.eq (congrArg (fun z => F0 m 30 ls [.int z]) e9.symm) (kk _ _ _ _ dY_wrongHeap_30 hP hD hS)
      · refine lv_bipush (v := (-3)) hx hb dY_wrongHeap_24 (by decide) ?_
        refine lv_goto (tgt := 30) hx hb dY_wrongHeap_26 rfl ?_
        have e9 : yp_wrongHeap u h = (-3) := by unfold yp_wrongHeap; rw [if_neg c1, if_pos c9, if_neg c21]
        exact W.eq (congrArg (fun z => F0 m 30 ls [.int z]) e9.symm) (kk _ _ _ _ dY_wrongHeap_30 hP hD hS)
    · refine lv_bipush (v := (-2)) hx hb dY_wrongHeap_12 (by decide) ?_
      have e9 : yp_wrongHeap u h = (-2) := by unfold yp_wrongHeap; rw [if_neg c1, if_neg c9]
      exact W.eq (congrArg (fun z => F0 m 14 ls [.int z]) e9.symm) (kk _ _ _ _ dY_wrongHeap_14 hP hD hS)
theorem yc_wrongHeap (l : Launch) (dC : Nat → ClassId) (dI : Nat → Nat → Nat) (G : Nat → Nat) (C : Nat → ClassId) (sz : Nat) (u : xS) (h : Int32) (hm : xm u ≤ 12) : xMi l yY_wrongHeap wsY_wrongHeap (xR 0 0) dC dI (yT C) [.ref (G 0), .int h] (yW G C u) (yW G C u) (yp_wrongHeap u h) sz :=
  xmet_i (by decide) rfl rfl (Nat.le_of_ble_eq_true rfl) rfl (fun p e s m args below meth c Q A ls B hK hA hP hD hl kk => yb_wrongHeap hm B hK hA hP hD hl kk)
theorem yin_wH {u : xS} {h : Int32} (hm : xm u ≤ 12) (c : yp_wrongHeap u h = 0) : vp_in h 12 := by
  unfold yp_wrongHeap at c
  by_cases h1 : h < 0
  · rw [if_pos h1] at c; exact absurd c (by decide)
  · rw [if_neg h1] at c
    by_cases h2 : h < (nI (xm u))
    · exact (lt_in h1 h2 hm (by decide)).1
    · rw [if_neg h2] at c; exact absurd c (by decide)
theorem ywH_neg {u : xS} {h : Int32} (c : ¬ yp_wrongHeap u h = 0) : yp_wrongHeap u h < 0 := by
  unfold yp_wrongHeap at c ⊢
  by_cases h1 : h < 0
  · rw [if_pos h1]; decide
  · rw [if_neg h1] at c ⊢
    by_cases h2 : h < (nI (xm u))
    · rw [if_pos h2] at c ⊢
      by_cases h3 : (xab u h.toNatClampNeg) = 0
      · rw [if_pos h3] at c; exact absurd rfl c
      · rw [if_neg h3]; decide
    · rw [if_neg h2]; decide
def yp_wrongEntry (u : xS) (a : Int32) : Int32 :=
  (if a < 0 then
    (-2)
  else (if a < (nI (xn u)) then
      (if 0 ≤ ((xow u) (a).toNatClampNeg) then
        0
      else (-4))
    else (-2)))
set_option maxHeartbeats 4000000 in
set_option maxRecDepth 100000 in
theorem yb_wrongEntry {p : Program} {l : Launch} {e : Env} {s : State} {m : MethodId} {args : Array Value} {below : List Frame} {meth : Method} {c : Code} {Q : State → Prop} {A : Nat → Prop} {ls : Array Slot} {dC : Nat → ClassId} {dI : Nat → Nat → Nat} {G : Nat → Nat} {C : Nat → ClassId} {u : xS} {a : Int32} (hn : xn u ≤ 160) (B : CallFix p m c cY_wrongEntry 2 s args wsY_wrongEntry RX1) (hK : va_K (dC, dI) vwCl (yT C) s) (hA : ∀ q : Nat, s.heap.size ≤ q → A q) (hP : va_P (dC, dI) vwCl (yW G C u) s.heap) (hD : va_D A (yW G C u)) (hl : lv_has ls 2 [(0, .ref (G 0)), (1, .int a)]) (kk : (∀ (H : Heap) (locs : List Loc) (pc : Nat) (ls : Array Slot), decode cY_wrongEntry pc = .ok (.ireturn, 1) → va_P (dC, dI) vwCl (yW G C u) H → va_D A (yW G C u) → va_S A s.heap H locs → W p l e (xR 0 0) s m args below meth c H locs 0 0 Q (F0 m pc ls [.int (yp_wrongEntry u a)]))) : W p l e (xR 0 0) s m args below meth c s.heap [] 0 0 Q (F0 m 0 ls []) := by
  obtain ⟨hx, hb, hml, hown, hts⟩ := B
  have hS : va_S A s.heap s.heap [] := va_S.rf
  have hfw : ∀ w ∈ u_ws RX1 TX1 9, w ∈ wsY_wrongEntry := by decide +kernel
  refine lv_iload_n hx hb dY_wrongEntry_0 rfl (lv_at hl 1 rfl) ?_
  refine lv_if_lt (tgt := 12) hx hb dY_wrongEntry_1 rfl (fun c1 => ?_) (fun c1 => ?_)
  · refine lv_bipush (v := (-2)) hx hb dY_wrongEntry_12 (by decide) ?_
    have e9 : yp_wrongEntry u a = (-2) := by unfold yp_wrongEntry; rw [if_pos c1]
    exact W.eq (congrArg (fun z => F0 m 14 ls [.int z]) e9.symm) (kk _ _ _ _ dY_wrongEntry_14 hP hD hS)
  · refine lv_iload_n hx hb dY_wrongEntry_4 rfl (lv_at hl 1 rfl) ?_
    refine lv_aload_n hx hb dY_wrongEntry_5 rfl (lv_at hl 0 rfl) ?_
    refine va_get (D := (dC, dI)) (ci := 1) (v := .int (nI (xn u))) (C := RX1) (T := TX1) (N := 9) hx hb hts hfw hown hK hP 0 rfl rfl 5 (by decide) (hts (.fieldLink RX1 37 "MeldingHeapsModel" "inserted" "I") (by decide +kernel)) (fun _ h9 => h9) rfl dY_wrongEntry_6 ?_
    refine lv_icmp_lt (tgt := 15) hx hb dY_wrongEntry_9 rfl (fun c9 => ?_) (fun c9 => ?_)
    · refine lv_aload_n hx hb dY_wrongEntry_15 rfl (lv_at hl 0 rfl) ?_
      refine va_get (D := (dC, dI)) (ci := 1) (v := .ref (G 7)) (C := RX1) (T := TX1) (N := 9) hx hb hts hfw hown hK hP 0 rfl rfl 8 (by decide) (hts (.fieldLink RX1 30 "MeldingHeapsModel" "homes" "[I") (by decide +kernel)) (fun _ h9 => h9) rfl dY_wrongEntry_16 ?_
      refine lv_iload_n hx hb dY_wrongEntry_19 rfl (lv_at hl 1 rfl) ?_
      refine va_iald (f := (xow u)) hx hb hK hP 7 6 rfl rfl ((lt_in c1 c9 hn (by decide)).1) dY_wrongEntry_20 ?_
      refine lv_if_ge (tgt := 29) hx hb dY_wrongEntry_21 rfl (fun c21 => ?_) (fun c21 => ?_)
      · refine lv_iconst (v := 0) hx hb dY_wrongEntry_29 (by decide) ?_
        have e9 : yp_wrongEntry u a = 0 := by unfold yp_wrongEntry; rw [if_neg c1, if_pos c9, if_pos c21]
        exact W.eq (congrArg (fun z => F0 m 30 ls [.int z]) e9.symm) (kk _ _ _ _ dY_wrongEntry_30 hP hD hS)
      · refine lv_bipush (v := (-4)) hx hb dY_wrongEntry_24 (by decide) ?_
        refine lv_goto (tgt := 30) hx hb dY_wrongEntry_26 rfl ?_
        have e9 : yp_wrongEntry u a = (-4) := by unfold yp_wrongEntry; rw [if_neg c1, if_pos c9, if_neg c21]
        exact W.eq (congrArg (fun z => F0 m 30 ls [.int z]) e9.symm) (kk _ _ _ _ dY_wrongEntry_30 hP hD hS)
    · refine lv_bipush (v := (-2)) hx hb dY_wrongEntry_12 (by decide) ?_
      have e9 : yp_wrongEntry u a = (-2) := by unfold yp_wrongEntry; rw [if_neg c1, if_neg c9]
      exact W.eq (congrArg (fun z => F0 m 14 ls [.int z]) e9.symm) (kk _ _ _ _ dY_wrongEntry_14 hP hD hS)
theorem yc_wrongEntry (l : Launch) (dC : Nat → ClassId) (dI : Nat → Nat → Nat) (G : Nat → Nat) (C : Nat → ClassId) (sz : Nat) (u : xS) (a : Int32) (hn : xn u ≤ 160) : xMi l yY_wrongEntry wsY_wrongEntry (xR 0 0) dC dI (yT C) [.ref (G 0), .int a] (yW G C u) (yW G C u) (yp_wrongEntry u a) sz :=
  xmet_i (by decide) rfl rfl (Nat.le_of_ble_eq_true rfl) rfl (fun p e s m args below meth c Q A ls B hK hA hP hD hl kk => yb_wrongEntry hn B hK hA hP hD hl kk)
theorem yin_wE {u : xS} {a : Int32} (hn : xn u ≤ 160) (c : yp_wrongEntry u a = 0) : vp_in a 160 ∧ (∃ j, j < xn u ∧ a = nI j) ∧ 0 ≤ xow u a.toNatClampNeg := by
  unfold yp_wrongEntry at c
  by_cases h1 : a < 0
  · rw [if_pos h1] at c; exact absurd c (by decide)
  · rw [if_neg h1] at c
    by_cases h2 : a < (nI (xn u))
    · rw [if_pos h2] at c
      by_cases h3 : 0 ≤ (xow u a.toNatClampNeg)
      · exact ⟨(lt_in h1 h2 hn (by decide)).1, (lt_in h1 h2 hn (by decide)).2, h3⟩
      · rw [if_neg h3] at c; exact absurd c (by decide)
    · rw [if_neg h2] at c; exact absurd c (by decide)
theorem yin_own {u : xS} {a : Int32} (hn : xn u ≤ 160) (ho : ∀ j : Nat, j < xn u → xow u j = -1 ∨ vp_in (xow u j) 12) (c : yp_wrongEntry u a = 0) : vp_in (xow u a.toNatClampNeg) 12 := by
  obtain ⟨-, ⟨j, hj, rfl⟩, h2⟩ := yin_wE hn c
  rw [nI_clamp (show j < 2 ^ 31 by omega)] at h2 ⊢
  refine (ho j hj).resolve_left (fun q => ?_)
  rw [q] at h2
  exact absurd h2 (by decide)
def yp_weight (u : xS) (h : Int32) (k : Int64) : Int64 :=
  (if ((xod u) (h).toNatClampNeg) = 0 then
    k
  else (if ((xod u) (h).toNatClampNeg) = 1 then
      ((-1) - k)
    else (if ((xod u) (h).toNatClampNeg) = 2 then
        (k ^^^ (-9223372036854775808))
      else (k &&& 65535))))
set_option maxHeartbeats 4000000 in
set_option maxRecDepth 100000 in
theorem yb_weight {p : Program} {l : Launch} {e : Env} {s : State} {m : MethodId} {args : Array Value} {below : List Frame} {meth : Method} {c : Code} {Q : State → Prop} {A : Nat → Prop} {ls : Array Slot} {dC : Nat → ClassId} {dI : Nat → Nat → Nat} {G : Nat → Nat} {C : Nat → ClassId} {u : xS} {h : Int32} {k : Int64} (hh : vp_in h 12) (B : CallFix p m c cY_weight 5 s args wsY_weight RX1) (hK : va_K (dC, dI) vwCl (yT C) s) (hA : ∀ q : Nat, s.heap.size ≤ q → A q) (hP : va_P (dC, dI) vwCl (yW G C u) s.heap) (hD : va_D A (yW G C u)) (hl : lv_has ls 5 [(0, .ref (G 0)), (1, .int h), (2, .long k)]) (kk : (∀ (H : Heap) (locs : List Loc) (pc : Nat) (ls : Array Slot), decode cY_weight pc = .ok (.lreturn, 1) → va_P (dC, dI) vwCl (yW G C u) H → va_D A (yW G C u) → va_S A s.heap H locs → W p l e (xR 0 0) s m args below meth c H locs 0 0 Q (F0 m pc ls [.long (yp_weight u h k)]))) : W p l e (xR 0 0) s m args below meth c s.heap [] 0 0 Q (F0 m 0 ls []) := by
  obtain ⟨hx, hb, hml, hown, hts⟩ := B
  have hS : va_S A s.heap s.heap [] := va_S.rf
  have hfw : ∀ w ∈ u_ws RX1 TX1 9, w ∈ wsY_weight := by decide +kernel
  refine lv_aload_n hx hb dY_weight_0 rfl (lv_at hl 0 rfl) ?_
  refine va_get (D := (dC, dI)) (ci := 1) (v := .ref (G 2)) (C := RX1) (T := TX1) (N := 9) hx hb hts hfw hown hK hP 0 rfl rfl 2 (by decide) (hts (.fieldLink RX1 13 "MeldingHeapsModel" "orders" "[I") (by decide +kernel)) (fun _ h9 => h9) rfl dY_weight_1 ?_
  refine lv_iload_n hx hb dY_weight_4 rfl (lv_at hl 1 rfl) ?_
  refine va_iald (f := (xod u)) hx hb hK hP 2 1 rfl rfl (hh) dY_weight_5 ?_
  refine lv_istore (lv' := [(4, .int ((xod u) (h).toNatClampNeg)), (0, .ref (G 0)), (1, .int h), (2, .long k)]) hx hb dY_weight_6 hl (by decide) rfl (fun ls hl => ?_)
  refine lv_iload hx hb dY_weight_8 (lv_at hl 0 rfl) ?_
  refine lv_if_ne (tgt := 15) hx hb dY_weight_10 rfl (fun c10 => ?_) (fun c10 => ?_)
  · refine lv_iload hx hb dY_weight_15 (lv_at hl 0 rfl) ?_
    refine lv_iconst (v := 1) hx hb dY_weight_17 (by decide) ?_
    refine lv_icmp_ne (tgt := 27) hx hb dY_weight_18 rfl (fun c18 => ?_) (fun c18 => ?_)
    · refine lv_iload hx hb dY_weight_27 (lv_at hl 0 rfl) ?_
      refine lv_iconst (v := 2) hx hb dY_weight_29 (by decide) ?_
      refine lv_icmp_ne (tgt := 41) hx hb dY_weight_30 rfl (fun c30 => ?_) (fun c30 => ?_)
      · refine lv_lload_n hx hb dY_weight_41 rfl (lv_at hl 3 rfl) ?_
        refine lv_ldc2 (v := 65535) hx hb hown (hts (.constantLong RX1 44 65535) (by decide +kernel)) dY_weight_42 ?_
        refine lv_land hx hb dY_weight_45 ?_
        have e9 : yp_weight u h k = (k &&& 65535) := by unfold yp_weight; rw [if_neg c10, if_neg c18, if_neg c30]
        exact W.eq (congrArg (fun z => F0 m 46 ls [.long z]) e9.symm) (kk _ _ _ _ dY_weight_46 hP hD hS)
      · refine lv_lload_n hx hb dY_weight_33 rfl (lv_at hl 3 rfl) ?_
        refine lv_ldc2 (v := (-9223372036854775808)) hx hb hown (hts (.constantLong RX1 42 (-9223372036854775808)) (by decide +kernel)) dY_weight_34 ?_
        refine lv_lxor hx hb dY_weight_37 ?_
        refine lv_goto (tgt := 46) hx hb dY_weight_38 rfl ?_
        have e9 : yp_weight u h k = (k ^^^ (-9223372036854775808)) := by unfold yp_weight; rw [if_neg c10, if_neg c18, if_pos c30]
        exact W.eq (congrArg (fun z => F0 m 46 ls [.long z]) e9.symm) (kk _ _ _ _ dY_weight_46 hP hD hS)
    · refine lv_ldc2 (v := (-1)) hx hb hown (hts (.constantLong RX1 40 (-1)) (by decide +kernel)) dY_weight_21 ?_
      refine lv_lload_n hx hb dY_weight_24 rfl (lv_at hl 3 rfl) ?_
      refine lv_lsub hx hb dY_weight_25 ?_
      have e9 : yp_weight u h k = ((-1) - k) := by unfold yp_weight; rw [if_neg c10, if_pos c18]
      exact W.eq (congrArg (fun z => F0 m 26 ls [.long z]) e9.symm) (kk _ _ _ _ dY_weight_26 hP hD hS)
  · refine lv_lload_n hx hb dY_weight_13 rfl (lv_at hl 3 rfl) ?_
    have e9 : yp_weight u h k = k := by unfold yp_weight; rw [if_pos c10]
    exact W.eq (congrArg (fun z => F0 m 14 ls [.long z]) e9.symm) (kk _ _ _ _ dY_weight_14 hP hD hS)
theorem yc_weight (l : Launch) (dC : Nat → ClassId) (dI : Nat → Nat → Nat) (G : Nat → Nat) (C : Nat → ClassId) (sz : Nat) (u : xS) (h : Int32) (k : Int64) (hh : vp_in h 12) : xMl l yY_weight wsY_weight (xR 0 0) dC dI (yT C) [.ref (G 0), .int h, .long k] (yW G C u) (yW G C u) (yp_weight u h k) sz :=
  xmet_l (by decide) rfl (Nat.le_of_ble_eq_true rfl) rfl (fun p e s m args below meth c Q A ls B hK hA hP hD hl kk => yb_weight hh B hK hA hP hD hl kk)
def yp_isBelow (u : xS) (h : Int32) (k : Int64) : Int32 :=
  (if ((xkd u) (h).toNatClampNeg) = 2 then
    (if 0 ≤ (lg_cmp (yp_weight u h k) ((xfl u) (h).toNatClampNeg)) then
      0
    else 1)
  else 0)
set_option maxHeartbeats 4000000 in
set_option maxRecDepth 100000 in
theorem yb_isBelow {p : Program} {l : Launch} {e : Env} {s : State} {m : MethodId} {args : Array Value} {below : List Frame} {meth : Method} {c : Code} {Q : State → Prop} {A : Nat → Prop} {ls : Array Slot} {dC : Nat → ClassId} {dI : Nat → Nat → Nat} {G : Nat → Nat} {C : Nat → ClassId} {u : xS} {h : Int32} {k : Int64} (hh : vp_in h 12) (B : CallFix p m c cY_isBelow 4 s args wsY_isBelow RX1) (hK : va_K (dC, dI) vwCl (yT C) s) (hA : ∀ q : Nat, s.heap.size ≤ q → A q) (hP : va_P (dC, dI) vwCl (yW G C u) s.heap) (hD : va_D A (yW G C u)) (hl : lv_has ls 4 [(0, .ref (G 0)), (1, .int h), (2, .long k)]) (kk : (∀ (H : Heap) (locs : List Loc) (pc : Nat) (ls : Array Slot), decode cY_isBelow pc = .ok (.ireturn, 1) → va_P (dC, dI) vwCl (yW G C u) H → va_D A (yW G C u) → va_S A s.heap H locs → W p l e (xR 1 24) s m args below meth c H locs 0 0 Q (F0 m pc ls [.int (yp_isBelow u h k)]))) : W p l e (xR 1 24) s m args below meth c s.heap [] 0 0 Q (F0 m 0 ls []) := by
  obtain ⟨hx, hb, hml, hown, hts⟩ := B
  have hS : va_S A s.heap s.heap [] := va_S.rf
  have hfw : ∀ w ∈ u_ws RX1 TX1 9, w ∈ wsY_isBelow := by decide +kernel
  refine lv_aload_n hx hb dY_isBelow_0 rfl (lv_at hl 0 rfl) ?_
  refine va_get (D := (dC, dI)) (ci := 1) (v := .ref (G 1)) (C := RX1) (T := TX1) (N := 9) hx hb hts hfw hown hK hP 0 rfl rfl 1 (by decide) (hts (.fieldLink RX1 7 "MeldingHeapsModel" "kinds" "[I") (by decide +kernel)) (fun _ h9 => h9) rfl dY_isBelow_1 ?_
  refine lv_iload_n hx hb dY_isBelow_4 rfl (lv_at hl 1 rfl) ?_
  refine va_iald (f := (xkd u)) hx hb hK hP 1 0 rfl rfl (hh) dY_isBelow_5 ?_
  refine lv_iconst (v := 2) hx hb dY_isBelow_6 (by decide) ?_
  refine lv_icmp_ne (tgt := 30) hx hb dY_isBelow_7 rfl (fun c7 => ?_) (fun c7 => ?_)
  · refine lv_iconst (v := 0) hx hb dY_isBelow_30 (by decide) ?_
    have e9 : yp_isBelow u h k = 0 := by unfold yp_isBelow; rw [if_neg c7]
    exact W.eq (congrArg (fun z => F0 m 31 ls [.int z]) e9.symm) (kk _ _ _ _ dY_isBelow_31 hP hD hS)
  · refine lv_aload_n hx hb dY_isBelow_10 rfl (lv_at hl 0 rfl) ?_
    refine lv_iload_n hx hb dY_isBelow_11 rfl (lv_at hl 1 rfl) ?_
    refine lv_lload_n hx hb dY_isBelow_12 rfl (lv_at hl 2 rfl) ?_
    refine xcall_l (ws := (yW G C u)) (wc := (yW G C u)) (wr := []) (w1 := (yW G C u)) (v := (yp_weight u h k)) [0, 1, 2, 3, 4, 5, 6, 7] [] (va_runV (As := [.int h, .long k]) (rest := []) ⟨hx, hb, hml, hown, hts⟩ (yc_weight l dC dI G C _ u h k hh) (cwV 2 hts gY_isBelow_Y_weight rfl rfl rfl (by decide +kernel) ⟨Nat.le_of_ble_eq_true rfl, Nat.le_of_ble_eq_true rfl⟩) (xpreV (q0 := 0) (ci := 1) (qc := (RX1, TX1, 9)) hK hP hD rfl rfl) rfl rfl hl.1 rfl (lv_room (Nat.le_of_ble_eq_true rfl)) dY_isBelow_13 ⟨Nat.zero_le _, Nat.zero_le _⟩) hP hD hS hA rfl rfl (by decide) (by decide) (fun H locs hP hD hS => ?_)
    have hP : va_P (dC, dI) vwCl (yW G C u) H := hP
    have hD : va_D A (yW G C u) := hD
    refine lv_aload_n hx hb dY_isBelow_16 rfl (lv_at hl 0 rfl) ?_
    refine va_get (D := (dC, dI)) (ci := 1) (v := .ref (G 4)) (C := RX1) (T := TX1) (N := 9) hx hb hts hfw hown hK hP 0 rfl rfl 4 (by decide) (hts (.fieldLink RX1 20 "MeldingHeapsModel" "floors" "[J") (by decide +kernel)) (fun _ h9 => h9) rfl dY_isBelow_17 ?_
    refine lv_iload_n hx hb dY_isBelow_20 rfl (lv_at hl 1 rfl) ?_
    refine va_lald (f := (xfl u)) hx hb hK hP 4 3 rfl rfl (hh) dY_isBelow_21 ?_
    refine W.lcmp hx hb dY_isBelow_22 ?_
    refine lv_if_ge (tgt := 30) hx hb dY_isBelow_23 rfl (fun c23 => ?_) (fun c23 => ?_)
    · refine lv_iconst (v := 0) hx hb dY_isBelow_30 (by decide) ?_
      have e9 : yp_isBelow u h k = 0 := by unfold yp_isBelow; rw [if_pos c7, if_pos c23]
      exact W.eq (congrArg (fun z => F0 m 31 ls [.int z]) e9.symm) (kk _ _ _ _ dY_isBelow_31 hP hD hS)
    · refine lv_iconst (v := 1) hx hb dY_isBelow_26 (by decide) ?_
      refine lv_goto (tgt := 31) hx hb dY_isBelow_27 rfl ?_
      have e9 : yp_isBelow u h k = 1 := by unfold yp_isBelow; rw [if_pos c7, if_neg c23]
      exact W.eq (congrArg (fun z => F0 m 31 ls [.int z]) e9.symm) (kk _ _ _ _ dY_isBelow_31 hP hD hS)
theorem yc_isBelow (l : Launch) (dC : Nat → ClassId) (dI : Nat → Nat → Nat) (G : Nat → Nat) (C : Nat → ClassId) (sz : Nat) (u : xS) (h : Int32) (k : Int64) (hh : vp_in h 12) : xMi l yY_isBelow wsY_isBelow (xR 1 24) dC dI (yT C) [.ref (G 0), .int h, .long k] (yW G C u) (yW G C u) (yp_isBelow u h k) sz :=
  xmet_i (by decide) rfl (by unfold yp_isBelow; (repeat' split) <;> rfl) (Nat.le_of_ble_eq_true rfl) rfl (fun p e s m args below meth c Q A ls B hK hA hP hD hl kk => yb_isBelow hh B hK hA hP hD hl kk)
def yq_leave (u : xS) (h : Int32) (a : Int32) : xS :=
  (if ((xkd u) (h).toNatClampNeg) = 2 then
    (sFl u (vp_updL (xfl u) (h).toNatClampNeg (yp_weight u h ((xky u) (a).toNatClampNeg))))
  else (sFl u (vp_updL (xfl u) (h).toNatClampNeg ((xfl u) (h).toNatClampNeg))))
set_option maxHeartbeats 4000000 in
set_option maxRecDepth 100000 in
theorem yb_leave {p : Program} {l : Launch} {e : Env} {s : State} {m : MethodId} {args : Array Value} {below : List Frame} {meth : Method} {c : Code} {Q : State → Prop} {A : Nat → Prop} {ls : Array Slot} {dC : Nat → ClassId} {dI : Nat → Nat → Nat} {G : Nat → Nat} {C : Nat → ClassId} {u : xS} {h : Int32} {a : Int32} (hh : vp_in h 12) (ha2 : vp_in a 160) (B : CallFix p m c cY_leave 3 s args wsY_leave RX1) (hK : va_K (dC, dI) vwCl (yT C) s) (hA : ∀ q : Nat, s.heap.size ≤ q → A q) (hP : va_P (dC, dI) vwCl (yW G C u) s.heap) (hD : va_D A (yW G C u)) (hl : lv_has ls 3 [(0, .ref (G 0)), (1, .int h), (2, .int a)]) (kk : (∀ (H : Heap) (locs : List Loc) (pc : Nat) (ls : Array Slot), decode cY_leave pc = .ok (.return_, 1) → va_P (dC, dI) vwCl (yW G C (yq_leave u h a)) H → va_D A (yW G C (yq_leave u h a)) → va_S A s.heap H locs → W p l e (xR 1 24) s m args below meth c H locs 0 0 Q (F0 m pc ls []))) : W p l e (xR 1 24) s m args below meth c s.heap [] 0 0 Q (F0 m 0 ls []) := by
  obtain ⟨hx, hb, hml, hown, hts⟩ := B
  have hS : va_S A s.heap s.heap [] := va_S.rf
  have hfw : ∀ w ∈ u_ws RX1 TX1 9, w ∈ wsY_leave := by decide +kernel
  refine lv_aload_n hx hb dY_leave_0 rfl (lv_at hl 0 rfl) ?_
  refine va_get (D := (dC, dI)) (ci := 1) (v := .ref (G 4)) (C := RX1) (T := TX1) (N := 9) hx hb hts hfw hown hK hP 0 rfl rfl 4 (by decide) (hts (.fieldLink RX1 20 "MeldingHeapsModel" "floors" "[J") (by decide +kernel)) (fun _ h9 => h9) rfl dY_leave_1 ?_
  refine lv_iload_n hx hb dY_leave_4 rfl (lv_at hl 1 rfl) ?_
  refine lv_aload_n hx hb dY_leave_5 rfl (lv_at hl 0 rfl) ?_
  refine va_get (D := (dC, dI)) (ci := 1) (v := .ref (G 1)) (C := RX1) (T := TX1) (N := 9) hx hb hts hfw hown hK hP 0 rfl rfl 1 (by decide) (hts (.fieldLink RX1 7 "MeldingHeapsModel" "kinds" "[I") (by decide +kernel)) (fun _ h9 => h9) rfl dY_leave_6 ?_
  refine lv_iload_n hx hb dY_leave_9 rfl (lv_at hl 1 rfl) ?_
  refine va_iald (f := (xkd u)) hx hb hK hP 1 0 rfl rfl (hh) dY_leave_10 ?_
  refine lv_iconst (v := 2) hx hb dY_leave_11 (by decide) ?_
  refine lv_icmp_ne (tgt := 29) hx hb dY_leave_12 rfl (fun c12 => ?_) (fun c12 => ?_)
  · refine lv_aload_n hx hb dY_leave_29 rfl (lv_at hl 0 rfl) ?_
    refine va_get (D := (dC, dI)) (ci := 1) (v := .ref (G 4)) (C := RX1) (T := TX1) (N := 9) hx hb hts hfw hown hK hP 0 rfl rfl 4 (by decide) (hts (.fieldLink RX1 20 "MeldingHeapsModel" "floors" "[J") (by decide +kernel)) (fun _ h9 => h9) rfl dY_leave_30 ?_
    refine lv_iload_n hx hb dY_leave_33 rfl (lv_at hl 1 rfl) ?_
    refine va_lald (f := (xfl u)) hx hb hK hP 4 3 rfl rfl (hh) dY_leave_34 ?_
    refine va_last (f := (xfl u)) hx hb hK hP hD hS 4 3 rfl rfl (hh) dY_leave_35 (fun H locs hP hD hS => ?_)
    have hP : va_P (dC, dI) vwCl (yW G C (sFl u (vp_updL (xfl u) (h).toNatClampNeg ((xfl u) (h).toNatClampNeg)))) H := hP
    have hD : va_D A (yW G C (sFl u (vp_updL (xfl u) (h).toNatClampNeg ((xfl u) (h).toNatClampNeg)))) := hD
    have e8 : yq_leave u h a = (sFl u (vp_updL (xfl u) (h).toNatClampNeg ((xfl u) (h).toNatClampNeg))) := by unfold yq_leave; rw [if_neg c12]
    exact kk _ _ _ _ dY_leave_36 (by rw [e8]; exact hP) (by rw [e8]; exact hD) hS
  · refine lv_aload_n hx hb dY_leave_15 rfl (lv_at hl 0 rfl) ?_
    refine lv_iload_n hx hb dY_leave_16 rfl (lv_at hl 1 rfl) ?_
    refine lv_aload_n hx hb dY_leave_17 rfl (lv_at hl 0 rfl) ?_
    refine va_get (D := (dC, dI)) (ci := 1) (v := .ref (G 5)) (C := RX1) (T := TX1) (N := 9) hx hb hts hfw hown hK hP 0 rfl rfl 6 (by decide) (hts (.fieldLink RX1 24 "MeldingHeapsModel" "keys" "[J") (by decide +kernel)) (fun _ h9 => h9) rfl dY_leave_18 ?_
    refine lv_iload_n hx hb dY_leave_21 rfl (lv_at hl 2 rfl) ?_
    refine va_lald (f := (xky u)) hx hb hK hP 5 4 rfl rfl (ha2) dY_leave_22 ?_
    refine xcall_l (ws := (yW G C u)) (wc := (yW G C u)) (wr := []) (w1 := (yW G C u)) (v := (yp_weight u h ((xky u) (a).toNatClampNeg))) [0, 1, 2, 3, 4, 5, 6, 7] [] (va_runV (As := [.int h, .long ((xky u) (a).toNatClampNeg)]) (rest := [.int h, .ref (G 4)]) ⟨hx, hb, hml, hown, hts⟩ (yc_weight l dC dI G C _ u h ((xky u) (a).toNatClampNeg) hh) (cwV 2 hts gY_leave_Y_weight rfl rfl rfl (by decide +kernel) ⟨Nat.le_of_ble_eq_true rfl, Nat.le_of_ble_eq_true rfl⟩) (xpreV (q0 := 0) (ci := 1) (qc := (RX1, TX1, 9)) hK hP hD rfl rfl) rfl rfl hl.1 rfl (lv_room (Nat.le_of_ble_eq_true rfl)) dY_leave_23 ⟨Nat.zero_le _, Nat.zero_le _⟩) hP hD hS hA rfl rfl (by decide) (by decide) (fun H locs hP hD hS => ?_)
    have hP : va_P (dC, dI) vwCl (yW G C u) H := hP
    have hD : va_D A (yW G C u) := hD
    refine lv_goto (tgt := 35) hx hb dY_leave_26 rfl ?_
    refine va_last (f := (xfl u)) hx hb hK hP hD hS 4 3 rfl rfl (hh) dY_leave_35 (fun H locs hP hD hS => ?_)
    have hP : va_P (dC, dI) vwCl (yW G C (sFl u (vp_updL (xfl u) (h).toNatClampNeg (yp_weight u h ((xky u) (a).toNatClampNeg))))) H := hP
    have hD : va_D A (yW G C (sFl u (vp_updL (xfl u) (h).toNatClampNeg (yp_weight u h ((xky u) (a).toNatClampNeg))))) := hD
    have e8 : yq_leave u h a = (sFl u (vp_updL (xfl u) (h).toNatClampNeg (yp_weight u h ((xky u) (a).toNatClampNeg)))) := by unfold yq_leave; rw [if_pos c12]
    exact kk _ _ _ _ dY_leave_36 (by rw [e8]; exact hP) (by rw [e8]; exact hD) hS
theorem yc_leave (l : Launch) (dC : Nat → ClassId) (dI : Nat → Nat → Nat) (G : Nat → Nat) (C : Nat → ClassId) (sz : Nat) (u : xS) (h : Int32) (a : Int32) (hh : vp_in h 12) (ha2 : vp_in a 160) : xMv l yY_leave wsY_leave (xR 1 24) dC dI (yT C) [.ref (G 0), .int h, .int a] (yW G C u) (yW G C (yq_leave u h a)) sz :=
  xmet_v (by decide) rfl (Nat.le_of_ble_eq_true rfl) rfl (fun p e s m args below meth c Q A ls B hK hA hP hD hl kk => yb_leave hh ha2 B hK hA hP hD hl kk)
def yp_rankL (u : xS) (a : Int32) : Nat → Nat
  | 0 => 0
  | i + 1 =>
    (if ((xow u) i) = ((xow u) (a).toNatClampNeg) then
      (if (lg_cmp (yp_weight u ((xow u) (a).toNatClampNeg) ((xky u) i)) (yp_weight u ((xow u) (a).toNatClampNeg) ((xky u) (a).toNatClampNeg))) < 0 then
        ((yp_rankL u a i) + 1)
      else (if (lg_cmp (yp_weight u ((xow u) (a).toNatClampNeg) ((xky u) i)) (yp_weight u ((xow u) (a).toNatClampNeg) ((xky u) (a).toNatClampNeg))) = 0 then
          (if a ≤ (nI i) then
            (yp_rankL u a i)
          else ((yp_rankL u a i) + 1))
        else (yp_rankL u a i)))
    else (yp_rankL u a i))
set_option maxHeartbeats 4000000 in
set_option maxRecDepth 100000 in
theorem yl_rank {p : Program} {l : Launch} {e : Env} {s : State} {m : MethodId} {args : Array Value} {below : List Frame} {meth : Method} {c : Code} {Q : State → Prop} {A : Nat → Prop} {dC : Nat → ClassId} {dI : Nat → Nat → Nat} {G : Nat → Nat} {C : Nat → ClassId} {u : xS} {a : Int32} (hn : xn u ≤ 160) (ha2 : vp_in a 160) (hh : vp_in (xow u a.toNatClampNeg) 12) (B : CallFix p m c cY_rank 9 s args wsY_rank RX1) (hK : va_K (dC, dI) vwCl (yT C) s) (hA : ∀ q : Nat, s.heap.size ≤ q → A q) (kk : ∀ (H : Heap) (locs : List Loc) (ls : Array Slot), va_P (dC, dI) vwCl (yW G C u) H → va_D A (yW G C u) → va_S A s.heap H locs → lv_has ls 9 [(5, .int (nI (yp_rankL u a (xn u)))), (0, .ref (G 0)), (1, .int a), (2, .int ((xow u) (a).toNatClampNeg)), (3, .long (yp_weight u ((xow u) (a).toNatClampNeg) ((xky u) (a).toNatClampNeg)))] → W p l e (xR 1 24) s m args below meth c H locs 0 0 Q (F0 m 96 ls [])) :
    ∀ (d i : Nat) (H : Heap) (locs : List Loc) (ls : Array Slot), xn u - i = d → i ≤ xn u → va_P (dC, dI) vwCl (yW G C u) H → va_D A (yW G C u) → va_S A s.heap H locs → lv_has ls 9 [(6, .int (nI i)), (5, .int (nI (yp_rankL u a i))), (0, .ref (G 0)), (1, .int a), (2, .int ((xow u) (a).toNatClampNeg)), (3, .long (yp_weight u ((xow u) (a).toNatClampNeg) ((xky u) (a).toNatClampNeg)))] → W p l e (xR 1 24) s m args below meth c H locs 0 0 Q (F0 m 25 ls []) := by
  obtain ⟨hx, hb, hml, hown, hts⟩ := B
  have hfw : ∀ w ∈ u_ws RX1 TX1 9, w ∈ wsY_rank := by decide +kernel
  intro d
  induction d using Nat.strongRecOn with
  | ind d ih =>
    intro i H locs ls hd hi0 hP hD hS hl
    refine lv_iload hx hb dY_rank_25 (lv_at hl 0 rfl) ?_
    refine lv_aload_n hx hb dY_rank_27 rfl (lv_at hl 2 rfl) ?_
    refine va_get (D := (dC, dI)) (ci := 1) (v := .int (nI (xn u))) (C := RX1) (T := TX1) (N := 9) hx hb hts hfw hown hK hP 0 rfl rfl 5 (by decide) (hts (.fieldLink RX1 37 "MeldingHeapsModel" "inserted" "I") (by decide +kernel)) (fun _ h9 => h9) rfl dY_rank_28 ?_
    refine lv_icmp_ge (tgt := 96) hx hb dY_rank_31 rfl (fun c31 => ?_) (fun c31 => ?_)
    · have hi2 : i = xn u := Nat.le_antisymm hi0 ((nI_leI (by omega) (by omega)).mp c31)
      rw [hi2] at hl
      exact kk _ _ _ hP hD hS (lv_sub hl [1, 2, 3, 4, 5] rfl)
    · have hi : i < xn u := Nat.not_le.mp (fun q => c31 (nI_le q (by omega)))
      refine lv_aload_n hx hb dY_rank_34 rfl (lv_at hl 2 rfl) ?_
      refine va_get (D := (dC, dI)) (ci := 1) (v := .ref (G 7)) (C := RX1) (T := TX1) (N := 9) hx hb hts hfw hown hK hP 0 rfl rfl 8 (by decide) (hts (.fieldLink RX1 30 "MeldingHeapsModel" "homes" "[I") (by decide +kernel)) (fun _ h9 => h9) rfl dY_rank_35 ?_
      refine lv_iload hx hb dY_rank_38 (lv_at hl 0 rfl) ?_
      refine va_iald (f := (xow u)) hx hb hK hP 7 6 rfl rfl (vp_in_nI (by omega) (by decide)) dY_rank_40 ?_
      refine W.eq (congrArg (fun z => F0 m 41 ls (.int ((xow u) z) :: [])) (nI_clamp (show i < 2 ^ 31 by omega))) ?_
      refine lv_iload_n hx hb dY_rank_41 rfl (lv_at hl 4 rfl) ?_
      refine lv_icmp_ne (tgt := 90) hx hb dY_rank_42 rfl (fun c42 => ?_) (fun c42 => ?_)
      · refine lv_iinc (k := 0) (v := (nI (i + 1))) (lv' := [(6, .int (nI (i + 1))), (5, .int (nI (yp_rankL u a i))), (0, .ref (G 0)), (1, .int a), (2, .int ((xow u) (a).toNatClampNeg)), (3, .long (yp_weight u ((xow u) (a).toNatClampNeg) ((xky u) (a).toNatClampNeg)))]) hx hb dY_rank_90 hl rfl (xinc _) (by decide) rfl (fun ls hl => ?_)
        refine lv_goto (tgt := 25) hx hb dY_rank_93 rfl ?_
        have e9 : yp_rankL u a (i + 1) = (yp_rankL u a i) := by rw [yp_rankL]; rw [if_neg c42]
        have hl : lv_has ls 9 [(6, .int (nI (i + 1))), (5, .int (nI (yp_rankL u a (i + 1)))), (0, .ref (G 0)), (1, .int a), (2, .int ((xow u) (a).toNatClampNeg)), (3, .long (yp_weight u ((xow u) (a).toNatClampNeg) ((xky u) (a).toNatClampNeg)))] := by rw [e9]; exact lv_sub hl [0, 1, 2, 3, 4, 5] rfl
        exact ih _ (by omega) (i + 1) _ _ _ rfl hi hP hD hS hl
      · refine lv_aload_n hx hb dY_rank_45 rfl (lv_at hl 2 rfl) ?_
        refine lv_iload_n hx hb dY_rank_46 rfl (lv_at hl 4 rfl) ?_
        refine lv_aload_n hx hb dY_rank_47 rfl (lv_at hl 2 rfl) ?_
        refine va_get (D := (dC, dI)) (ci := 1) (v := .ref (G 5)) (C := RX1) (T := TX1) (N := 9) hx hb hts hfw hown hK hP 0 rfl rfl 6 (by decide) (hts (.fieldLink RX1 24 "MeldingHeapsModel" "keys" "[J") (by decide +kernel)) (fun _ h9 => h9) rfl dY_rank_48 ?_
        refine lv_iload hx hb dY_rank_51 (lv_at hl 0 rfl) ?_
        refine va_lald (f := (xky u)) hx hb hK hP 5 4 rfl rfl (vp_in_nI (by omega) (by decide)) dY_rank_53 ?_
        refine W.eq (congrArg (fun z => F0 m 54 ls (.long ((xky u) z) :: [.int ((xow u) (a).toNatClampNeg), .ref (G 0)])) (nI_clamp (show i < 2 ^ 31 by omega))) ?_
        refine xcall_l (ws := (yW G C u)) (wc := (yW G C u)) (wr := []) (w1 := (yW G C u)) (v := (yp_weight u ((xow u) (a).toNatClampNeg) ((xky u) i))) [0, 1, 2, 3, 4, 5, 6, 7] [] (va_runV (As := [.int ((xow u) (a).toNatClampNeg), .long ((xky u) i)]) (rest := []) ⟨hx, hb, hml, hown, hts⟩ (yc_weight l dC dI G C _ u ((xow u) (a).toNatClampNeg) ((xky u) i) hh) (cwV 2 hts gY_rank_Y_weight rfl rfl rfl (by decide +kernel) ⟨Nat.le_of_ble_eq_true rfl, Nat.le_of_ble_eq_true rfl⟩) (xpreV (q0 := 0) (ci := 1) (qc := (RX1, TX1, 9)) hK hP hD rfl rfl) rfl rfl hl.1 rfl (lv_room (Nat.le_of_ble_eq_true rfl)) dY_rank_54 ⟨Nat.zero_le _, Nat.zero_le _⟩) hP hD hS hA rfl rfl (by decide) (by decide) (fun H locs hP hD hS => ?_)
        have hP : va_P (dC, dI) vwCl (yW G C u) H := hP
        have hD : va_D A (yW G C u) := hD
        refine lv_lstore (lv' := [(7, .long (yp_weight u ((xow u) (a).toNatClampNeg) ((xky u) i))), (6, .int (nI i)), (5, .int (nI (yp_rankL u a i))), (0, .ref (G 0)), (1, .int a), (2, .int ((xow u) (a).toNatClampNeg)), (3, .long (yp_weight u ((xow u) (a).toNatClampNeg) ((xky u) (a).toNatClampNeg)))]) hx hb dY_rank_57 hl (by decide) rfl (fun ls hl => ?_)
        refine lv_lload hx hb dY_rank_59 (lv_at hl 0 rfl) ?_
        refine lv_lload_n hx hb dY_rank_61 rfl (lv_at hl 6 rfl) ?_
        refine W.lcmp hx hb dY_rank_62 ?_
        refine lv_if_lt (tgt := 79) hx hb dY_rank_63 rfl (fun c63 => ?_) (fun c63 => ?_)
        · refine lv_iload hx hb dY_rank_79 (lv_at hl 2 rfl) ?_
          refine lv_iconst (v := 1) hx hb dY_rank_81 (by decide) ?_
          refine lv_iadd hx hb dY_rank_82 ?_
          refine W.eq (congrArg (fun z => F0 m 83 ls (.int z :: [])) (nI_1 (yp_rankL u a i))) ?_
          refine lv_goto (tgt := 88) hx hb dY_rank_83 rfl ?_
          refine lv_istore (lv' := [(5, .int (nI ((yp_rankL u a i) + 1))), (7, .long (yp_weight u ((xow u) (a).toNatClampNeg) ((xky u) i))), (6, .int (nI i)), (0, .ref (G 0)), (1, .int a), (2, .int ((xow u) (a).toNatClampNeg)), (3, .long (yp_weight u ((xow u) (a).toNatClampNeg) ((xky u) (a).toNatClampNeg)))]) hx hb dY_rank_88 hl (by decide) rfl (fun ls hl => ?_)
          refine lv_iinc (k := 2) (v := (nI (i + 1))) (lv' := [(6, .int (nI (i + 1))), (5, .int (nI ((yp_rankL u a i) + 1))), (7, .long (yp_weight u ((xow u) (a).toNatClampNeg) ((xky u) i))), (0, .ref (G 0)), (1, .int a), (2, .int ((xow u) (a).toNatClampNeg)), (3, .long (yp_weight u ((xow u) (a).toNatClampNeg) ((xky u) (a).toNatClampNeg)))]) hx hb dY_rank_90 hl rfl (xinc _) (by decide) rfl (fun ls hl => ?_)
          refine lv_goto (tgt := 25) hx hb dY_rank_93 rfl ?_
          have e9 : yp_rankL u a (i + 1) = ((yp_rankL u a i) + 1) := by rw [yp_rankL]; rw [if_pos c42, if_pos c63]
          have hl : lv_has ls 9 [(6, .int (nI (i + 1))), (5, .int (nI (yp_rankL u a (i + 1)))), (0, .ref (G 0)), (1, .int a), (2, .int ((xow u) (a).toNatClampNeg)), (3, .long (yp_weight u ((xow u) (a).toNatClampNeg) ((xky u) (a).toNatClampNeg)))] := by rw [e9]; exact lv_sub hl [0, 1, 3, 4, 5, 6] rfl
          exact ih _ (by omega) (i + 1) _ _ _ rfl hi hP hD hS hl
        · refine lv_lload hx hb dY_rank_66 (lv_at hl 0 rfl) ?_
          refine lv_lload_n hx hb dY_rank_68 rfl (lv_at hl 6 rfl) ?_
          refine W.lcmp hx hb dY_rank_69 ?_
          refine lv_if_ne (tgt := 86) hx hb dY_rank_70 rfl (fun c70 => ?_) (fun c70 => ?_)
          · refine lv_iload hx hb dY_rank_86 (lv_at hl 2 rfl) ?_
            refine lv_istore (lv' := [(5, .int (nI (yp_rankL u a i))), (7, .long (yp_weight u ((xow u) (a).toNatClampNeg) ((xky u) i))), (6, .int (nI i)), (0, .ref (G 0)), (1, .int a), (2, .int ((xow u) (a).toNatClampNeg)), (3, .long (yp_weight u ((xow u) (a).toNatClampNeg) ((xky u) (a).toNatClampNeg)))]) hx hb dY_rank_88 hl (by decide) rfl (fun ls hl => ?_)
            refine lv_iinc (k := 2) (v := (nI (i + 1))) (lv' := [(6, .int (nI (i + 1))), (5, .int (nI (yp_rankL u a i))), (7, .long (yp_weight u ((xow u) (a).toNatClampNeg) ((xky u) i))), (0, .ref (G 0)), (1, .int a), (2, .int ((xow u) (a).toNatClampNeg)), (3, .long (yp_weight u ((xow u) (a).toNatClampNeg) ((xky u) (a).toNatClampNeg)))]) hx hb dY_rank_90 hl rfl (xinc _) (by decide) rfl (fun ls hl => ?_)
            refine lv_goto (tgt := 25) hx hb dY_rank_93 rfl ?_
            have e9 : yp_rankL u a (i + 1) = (yp_rankL u a i) := by rw [yp_rankL]; rw [if_pos c42, if_neg c63, if_neg c70]
            have hl : lv_has ls 9 [(6, .int (nI (i + 1))), (5, .int (nI (yp_rankL u a (i + 1)))), (0, .ref (G 0)), (1, .int a), (2, .int ((xow u) (a).toNatClampNeg)), (3, .long (yp_weight u ((xow u) (a).toNatClampNeg) ((xky u) (a).toNatClampNeg)))] := by rw [e9]; exact lv_sub hl [0, 1, 3, 4, 5, 6] rfl
            exact ih _ (by omega) (i + 1) _ _ _ rfl hi hP hD hS hl
          · refine lv_iload hx hb dY_rank_73 (lv_at hl 1 rfl) ?_
            refine lv_iload_n hx hb dY_rank_75 rfl (lv_at hl 4 rfl) ?_
            refine lv_icmp_ge (tgt := 86) hx hb dY_rank_76 rfl (fun c76 => ?_) (fun c76 => ?_)
            · refine lv_iload hx hb dY_rank_86 (lv_at hl 2 rfl) ?_
              refine lv_istore (lv' := [(5, .int (nI (yp_rankL u a i))), (7, .long (yp_weight u ((xow u) (a).toNatClampNeg) ((xky u) i))), (6, .int (nI i)), (0, .ref (G 0)), (1, .int a), (2, .int ((xow u) (a).toNatClampNeg)), (3, .long (yp_weight u ((xow u) (a).toNatClampNeg) ((xky u) (a).toNatClampNeg)))]) hx hb dY_rank_88 hl (by decide) rfl (fun ls hl => ?_)
              refine lv_iinc (k := 2) (v := (nI (i + 1))) (lv' := [(6, .int (nI (i + 1))), (5, .int (nI (yp_rankL u a i))), (7, .long (yp_weight u ((xow u) (a).toNatClampNeg) ((xky u) i))), (0, .ref (G 0)), (1, .int a), (2, .int ((xow u) (a).toNatClampNeg)), (3, .long (yp_weight u ((xow u) (a).toNatClampNeg) ((xky u) (a).toNatClampNeg)))]) hx hb dY_rank_90 hl rfl (xinc _) (by decide) rfl (fun ls hl => ?_)
              refine lv_goto (tgt := 25) hx hb dY_rank_93 rfl ?_
              have e9 : yp_rankL u a (i + 1) = (yp_rankL u a i) := by rw [yp_rankL]; rw [if_pos c42, if_neg c63, if_pos c70, if_pos c76]
              have hl : lv_has ls 9 [(6, .int (nI (i + 1))), (5, .int (nI (yp_rankL u a (i + 1)))), (0, .ref (G 0)), (1, .int a), (2, .int ((xow u) (a).toNatClampNeg)), (3, .long (yp_weight u ((xow u) (a).toNatClampNeg) ((xky u) (a).toNatClampNeg)))] := by rw [e9]; exact lv_sub hl [0, 1, 3, 4, 5, 6] rfl
              exact ih _ (by omega) (i + 1) _ _ _ rfl hi hP hD hS hl
            · refine lv_iload hx hb dY_rank_79 (lv_at hl 2 rfl) ?_
              refine lv_iconst (v := 1) hx hb dY_rank_81 (by decide) ?_
              refine lv_iadd hx hb dY_rank_82 ?_
              refine W.eq (congrArg (fun z => F0 m 83 ls (.int z :: [])) (nI_1 (yp_rankL u a i))) ?_
              refine lv_goto (tgt := 88) hx hb dY_rank_83 rfl ?_
              refine lv_istore (lv' := [(5, .int (nI ((yp_rankL u a i) + 1))), (7, .long (yp_weight u ((xow u) (a).toNatClampNeg) ((xky u) i))), (6, .int (nI i)), (0, .ref (G 0)), (1, .int a), (2, .int ((xow u) (a).toNatClampNeg)), (3, .long (yp_weight u ((xow u) (a).toNatClampNeg) ((xky u) (a).toNatClampNeg)))]) hx hb dY_rank_88 hl (by decide) rfl (fun ls hl => ?_)
              refine lv_iinc (k := 2) (v := (nI (i + 1))) (lv' := [(6, .int (nI (i + 1))), (5, .int (nI ((yp_rankL u a i) + 1))), (7, .long (yp_weight u ((xow u) (a).toNatClampNeg) ((xky u) i))), (0, .ref (G 0)), (1, .int a), (2, .int ((xow u) (a).toNatClampNeg)), (3, .long (yp_weight u ((xow u) (a).toNatClampNeg) ((xky u) (a).toNatClampNeg)))]) hx hb dY_rank_90 hl rfl (xinc _) (by decide) rfl (fun ls hl => ?_)
              refine lv_goto (tgt := 25) hx hb dY_rank_93 rfl ?_
              have e9 : yp_rankL u a (i + 1) = ((yp_rankL u a i) + 1) := by rw [yp_rankL]; rw [if_pos c42, if_neg c63, if_pos c70, if_neg c76]
              have hl : lv_has ls 9 [(6, .int (nI (i + 1))), (5, .int (nI (yp_rankL u a (i + 1)))), (0, .ref (G 0)), (1, .int a), (2, .int ((xow u) (a).toNatClampNeg)), (3, .long (yp_weight u ((xow u) (a).toNatClampNeg) ((xky u) (a).toNatClampNeg)))] := by rw [e9]; exact lv_sub hl [0, 1, 3, 4, 5, 6] rfl
              exact ih _ (by omega) (i + 1) _ _ _ rfl hi hP hD hS hl
def yp_rank (u : xS) (a : Int32) : Int32 :=
  (nI (yp_rankL u a (xn u)))
set_option maxHeartbeats 4000000 in
set_option maxRecDepth 100000 in
theorem yb_rank {p : Program} {l : Launch} {e : Env} {s : State} {m : MethodId} {args : Array Value} {below : List Frame} {meth : Method} {c : Code} {Q : State → Prop} {A : Nat → Prop} {ls : Array Slot} {dC : Nat → ClassId} {dI : Nat → Nat → Nat} {G : Nat → Nat} {C : Nat → ClassId} {u : xS} {a : Int32} (hn : xn u ≤ 160) (ha2 : vp_in a 160) (hh : vp_in (xow u a.toNatClampNeg) 12) (B : CallFix p m c cY_rank 9 s args wsY_rank RX1) (hK : va_K (dC, dI) vwCl (yT C) s) (hA : ∀ q : Nat, s.heap.size ≤ q → A q) (hP : va_P (dC, dI) vwCl (yW G C u) s.heap) (hD : va_D A (yW G C u)) (hl : lv_has ls 9 [(0, .ref (G 0)), (1, .int a)]) (kk : (∀ (H : Heap) (locs : List Loc) (pc : Nat) (ls : Array Slot), decode cY_rank pc = .ok (.ireturn, 1) → va_P (dC, dI) vwCl (yW G C u) H → va_D A (yW G C u) → va_S A s.heap H locs → W p l e (xR 1 24) s m args below meth c H locs 0 0 Q (F0 m pc ls [.int (yp_rank u a)]))) : W p l e (xR 1 24) s m args below meth c s.heap [] 0 0 Q (F0 m 0 ls []) := by
  obtain ⟨hx, hb, hml, hown, hts⟩ := B
  have hS : va_S A s.heap s.heap [] := va_S.rf
  have hfw : ∀ w ∈ u_ws RX1 TX1 9, w ∈ wsY_rank := by decide +kernel
  refine lv_aload_n hx hb dY_rank_0 rfl (lv_at hl 0 rfl) ?_
  refine va_get (D := (dC, dI)) (ci := 1) (v := .ref (G 7)) (C := RX1) (T := TX1) (N := 9) hx hb hts hfw hown hK hP 0 rfl rfl 8 (by decide) (hts (.fieldLink RX1 30 "MeldingHeapsModel" "homes" "[I") (by decide +kernel)) (fun _ h9 => h9) rfl dY_rank_1 ?_
  refine lv_iload_n hx hb dY_rank_4 rfl (lv_at hl 1 rfl) ?_
  refine va_iald (f := (xow u)) hx hb hK hP 7 6 rfl rfl (ha2) dY_rank_5 ?_
  refine lv_istore_n (lv' := [(2, .int ((xow u) (a).toNatClampNeg)), (0, .ref (G 0)), (1, .int a)]) hx hb dY_rank_6 rfl hl (by decide) rfl (fun ls hl => ?_)
  refine lv_aload_n hx hb dY_rank_7 rfl (lv_at hl 1 rfl) ?_
  refine lv_iload_n hx hb dY_rank_8 rfl (lv_at hl 0 rfl) ?_
  refine lv_aload_n hx hb dY_rank_9 rfl (lv_at hl 1 rfl) ?_
  refine va_get (D := (dC, dI)) (ci := 1) (v := .ref (G 5)) (C := RX1) (T := TX1) (N := 9) hx hb hts hfw hown hK hP 0 rfl rfl 6 (by decide) (hts (.fieldLink RX1 24 "MeldingHeapsModel" "keys" "[J") (by decide +kernel)) (fun _ h9 => h9) rfl dY_rank_10 ?_
  refine lv_iload_n hx hb dY_rank_13 rfl (lv_at hl 2 rfl) ?_
  refine va_lald (f := (xky u)) hx hb hK hP 5 4 rfl rfl (ha2) dY_rank_14 ?_
  refine xcall_l (ws := (yW G C u)) (wc := (yW G C u)) (wr := []) (w1 := (yW G C u)) (v := (yp_weight u ((xow u) (a).toNatClampNeg) ((xky u) (a).toNatClampNeg))) [0, 1, 2, 3, 4, 5, 6, 7] [] (va_runV (As := [.int ((xow u) (a).toNatClampNeg), .long ((xky u) (a).toNatClampNeg)]) (rest := []) ⟨hx, hb, hml, hown, hts⟩ (yc_weight l dC dI G C _ u ((xow u) (a).toNatClampNeg) ((xky u) (a).toNatClampNeg) hh) (cwV 2 hts gY_rank_Y_weight rfl rfl rfl (by decide +kernel) ⟨Nat.le_of_ble_eq_true rfl, Nat.le_of_ble_eq_true rfl⟩) (xpreV (q0 := 0) (ci := 1) (qc := (RX1, TX1, 9)) hK hP hD rfl rfl) rfl rfl hl.1 rfl (lv_room (Nat.le_of_ble_eq_true rfl)) dY_rank_15 ⟨Nat.zero_le _, Nat.zero_le _⟩) hP hD hS hA rfl rfl (by decide) (by decide) (fun H locs hP hD hS => ?_)
  have hP : va_P (dC, dI) vwCl (yW G C u) H := hP
  have hD : va_D A (yW G C u) := hD
  refine lv_lstore_n (lv' := [(3, .long (yp_weight u ((xow u) (a).toNatClampNeg) ((xky u) (a).toNatClampNeg))), (2, .int ((xow u) (a).toNatClampNeg)), (0, .ref (G 0)), (1, .int a)]) hx hb dY_rank_18 rfl hl (by decide) rfl (fun ls hl => ?_)
  refine lv_iconst (v := 0) hx hb dY_rank_19 (by decide) ?_
  refine lv_istore (lv' := [(5, .int 0), (3, .long (yp_weight u ((xow u) (a).toNatClampNeg) ((xky u) (a).toNatClampNeg))), (2, .int ((xow u) (a).toNatClampNeg)), (0, .ref (G 0)), (1, .int a)]) hx hb dY_rank_20 hl (by decide) rfl (fun ls hl => ?_)
  refine lv_iconst (v := 0) hx hb dY_rank_22 (by decide) ?_
  refine lv_istore (lv' := [(6, .int 0), (5, .int 0), (3, .long (yp_weight u ((xow u) (a).toNatClampNeg) ((xky u) (a).toNatClampNeg))), (2, .int ((xow u) (a).toNatClampNeg)), (0, .ref (G 0)), (1, .int a)]) hx hb dY_rank_23 hl (by decide) rfl (fun ls hl => ?_)
  refine yl_rank hn ha2 hh ⟨hx, hb, hml, hown, hts⟩ hK hA (fun H locs ls hP hD hS hl => ?_) _ 0 _ _ _ rfl (Nat.zero_le _) hP hD hS (lv_sub hl [0, 1, 4, 5, 3, 2] rfl)
  refine lv_iload hx hb dY_rank_96 (lv_at hl 0 rfl) ?_
  have e9 : yp_rank u a = (nI (yp_rankL u a (xn u))) := rfl
  exact W.eq (congrArg (fun z => F0 m 98 ls [.int z]) e9.symm) (kk _ _ _ _ dY_rank_98 hP hD hS)
theorem yc_rank (l : Launch) (dC : Nat → ClassId) (dI : Nat → Nat → Nat) (G : Nat → Nat) (C : Nat → ClassId) (sz : Nat) (u : xS) (a : Int32) (hn : xn u ≤ 160) (ha2 : vp_in a 160) (hh : vp_in (xow u a.toNatClampNeg) 12) : xMi l yY_rank wsY_rank (xR 1 24) dC dI (yT C) [.ref (G 0), .int a] (yW G C u) (yW G C u) (yp_rank u a) sz :=
  xmet_i (by decide) rfl rfl (Nat.le_of_ble_eq_true rfl) rfl (fun p e s m args below meth c Q A ls B hK hA hP hD hl kk => yb_rank hn ha2 hh B hK hA hP hD hl kk)
def yp_manyL (u : xS) (h : Int32) : Nat → Nat
  | 0 => 0
  | i + 1 =>
    (if ((xow u) i) = h then
      ((yp_manyL u h i) + 1)
    else (yp_manyL u h i))
set_option maxHeartbeats 4000000 in
set_option maxRecDepth 100000 in
theorem yl_many {p : Program} {l : Launch} {e : Env} {s : State} {m : MethodId} {args : Array Value} {below : List Frame} {meth : Method} {c : Code} {Q : State → Prop} {A : Nat → Prop} {dC : Nat → ClassId} {dI : Nat → Nat → Nat} {G : Nat → Nat} {C : Nat → ClassId} {u : xS} {h : Int32} (hn : xn u ≤ 160) (B : CallFix p m c cY_many 4 s args wsY_many RX1) (hK : va_K (dC, dI) vwCl (yT C) s) (hA : ∀ q : Nat, s.heap.size ≤ q → A q) (kk : ∀ (H : Heap) (locs : List Loc) (ls : Array Slot), va_P (dC, dI) vwCl (yW G C u) H → va_D A (yW G C u) → va_S A s.heap H locs → lv_has ls 4 [(2, .int (nI (yp_manyL u h (xn u)))), (0, .ref (G 0)), (1, .int h)] → W p l e (xR 0 0) s m args below meth c H locs 0 0 Q (F0 m 36 ls [])) :
    ∀ (d i : Nat) (H : Heap) (locs : List Loc) (ls : Array Slot), xn u - i = d → i ≤ xn u → va_P (dC, dI) vwCl (yW G C u) H → va_D A (yW G C u) → va_S A s.heap H locs → lv_has ls 4 [(3, .int (nI i)), (2, .int (nI (yp_manyL u h i))), (0, .ref (G 0)), (1, .int h)] → W p l e (xR 0 0) s m args below meth c H locs 0 0 Q (F0 m 4 ls []) := by
  obtain ⟨hx, hb, hml, hown, hts⟩ := B
  have hfw : ∀ w ∈ u_ws RX1 TX1 9, w ∈ wsY_many := by decide +kernel
  intro d
  induction d using Nat.strongRecOn with
  | ind d ih =>
    intro i H locs ls hd hi0 hP hD hS hl
    refine lv_iload_n hx hb dY_many_4 rfl (lv_at hl 0 rfl) ?_
    refine lv_aload_n hx hb dY_many_5 rfl (lv_at hl 2 rfl) ?_
    refine va_get (D := (dC, dI)) (ci := 1) (v := .int (nI (xn u))) (C := RX1) (T := TX1) (N := 9) hx hb hts hfw hown hK hP 0 rfl rfl 5 (by decide) (hts (.fieldLink RX1 37 "MeldingHeapsModel" "inserted" "I") (by decide +kernel)) (fun _ h9 => h9) rfl dY_many_6 ?_
    refine lv_icmp_ge (tgt := 36) hx hb dY_many_9 rfl (fun c9 => ?_) (fun c9 => ?_)
    · have hi2 : i = xn u := Nat.le_antisymm hi0 ((nI_leI (by omega) (by omega)).mp c9)
      rw [hi2] at hl
      exact kk _ _ _ hP hD hS (lv_sub hl [1, 2, 3] rfl)
    · have hi : i < xn u := Nat.not_le.mp (fun q => c9 (nI_le q (by omega)))
      refine lv_aload_n hx hb dY_many_12 rfl (lv_at hl 2 rfl) ?_
      refine va_get (D := (dC, dI)) (ci := 1) (v := .ref (G 7)) (C := RX1) (T := TX1) (N := 9) hx hb hts hfw hown hK hP 0 rfl rfl 8 (by decide) (hts (.fieldLink RX1 30 "MeldingHeapsModel" "homes" "[I") (by decide +kernel)) (fun _ h9 => h9) rfl dY_many_13 ?_
      refine lv_iload_n hx hb dY_many_16 rfl (lv_at hl 0 rfl) ?_
      refine va_iald (f := (xow u)) hx hb hK hP 7 6 rfl rfl (vp_in_nI (by omega) (by decide)) dY_many_17 ?_
      refine W.eq (congrArg (fun z => F0 m 18 ls (.int ((xow u) z) :: [])) (nI_clamp (show i < 2 ^ 31 by omega))) ?_
      refine lv_iload_n hx hb dY_many_18 rfl (lv_at hl 3 rfl) ?_
      refine lv_icmp_ne (tgt := 28) hx hb dY_many_19 rfl (fun c19 => ?_) (fun c19 => ?_)
      · refine lv_iload_n hx hb dY_many_28 rfl (lv_at hl 1 rfl) ?_
        refine lv_istore_n (lv' := [(2, .int (nI (yp_manyL u h i))), (3, .int (nI i)), (0, .ref (G 0)), (1, .int h)]) hx hb dY_many_29 rfl hl (by decide) rfl (fun ls hl => ?_)
        refine lv_iinc (k := 1) (v := (nI (i + 1))) (lv' := [(3, .int (nI (i + 1))), (2, .int (nI (yp_manyL u h i))), (0, .ref (G 0)), (1, .int h)]) hx hb dY_many_30 hl rfl (xinc _) (by decide) rfl (fun ls hl => ?_)
        refine lv_goto (tgt := 4) hx hb dY_many_33 rfl ?_
        have e9 : yp_manyL u h (i + 1) = (yp_manyL u h i) := by rw [yp_manyL]; rw [if_neg c19]
        have hl : lv_has ls 4 [(3, .int (nI (i + 1))), (2, .int (nI (yp_manyL u h (i + 1)))), (0, .ref (G 0)), (1, .int h)] := by rw [e9]; exact lv_sub hl [0, 1, 2, 3] rfl
        exact ih _ (by omega) (i + 1) _ _ _ rfl hi hP hD hS hl
      · refine lv_iload_n hx hb dY_many_22 rfl (lv_at hl 1 rfl) ?_
        refine lv_iconst (v := 1) hx hb dY_many_23 (by decide) ?_
        refine lv_iadd hx hb dY_many_24 ?_
        refine W.eq (congrArg (fun z => F0 m 25 ls (.int z :: [])) (nI_1 (yp_manyL u h i))) ?_
        refine lv_goto (tgt := 29) hx hb dY_many_25 rfl ?_
        refine lv_istore_n (lv' := [(2, .int (nI ((yp_manyL u h i) + 1))), (3, .int (nI i)), (0, .ref (G 0)), (1, .int h)]) hx hb dY_many_29 rfl hl (by decide) rfl (fun ls hl => ?_)
        refine lv_iinc (k := 1) (v := (nI (i + 1))) (lv' := [(3, .int (nI (i + 1))), (2, .int (nI ((yp_manyL u h i) + 1))), (0, .ref (G 0)), (1, .int h)]) hx hb dY_many_30 hl rfl (xinc _) (by decide) rfl (fun ls hl => ?_)
        refine lv_goto (tgt := 4) hx hb dY_many_33 rfl ?_
        have e9 : yp_manyL u h (i + 1) = ((yp_manyL u h i) + 1) := by rw [yp_manyL]; rw [if_pos c19]
        have hl : lv_has ls 4 [(3, .int (nI (i + 1))), (2, .int (nI (yp_manyL u h (i + 1)))), (0, .ref (G 0)), (1, .int h)] := by rw [e9]; exact lv_sub hl [0, 1, 2, 3] rfl
        exact ih _ (by omega) (i + 1) _ _ _ rfl hi hP hD hS hl
def yp_many (u : xS) (h : Int32) : Int32 :=
  (nI (yp_manyL u h (xn u)))
set_option maxHeartbeats 4000000 in
set_option maxRecDepth 100000 in
theorem yb_many {p : Program} {l : Launch} {e : Env} {s : State} {m : MethodId} {args : Array Value} {below : List Frame} {meth : Method} {c : Code} {Q : State → Prop} {A : Nat → Prop} {ls : Array Slot} {dC : Nat → ClassId} {dI : Nat → Nat → Nat} {G : Nat → Nat} {C : Nat → ClassId} {u : xS} {h : Int32} (hn : xn u ≤ 160) (B : CallFix p m c cY_many 4 s args wsY_many RX1) (hK : va_K (dC, dI) vwCl (yT C) s) (hA : ∀ q : Nat, s.heap.size ≤ q → A q) (hP : va_P (dC, dI) vwCl (yW G C u) s.heap) (hD : va_D A (yW G C u)) (hl : lv_has ls 4 [(0, .ref (G 0)), (1, .int h)]) (kk : (∀ (H : Heap) (locs : List Loc) (pc : Nat) (ls : Array Slot), decode cY_many pc = .ok (.ireturn, 1) → va_P (dC, dI) vwCl (yW G C u) H → va_D A (yW G C u) → va_S A s.heap H locs → W p l e (xR 0 0) s m args below meth c H locs 0 0 Q (F0 m pc ls [.int (yp_many u h)]))) : W p l e (xR 0 0) s m args below meth c s.heap [] 0 0 Q (F0 m 0 ls []) := by
  obtain ⟨hx, hb, hml, hown, hts⟩ := B
  have hS : va_S A s.heap s.heap [] := va_S.rf
  refine lv_iconst (v := 0) hx hb dY_many_0 (by decide) ?_
  refine lv_istore_n (lv' := [(2, .int 0), (0, .ref (G 0)), (1, .int h)]) hx hb dY_many_1 rfl hl (by decide) rfl (fun ls hl => ?_)
  refine lv_iconst (v := 0) hx hb dY_many_2 (by decide) ?_
  refine lv_istore_n (lv' := [(3, .int 0), (2, .int 0), (0, .ref (G 0)), (1, .int h)]) hx hb dY_many_3 rfl hl (by decide) rfl (fun ls hl => ?_)
  refine yl_many hn ⟨hx, hb, hml, hown, hts⟩ hK hA (fun H locs ls hP hD hS hl => ?_) _ 0 _ _ _ rfl (Nat.zero_le _) hP hD hS (lv_sub hl [0, 1, 2, 3] rfl)
  refine lv_iload_n hx hb dY_many_36 rfl (lv_at hl 0 rfl) ?_
  have e9 : yp_many u h = (nI (yp_manyL u h (xn u))) := rfl
  exact W.eq (congrArg (fun z => F0 m 37 ls [.int z]) e9.symm) (kk _ _ _ _ dY_many_37 hP hD hS)
theorem yc_many (l : Launch) (dC : Nat → ClassId) (dI : Nat → Nat → Nat) (G : Nat → Nat) (C : Nat → ClassId) (sz : Nat) (u : xS) (h : Int32) (hn : xn u ≤ 160) : xMi l yY_many wsY_many (xR 0 0) dC dI (yT C) [.ref (G 0), .int h] (yW G C u) (yW G C u) (yp_many u h) sz :=
  xmet_i (by decide) rfl rfl (Nat.le_of_ble_eq_true rfl) rfl (fun p e s m args below meth c Q A ls B hK hA hP hD hl kk => yb_many hn B hK hA hP hD hl kk)
def yp_extremeL (u : xS) (h g : Int32) : Nat → Int32 × Int64
  | 0 => (-1, 0)
  | i + 1 =>
    (if ((xow u) i) = h then
      (if (yp_extremeL u h g i).1 = (-1) then
        ((nI i), (yp_weight u h ((xky u) i)))
      else (if g = 0 then
          (if (lg_cmp (yp_weight u h ((xky u) i)) (yp_extremeL u h g i).2) < 0 then
            ((yp_extremeL u h g i).1, (yp_extremeL u h g i).2)
          else ((nI i), (yp_weight u h ((xky u) i))))
        else (if 0 ≤ (lg_cmp (yp_weight u h ((xky u) i)) (yp_extremeL u h g i).2) then
            ((yp_extremeL u h g i).1, (yp_extremeL u h g i).2)
          else ((nI i), (yp_weight u h ((xky u) i))))))
    else ((yp_extremeL u h g i).1, (yp_extremeL u h g i).2))
theorem yex_in (u : xS) (h g : Int32) : ∀ i, (yp_extremeL u h g i).1 = -1 ∨ ∃ j, j < i ∧ (yp_extremeL u h g i).1 = nI j := by
  intro i
  induction i with
  | zero => exact Or.inl rfl
  | succ i ih =>
    rcases ih with h1 | ⟨j, hj, h1⟩
    · rw [yp_extremeL]
      (repeat' split) <;> first | exact Or.inr ⟨i, Nat.lt_succ_self i, rfl⟩ | exact Or.inl h1
    · rw [yp_extremeL]
      (repeat' split) <;> first | exact Or.inr ⟨i, Nat.lt_succ_self i, rfl⟩ | exact Or.inr ⟨j, Nat.lt_succ_of_lt hj, h1⟩
set_option maxHeartbeats 4000000 in
set_option maxRecDepth 100000 in
theorem yl_extreme {p : Program} {l : Launch} {e : Env} {s : State} {m : MethodId} {args : Array Value} {below : List Frame} {meth : Method} {c : Code} {Q : State → Prop} {A : Nat → Prop} {dC : Nat → ClassId} {dI : Nat → Nat → Nat} {G : Nat → Nat} {C : Nat → ClassId} {u : xS} {h : Int32} {g : Int32} (hn : xn u ≤ 160) (hh : vp_in h 12) (B : CallFix p m c cY_extreme 9 s args wsY_extreme RX1) (hK : va_K (dC, dI) vwCl (yT C) s) (hA : ∀ q : Nat, s.heap.size ≤ q → A q) (kk : ∀ (H : Heap) (locs : List Loc) (ls : Array Slot), va_P (dC, dI) vwCl (yW G C u) H → va_D A (yW G C u) → va_S A s.heap H locs → lv_has ls 9 [(3, .int (yp_extremeL u h g (xn u)).1), (4, .long (yp_extremeL u h g (xn u)).2), (0, .ref (G 0)), (1, .int h), (2, .int g)] → W p l e (xR 1 24) s m args below meth c H locs 0 0 Q (F0 m 83 ls [])) :
    ∀ (d i : Nat) (H : Heap) (locs : List Loc) (ls : Array Slot), xn u - i = d → i ≤ xn u → va_P (dC, dI) vwCl (yW G C u) H → va_D A (yW G C u) → va_S A s.heap H locs → lv_has ls 9 [(6, .int (nI i)), (3, .int (yp_extremeL u h g i).1), (4, .long (yp_extremeL u h g i).2), (0, .ref (G 0)), (1, .int h), (2, .int g)] → W p l e (xR 1 24) s m args below meth c H locs 0 0 Q (F0 m 8 ls []) := by
  obtain ⟨hx, hb, hml, hown, hts⟩ := B
  have hfw : ∀ w ∈ u_ws RX1 TX1 9, w ∈ wsY_extreme := by decide +kernel
  intro d
  induction d using Nat.strongRecOn with
  | ind d ih =>
    intro i H locs ls hd hi0 hP hD hS hl
    refine lv_iload hx hb dY_extreme_8 (lv_at hl 0 rfl) ?_
    refine lv_aload_n hx hb dY_extreme_10 rfl (lv_at hl 3 rfl) ?_
    refine va_get (D := (dC, dI)) (ci := 1) (v := .int (nI (xn u))) (C := RX1) (T := TX1) (N := 9) hx hb hts hfw hown hK hP 0 rfl rfl 5 (by decide) (hts (.fieldLink RX1 37 "MeldingHeapsModel" "inserted" "I") (by decide +kernel)) (fun _ h9 => h9) rfl dY_extreme_11 ?_
    refine lv_icmp_ge (tgt := 83) hx hb dY_extreme_14 rfl (fun c14 => ?_) (fun c14 => ?_)
    · have hi2 : i = xn u := Nat.le_antisymm hi0 ((nI_leI (by omega) (by omega)).mp c14)
      rw [hi2] at hl
      exact kk _ _ _ hP hD hS (lv_sub hl [1, 2, 3, 4, 5] rfl)
    · have hi : i < xn u := Nat.not_le.mp (fun q => c14 (nI_le q (by omega)))
      refine lv_aload_n hx hb dY_extreme_17 rfl (lv_at hl 3 rfl) ?_
      refine va_get (D := (dC, dI)) (ci := 1) (v := .ref (G 7)) (C := RX1) (T := TX1) (N := 9) hx hb hts hfw hown hK hP 0 rfl rfl 8 (by decide) (hts (.fieldLink RX1 30 "MeldingHeapsModel" "homes" "[I") (by decide +kernel)) (fun _ h9 => h9) rfl dY_extreme_18 ?_
      refine lv_iload hx hb dY_extreme_21 (lv_at hl 0 rfl) ?_
      refine va_iald (f := (xow u)) hx hb hK hP 7 6 rfl rfl (vp_in_nI (by omega) (by decide)) dY_extreme_23 ?_
      refine W.eq (congrArg (fun z => F0 m 24 ls (.int ((xow u) z) :: [])) (nI_clamp (show i < 2 ^ 31 by omega))) ?_
      refine lv_iload_n hx hb dY_extreme_24 rfl (lv_at hl 4 rfl) ?_
      refine lv_icmp_ne (tgt := 77) hx hb dY_extreme_25 rfl (fun c25 => ?_) (fun c25 => ?_)
      · refine lv_iinc (k := 0) (v := (nI (i + 1))) (lv' := [(6, .int (nI (i + 1))), (3, .int (yp_extremeL u h g i).1), (4, .long (yp_extremeL u h g i).2), (0, .ref (G 0)), (1, .int h), (2, .int g)]) hx hb dY_extreme_77 hl rfl (xinc _) (by decide) rfl (fun ls hl => ?_)
        refine lv_goto (tgt := 8) hx hb dY_extreme_80 rfl ?_
        have e9 : yp_extremeL u h g (i + 1) = ((yp_extremeL u h g i).1, (yp_extremeL u h g i).2) := by rw [yp_extremeL]; rw [if_neg c25]
        have hl : lv_has ls 9 [(6, .int (nI (i + 1))), (3, .int (yp_extremeL u h g (i + 1)).1), (4, .long (yp_extremeL u h g (i + 1)).2), (0, .ref (G 0)), (1, .int h), (2, .int g)] := by rw [e9]; exact lv_sub hl [0, 1, 2, 3, 4, 5] rfl
        exact ih _ (by omega) (i + 1) _ _ _ rfl hi hP hD hS hl
      · refine lv_aload_n hx hb dY_extreme_28 rfl (lv_at hl 3 rfl) ?_
        refine lv_iload_n hx hb dY_extreme_29 rfl (lv_at hl 4 rfl) ?_
        refine lv_aload_n hx hb dY_extreme_30 rfl (lv_at hl 3 rfl) ?_
        refine va_get (D := (dC, dI)) (ci := 1) (v := .ref (G 5)) (C := RX1) (T := TX1) (N := 9) hx hb hts hfw hown hK hP 0 rfl rfl 6 (by decide) (hts (.fieldLink RX1 24 "MeldingHeapsModel" "keys" "[J") (by decide +kernel)) (fun _ h9 => h9) rfl dY_extreme_31 ?_
        refine lv_iload hx hb dY_extreme_34 (lv_at hl 0 rfl) ?_
        refine va_lald (f := (xky u)) hx hb hK hP 5 4 rfl rfl (vp_in_nI (by omega) (by decide)) dY_extreme_36 ?_
        refine W.eq (congrArg (fun z => F0 m 37 ls (.long ((xky u) z) :: [.int h, .ref (G 0)])) (nI_clamp (show i < 2 ^ 31 by omega))) ?_
        refine xcall_l (ws := (yW G C u)) (wc := (yW G C u)) (wr := []) (w1 := (yW G C u)) (v := (yp_weight u h ((xky u) i))) [0, 1, 2, 3, 4, 5, 6, 7] [] (va_runV (As := [.int h, .long ((xky u) i)]) (rest := []) ⟨hx, hb, hml, hown, hts⟩ (yc_weight l dC dI G C _ u h ((xky u) i) hh) (cwV 2 hts gY_extreme_Y_weight rfl rfl rfl (by decide +kernel) ⟨Nat.le_of_ble_eq_true rfl, Nat.le_of_ble_eq_true rfl⟩) (xpreV (q0 := 0) (ci := 1) (qc := (RX1, TX1, 9)) hK hP hD rfl rfl) rfl rfl hl.1 rfl (lv_room (Nat.le_of_ble_eq_true rfl)) dY_extreme_37 ⟨Nat.zero_le _, Nat.zero_le _⟩) hP hD hS hA rfl rfl (by decide) (by decide) (fun H locs hP hD hS => ?_)
        have hP : va_P (dC, dI) vwCl (yW G C u) H := hP
        have hD : va_D A (yW G C u) := hD
        refine lv_lstore (lv' := [(7, .long (yp_weight u h ((xky u) i))), (6, .int (nI i)), (3, .int (yp_extremeL u h g i).1), (4, .long (yp_extremeL u h g i).2), (0, .ref (G 0)), (1, .int h), (2, .int g)]) hx hb dY_extreme_40 hl (by decide) rfl (fun ls hl => ?_)
        refine lv_iload_n hx hb dY_extreme_42 rfl (lv_at hl 2 rfl) ?_
        refine lv_iconst (v := (-1)) hx hb dY_extreme_43 (by decide) ?_
        refine lv_icmp_eq (tgt := 70) hx hb dY_extreme_44 rfl (fun c44 => ?_) (fun c44 => ?_)
        · refine lv_iload hx hb dY_extreme_70 (lv_at hl 1 rfl) ?_
          refine lv_istore_n (lv' := [(3, .int (nI i)), (7, .long (yp_weight u h ((xky u) i))), (6, .int (nI i)), (4, .long (yp_extremeL u h g i).2), (0, .ref (G 0)), (1, .int h), (2, .int g)]) hx hb dY_extreme_72 rfl hl (by decide) rfl (fun ls hl => ?_)
          refine lv_lload hx hb dY_extreme_73 (lv_at hl 1 rfl) ?_
          refine lv_lstore (lv' := [(4, .long (yp_weight u h ((xky u) i))), (3, .int (nI i)), (7, .long (yp_weight u h ((xky u) i))), (6, .int (nI i)), (0, .ref (G 0)), (1, .int h), (2, .int g)]) hx hb dY_extreme_75 hl (by decide) rfl (fun ls hl => ?_)
          refine lv_iinc (k := 3) (v := (nI (i + 1))) (lv' := [(6, .int (nI (i + 1))), (4, .long (yp_weight u h ((xky u) i))), (3, .int (nI i)), (7, .long (yp_weight u h ((xky u) i))), (0, .ref (G 0)), (1, .int h), (2, .int g)]) hx hb dY_extreme_77 hl rfl (xinc _) (by decide) rfl (fun ls hl => ?_)
          refine lv_goto (tgt := 8) hx hb dY_extreme_80 rfl ?_
          have e9 : yp_extremeL u h g (i + 1) = ((nI i), (yp_weight u h ((xky u) i))) := by rw [yp_extremeL]; rw [if_pos c25, if_pos c44]
          have hl : lv_has ls 9 [(6, .int (nI (i + 1))), (3, .int (yp_extremeL u h g (i + 1)).1), (4, .long (yp_extremeL u h g (i + 1)).2), (0, .ref (G 0)), (1, .int h), (2, .int g)] := by rw [e9]; exact lv_sub hl [0, 2, 1, 4, 5, 6] rfl
          exact ih _ (by omega) (i + 1) _ _ _ rfl hi hP hD hS hl
        · refine lv_iload_n hx hb dY_extreme_47 rfl (lv_at hl 6 rfl) ?_
          refine lv_if_eq (tgt := 62) hx hb dY_extreme_48 rfl (fun c48 => ?_) (fun c48 => ?_)
          · refine lv_lload hx hb dY_extreme_62 (lv_at hl 0 rfl) ?_
            refine lv_lload hx hb dY_extreme_64 (lv_at hl 3 rfl) ?_
            refine W.lcmp hx hb dY_extreme_66 ?_
            refine lv_if_lt (tgt := 77) hx hb dY_extreme_67 rfl (fun c67 => ?_) (fun c67 => ?_)
            · refine lv_iinc (k := 1) (v := (nI (i + 1))) (lv' := [(6, .int (nI (i + 1))), (7, .long (yp_weight u h ((xky u) i))), (3, .int (yp_extremeL u h g i).1), (4, .long (yp_extremeL u h g i).2), (0, .ref (G 0)), (1, .int h), (2, .int g)]) hx hb dY_extreme_77 hl rfl (xinc _) (by decide) rfl (fun ls hl => ?_)
              refine lv_goto (tgt := 8) hx hb dY_extreme_80 rfl ?_
              have e9 : yp_extremeL u h g (i + 1) = ((yp_extremeL u h g i).1, (yp_extremeL u h g i).2) := by rw [yp_extremeL]; rw [if_pos c25, if_neg c44, if_pos c48, if_pos c67]
              have hl : lv_has ls 9 [(6, .int (nI (i + 1))), (3, .int (yp_extremeL u h g (i + 1)).1), (4, .long (yp_extremeL u h g (i + 1)).2), (0, .ref (G 0)), (1, .int h), (2, .int g)] := by rw [e9]; exact lv_sub hl [0, 2, 3, 4, 5, 6] rfl
              exact ih _ (by omega) (i + 1) _ _ _ rfl hi hP hD hS hl
            · refine lv_iload hx hb dY_extreme_70 (lv_at hl 1 rfl) ?_
              refine lv_istore_n (lv' := [(3, .int (nI i)), (7, .long (yp_weight u h ((xky u) i))), (6, .int (nI i)), (4, .long (yp_extremeL u h g i).2), (0, .ref (G 0)), (1, .int h), (2, .int g)]) hx hb dY_extreme_72 rfl hl (by decide) rfl (fun ls hl => ?_)
              refine lv_lload hx hb dY_extreme_73 (lv_at hl 1 rfl) ?_
              refine lv_lstore (lv' := [(4, .long (yp_weight u h ((xky u) i))), (3, .int (nI i)), (7, .long (yp_weight u h ((xky u) i))), (6, .int (nI i)), (0, .ref (G 0)), (1, .int h), (2, .int g)]) hx hb dY_extreme_75 hl (by decide) rfl (fun ls hl => ?_)
              refine lv_iinc (k := 3) (v := (nI (i + 1))) (lv' := [(6, .int (nI (i + 1))), (4, .long (yp_weight u h ((xky u) i))), (3, .int (nI i)), (7, .long (yp_weight u h ((xky u) i))), (0, .ref (G 0)), (1, .int h), (2, .int g)]) hx hb dY_extreme_77 hl rfl (xinc _) (by decide) rfl (fun ls hl => ?_)
              refine lv_goto (tgt := 8) hx hb dY_extreme_80 rfl ?_
              have e9 : yp_extremeL u h g (i + 1) = ((nI i), (yp_weight u h ((xky u) i))) := by rw [yp_extremeL]; rw [if_pos c25, if_neg c44, if_pos c48, if_neg c67]
              have hl : lv_has ls 9 [(6, .int (nI (i + 1))), (3, .int (yp_extremeL u h g (i + 1)).1), (4, .long (yp_extremeL u h g (i + 1)).2), (0, .ref (G 0)), (1, .int h), (2, .int g)] := by rw [e9]; exact lv_sub hl [0, 2, 1, 4, 5, 6] rfl
              exact ih _ (by omega) (i + 1) _ _ _ rfl hi hP hD hS hl
          · refine lv_lload hx hb dY_extreme_51 (lv_at hl 0 rfl) ?_
            refine lv_lload hx hb dY_extreme_53 (lv_at hl 3 rfl) ?_
            refine W.lcmp hx hb dY_extreme_55 ?_
            refine lv_if_ge (tgt := 77) hx hb dY_extreme_56 rfl (fun c56 => ?_) (fun c56 => ?_)
            · refine lv_iinc (k := 1) (v := (nI (i + 1))) (lv' := [(6, .int (nI (i + 1))), (7, .long (yp_weight u h ((xky u) i))), (3, .int (yp_extremeL u h g i).1), (4, .long (yp_extremeL u h g i).2), (0, .ref (G 0)), (1, .int h), (2, .int g)]) hx hb dY_extreme_77 hl rfl (xinc _) (by decide) rfl (fun ls hl => ?_)
              refine lv_goto (tgt := 8) hx hb dY_extreme_80 rfl ?_
              have e9 : yp_extremeL u h g (i + 1) = ((yp_extremeL u h g i).1, (yp_extremeL u h g i).2) := by rw [yp_extremeL]; rw [if_pos c25, if_neg c44, if_neg c48, if_pos c56]
              have hl : lv_has ls 9 [(6, .int (nI (i + 1))), (3, .int (yp_extremeL u h g (i + 1)).1), (4, .long (yp_extremeL u h g (i + 1)).2), (0, .ref (G 0)), (1, .int h), (2, .int g)] := by rw [e9]; exact lv_sub hl [0, 2, 3, 4, 5, 6] rfl
              exact ih _ (by omega) (i + 1) _ _ _ rfl hi hP hD hS hl
            · refine lv_goto (tgt := 70) hx hb dY_extreme_59 rfl ?_
              refine lv_iload hx hb dY_extreme_70 (lv_at hl 1 rfl) ?_
              refine lv_istore_n (lv' := [(3, .int (nI i)), (7, .long (yp_weight u h ((xky u) i))), (6, .int (nI i)), (4, .long (yp_extremeL u h g i).2), (0, .ref (G 0)), (1, .int h), (2, .int g)]) hx hb dY_extreme_72 rfl hl (by decide) rfl (fun ls hl => ?_)
              refine lv_lload hx hb dY_extreme_73 (lv_at hl 1 rfl) ?_
              refine lv_lstore (lv' := [(4, .long (yp_weight u h ((xky u) i))), (3, .int (nI i)), (7, .long (yp_weight u h ((xky u) i))), (6, .int (nI i)), (0, .ref (G 0)), (1, .int h), (2, .int g)]) hx hb dY_extreme_75 hl (by decide) rfl (fun ls hl => ?_)
              refine lv_iinc (k := 3) (v := (nI (i + 1))) (lv' := [(6, .int (nI (i + 1))), (4, .long (yp_weight u h ((xky u) i))), (3, .int (nI i)), (7, .long (yp_weight u h ((xky u) i))), (0, .ref (G 0)), (1, .int h), (2, .int g)]) hx hb dY_extreme_77 hl rfl (xinc _) (by decide) rfl (fun ls hl => ?_)
              refine lv_goto (tgt := 8) hx hb dY_extreme_80 rfl ?_
              have e9 : yp_extremeL u h g (i + 1) = ((nI i), (yp_weight u h ((xky u) i))) := by rw [yp_extremeL]; rw [if_pos c25, if_neg c44, if_neg c48, if_neg c56]
              have hl : lv_has ls 9 [(6, .int (nI (i + 1))), (3, .int (yp_extremeL u h g (i + 1)).1), (4, .long (yp_extremeL u h g (i + 1)).2), (0, .ref (G 0)), (1, .int h), (2, .int g)] := by rw [e9]; exact lv_sub hl [0, 2, 1, 4, 5, 6] rfl
              exact ih _ (by omega) (i + 1) _ _ _ rfl hi hP hD hS hl
def yp_extreme (u : xS) (h : Int32) (g : Int32) : Int32 :=
  (yp_extremeL u h g (xn u)).1
set_option maxHeartbeats 4000000 in
set_option maxRecDepth 100000 in
theorem yb_extreme {p : Program} {l : Launch} {e : Env} {s : State} {m : MethodId} {args : Array Value} {below : List Frame} {meth : Method} {c : Code} {Q : State → Prop} {A : Nat → Prop} {ls : Array Slot} {dC : Nat → ClassId} {dI : Nat → Nat → Nat} {G : Nat → Nat} {C : Nat → ClassId} {u : xS} {h : Int32} {g : Int32} (hn : xn u ≤ 160) (hh : vp_in h 12) (B : CallFix p m c cY_extreme 9 s args wsY_extreme RX1) (hK : va_K (dC, dI) vwCl (yT C) s) (hA : ∀ q : Nat, s.heap.size ≤ q → A q) (hP : va_P (dC, dI) vwCl (yW G C u) s.heap) (hD : va_D A (yW G C u)) (hl : lv_has ls 9 [(0, .ref (G 0)), (1, .int h), (2, .int g)]) (kk : (∀ (H : Heap) (locs : List Loc) (pc : Nat) (ls : Array Slot), decode cY_extreme pc = .ok (.ireturn, 1) → va_P (dC, dI) vwCl (yW G C u) H → va_D A (yW G C u) → va_S A s.heap H locs → W p l e (xR 1 24) s m args below meth c H locs 0 0 Q (F0 m pc ls [.int (yp_extreme u h g)]))) : W p l e (xR 1 24) s m args below meth c s.heap [] 0 0 Q (F0 m 0 ls []) := by
  obtain ⟨hx, hb, hml, hown, hts⟩ := B
  have hS : va_S A s.heap s.heap [] := va_S.rf
  refine lv_iconst (v := (-1)) hx hb dY_extreme_0 (by decide) ?_
  refine lv_istore_n (lv' := [(3, .int (-1)), (0, .ref (G 0)), (1, .int h), (2, .int g)]) hx hb dY_extreme_1 rfl hl (by decide) rfl (fun ls hl => ?_)
  refine lv_lconst (v := 0) hx hb dY_extreme_2 (by decide) ?_
  refine lv_lstore (lv' := [(4, .long 0), (3, .int (-1)), (0, .ref (G 0)), (1, .int h), (2, .int g)]) hx hb dY_extreme_3 hl (by decide) rfl (fun ls hl => ?_)
  refine lv_iconst (v := 0) hx hb dY_extreme_5 (by decide) ?_
  refine lv_istore (lv' := [(6, .int 0), (4, .long 0), (3, .int (-1)), (0, .ref (G 0)), (1, .int h), (2, .int g)]) hx hb dY_extreme_6 hl (by decide) rfl (fun ls hl => ?_)
  refine yl_extreme hn hh ⟨hx, hb, hml, hown, hts⟩ hK hA (fun H locs ls hP hD hS hl => ?_) _ 0 _ _ _ rfl (Nat.zero_le _) hP hD hS (lv_sub hl [0, 2, 1, 3, 4, 5] rfl)
  refine lv_iload_n hx hb dY_extreme_83 rfl (lv_at hl 0 rfl) ?_
  have e9 : yp_extreme u h g = (yp_extremeL u h g (xn u)).1 := rfl
  exact W.eq (congrArg (fun z => F0 m 84 ls [.int z]) e9.symm) (kk _ _ _ _ dY_extreme_84 hP hD hS)
theorem yc_extreme (l : Launch) (dC : Nat → ClassId) (dI : Nat → Nat → Nat) (G : Nat → Nat) (C : Nat → ClassId) (sz : Nat) (u : xS) (h : Int32) (g : Int32) (hn : xn u ≤ 160) (hh : vp_in h 12) : xMi l yY_extreme wsY_extreme (xR 1 24) dC dI (yT C) [.ref (G 0), .int h, .int g] (yW G C u) (yW G C u) (yp_extreme u h g) sz :=
  xmet_i (by decide) rfl rfl (Nat.le_of_ble_eq_true rfl) rfl (fun p e s m args below meth c Q A ls B hK hA hP hD hl kk => yb_extreme hn hh B hK hA hP hD hl kk)
theorem yex_vp {u : xS} {h g : Int32} (hn : xn u ≤ 160) (c : ¬ yp_extreme u h g < 0) : vp_in (yp_extreme u h g) 160 := by
  rcases yex_in u h g (xn u) with h1 | ⟨j, hj, h1⟩
  · refine absurd ?_ c
    show (yp_extremeL u h g (xn u)).1 < 0
    rw [h1]; decide
  · show vp_in (yp_extremeL u h g (xn u)).1 160
    rw [h1]; exact vp_in_nI (Nat.lt_of_lt_of_le hj hn) (by decide)
