def p_findFirstL (u : xS) (h : Int32) : Nat → Int32
  | 0 => -1
  | i + 1 =>
    (if ((xow u) i) = h then
      (if (p_findFirstL u h i) = (-1) then
        (nI i)
      else (if (p_isBefore u ((xod u) (h).toNatClampNeg) (nI i) (p_findFirstL u h i)) = 0 then
          (p_findFirstL u h i)
        else (nI i)))
    else (p_findFirstL u h i))
theorem findFirst_in (u : xS) (h : Int32) : ∀ i, p_findFirstL u h i = -1 ∨ ∃ j, j < i ∧ p_findFirstL u h i = nI j := by
  intro i
  induction i with
  | zero => exact Or.inl rfl
  | succ i ih =>
    rcases ih with h1 | ⟨j, hj, h1⟩
    · rw [p_findFirstL]
      (repeat' split) <;> first | exact Or.inr ⟨i, Nat.lt_succ_self i, rfl⟩ | exact Or.inl h1
    · rw [p_findFirstL]
      (repeat' split) <;> first | exact Or.inr ⟨i, Nat.lt_succ_self i, rfl⟩ | exact Or.inr ⟨j, Nat.lt_succ_of_lt hj, h1⟩
theorem findFirst_vp {u : xS} {h : Int32} {i : Nat} (hi : i ≤ 160) (c : ¬ p_findFirstL u h i = -1) : vp_in (p_findFirstL u h i) 160 := by
  rcases findFirst_in u h i with h1 | ⟨j, hj, h1⟩
  · exact absurd h1 c
  · rw [h1]; exact vp_in_nI (Nat.lt_of_lt_of_le hj hi) (by decide)
set_option maxHeartbeats 4000000 in
set_option maxRecDepth 100000 in
theorem lp_findFirst {p : Program} {l : Launch} {e : Env} {s : State} {m : MethodId} {args : Array Value} {below : List Frame} {meth : Method} {c : Code} {Q : State → Prop} {A : Nat → Prop} {dC : Nat → ClassId} {dI : Nat → Nat → Nat} {G : Nat → Nat} {C : Nat → ClassId} {u : xS} {h : Int32} (hn : xn u ≤ 160) (hh : vp_in h 12) (B : CallFix p m c cX0_findFirst 4 s args wsX0_findFirst RX0) (hK : va_K (dC, dI) vwCl (xT C) s) (hA : ∀ q : Nat, s.heap.size ≤ q → A q) (kk : ∀ (H : Heap) (locs : List Loc) (ls : Array Slot), va_P (dC, dI) vwCl (xW G C u) H → va_D A (xW G C u) → va_S A s.heap H locs → lv_has ls 4 [(2, .int (p_findFirstL u h (xn u))), (0, .ref (G 0)), (1, .int h)] → W p l e (xR 2 49) s m args below meth c H locs 0 0 Q (F0 m 50 ls [])) :
    ∀ (d i : Nat) (H : Heap) (locs : List Loc) (ls : Array Slot), xn u - i = d → i ≤ xn u → va_P (dC, dI) vwCl (xW G C u) H → va_D A (xW G C u) → va_S A s.heap H locs → lv_has ls 4 [(3, .int (nI i)), (2, .int (p_findFirstL u h i)), (0, .ref (G 0)), (1, .int h)] → W p l e (xR 2 49) s m args below meth c H locs 0 0 Q (F0 m 4 ls []) := by
  obtain ⟨hx, hb, hml, hown, hts⟩ := B
  have hfw : ∀ w ∈ u_ws RX0 TX0 9, w ∈ wsX0_findFirst := by decide +kernel
  intro d
  induction d using Nat.strongRecOn with
  | ind d ih =>
    intro i H locs ls hd hi0 hP hD hS hl
    refine lv_iload_n hx hb dX0_findFirst_4 rfl (lv_at hl 0 rfl) ?_
    refine lv_aload_n hx hb dX0_findFirst_5 rfl (lv_at hl 2 rfl) ?_
    refine va_get (D := (dC, dI)) (ci := 0) (v := .int (nI (xn u))) (C := RX0) (T := TX0) (N := 9) hx hb hts hfw hown hK hP 0 rfl rfl 8 (by decide) (hts (.fieldLink RX0 37 "MeldingHeaps" "entryCount" "I") (by decide +kernel)) (fun _ h9 => h9) rfl dX0_findFirst_6 ?_
    refine lv_icmp_ge (tgt := 50) hx hb dX0_findFirst_9 rfl (fun c9 => ?_) (fun c9 => ?_)
    · have hi2 : i = xn u := Nat.le_antisymm hi0 ((nI_leI (by omega) (by omega)).mp c9)
      rw [hi2] at hl
      exact kk _ _ _ hP hD hS (lv_sub hl [1, 2, 3] rfl)
    · have hi : i < xn u := Nat.not_le.mp (fun q => c9 (nI_le q (by omega)))
      refine lv_aload_n hx hb dX0_findFirst_12 rfl (lv_at hl 2 rfl) ?_
      refine va_get (D := (dC, dI)) (ci := 0) (v := .ref (G 7)) (C := RX0) (T := TX0) (N := 9) hx hb hts hfw hown hK hP 0 rfl rfl 7 (by decide) (hts (.fieldLink RX0 34 "MeldingHeaps" "owners" "[I") (by decide +kernel)) (fun _ h9 => h9) rfl dX0_findFirst_13 ?_
      refine lv_iload_n hx hb dX0_findFirst_16 rfl (lv_at hl 0 rfl) ?_
      refine va_iald (f := (xow u)) hx hb hK hP 7 6 rfl rfl (vp_in_nI (by omega) (by decide)) dX0_findFirst_17 ?_
      refine W.eq (congrArg (fun z => F0 m 18 ls (.int ((xow u) z) :: [])) (nI_clamp (show i < 2 ^ 31 by omega))) ?_
      refine lv_iload_n hx hb dX0_findFirst_18 rfl (lv_at hl 3 rfl) ?_
      refine lv_icmp_ne (tgt := 44) hx hb dX0_findFirst_19 rfl (fun c19 => ?_) (fun c19 => ?_)
      · refine lv_iinc (k := 0) (v := (nI (i + 1))) (lv' := [(3, .int (nI (i + 1))), (2, .int (p_findFirstL u h i)), (0, .ref (G 0)), (1, .int h)]) hx hb dX0_findFirst_44 hl rfl (xinc _) (by decide) rfl (fun ls hl => ?_)
        refine lv_goto (tgt := 4) hx hb dX0_findFirst_47 rfl ?_
        have e9 : p_findFirstL u h (i + 1) = (p_findFirstL u h i) := by rw [p_findFirstL]; rw [if_neg c19]
        have hl : lv_has ls 4 [(3, .int (nI (i + 1))), (2, .int (p_findFirstL u h (i + 1))), (0, .ref (G 0)), (1, .int h)] := by rw [e9]; exact lv_sub hl [0, 1, 2, 3] rfl
        exact ih _ (by omega) (i + 1) _ _ _ rfl hi hP hD hS hl
      · refine lv_iload_n hx hb dX0_findFirst_22 rfl (lv_at hl 1 rfl) ?_
        refine lv_iconst (v := (-1)) hx hb dX0_findFirst_23 (by decide) ?_
        refine lv_icmp_eq (tgt := 42) hx hb dX0_findFirst_24 rfl (fun c24 => ?_) (fun c24 => ?_)
        · refine lv_iload_n hx hb dX0_findFirst_42 rfl (lv_at hl 0 rfl) ?_
          refine lv_istore_n (lv' := [(2, .int (nI i)), (3, .int (nI i)), (0, .ref (G 0)), (1, .int h)]) hx hb dX0_findFirst_43 rfl hl (by decide) rfl (fun ls hl => ?_)
          refine lv_iinc (k := 1) (v := (nI (i + 1))) (lv' := [(3, .int (nI (i + 1))), (2, .int (nI i)), (0, .ref (G 0)), (1, .int h)]) hx hb dX0_findFirst_44 hl rfl (xinc _) (by decide) rfl (fun ls hl => ?_)
          refine lv_goto (tgt := 4) hx hb dX0_findFirst_47 rfl ?_
          have e9 : p_findFirstL u h (i + 1) = (nI i) := by rw [p_findFirstL]; rw [if_pos c19, if_pos c24]
          have hl : lv_has ls 4 [(3, .int (nI (i + 1))), (2, .int (p_findFirstL u h (i + 1))), (0, .ref (G 0)), (1, .int h)] := by rw [e9]; exact lv_sub hl [0, 1, 2, 3] rfl
          exact ih _ (by omega) (i + 1) _ _ _ rfl hi hP hD hS hl
        · refine lv_aload_n hx hb dX0_findFirst_27 rfl (lv_at hl 2 rfl) ?_
          refine lv_aload_n hx hb dX0_findFirst_28 rfl (lv_at hl 2 rfl) ?_
          refine va_get (D := (dC, dI)) (ci := 0) (v := .ref (G 2)) (C := RX0) (T := TX0) (N := 9) hx hb hts hfw hown hK hP 0 rfl rfl 1 (by decide) (hts (.fieldLink RX0 13 "MeldingHeaps" "orders" "[I") (by decide +kernel)) (fun _ h9 => h9) rfl dX0_findFirst_29 ?_
          refine lv_iload_n hx hb dX0_findFirst_32 rfl (lv_at hl 3 rfl) ?_
          refine va_iald (f := (xod u)) hx hb hK hP 2 1 rfl rfl (hh) dX0_findFirst_33 ?_
          refine lv_iload_n hx hb dX0_findFirst_34 rfl (lv_at hl 0 rfl) ?_
          refine lv_iload_n hx hb dX0_findFirst_35 rfl (lv_at hl 1 rfl) ?_
          refine xcall_i (ws := (xW G C u)) (wc := (xW G C u)) (wr := []) (w1 := (xW G C u)) (v := (p_isBefore u ((xod u) (h).toNatClampNeg) (nI i) (p_findFirstL u h i))) [0, 1, 2, 3, 4, 5, 6, 7] [] (va_runV (As := [.int ((xod u) (h).toNatClampNeg), .int (nI i), .int (p_findFirstL u h i)]) (rest := []) ⟨hx, hb, hml, hown, hts⟩ (c_isBefore l dC dI G C _ u ((xod u) (h).toNatClampNeg) (nI i) (p_findFirstL u h i) (vp_in_nI (by omega) (by decide)) (findFirst_vp (by omega) c24)) (cwV 3 hts gX0_findFirst_X0_isBefore rfl rfl rfl (by decide +kernel) ⟨Nat.le_of_ble_eq_true rfl, Nat.le_of_ble_eq_true rfl⟩) (xpreV (q0 := 0) (ci := 0) (qc := (RX0, TX0, 9)) hK hP hD rfl rfl) rfl rfl hl.1 rfl (lv_room (Nat.le_of_ble_eq_true rfl)) dX0_findFirst_36 ⟨Nat.zero_le _, Nat.zero_le _⟩) hP hD hS hA rfl rfl (by decide) (by decide) (fun H locs hP hD hS => ?_)
          have hP : va_P (dC, dI) vwCl (xW G C u) H := hP
          have hD : va_D A (xW G C u) := hD
          refine lv_if_eq (tgt := 44) hx hb dX0_findFirst_39 rfl (fun c39 => ?_) (fun c39 => ?_)
          · refine lv_iinc (k := 0) (v := (nI (i + 1))) (lv' := [(3, .int (nI (i + 1))), (2, .int (p_findFirstL u h i)), (0, .ref (G 0)), (1, .int h)]) hx hb dX0_findFirst_44 hl rfl (xinc _) (by decide) rfl (fun ls hl => ?_)
            refine lv_goto (tgt := 4) hx hb dX0_findFirst_47 rfl ?_
            have e9 : p_findFirstL u h (i + 1) = (p_findFirstL u h i) := by rw [p_findFirstL]; rw [if_pos c19, if_neg c24, if_pos c39]
            have hl : lv_has ls 4 [(3, .int (nI (i + 1))), (2, .int (p_findFirstL u h (i + 1))), (0, .ref (G 0)), (1, .int h)] := by rw [e9]; exact lv_sub hl [0, 1, 2, 3] rfl
            exact ih _ (by omega) (i + 1) _ _ _ rfl hi hP hD hS hl
          · refine lv_iload_n hx hb dX0_findFirst_42 rfl (lv_at hl 0 rfl) ?_
            refine lv_istore_n (lv' := [(2, .int (nI i)), (3, .int (nI i)), (0, .ref (G 0)), (1, .int h)]) hx hb dX0_findFirst_43 rfl hl (by decide) rfl (fun ls hl => ?_)
            refine lv_iinc (k := 1) (v := (nI (i + 1))) (lv' := [(3, .int (nI (i + 1))), (2, .int (nI i)), (0, .ref (G 0)), (1, .int h)]) hx hb dX0_findFirst_44 hl rfl (xinc _) (by decide) rfl (fun ls hl => ?_)
            refine lv_goto (tgt := 4) hx hb dX0_findFirst_47 rfl ?_
            have e9 : p_findFirstL u h (i + 1) = (nI i) := by rw [p_findFirstL]; rw [if_pos c19, if_neg c24, if_neg c39]
            have hl : lv_has ls 4 [(3, .int (nI (i + 1))), (2, .int (p_findFirstL u h (i + 1))), (0, .ref (G 0)), (1, .int h)] := by rw [e9]; exact lv_sub hl [0, 1, 2, 3] rfl
            exact ih _ (by omega) (i + 1) _ _ _ rfl hi hP hD hS hl
def p_findFirst (u : xS) (h : Int32) : Int32 :=
  (p_findFirstL u h (xn u))
set_option maxHeartbeats 4000000 in
set_option maxRecDepth 100000 in
theorem b_findFirst {p : Program} {l : Launch} {e : Env} {s : State} {m : MethodId} {args : Array Value} {below : List Frame} {meth : Method} {c : Code} {Q : State → Prop} {A : Nat → Prop} {ls : Array Slot} {dC : Nat → ClassId} {dI : Nat → Nat → Nat} {G : Nat → Nat} {C : Nat → ClassId} {u : xS} {h : Int32} (hn : xn u ≤ 160) (hh : vp_in h 12) (B : CallFix p m c cX0_findFirst 4 s args wsX0_findFirst RX0) (hK : va_K (dC, dI) vwCl (xT C) s) (hA : ∀ q : Nat, s.heap.size ≤ q → A q) (hP : va_P (dC, dI) vwCl (xW G C u) s.heap) (hD : va_D A (xW G C u)) (hl : lv_has ls 4 [(0, .ref (G 0)), (1, .int h)]) (kk : (∀ (H : Heap) (locs : List Loc) (pc : Nat) (ls : Array Slot), decode cX0_findFirst pc = .ok (.ireturn, 1) → va_P (dC, dI) vwCl (xW G C u) H → va_D A (xW G C u) → va_S A s.heap H locs → W p l e (xR 2 49) s m args below meth c H locs 0 0 Q (F0 m pc ls [.int (p_findFirst u h)]))) : W p l e (xR 2 49) s m args below meth c s.heap [] 0 0 Q (F0 m 0 ls []) := by
  obtain ⟨hx, hb, hml, hown, hts⟩ := B
  have hS : va_S A s.heap s.heap [] := va_S.rf
  refine lv_iconst (v := (-1)) hx hb dX0_findFirst_0 (by decide) ?_
  refine lv_istore_n (lv' := [(2, .int (-1)), (0, .ref (G 0)), (1, .int h)]) hx hb dX0_findFirst_1 rfl hl (by decide) rfl (fun ls hl => ?_)
  refine lv_iconst (v := 0) hx hb dX0_findFirst_2 (by decide) ?_
  refine lv_istore_n (lv' := [(3, .int 0), (2, .int (-1)), (0, .ref (G 0)), (1, .int h)]) hx hb dX0_findFirst_3 rfl hl (by decide) rfl (fun ls hl => ?_)
  refine lp_findFirst hn hh ⟨hx, hb, hml, hown, hts⟩ hK hA (fun H locs ls hP hD hS hl => ?_) _ 0 _ _ _ rfl (Nat.zero_le _) hP hD hS (lv_sub hl [0, 1, 2, 3] rfl)
  refine lv_iload_n hx hb dX0_findFirst_50 rfl (lv_at hl 0 rfl) ?_
  have e9 : p_findFirst u h = (p_findFirstL u h (xn u)) := rfl
  exact W.eq (congrArg (fun z => F0 m 51 ls [.int z]) e9.symm) (kk _ _ _ _ dX0_findFirst_51 hP hD hS)
theorem c_findFirst (l : Launch) (dC : Nat → ClassId) (dI : Nat → Nat → Nat) (G : Nat → Nat) (C : Nat → ClassId) (sz : Nat) (u : xS) (h : Int32) (hn : xn u ≤ 160) (hh : vp_in h 12) : xMi l yX0_findFirst wsX0_findFirst (xR 2 49) dC dI (xT C) [.ref (G 0), .int h] (xW G C u) (xW G C u) (p_findFirst u h) sz :=
  xmet_i (by decide) rfl rfl (Nat.le_of_ble_eq_true rfl) rfl (fun p e s m args below meth c Q A ls B hK hA hP hD hl kk => b_findFirst hn hh B hK hA hP hD hl kk)
def p_findLastL (u : xS) (h : Int32) : Nat → Int32
  | 0 => -1
  | i + 1 =>
    (if ((xow u) i) = h then
      (if (p_findLastL u h i) = (-1) then
        (nI i)
      else (if (p_isBefore u ((xod u) (h).toNatClampNeg) (p_findLastL u h i) (nI i)) = 0 then
          (p_findLastL u h i)
        else (nI i)))
    else (p_findLastL u h i))
theorem findLast_in (u : xS) (h : Int32) : ∀ i, p_findLastL u h i = -1 ∨ ∃ j, j < i ∧ p_findLastL u h i = nI j := by
  intro i
  induction i with
  | zero => exact Or.inl rfl
  | succ i ih =>
    rcases ih with h1 | ⟨j, hj, h1⟩
    · rw [p_findLastL]
      (repeat' split) <;> first | exact Or.inr ⟨i, Nat.lt_succ_self i, rfl⟩ | exact Or.inl h1
    · rw [p_findLastL]
      (repeat' split) <;> first | exact Or.inr ⟨i, Nat.lt_succ_self i, rfl⟩ | exact Or.inr ⟨j, Nat.lt_succ_of_lt hj, h1⟩
theorem findLast_vp {u : xS} {h : Int32} {i : Nat} (hi : i ≤ 160) (c : ¬ p_findLastL u h i = -1) : vp_in (p_findLastL u h i) 160 := by
  rcases findLast_in u h i with h1 | ⟨j, hj, h1⟩
  · exact absurd h1 c
  · rw [h1]; exact vp_in_nI (Nat.lt_of_lt_of_le hj hi) (by decide)
set_option maxHeartbeats 4000000 in
set_option maxRecDepth 100000 in
theorem lp_findLast {p : Program} {l : Launch} {e : Env} {s : State} {m : MethodId} {args : Array Value} {below : List Frame} {meth : Method} {c : Code} {Q : State → Prop} {A : Nat → Prop} {dC : Nat → ClassId} {dI : Nat → Nat → Nat} {G : Nat → Nat} {C : Nat → ClassId} {u : xS} {h : Int32} (hn : xn u ≤ 160) (hh : vp_in h 12) (B : CallFix p m c cX0_findLast 4 s args wsX0_findLast RX0) (hK : va_K (dC, dI) vwCl (xT C) s) (hA : ∀ q : Nat, s.heap.size ≤ q → A q) (kk : ∀ (H : Heap) (locs : List Loc) (ls : Array Slot), va_P (dC, dI) vwCl (xW G C u) H → va_D A (xW G C u) → va_S A s.heap H locs → lv_has ls 4 [(2, .int (p_findLastL u h (xn u))), (0, .ref (G 0)), (1, .int h)] → W p l e (xR 2 49) s m args below meth c H locs 0 0 Q (F0 m 50 ls [])) :
    ∀ (d i : Nat) (H : Heap) (locs : List Loc) (ls : Array Slot), xn u - i = d → i ≤ xn u → va_P (dC, dI) vwCl (xW G C u) H → va_D A (xW G C u) → va_S A s.heap H locs → lv_has ls 4 [(3, .int (nI i)), (2, .int (p_findLastL u h i)), (0, .ref (G 0)), (1, .int h)] → W p l e (xR 2 49) s m args below meth c H locs 0 0 Q (F0 m 4 ls []) := by
  obtain ⟨hx, hb, hml, hown, hts⟩ := B
  have hfw : ∀ w ∈ u_ws RX0 TX0 9, w ∈ wsX0_findLast := by decide +kernel
  intro d
  induction d using Nat.strongRecOn with
  | ind d ih =>
    intro i H locs ls hd hi0 hP hD hS hl
    refine lv_iload_n hx hb dX0_findLast_4 rfl (lv_at hl 0 rfl) ?_
    refine lv_aload_n hx hb dX0_findLast_5 rfl (lv_at hl 2 rfl) ?_
    refine va_get (D := (dC, dI)) (ci := 0) (v := .int (nI (xn u))) (C := RX0) (T := TX0) (N := 9) hx hb hts hfw hown hK hP 0 rfl rfl 8 (by decide) (hts (.fieldLink RX0 37 "MeldingHeaps" "entryCount" "I") (by decide +kernel)) (fun _ h9 => h9) rfl dX0_findLast_6 ?_
    refine lv_icmp_ge (tgt := 50) hx hb dX0_findLast_9 rfl (fun c9 => ?_) (fun c9 => ?_)
    · have hi2 : i = xn u := Nat.le_antisymm hi0 ((nI_leI (by omega) (by omega)).mp c9)
      rw [hi2] at hl
      exact kk _ _ _ hP hD hS (lv_sub hl [1, 2, 3] rfl)
    · have hi : i < xn u := Nat.not_le.mp (fun q => c9 (nI_le q (by omega)))
      refine lv_aload_n hx hb dX0_findLast_12 rfl (lv_at hl 2 rfl) ?_
      refine va_get (D := (dC, dI)) (ci := 0) (v := .ref (G 7)) (C := RX0) (T := TX0) (N := 9) hx hb hts hfw hown hK hP 0 rfl rfl 7 (by decide) (hts (.fieldLink RX0 34 "MeldingHeaps" "owners" "[I") (by decide +kernel)) (fun _ h9 => h9) rfl dX0_findLast_13 ?_
      refine lv_iload_n hx hb dX0_findLast_16 rfl (lv_at hl 0 rfl) ?_
      refine va_iald (f := (xow u)) hx hb hK hP 7 6 rfl rfl (vp_in_nI (by omega) (by decide)) dX0_findLast_17 ?_
      refine W.eq (congrArg (fun z => F0 m 18 ls (.int ((xow u) z) :: [])) (nI_clamp (show i < 2 ^ 31 by omega))) ?_
      refine lv_iload_n hx hb dX0_findLast_18 rfl (lv_at hl 3 rfl) ?_
      refine lv_icmp_ne (tgt := 44) hx hb dX0_findLast_19 rfl (fun c19 => ?_) (fun c19 => ?_)
      · refine lv_iinc (k := 0) (v := (nI (i + 1))) (lv' := [(3, .int (nI (i + 1))), (2, .int (p_findLastL u h i)), (0, .ref (G 0)), (1, .int h)]) hx hb dX0_findLast_44 hl rfl (xinc _) (by decide) rfl (fun ls hl => ?_)
        refine lv_goto (tgt := 4) hx hb dX0_findLast_47 rfl ?_
        have e9 : p_findLastL u h (i + 1) = (p_findLastL u h i) := by rw [p_findLastL]; rw [if_neg c19]
        have hl : lv_has ls 4 [(3, .int (nI (i + 1))), (2, .int (p_findLastL u h (i + 1))), (0, .ref (G 0)), (1, .int h)] := by rw [e9]; exact lv_sub hl [0, 1, 2, 3] rfl
        exact ih _ (by omega) (i + 1) _ _ _ rfl hi hP hD hS hl
      · refine lv_iload_n hx hb dX0_findLast_22 rfl (lv_at hl 1 rfl) ?_
        refine lv_iconst (v := (-1)) hx hb dX0_findLast_23 (by decide) ?_
        refine lv_icmp_eq (tgt := 42) hx hb dX0_findLast_24 rfl (fun c24 => ?_) (fun c24 => ?_)
        · refine lv_iload_n hx hb dX0_findLast_42 rfl (lv_at hl 0 rfl) ?_
          refine lv_istore_n (lv' := [(2, .int (nI i)), (3, .int (nI i)), (0, .ref (G 0)), (1, .int h)]) hx hb dX0_findLast_43 rfl hl (by decide) rfl (fun ls hl => ?_)
          refine lv_iinc (k := 1) (v := (nI (i + 1))) (lv' := [(3, .int (nI (i + 1))), (2, .int (nI i)), (0, .ref (G 0)), (1, .int h)]) hx hb dX0_findLast_44 hl rfl (xinc _) (by decide) rfl (fun ls hl => ?_)
          refine lv_goto (tgt := 4) hx hb dX0_findLast_47 rfl ?_
          have e9 : p_findLastL u h (i + 1) = (nI i) := by rw [p_findLastL]; rw [if_pos c19, if_pos c24]
          have hl : lv_has ls 4 [(3, .int (nI (i + 1))), (2, .int (p_findLastL u h (i + 1))), (0, .ref (G 0)), (1, .int h)] := by rw [e9]; exact lv_sub hl [0, 1, 2, 3] rfl
          exact ih _ (by omega) (i + 1) _ _ _ rfl hi hP hD hS hl
        · refine lv_aload_n hx hb dX0_findLast_27 rfl (lv_at hl 2 rfl) ?_
          refine lv_aload_n hx hb dX0_findLast_28 rfl (lv_at hl 2 rfl) ?_
          refine va_get (D := (dC, dI)) (ci := 0) (v := .ref (G 2)) (C := RX0) (T := TX0) (N := 9) hx hb hts hfw hown hK hP 0 rfl rfl 1 (by decide) (hts (.fieldLink RX0 13 "MeldingHeaps" "orders" "[I") (by decide +kernel)) (fun _ h9 => h9) rfl dX0_findLast_29 ?_
          refine lv_iload_n hx hb dX0_findLast_32 rfl (lv_at hl 3 rfl) ?_
          refine va_iald (f := (xod u)) hx hb hK hP 2 1 rfl rfl (hh) dX0_findLast_33 ?_
          refine lv_iload_n hx hb dX0_findLast_34 rfl (lv_at hl 1 rfl) ?_
          refine lv_iload_n hx hb dX0_findLast_35 rfl (lv_at hl 0 rfl) ?_
          refine xcall_i (ws := (xW G C u)) (wc := (xW G C u)) (wr := []) (w1 := (xW G C u)) (v := (p_isBefore u ((xod u) (h).toNatClampNeg) (p_findLastL u h i) (nI i))) [0, 1, 2, 3, 4, 5, 6, 7] [] (va_runV (As := [.int ((xod u) (h).toNatClampNeg), .int (p_findLastL u h i), .int (nI i)]) (rest := []) ⟨hx, hb, hml, hown, hts⟩ (c_isBefore l dC dI G C _ u ((xod u) (h).toNatClampNeg) (p_findLastL u h i) (nI i) (findLast_vp (by omega) c24) (vp_in_nI (by omega) (by decide))) (cwV 3 hts gX0_findLast_X0_isBefore rfl rfl rfl (by decide +kernel) ⟨Nat.le_of_ble_eq_true rfl, Nat.le_of_ble_eq_true rfl⟩) (xpreV (q0 := 0) (ci := 0) (qc := (RX0, TX0, 9)) hK hP hD rfl rfl) rfl rfl hl.1 rfl (lv_room (Nat.le_of_ble_eq_true rfl)) dX0_findLast_36 ⟨Nat.zero_le _, Nat.zero_le _⟩) hP hD hS hA rfl rfl (by decide) (by decide) (fun H locs hP hD hS => ?_)
          have hP : va_P (dC, dI) vwCl (xW G C u) H := hP
          have hD : va_D A (xW G C u) := hD
          refine lv_if_eq (tgt := 44) hx hb dX0_findLast_39 rfl (fun c39 => ?_) (fun c39 => ?_)
          · refine lv_iinc (k := 0) (v := (nI (i + 1))) (lv' := [(3, .int (nI (i + 1))), (2, .int (p_findLastL u h i)), (0, .ref (G 0)), (1, .int h)]) hx hb dX0_findLast_44 hl rfl (xinc _) (by decide) rfl (fun ls hl => ?_)
            refine lv_goto (tgt := 4) hx hb dX0_findLast_47 rfl ?_
            have e9 : p_findLastL u h (i + 1) = (p_findLastL u h i) := by rw [p_findLastL]; rw [if_pos c19, if_neg c24, if_pos c39]
            have hl : lv_has ls 4 [(3, .int (nI (i + 1))), (2, .int (p_findLastL u h (i + 1))), (0, .ref (G 0)), (1, .int h)] := by rw [e9]; exact lv_sub hl [0, 1, 2, 3] rfl
            exact ih _ (by omega) (i + 1) _ _ _ rfl hi hP hD hS hl
          · refine lv_iload_n hx hb dX0_findLast_42 rfl (lv_at hl 0 rfl) ?_
            refine lv_istore_n (lv' := [(2, .int (nI i)), (3, .int (nI i)), (0, .ref (G 0)), (1, .int h)]) hx hb dX0_findLast_43 rfl hl (by decide) rfl (fun ls hl => ?_)
            refine lv_iinc (k := 1) (v := (nI (i + 1))) (lv' := [(3, .int (nI (i + 1))), (2, .int (nI i)), (0, .ref (G 0)), (1, .int h)]) hx hb dX0_findLast_44 hl rfl (xinc _) (by decide) rfl (fun ls hl => ?_)
            refine lv_goto (tgt := 4) hx hb dX0_findLast_47 rfl ?_
            have e9 : p_findLastL u h (i + 1) = (nI i) := by rw [p_findLastL]; rw [if_pos c19, if_neg c24, if_neg c39]
            have hl : lv_has ls 4 [(3, .int (nI (i + 1))), (2, .int (p_findLastL u h (i + 1))), (0, .ref (G 0)), (1, .int h)] := by rw [e9]; exact lv_sub hl [0, 1, 2, 3] rfl
            exact ih _ (by omega) (i + 1) _ _ _ rfl hi hP hD hS hl
def p_findLast (u : xS) (h : Int32) : Int32 :=
  (p_findLastL u h (xn u))
set_option maxHeartbeats 4000000 in
set_option maxRecDepth 100000 in
theorem b_findLast {p : Program} {l : Launch} {e : Env} {s : State} {m : MethodId} {args : Array Value} {below : List Frame} {meth : Method} {c : Code} {Q : State → Prop} {A : Nat → Prop} {ls : Array Slot} {dC : Nat → ClassId} {dI : Nat → Nat → Nat} {G : Nat → Nat} {C : Nat → ClassId} {u : xS} {h : Int32} (hn : xn u ≤ 160) (hh : vp_in h 12) (B : CallFix p m c cX0_findLast 4 s args wsX0_findLast RX0) (hK : va_K (dC, dI) vwCl (xT C) s) (hA : ∀ q : Nat, s.heap.size ≤ q → A q) (hP : va_P (dC, dI) vwCl (xW G C u) s.heap) (hD : va_D A (xW G C u)) (hl : lv_has ls 4 [(0, .ref (G 0)), (1, .int h)]) (kk : (∀ (H : Heap) (locs : List Loc) (pc : Nat) (ls : Array Slot), decode cX0_findLast pc = .ok (.ireturn, 1) → va_P (dC, dI) vwCl (xW G C u) H → va_D A (xW G C u) → va_S A s.heap H locs → W p l e (xR 2 49) s m args below meth c H locs 0 0 Q (F0 m pc ls [.int (p_findLast u h)]))) : W p l e (xR 2 49) s m args below meth c s.heap [] 0 0 Q (F0 m 0 ls []) := by
  obtain ⟨hx, hb, hml, hown, hts⟩ := B
  have hS : va_S A s.heap s.heap [] := va_S.rf
  refine lv_iconst (v := (-1)) hx hb dX0_findLast_0 (by decide) ?_
  refine lv_istore_n (lv' := [(2, .int (-1)), (0, .ref (G 0)), (1, .int h)]) hx hb dX0_findLast_1 rfl hl (by decide) rfl (fun ls hl => ?_)
  refine lv_iconst (v := 0) hx hb dX0_findLast_2 (by decide) ?_
  refine lv_istore_n (lv' := [(3, .int 0), (2, .int (-1)), (0, .ref (G 0)), (1, .int h)]) hx hb dX0_findLast_3 rfl hl (by decide) rfl (fun ls hl => ?_)
  refine lp_findLast hn hh ⟨hx, hb, hml, hown, hts⟩ hK hA (fun H locs ls hP hD hS hl => ?_) _ 0 _ _ _ rfl (Nat.zero_le _) hP hD hS (lv_sub hl [0, 1, 2, 3] rfl)
  refine lv_iload_n hx hb dX0_findLast_50 rfl (lv_at hl 0 rfl) ?_
  have e9 : p_findLast u h = (p_findLastL u h (xn u)) := rfl
  exact W.eq (congrArg (fun z => F0 m 51 ls [.int z]) e9.symm) (kk _ _ _ _ dX0_findLast_51 hP hD hS)
theorem c_findLast (l : Launch) (dC : Nat → ClassId) (dI : Nat → Nat → Nat) (G : Nat → Nat) (C : Nat → ClassId) (sz : Nat) (u : xS) (h : Int32) (hn : xn u ≤ 160) (hh : vp_in h 12) : xMi l yX0_findLast wsX0_findLast (xR 2 49) dC dI (xT C) [.ref (G 0), .int h] (xW G C u) (xW G C u) (p_findLast u h) sz :=
  xmet_i (by decide) rfl rfl (Nat.le_of_ble_eq_true rfl) rfl (fun p e s m args below meth c Q A ls B hK hA hP hD hl kk => b_findLast hn hh B hK hA hP hD hl kk)
def p_countEntriesL (u : xS) (h : Int32) : Nat → Nat
  | 0 => 0
  | i + 1 =>
    (if ((xow u) i) = h then
      ((p_countEntriesL u h i) + 1)
    else (p_countEntriesL u h i))
set_option maxHeartbeats 4000000 in
set_option maxRecDepth 100000 in
theorem lp_countEntries {p : Program} {l : Launch} {e : Env} {s : State} {m : MethodId} {args : Array Value} {below : List Frame} {meth : Method} {c : Code} {Q : State → Prop} {A : Nat → Prop} {dC : Nat → ClassId} {dI : Nat → Nat → Nat} {G : Nat → Nat} {C : Nat → ClassId} {u : xS} {h : Int32} (hn : xn u ≤ 160) (B : CallFix p m c cX0_countEntries 4 s args wsX0_countEntries RX0) (hK : va_K (dC, dI) vwCl (xT C) s) (hA : ∀ q : Nat, s.heap.size ≤ q → A q) (kk : ∀ (H : Heap) (locs : List Loc) (ls : Array Slot), va_P (dC, dI) vwCl (xW G C u) H → va_D A (xW G C u) → va_S A s.heap H locs → lv_has ls 4 [(2, .int (nI (p_countEntriesL u h (xn u)))), (0, .ref (G 0)), (1, .int h)] → W p l e (xR 0 0) s m args below meth c H locs 0 0 Q (F0 m 31 ls [])) :
    ∀ (d i : Nat) (H : Heap) (locs : List Loc) (ls : Array Slot), xn u - i = d → i ≤ xn u → va_P (dC, dI) vwCl (xW G C u) H → va_D A (xW G C u) → va_S A s.heap H locs → lv_has ls 4 [(3, .int (nI i)), (2, .int (nI (p_countEntriesL u h i))), (0, .ref (G 0)), (1, .int h)] → W p l e (xR 0 0) s m args below meth c H locs 0 0 Q (F0 m 4 ls []) := by
  obtain ⟨hx, hb, hml, hown, hts⟩ := B
  have hfw : ∀ w ∈ u_ws RX0 TX0 9, w ∈ wsX0_countEntries := by decide +kernel
  intro d
  induction d using Nat.strongRecOn with
  | ind d ih =>
    intro i H locs ls hd hi0 hP hD hS hl
    refine lv_iload_n hx hb dX0_countEntries_4 rfl (lv_at hl 0 rfl) ?_
    refine lv_aload_n hx hb dX0_countEntries_5 rfl (lv_at hl 2 rfl) ?_
    refine va_get (D := (dC, dI)) (ci := 0) (v := .int (nI (xn u))) (C := RX0) (T := TX0) (N := 9) hx hb hts hfw hown hK hP 0 rfl rfl 8 (by decide) (hts (.fieldLink RX0 37 "MeldingHeaps" "entryCount" "I") (by decide +kernel)) (fun _ h9 => h9) rfl dX0_countEntries_6 ?_
    refine lv_icmp_ge (tgt := 31) hx hb dX0_countEntries_9 rfl (fun c9 => ?_) (fun c9 => ?_)
    · have hi2 : i = xn u := Nat.le_antisymm hi0 ((nI_leI (by omega) (by omega)).mp c9)
      rw [hi2] at hl
      exact kk _ _ _ hP hD hS (lv_sub hl [1, 2, 3] rfl)
    · have hi : i < xn u := Nat.not_le.mp (fun q => c9 (nI_le q (by omega)))
      refine lv_aload_n hx hb dX0_countEntries_12 rfl (lv_at hl 2 rfl) ?_
      refine va_get (D := (dC, dI)) (ci := 0) (v := .ref (G 7)) (C := RX0) (T := TX0) (N := 9) hx hb hts hfw hown hK hP 0 rfl rfl 7 (by decide) (hts (.fieldLink RX0 34 "MeldingHeaps" "owners" "[I") (by decide +kernel)) (fun _ h9 => h9) rfl dX0_countEntries_13 ?_
      refine lv_iload_n hx hb dX0_countEntries_16 rfl (lv_at hl 0 rfl) ?_
      refine va_iald (f := (xow u)) hx hb hK hP 7 6 rfl rfl (vp_in_nI (by omega) (by decide)) dX0_countEntries_17 ?_
      refine W.eq (congrArg (fun z => F0 m 18 ls (.int ((xow u) z) :: [])) (nI_clamp (show i < 2 ^ 31 by omega))) ?_
      refine lv_iload_n hx hb dX0_countEntries_18 rfl (lv_at hl 3 rfl) ?_
      refine lv_icmp_ne (tgt := 25) hx hb dX0_countEntries_19 rfl (fun c19 => ?_) (fun c19 => ?_)
      · refine lv_iinc (k := 0) (v := (nI (i + 1))) (lv' := [(3, .int (nI (i + 1))), (2, .int (nI (p_countEntriesL u h i))), (0, .ref (G 0)), (1, .int h)]) hx hb dX0_countEntries_25 hl rfl (xinc _) (by decide) rfl (fun ls hl => ?_)
        refine lv_goto (tgt := 4) hx hb dX0_countEntries_28 rfl ?_
        have e9 : p_countEntriesL u h (i + 1) = (p_countEntriesL u h i) := by rw [p_countEntriesL]; rw [if_neg c19]
        have hl : lv_has ls 4 [(3, .int (nI (i + 1))), (2, .int (nI (p_countEntriesL u h (i + 1)))), (0, .ref (G 0)), (1, .int h)] := by rw [e9]; exact lv_sub hl [0, 1, 2, 3] rfl
        exact ih _ (by omega) (i + 1) _ _ _ rfl hi hP hD hS hl
      · refine lv_iinc (k := 1) (v := (nI ((p_countEntriesL u h i) + 1))) (lv' := [(2, .int (nI ((p_countEntriesL u h i) + 1))), (3, .int (nI i)), (0, .ref (G 0)), (1, .int h)]) hx hb dX0_countEntries_22 hl rfl (xinc _) (by decide) rfl (fun ls hl => ?_)
        refine lv_iinc (k := 1) (v := (nI (i + 1))) (lv' := [(3, .int (nI (i + 1))), (2, .int (nI ((p_countEntriesL u h i) + 1))), (0, .ref (G 0)), (1, .int h)]) hx hb dX0_countEntries_25 hl rfl (xinc _) (by decide) rfl (fun ls hl => ?_)
        refine lv_goto (tgt := 4) hx hb dX0_countEntries_28 rfl ?_
        have e9 : p_countEntriesL u h (i + 1) = ((p_countEntriesL u h i) + 1) := by rw [p_countEntriesL]; rw [if_pos c19]
        have hl : lv_has ls 4 [(3, .int (nI (i + 1))), (2, .int (nI (p_countEntriesL u h (i + 1)))), (0, .ref (G 0)), (1, .int h)] := by rw [e9]; exact lv_sub hl [0, 1, 2, 3] rfl
        exact ih _ (by omega) (i + 1) _ _ _ rfl hi hP hD hS hl
def p_countEntries (u : xS) (h : Int32) : Int32 :=
  (nI (p_countEntriesL u h (xn u)))
set_option maxHeartbeats 4000000 in
set_option maxRecDepth 100000 in
theorem b_countEntries {p : Program} {l : Launch} {e : Env} {s : State} {m : MethodId} {args : Array Value} {below : List Frame} {meth : Method} {c : Code} {Q : State → Prop} {A : Nat → Prop} {ls : Array Slot} {dC : Nat → ClassId} {dI : Nat → Nat → Nat} {G : Nat → Nat} {C : Nat → ClassId} {u : xS} {h : Int32} (hn : xn u ≤ 160) (B : CallFix p m c cX0_countEntries 4 s args wsX0_countEntries RX0) (hK : va_K (dC, dI) vwCl (xT C) s) (hA : ∀ q : Nat, s.heap.size ≤ q → A q) (hP : va_P (dC, dI) vwCl (xW G C u) s.heap) (hD : va_D A (xW G C u)) (hl : lv_has ls 4 [(0, .ref (G 0)), (1, .int h)]) (kk : (∀ (H : Heap) (locs : List Loc) (pc : Nat) (ls : Array Slot), decode cX0_countEntries pc = .ok (.ireturn, 1) → va_P (dC, dI) vwCl (xW G C u) H → va_D A (xW G C u) → va_S A s.heap H locs → W p l e (xR 0 0) s m args below meth c H locs 0 0 Q (F0 m pc ls [.int (p_countEntries u h)]))) : W p l e (xR 0 0) s m args below meth c s.heap [] 0 0 Q (F0 m 0 ls []) := by
  obtain ⟨hx, hb, hml, hown, hts⟩ := B
  have hS : va_S A s.heap s.heap [] := va_S.rf
  refine lv_iconst (v := 0) hx hb dX0_countEntries_0 (by decide) ?_
  refine lv_istore_n (lv' := [(2, .int 0), (0, .ref (G 0)), (1, .int h)]) hx hb dX0_countEntries_1 rfl hl (by decide) rfl (fun ls hl => ?_)
  refine lv_iconst (v := 0) hx hb dX0_countEntries_2 (by decide) ?_
  refine lv_istore_n (lv' := [(3, .int 0), (2, .int 0), (0, .ref (G 0)), (1, .int h)]) hx hb dX0_countEntries_3 rfl hl (by decide) rfl (fun ls hl => ?_)
  refine lp_countEntries hn ⟨hx, hb, hml, hown, hts⟩ hK hA (fun H locs ls hP hD hS hl => ?_) _ 0 _ _ _ rfl (Nat.zero_le _) hP hD hS (lv_sub hl [0, 1, 2, 3] rfl)
  refine lv_iload_n hx hb dX0_countEntries_31 rfl (lv_at hl 0 rfl) ?_
  have e9 : p_countEntries u h = (nI (p_countEntriesL u h (xn u))) := rfl
  exact W.eq (congrArg (fun z => F0 m 32 ls [.int z]) e9.symm) (kk _ _ _ _ dX0_countEntries_32 hP hD hS)
theorem c_countEntries (l : Launch) (dC : Nat → ClassId) (dI : Nat → Nat → Nat) (G : Nat → Nat) (C : Nat → ClassId) (sz : Nat) (u : xS) (h : Int32) (hn : xn u ≤ 160) : xMi l yX0_countEntries wsX0_countEntries (xR 0 0) dC dI (xT C) [.ref (G 0), .int h] (xW G C u) (xW G C u) (p_countEntries u h) sz :=
  xmet_i (by decide) rfl rfl (Nat.le_of_ble_eq_true rfl) rfl (fun p e s m args below meth c Q A ls B hK hA hP hD hl kk => b_countEntries hn B hK hA hP hD hl kk)
def p_countBeforeL (u : xS) (h a : Int32) : Nat → Nat
  | 0 => 0
  | i + 1 =>
    (if ((xow u) i) = h then
      (if (p_isBefore u ((xod u) (h).toNatClampNeg) (nI i) a) = 0 then
        (p_countBeforeL u h a i)
      else ((p_countBeforeL u h a i) + 1))
    else (p_countBeforeL u h a i))
set_option maxHeartbeats 4000000 in
set_option maxRecDepth 100000 in
theorem lp_countBefore {p : Program} {l : Launch} {e : Env} {s : State} {m : MethodId} {args : Array Value} {below : List Frame} {meth : Method} {c : Code} {Q : State → Prop} {A : Nat → Prop} {dC : Nat → ClassId} {dI : Nat → Nat → Nat} {G : Nat → Nat} {C : Nat → ClassId} {u : xS} {h : Int32} {a : Int32} (hn : xn u ≤ 160) (hh : vp_in h 12) (ha2 : vp_in a 160) (B : CallFix p m c cX0_countBefore 5 s args wsX0_countBefore RX0) (hK : va_K (dC, dI) vwCl (xT C) s) (hA : ∀ q : Nat, s.heap.size ≤ q → A q) (kk : ∀ (H : Heap) (locs : List Loc) (ls : Array Slot), va_P (dC, dI) vwCl (xW G C u) H → va_D A (xW G C u) → va_S A s.heap H locs → lv_has ls 5 [(3, .int (nI (p_countBeforeL u h a (xn u)))), (0, .ref (G 0)), (1, .int h), (2, .int a)] → W p l e (xR 2 49) s m args below meth c H locs 0 0 Q (F0 m 50 ls [])) :
    ∀ (d i : Nat) (H : Heap) (locs : List Loc) (ls : Array Slot), xn u - i = d → i ≤ xn u → va_P (dC, dI) vwCl (xW G C u) H → va_D A (xW G C u) → va_S A s.heap H locs → lv_has ls 5 [(4, .int (nI i)), (3, .int (nI (p_countBeforeL u h a i))), (0, .ref (G 0)), (1, .int h), (2, .int a)] → W p l e (xR 2 49) s m args below meth c H locs 0 0 Q (F0 m 5 ls []) := by
  obtain ⟨hx, hb, hml, hown, hts⟩ := B
  have hfw : ∀ w ∈ u_ws RX0 TX0 9, w ∈ wsX0_countBefore := by decide +kernel
  intro d
  induction d using Nat.strongRecOn with
  | ind d ih =>
    intro i H locs ls hd hi0 hP hD hS hl
    refine lv_iload hx hb dX0_countBefore_5 (lv_at hl 0 rfl) ?_
    refine lv_aload_n hx hb dX0_countBefore_7 rfl (lv_at hl 2 rfl) ?_
    refine va_get (D := (dC, dI)) (ci := 0) (v := .int (nI (xn u))) (C := RX0) (T := TX0) (N := 9) hx hb hts hfw hown hK hP 0 rfl rfl 8 (by decide) (hts (.fieldLink RX0 37 "MeldingHeaps" "entryCount" "I") (by decide +kernel)) (fun _ h9 => h9) rfl dX0_countBefore_8 ?_
    refine lv_icmp_ge (tgt := 50) hx hb dX0_countBefore_11 rfl (fun c11 => ?_) (fun c11 => ?_)
    · have hi2 : i = xn u := Nat.le_antisymm hi0 ((nI_leI (by omega) (by omega)).mp c11)
      rw [hi2] at hl
      exact kk _ _ _ hP hD hS (lv_sub hl [1, 2, 3, 4] rfl)
    · have hi : i < xn u := Nat.not_le.mp (fun q => c11 (nI_le q (by omega)))
      refine lv_aload_n hx hb dX0_countBefore_14 rfl (lv_at hl 2 rfl) ?_
      refine va_get (D := (dC, dI)) (ci := 0) (v := .ref (G 7)) (C := RX0) (T := TX0) (N := 9) hx hb hts hfw hown hK hP 0 rfl rfl 7 (by decide) (hts (.fieldLink RX0 34 "MeldingHeaps" "owners" "[I") (by decide +kernel)) (fun _ h9 => h9) rfl dX0_countBefore_15 ?_
      refine lv_iload hx hb dX0_countBefore_18 (lv_at hl 0 rfl) ?_
      refine va_iald (f := (xow u)) hx hb hK hP 7 6 rfl rfl (vp_in_nI (by omega) (by decide)) dX0_countBefore_20 ?_
      refine W.eq (congrArg (fun z => F0 m 21 ls (.int ((xow u) z) :: [])) (nI_clamp (show i < 2 ^ 31 by omega))) ?_
      refine lv_iload_n hx hb dX0_countBefore_21 rfl (lv_at hl 3 rfl) ?_
      refine lv_icmp_ne (tgt := 44) hx hb dX0_countBefore_22 rfl (fun c22 => ?_) (fun c22 => ?_)
      · refine lv_iinc (k := 0) (v := (nI (i + 1))) (lv' := [(4, .int (nI (i + 1))), (3, .int (nI (p_countBeforeL u h a i))), (0, .ref (G 0)), (1, .int h), (2, .int a)]) hx hb dX0_countBefore_44 hl rfl (xinc _) (by decide) rfl (fun ls hl => ?_)
        refine lv_goto (tgt := 5) hx hb dX0_countBefore_47 rfl ?_
        have e9 : p_countBeforeL u h a (i + 1) = (p_countBeforeL u h a i) := by rw [p_countBeforeL]; rw [if_neg c22]
        have hl : lv_has ls 5 [(4, .int (nI (i + 1))), (3, .int (nI (p_countBeforeL u h a (i + 1)))), (0, .ref (G 0)), (1, .int h), (2, .int a)] := by rw [e9]; exact lv_sub hl [0, 1, 2, 3, 4] rfl
        exact ih _ (by omega) (i + 1) _ _ _ rfl hi hP hD hS hl
      · refine lv_aload_n hx hb dX0_countBefore_25 rfl (lv_at hl 2 rfl) ?_
        refine lv_aload_n hx hb dX0_countBefore_26 rfl (lv_at hl 2 rfl) ?_
        refine va_get (D := (dC, dI)) (ci := 0) (v := .ref (G 2)) (C := RX0) (T := TX0) (N := 9) hx hb hts hfw hown hK hP 0 rfl rfl 1 (by decide) (hts (.fieldLink RX0 13 "MeldingHeaps" "orders" "[I") (by decide +kernel)) (fun _ h9 => h9) rfl dX0_countBefore_27 ?_
        refine lv_iload_n hx hb dX0_countBefore_30 rfl (lv_at hl 3 rfl) ?_
        refine va_iald (f := (xod u)) hx hb hK hP 2 1 rfl rfl (hh) dX0_countBefore_31 ?_
        refine lv_iload hx hb dX0_countBefore_32 (lv_at hl 0 rfl) ?_
        refine lv_iload_n hx hb dX0_countBefore_34 rfl (lv_at hl 4 rfl) ?_
        refine xcall_i (ws := (xW G C u)) (wc := (xW G C u)) (wr := []) (w1 := (xW G C u)) (v := (p_isBefore u ((xod u) (h).toNatClampNeg) (nI i) a)) [0, 1, 2, 3, 4, 5, 6, 7] [] (va_runV (As := [.int ((xod u) (h).toNatClampNeg), .int (nI i), .int a]) (rest := []) ⟨hx, hb, hml, hown, hts⟩ (c_isBefore l dC dI G C _ u ((xod u) (h).toNatClampNeg) (nI i) a (vp_in_nI (by omega) (by decide)) ha2) (cwV 3 hts gX0_countBefore_X0_isBefore rfl rfl rfl (by decide +kernel) ⟨Nat.le_of_ble_eq_true rfl, Nat.le_of_ble_eq_true rfl⟩) (xpreV (q0 := 0) (ci := 0) (qc := (RX0, TX0, 9)) hK hP hD rfl rfl) rfl rfl hl.1 rfl (lv_room (Nat.le_of_ble_eq_true rfl)) dX0_countBefore_35 ⟨Nat.zero_le _, Nat.zero_le _⟩) hP hD hS hA rfl rfl (by decide) (by decide) (fun H locs hP hD hS => ?_)
        have hP : va_P (dC, dI) vwCl (xW G C u) H := hP
        have hD : va_D A (xW G C u) := hD
        refine lv_if_eq (tgt := 44) hx hb dX0_countBefore_38 rfl (fun c38 => ?_) (fun c38 => ?_)
        · refine lv_iinc (k := 0) (v := (nI (i + 1))) (lv' := [(4, .int (nI (i + 1))), (3, .int (nI (p_countBeforeL u h a i))), (0, .ref (G 0)), (1, .int h), (2, .int a)]) hx hb dX0_countBefore_44 hl rfl (xinc _) (by decide) rfl (fun ls hl => ?_)
          refine lv_goto (tgt := 5) hx hb dX0_countBefore_47 rfl ?_
          have e9 : p_countBeforeL u h a (i + 1) = (p_countBeforeL u h a i) := by rw [p_countBeforeL]; rw [if_pos c22, if_pos c38]
          have hl : lv_has ls 5 [(4, .int (nI (i + 1))), (3, .int (nI (p_countBeforeL u h a (i + 1)))), (0, .ref (G 0)), (1, .int h), (2, .int a)] := by rw [e9]; exact lv_sub hl [0, 1, 2, 3, 4] rfl
          exact ih _ (by omega) (i + 1) _ _ _ rfl hi hP hD hS hl
        · refine lv_iinc (k := 1) (v := (nI ((p_countBeforeL u h a i) + 1))) (lv' := [(3, .int (nI ((p_countBeforeL u h a i) + 1))), (4, .int (nI i)), (0, .ref (G 0)), (1, .int h), (2, .int a)]) hx hb dX0_countBefore_41 hl rfl (xinc _) (by decide) rfl (fun ls hl => ?_)
          refine lv_iinc (k := 1) (v := (nI (i + 1))) (lv' := [(4, .int (nI (i + 1))), (3, .int (nI ((p_countBeforeL u h a i) + 1))), (0, .ref (G 0)), (1, .int h), (2, .int a)]) hx hb dX0_countBefore_44 hl rfl (xinc _) (by decide) rfl (fun ls hl => ?_)
          refine lv_goto (tgt := 5) hx hb dX0_countBefore_47 rfl ?_
          have e9 : p_countBeforeL u h a (i + 1) = ((p_countBeforeL u h a i) + 1) := by rw [p_countBeforeL]; rw [if_pos c22, if_neg c38]
          have hl : lv_has ls 5 [(4, .int (nI (i + 1))), (3, .int (nI (p_countBeforeL u h a (i + 1)))), (0, .ref (G 0)), (1, .int h), (2, .int a)] := by rw [e9]; exact lv_sub hl [0, 1, 2, 3, 4] rfl
          exact ih _ (by omega) (i + 1) _ _ _ rfl hi hP hD hS hl
def p_countBefore (u : xS) (h : Int32) (a : Int32) : Int32 :=
  (nI (p_countBeforeL u h a (xn u)))
set_option maxHeartbeats 4000000 in
set_option maxRecDepth 100000 in
theorem b_countBefore {p : Program} {l : Launch} {e : Env} {s : State} {m : MethodId} {args : Array Value} {below : List Frame} {meth : Method} {c : Code} {Q : State → Prop} {A : Nat → Prop} {ls : Array Slot} {dC : Nat → ClassId} {dI : Nat → Nat → Nat} {G : Nat → Nat} {C : Nat → ClassId} {u : xS} {h : Int32} {a : Int32} (hn : xn u ≤ 160) (hh : vp_in h 12) (ha2 : vp_in a 160) (B : CallFix p m c cX0_countBefore 5 s args wsX0_countBefore RX0) (hK : va_K (dC, dI) vwCl (xT C) s) (hA : ∀ q : Nat, s.heap.size ≤ q → A q) (hP : va_P (dC, dI) vwCl (xW G C u) s.heap) (hD : va_D A (xW G C u)) (hl : lv_has ls 5 [(0, .ref (G 0)), (1, .int h), (2, .int a)]) (kk : (∀ (H : Heap) (locs : List Loc) (pc : Nat) (ls : Array Slot), decode cX0_countBefore pc = .ok (.ireturn, 1) → va_P (dC, dI) vwCl (xW G C u) H → va_D A (xW G C u) → va_S A s.heap H locs → W p l e (xR 2 49) s m args below meth c H locs 0 0 Q (F0 m pc ls [.int (p_countBefore u h a)]))) : W p l e (xR 2 49) s m args below meth c s.heap [] 0 0 Q (F0 m 0 ls []) := by
  obtain ⟨hx, hb, hml, hown, hts⟩ := B
  have hS : va_S A s.heap s.heap [] := va_S.rf
  refine lv_iconst (v := 0) hx hb dX0_countBefore_0 (by decide) ?_
  refine lv_istore_n (lv' := [(3, .int 0), (0, .ref (G 0)), (1, .int h), (2, .int a)]) hx hb dX0_countBefore_1 rfl hl (by decide) rfl (fun ls hl => ?_)
  refine lv_iconst (v := 0) hx hb dX0_countBefore_2 (by decide) ?_
  refine lv_istore (lv' := [(4, .int 0), (3, .int 0), (0, .ref (G 0)), (1, .int h), (2, .int a)]) hx hb dX0_countBefore_3 hl (by decide) rfl (fun ls hl => ?_)
  refine lp_countBefore hn hh ha2 ⟨hx, hb, hml, hown, hts⟩ hK hA (fun H locs ls hP hD hS hl => ?_) _ 0 _ _ _ rfl (Nat.zero_le _) hP hD hS (lv_sub hl [0, 1, 2, 3, 4] rfl)
  refine lv_iload_n hx hb dX0_countBefore_50 rfl (lv_at hl 0 rfl) ?_
  have e9 : p_countBefore u h a = (nI (p_countBeforeL u h a (xn u))) := rfl
  exact W.eq (congrArg (fun z => F0 m 51 ls [.int z]) e9.symm) (kk _ _ _ _ dX0_countBefore_51 hP hD hS)
theorem c_countBefore (l : Launch) (dC : Nat → ClassId) (dI : Nat → Nat → Nat) (G : Nat → Nat) (C : Nat → ClassId) (sz : Nat) (u : xS) (h : Int32) (a : Int32) (hn : xn u ≤ 160) (hh : vp_in h 12) (ha2 : vp_in a 160) : xMi l yX0_countBefore wsX0_countBefore (xR 2 49) dC dI (xT C) [.ref (G 0), .int h, .int a] (xW G C u) (xW G C u) (p_countBefore u h a) sz :=
  xmet_i (by decide) rfl rfl (Nat.le_of_ble_eq_true rfl) rfl (fun p e s m args below meth c Q A ls B hK hA hP hD hl kk => b_countBefore hn hh ha2 B hK hA hP hD hl kk)
def q_handOverAllL (u : xS) (h b : Int32) : Nat → Nat → Int32
  | 0 => xow u
  | i + 1 =>
    (if ((q_handOverAllL u h b i) i) = h then
      (upd (q_handOverAllL u h b i) i b)
    else (q_handOverAllL u h b i))
def p_handOverAllL (u : xS) (h b : Int32) : Nat → Nat
  | 0 => 0
  | i + 1 =>
    (if ((q_handOverAllL u h b i) i) = h then
      ((p_handOverAllL u h b i) + 1)
    else (p_handOverAllL u h b i))
set_option maxHeartbeats 4000000 in
set_option maxRecDepth 100000 in
theorem lp_handOverAll {p : Program} {l : Launch} {e : Env} {s : State} {m : MethodId} {args : Array Value} {below : List Frame} {meth : Method} {c : Code} {Q : State → Prop} {A : Nat → Prop} {dC : Nat → ClassId} {dI : Nat → Nat → Nat} {G : Nat → Nat} {C : Nat → ClassId} {u : xS} {h : Int32} {b : Int32} (hn : xn u ≤ 160) (B : CallFix p m c cX0_handOverAll 5 s args wsX0_handOverAll RX0) (hK : va_K (dC, dI) vwCl (xT C) s) (hA : ∀ q : Nat, s.heap.size ≤ q → A q) (kk : ∀ (H : Heap) (locs : List Loc) (ls : Array Slot), va_P (dC, dI) vwCl (xW G C (sOw u (q_handOverAllL u h b (xn u)))) H → va_D A (xW G C (sOw u (q_handOverAllL u h b (xn u)))) → va_S A s.heap H locs → lv_has ls 5 [(3, .int (nI (p_handOverAllL u h b (xn u)))), (0, .ref (G 0)), (1, .int h), (2, .int b)] → W p l e (xR 0 0) s m args below meth c H locs 0 0 Q (F0 m 42 ls [])) :
    ∀ (d i : Nat) (H : Heap) (locs : List Loc) (ls : Array Slot), xn u - i = d → i ≤ xn u → va_P (dC, dI) vwCl (xW G C (sOw u (q_handOverAllL u h b i))) H → va_D A (xW G C (sOw u (q_handOverAllL u h b i))) → va_S A s.heap H locs → lv_has ls 5 [(4, .int (nI i)), (3, .int (nI (p_handOverAllL u h b i))), (0, .ref (G 0)), (1, .int h), (2, .int b)] → W p l e (xR 0 0) s m args below meth c H locs 0 0 Q (F0 m 5 ls []) := by
  obtain ⟨hx, hb, hml, hown, hts⟩ := B
  have hfw : ∀ w ∈ u_ws RX0 TX0 9, w ∈ wsX0_handOverAll := by decide +kernel
  intro d
  induction d using Nat.strongRecOn with
  | ind d ih =>
    intro i H locs ls hd hi0 hP hD hS hl
    refine lv_iload hx hb dX0_handOverAll_5 (lv_at hl 0 rfl) ?_
    refine lv_aload_n hx hb dX0_handOverAll_7 rfl (lv_at hl 2 rfl) ?_
    refine va_get (D := (dC, dI)) (ci := 0) (v := .int (nI (xn u))) (C := RX0) (T := TX0) (N := 9) hx hb hts hfw hown hK hP 0 rfl rfl 8 (by decide) (hts (.fieldLink RX0 37 "MeldingHeaps" "entryCount" "I") (by decide +kernel)) (fun _ h9 => h9) rfl dX0_handOverAll_8 ?_
    refine lv_icmp_ge (tgt := 42) hx hb dX0_handOverAll_11 rfl (fun c11 => ?_) (fun c11 => ?_)
    · have hi2 : i = xn u := Nat.le_antisymm hi0 ((nI_leI (by omega) (by omega)).mp c11)
      rw [hi2] at hl hP hD
      exact kk _ _ _ hP hD hS (lv_sub hl [1, 2, 3, 4] rfl)
    · have hi : i < xn u := Nat.not_le.mp (fun q => c11 (nI_le q (by omega)))
      refine lv_aload_n hx hb dX0_handOverAll_14 rfl (lv_at hl 2 rfl) ?_
      refine va_get (D := (dC, dI)) (ci := 0) (v := .ref (G 7)) (C := RX0) (T := TX0) (N := 9) hx hb hts hfw hown hK hP 0 rfl rfl 7 (by decide) (hts (.fieldLink RX0 34 "MeldingHeaps" "owners" "[I") (by decide +kernel)) (fun _ h9 => h9) rfl dX0_handOverAll_15 ?_
      refine lv_iload hx hb dX0_handOverAll_18 (lv_at hl 0 rfl) ?_
      refine va_iald (f := (q_handOverAllL u h b i)) hx hb hK hP 7 6 rfl rfl (vp_in_nI (by omega) (by decide)) dX0_handOverAll_20 ?_
      refine W.eq (congrArg (fun z => F0 m 21 ls (.int ((q_handOverAllL u h b i) z) :: [])) (nI_clamp (show i < 2 ^ 31 by omega))) ?_
      refine lv_iload_n hx hb dX0_handOverAll_21 rfl (lv_at hl 3 rfl) ?_
      refine lv_icmp_ne (tgt := 36) hx hb dX0_handOverAll_22 rfl (fun c22 => ?_) (fun c22 => ?_)
      · refine lv_iinc (k := 0) (v := (nI (i + 1))) (lv' := [(4, .int (nI (i + 1))), (3, .int (nI (p_handOverAllL u h b i))), (0, .ref (G 0)), (1, .int h), (2, .int b)]) hx hb dX0_handOverAll_36 hl rfl (xinc _) (by decide) rfl (fun ls hl => ?_)
        refine lv_goto (tgt := 5) hx hb dX0_handOverAll_39 rfl ?_
        have e9 : p_handOverAllL u h b (i + 1) = (p_handOverAllL u h b i) := by rw [p_handOverAllL]; rw [if_neg c22]
        have hl : lv_has ls 5 [(4, .int (nI (i + 1))), (3, .int (nI (p_handOverAllL u h b (i + 1)))), (0, .ref (G 0)), (1, .int h), (2, .int b)] := by rw [e9]; exact lv_sub hl [0, 1, 2, 3, 4] rfl
        have e8 : q_handOverAllL u h b (i + 1) = (q_handOverAllL u h b i) := by rw [q_handOverAllL]; rw [if_neg c22]
        have hP : va_P (dC, dI) vwCl (xW G C (sOw u (q_handOverAllL u h b (i + 1)))) H := by rw [e8]; exact hP
        have hD : va_D A (xW G C (sOw u (q_handOverAllL u h b (i + 1)))) := by rw [e8]; exact hD
        exact ih _ (by omega) (i + 1) _ _ _ rfl hi hP hD hS hl
      · refine lv_aload_n hx hb dX0_handOverAll_25 rfl (lv_at hl 2 rfl) ?_
        refine va_get (D := (dC, dI)) (ci := 0) (v := .ref (G 7)) (C := RX0) (T := TX0) (N := 9) hx hb hts hfw hown hK hP 0 rfl rfl 7 (by decide) (hts (.fieldLink RX0 34 "MeldingHeaps" "owners" "[I") (by decide +kernel)) (fun _ h9 => h9) rfl dX0_handOverAll_26 ?_
        refine lv_iload hx hb dX0_handOverAll_29 (lv_at hl 0 rfl) ?_
        refine lv_iload_n hx hb dX0_handOverAll_31 rfl (lv_at hl 4 rfl) ?_
        refine va_iast (f := (q_handOverAllL u h b i)) hx hb hK hP hD hS 7 6 rfl rfl (vp_in_nI (by omega) (by decide)) dX0_handOverAll_32 (fun H locs hP hD hS => ?_)
        rw [nI_clamp (show i < 2 ^ 31 by omega)] at hP hD
        have hP : va_P (dC, dI) vwCl (xW G C (sOw (sOw u (q_handOverAllL u h b i)) (upd (q_handOverAllL u h b i) i b))) H := hP
        have hD : va_D A (xW G C (sOw (sOw u (q_handOverAllL u h b i)) (upd (q_handOverAllL u h b i) i b))) := hD
        refine lv_iinc (k := 1) (v := (nI ((p_handOverAllL u h b i) + 1))) (lv' := [(3, .int (nI ((p_handOverAllL u h b i) + 1))), (4, .int (nI i)), (0, .ref (G 0)), (1, .int h), (2, .int b)]) hx hb dX0_handOverAll_33 hl rfl (xinc _) (by decide) rfl (fun ls hl => ?_)
        refine lv_iinc (k := 1) (v := (nI (i + 1))) (lv' := [(4, .int (nI (i + 1))), (3, .int (nI ((p_handOverAllL u h b i) + 1))), (0, .ref (G 0)), (1, .int h), (2, .int b)]) hx hb dX0_handOverAll_36 hl rfl (xinc _) (by decide) rfl (fun ls hl => ?_)
        refine lv_goto (tgt := 5) hx hb dX0_handOverAll_39 rfl ?_
        have e9 : p_handOverAllL u h b (i + 1) = ((p_handOverAllL u h b i) + 1) := by rw [p_handOverAllL]; rw [if_pos c22]
        have hl : lv_has ls 5 [(4, .int (nI (i + 1))), (3, .int (nI (p_handOverAllL u h b (i + 1)))), (0, .ref (G 0)), (1, .int h), (2, .int b)] := by rw [e9]; exact lv_sub hl [0, 1, 2, 3, 4] rfl
        have e8 : q_handOverAllL u h b (i + 1) = (upd (q_handOverAllL u h b i) i b) := by rw [q_handOverAllL]; rw [if_pos c22]
        have hP : va_P (dC, dI) vwCl (xW G C (sOw u (q_handOverAllL u h b (i + 1)))) H := by rw [e8]; exact hP
        have hD : va_D A (xW G C (sOw u (q_handOverAllL u h b (i + 1)))) := by rw [e8]; exact hD
        exact ih _ (by omega) (i + 1) _ _ _ rfl hi hP hD hS hl
def p_handOverAll (u : xS) (h : Int32) (b : Int32) : Int32 :=
  (nI (p_handOverAllL u h b (xn u)))
def q_handOverAll (u : xS) (h : Int32) (b : Int32) : xS :=
  (sOw u (q_handOverAllL u h b (xn u)))
set_option maxHeartbeats 4000000 in
set_option maxRecDepth 100000 in
theorem b_handOverAll {p : Program} {l : Launch} {e : Env} {s : State} {m : MethodId} {args : Array Value} {below : List Frame} {meth : Method} {c : Code} {Q : State → Prop} {A : Nat → Prop} {ls : Array Slot} {dC : Nat → ClassId} {dI : Nat → Nat → Nat} {G : Nat → Nat} {C : Nat → ClassId} {u : xS} {h : Int32} {b : Int32} (hn : xn u ≤ 160) (B : CallFix p m c cX0_handOverAll 5 s args wsX0_handOverAll RX0) (hK : va_K (dC, dI) vwCl (xT C) s) (hA : ∀ q : Nat, s.heap.size ≤ q → A q) (hP : va_P (dC, dI) vwCl (xW G C u) s.heap) (hD : va_D A (xW G C u)) (hl : lv_has ls 5 [(0, .ref (G 0)), (1, .int h), (2, .int b)]) (kk : (∀ (H : Heap) (locs : List Loc) (pc : Nat) (ls : Array Slot), decode cX0_handOverAll pc = .ok (.ireturn, 1) → va_P (dC, dI) vwCl (xW G C (q_handOverAll u h b)) H → va_D A (xW G C (q_handOverAll u h b)) → va_S A s.heap H locs → W p l e (xR 0 0) s m args below meth c H locs 0 0 Q (F0 m pc ls [.int (p_handOverAll u h b)]))) : W p l e (xR 0 0) s m args below meth c s.heap [] 0 0 Q (F0 m 0 ls []) := by
  obtain ⟨hx, hb, hml, hown, hts⟩ := B
  have hS : va_S A s.heap s.heap [] := va_S.rf
  refine lv_iconst (v := 0) hx hb dX0_handOverAll_0 (by decide) ?_
  refine lv_istore_n (lv' := [(3, .int 0), (0, .ref (G 0)), (1, .int h), (2, .int b)]) hx hb dX0_handOverAll_1 rfl hl (by decide) rfl (fun ls hl => ?_)
  refine lv_iconst (v := 0) hx hb dX0_handOverAll_2 (by decide) ?_
  refine lv_istore (lv' := [(4, .int 0), (3, .int 0), (0, .ref (G 0)), (1, .int h), (2, .int b)]) hx hb dX0_handOverAll_3 hl (by decide) rfl (fun ls hl => ?_)
  refine lp_handOverAll hn ⟨hx, hb, hml, hown, hts⟩ hK hA (fun H locs ls hP hD hS hl => ?_) _ 0 _ _ _ rfl (Nat.zero_le _) hP hD hS (lv_sub hl [0, 1, 2, 3, 4] rfl)
  refine lv_iload_n hx hb dX0_handOverAll_42 rfl (lv_at hl 0 rfl) ?_
  have e8 : q_handOverAll u h b = (sOw u (q_handOverAllL u h b (xn u))) := rfl
  have e9 : p_handOverAll u h b = (nI (p_handOverAllL u h b (xn u))) := rfl
  exact W.eq (congrArg (fun z => F0 m 43 ls [.int z]) e9.symm) (kk _ _ _ _ dX0_handOverAll_43 (by rw [e8]; exact hP) (by rw [e8]; exact hD) hS)
theorem c_handOverAll (l : Launch) (dC : Nat → ClassId) (dI : Nat → Nat → Nat) (G : Nat → Nat) (C : Nat → ClassId) (sz : Nat) (u : xS) (h : Int32) (b : Int32) (hn : xn u ≤ 160) : xMi l yX0_handOverAll wsX0_handOverAll (xR 0 0) dC dI (xT C) [.ref (G 0), .int h, .int b] (xW G C u) (xW G C (q_handOverAll u h b)) (p_handOverAll u h b) sz :=
  xmet_i (by decide) rfl rfl (Nat.le_of_ble_eq_true rfl) rfl (fun p e s m args below meth c Q A ls B hK hA hP hD hl kk => b_handOverAll hn B hK hA hP hD hl kk)
