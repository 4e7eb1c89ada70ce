theorem xn_raise (u : xS) (h : Int32) (k : Int64) : xn (q_raiseFloor u h k) = xn u := by
  unfold q_raiseFloor
  split <;> rfl
theorem cl_le {x : Int32} {n : Nat} (h : x ≤ nI n) (hn : n < 2 ^ 31) : x.toNatClampNeg ≤ n := by
  rw [Int32.le_iff_toInt_le, nI_toInt hn] at h
  rw [← Int32.toNat_toInt]
  omega
theorem cl_lt {x : Int32} {n : Nat} (h : ¬ x ≤ nI n) (hn : n < 2 ^ 31) : n < x.toNatClampNeg := by
  rw [Int32.le_iff_toInt_le, nI_toInt hn] at h
  rw [← Int32.toNat_toInt]
  omega
theorem cl_b (x : Int32) : x.toNatClampNeg < 2 ^ 31 := by
  have h := Int32.toInt_lt x
  rw [← Int32.toNat_toInt]
  omega
theorem ff_in {u : xS} {h : Int32} (hn : xn u ≤ 160) (c : ¬ p_findFirst u h < 0) : vp_in (p_findFirst u h) 160 := by
  refine findFirst_vp hn (fun q => c ?_)
  show p_findFirstL u h (xn u) < 0
  rw [q]; decide
def q_drainL (a b : Int32) : Nat → xS → xS × Nat
  | 0, u => (u, 0)
  | d + 1, u =>
    if (p_findFirst u a) < 0 then (u, 0)
    else if (p_isBelowFloor u b (xky u (p_findFirst u a).toNatClampNeg)) = 0 then ((q_drainL a b d (sOw (q_raiseFloor u a ((xky u) ((p_findFirst u a)).toNatClampNeg)) (upd (xow (q_raiseFloor u a ((xky u) ((p_findFirst u a)).toNatClampNeg))) ((p_findFirst u a)).toNatClampNeg b))).1, (q_drainL a b d (sOw (q_raiseFloor u a ((xky u) ((p_findFirst u a)).toNatClampNeg)) (upd (xow (q_raiseFloor u a ((xky u) ((p_findFirst u a)).toNatClampNeg))) ((p_findFirst u a)).toNatClampNeg b))).2 + 1)
    else (u, 0)
set_option maxHeartbeats 4000000 in
set_option maxRecDepth 100000 in
theorem lp_drain {p : Program} {l : Launch} {e : Env} {s : State} {m : MethodId} {args : Array Value} {below : List Frame} {meth : Method} {c : Code} {Q : State → Prop} {A : Nat → Prop} {dC : Nat → ClassId} {dI : Nat → Nat → Nat} {G : Nat → Nat} {C : Nat → ClassId} {uT : xS} {rT : Nat} {a b g mo : Int32} (ha2 : vp_in a 12) (hb2 : vp_in b 12) (B : CallFix p m c cX0_drain 8 s args wsX0_drain RX0) (hK : va_K (dC, dI) vwCl (xT C) s) (hA : ∀ q : Nat, s.heap.size ≤ q → A q) (kk : ∀ (H : Heap) (locs : List Loc) (ls : Array Slot), va_P (dC, dI) vwCl (xW G C uT) H → va_D A (xW G C uT) → va_S A s.heap H locs → lv_has ls 8 [(6, .int (nI rT)), (0, .ref (G 0)), (1, .int a), (2, .int b), (3, .int g)] → W p l e (xR 3 72) s m args below meth c H locs 0 0 Q (F0 m 93 ls [])) :
    ∀ (d i : Nat) (u : xS) (H : Heap) (locs : List Loc) (ls : Array Slot), mo.toNatClampNeg - i = d → i ≤ mo.toNatClampNeg → xn u ≤ 160 → (q_drainL a b d u).1 = uT → i + (q_drainL a b d u).2 = rT → va_P (dC, dI) vwCl (xW G C u) H → va_D A (xW G C u) → va_S A s.heap H locs → lv_has ls 8 [(6, .int (nI i)), (5, .int mo), (0, .ref (G 0)), (1, .int a), (2, .int b), (3, .int g)] → W p l e (xR 3 72) s m args below meth c H locs 0 0 Q (F0 m 30 ls []) := by
  obtain ⟨hx, hb, hml, hown, hts⟩ := B
  have hfw : ∀ w ∈ u_ws RX0 TX0 9, w ∈ wsX0_drain := by decide +kernel
  have hmo := cl_b mo
  intro d
  induction d using Nat.strongRecOn with
  | ind d ih =>
    intro i u H locs ls hd hi0 hn hq hr hP hD hS hl
    refine lv_iload hx hb dX0_drain_30 (lv_at hl 0 rfl) ?_
    refine lv_iload hx hb dX0_drain_32 (lv_at hl 1 rfl) ?_
    refine lv_icmp_ge (tgt := 93) hx hb dX0_drain_34 rfl (fun c34 => ?_) (fun c34 => ?_)
    · have hz : d = 0 := by have := cl_le c34 (by omega); omega
      subst hz
      rw [q_drainL] at hq hr
      have hP : va_P (dC, dI) vwCl (xW G C uT) H := by rw [← hq]; exact hP
      have hD : va_D A (xW G C uT) := by rw [← hq]; exact hD
      have hl : lv_has ls 8 [(6, .int (nI rT)), (0, .ref (G 0)), (1, .int a), (2, .int b), (3, .int g)] := by rw [← hr]; exact lv_sub hl [0, 2, 3, 4, 5] rfl
      exact kk _ _ _ hP hD hS hl
    · have hi : i < mo.toNatClampNeg := cl_lt c34 (by omega)
      refine lv_aload_n hx hb dX0_drain_37 rfl (lv_at hl 2 rfl) ?_
      refine lv_iload_n hx hb dX0_drain_38 rfl (lv_at hl 3 rfl) ?_
      refine xcall_i (ws := (xW G C u)) (wc := (xW G C u)) (wr := []) (w1 := (xW G C u)) (v := (p_findFirst u a)) [0, 1, 2, 3, 4, 5, 6, 7] [] (va_runV (As := [.int a]) (rest := []) ⟨hx, hb, hml, hown, hts⟩ (c_findFirst l dC dI G C _ u a hn ha2) (cwV 1 hts gX0_drain_X0_findFirst rfl rfl rfl (by decide +kernel) ⟨Nat.le_of_ble_eq_true rfl, Nat.le_of_ble_eq_true rfl⟩) (xpreV (q0 := 0) (ci := 0) (qc := (RX0, TX0, 9)) hK hP hD rfl rfl) rfl rfl hl.1 rfl (lv_room (Nat.le_of_ble_eq_true rfl)) dX0_drain_39 ⟨Nat.zero_le _, Nat.zero_le _⟩) hP hD hS hA rfl rfl (by decide) (by decide) (fun H locs hP hD hS => ?_)
      have hP : va_P (dC, dI) vwCl (xW G C u) H := hP
      have hD : va_D A (xW G C u) := hD
      refine lv_istore (lv' := [(7, .int (p_findFirst u a)), (6, .int (nI i)), (5, .int mo), (0, .ref (G 0)), (1, .int a), (2, .int b), (3, .int g)]) hx hb dX0_drain_42 hl (by decide) rfl (fun ls hl => ?_)
      refine lv_iload hx hb dX0_drain_44 (lv_at hl 0 rfl) ?_
      refine lv_if_lt (tgt := 93) hx hb dX0_drain_46 rfl (fun c46 => ?_) (fun c46 => ?_)
      · obtain ⟨d, rfl⟩ : ∃ d2, d = d2 + 1 := ⟨d - 1, by omega⟩
        rw [q_drainL, if_pos c46] at hq hr
        have hP : va_P (dC, dI) vwCl (xW G C uT) H := by rw [← hq]; exact hP
        have hD : va_D A (xW G C uT) := by rw [← hq]; exact hD
        have hl : lv_has ls 8 [(6, .int (nI rT)), (0, .ref (G 0)), (1, .int a), (2, .int b), (3, .int g)] := by rw [← hr]; exact lv_sub hl [1, 3, 4, 5, 6] rfl
        exact kk _ _ _ hP hD hS hl
      · refine lv_aload_n hx hb dX0_drain_49 rfl (lv_at hl 3 rfl) ?_
        refine lv_iload_n hx hb dX0_drain_50 rfl (lv_at hl 5 rfl) ?_
        refine lv_aload_n hx hb dX0_drain_51 rfl (lv_at hl 3 rfl) ?_
        refine va_get (D := (dC, dI)) (ci := 0) (v := .ref (G 5)) (C := RX0) (T := TX0) (N := 9) hx hb hts hfw hown hK hP 0 rfl rfl 5 (by decide) (hts (.fieldLink RX0 28 "MeldingHeaps" "keys" "[J") (by decide +kernel)) (fun _ h9 => h9) rfl dX0_drain_52 ?_
        refine lv_iload hx hb dX0_drain_55 (lv_at hl 0 rfl) ?_
        refine va_lald (f := (xky u)) hx hb hK hP 5 4 rfl rfl (ff_in hn c46) dX0_drain_57 ?_
        refine xcall_i (ws := (xW G C u)) (wc := (xW G C u)) (wr := []) (w1 := (xW G C u)) (v := (p_isBelowFloor u b ((xky u) ((p_findFirst u a)).toNatClampNeg))) [0, 1, 2, 3, 4, 5, 6, 7] [] (va_runV (As := [.int b, .long ((xky u) ((p_findFirst u a)).toNatClampNeg)]) (rest := []) ⟨hx, hb, hml, hown, hts⟩ (c_isBelowFloor l dC dI G C _ u b ((xky u) ((p_findFirst u a)).toNatClampNeg) hb2) (cwV 2 hts gX0_drain_X0_isBelowFloor rfl rfl rfl (by decide +kernel) ⟨Nat.le_of_ble_eq_true rfl, Nat.le_of_ble_eq_true rfl⟩) (xpreV (q0 := 0) (ci := 0) (qc := (RX0, TX0, 9)) hK hP hD rfl rfl) rfl rfl hl.1 rfl (lv_room (Nat.le_of_ble_eq_true rfl)) dX0_drain_58 ⟨Nat.zero_le _, Nat.zero_le _⟩) hP hD hS hA rfl rfl (by decide) (by decide) (fun H locs hP hD hS => ?_)
        have hP : va_P (dC, dI) vwCl (xW G C u) H := hP
        have hD : va_D A (xW G C u) := hD
        refine lv_if_eq (tgt := 67) hx hb dX0_drain_61 rfl (fun c61 => ?_) (fun c61 => ?_)
        · refine lv_aload_n hx hb dX0_drain_67 rfl (lv_at hl 3 rfl) ?_
          refine lv_iload_n hx hb dX0_drain_68 rfl (lv_at hl 4 rfl) ?_
          refine lv_aload_n hx hb dX0_drain_69 rfl (lv_at hl 3 rfl) ?_
          refine va_get (D := (dC, dI)) (ci := 0) (v := .ref (G 5)) (C := RX0) (T := TX0) (N := 9) hx hb hts hfw hown hK hP 0 rfl rfl 5 (by decide) (hts (.fieldLink RX0 28 "MeldingHeaps" "keys" "[J") (by decide +kernel)) (fun _ h9 => h9) rfl dX0_drain_70 ?_
          refine lv_iload hx hb dX0_drain_73 (lv_at hl 0 rfl) ?_
          refine va_lald (f := (xky u)) hx hb hK hP 5 4 rfl rfl (ff_in hn c46) dX0_drain_75 ?_
          refine xcall_v (ws := (xW G C u)) (wc := (xW G C u)) (wr := []) (w1 := (xW G C (q_raiseFloor u a ((xky u) ((p_findFirst u a)).toNatClampNeg)))) [0, 1, 2, 3, 4, 5, 6, 7] [] (va_runV (As := [.int a, .long ((xky u) ((p_findFirst u a)).toNatClampNeg)]) (rest := []) ⟨hx, hb, hml, hown, hts⟩ (c_raiseFloor l dC dI G C _ u a ((xky u) ((p_findFirst u a)).toNatClampNeg) ha2) (cwV 2 hts gX0_drain_X0_raiseFloor rfl rfl rfl (by decide +kernel) ⟨Nat.le_of_ble_eq_true rfl, Nat.le_of_ble_eq_true rfl⟩) (xpreV (q0 := 0) (ci := 0) (qc := (RX0, TX0, 9)) hK hP hD rfl rfl) rfl rfl hl.1 rfl (lv_room (Nat.le_of_ble_eq_true rfl)) dX0_drain_76 ⟨Nat.zero_le _, Nat.zero_le _⟩) hP hD hS hA rfl rfl (by decide) (by decide) (fun H locs hP hD hS => ?_)
          have hP : va_P (dC, dI) vwCl (xW G C (q_raiseFloor u a ((xky u) ((p_findFirst u a)).toNatClampNeg))) H := hP
          have hD : va_D A (xW G C (q_raiseFloor u a ((xky u) ((p_findFirst u a)).toNatClampNeg))) := hD
          refine lv_aload_n hx hb dX0_drain_79 rfl (lv_at hl 3 rfl) ?_
          refine va_get (D := (dC, dI)) (ci := 0) (v := .ref (G 7)) (C := RX0) (T := TX0) (N := 9) hx hb hts hfw hown hK hP 0 rfl rfl 7 (by decide) (hts (.fieldLink RX0 34 "MeldingHeaps" "owners" "[I") (by decide +kernel)) (fun _ h9 => h9) rfl dX0_drain_80 ?_
          refine lv_iload hx hb dX0_drain_83 (lv_at hl 0 rfl) ?_
          refine lv_iload_n hx hb dX0_drain_85 rfl (lv_at hl 5 rfl) ?_
          refine va_iast (f := (xow (q_raiseFloor u a ((xky u) ((p_findFirst u a)).toNatClampNeg)))) hx hb hK hP hD hS 7 6 rfl rfl (ff_in hn c46) dX0_drain_86 (fun H locs hP hD hS => ?_)
          have hP : va_P (dC, dI) vwCl (xW G C (sOw (q_raiseFloor u a ((xky u) ((p_findFirst u a)).toNatClampNeg)) (upd (xow (q_raiseFloor u a ((xky u) ((p_findFirst u a)).toNatClampNeg))) ((p_findFirst u a)).toNatClampNeg b))) H := hP
          have hD : va_D A (xW G C (sOw (q_raiseFloor u a ((xky u) ((p_findFirst u a)).toNatClampNeg)) (upd (xow (q_raiseFloor u a ((xky u) ((p_findFirst u a)).toNatClampNeg))) ((p_findFirst u a)).toNatClampNeg b))) := hD
          refine lv_iinc (k := 1) (v := (nI (i + 1))) (lv' := [(6, .int (nI (i + 1))), (7, .int (p_findFirst u a)), (5, .int mo), (0, .ref (G 0)), (1, .int a), (2, .int b), (3, .int g)]) hx hb dX0_drain_87 hl rfl (xinc _) (by decide) rfl (fun ls hl => ?_)
          refine lv_goto (tgt := 30) hx hb dX0_drain_90 rfl ?_
          obtain ⟨d, rfl⟩ : ∃ d2, d = d2 + 1 := ⟨d - 1, by omega⟩
          rw [q_drainL, if_neg c46, if_pos c61] at hq hr
          have hr2 : i + ((q_drainL a b d (sOw (q_raiseFloor u a ((xky u) ((p_findFirst u a)).toNatClampNeg)) (upd (xow (q_raiseFloor u a ((xky u) ((p_findFirst u a)).toNatClampNeg))) ((p_findFirst u a)).toNatClampNeg b))).2 + 1) = rT := hr
          exact ih d (by omega) (i + 1) (sOw (q_raiseFloor u a ((xky u) ((p_findFirst u a)).toNatClampNeg)) (upd (xow (q_raiseFloor u a ((xky u) ((p_findFirst u a)).toNatClampNeg))) ((p_findFirst u a)).toNatClampNeg b)) H locs ls (by omega) (by omega) (by show xn (q_raiseFloor _ _ _) ≤ 160; rw [xn_raise]; exact hn) hq (by omega) hP hD hS (lv_sub hl [0, 2, 3, 4, 5, 6] rfl)
        · refine lv_goto (tgt := 93) hx hb dX0_drain_64 rfl ?_
          obtain ⟨d, rfl⟩ : ∃ d2, d = d2 + 1 := ⟨d - 1, by omega⟩
          rw [q_drainL, if_neg c46, if_neg c61] at hq hr
          have hP : va_P (dC, dI) vwCl (xW G C uT) H := by rw [← hq]; exact hP
          have hD : va_D A (xW G C uT) := by rw [← hq]; exact hD
          have hl : lv_has ls 8 [(6, .int (nI rT)), (0, .ref (G 0)), (1, .int a), (2, .int b), (3, .int g)] := by rw [← hr]; exact lv_sub hl [1, 3, 4, 5, 6] rfl
          exact kk _ _ _ hP hD hS hl
def p_most (u : xS) (a g : Int32) : Nat := (if (p_countEntries u a) < g then (p_countEntries u a) else g).toNatClampNeg
def p_drain (u : xS) (a b g : Int32) : Int32 := if (p_refusalOfPair u a b) = 0 then nI (q_drainL a b (p_most u a g) u).2 else (p_refusalOfPair u a b)
def q_drain (u : xS) (a b g : Int32) : xS := if (p_refusalOfPair u a b) = 0 then (q_drainL a b (p_most u a g) u).1 else u
set_option maxHeartbeats 4000000 in
set_option maxRecDepth 100000 in
theorem b_drain {p : Program} {l : Launch} {e : Env} {s : State} {m : MethodId} {args : Array Value} {below : List Frame} {meth : Method} {c : Code} {Q : State → Prop} {A : Nat → Prop} {ls : Array Slot} {dC : Nat → ClassId} {dI : Nat → Nat → Nat} {G : Nat → Nat} {C : Nat → ClassId} {u : xS} {a : Int32} {b : Int32} {g : Int32} (hm : xm u ≤ 12) (hn : xn u ≤ 160) (B : CallFix p m c cX0_drain 8 s args wsX0_drain RX0) (hK : va_K (dC, dI) vwCl (xT C) s) (hA : ∀ q : Nat, s.heap.size ≤ q → A q) (hP : va_P (dC, dI) vwCl (xW G C u) s.heap) (hD : va_D A (xW G C u)) (hl : lv_has ls 8 [(0, .ref (G 0)), (1, .int a), (2, .int b), (3, .int g)]) (kk : (∀ (H : Heap) (locs : List Loc) (pc : Nat) (ls : Array Slot), decode cX0_drain pc = .ok (.ireturn, 1) → va_P (dC, dI) vwCl (xW G C (q_drain u a b g)) H → va_D A (xW G C (q_drain u a b g)) → va_S A s.heap H locs → W p l e (xR 3 72) s m args below meth c H locs 0 0 Q (F0 m pc ls [.int (p_drain u a b g)]))) : W p l e (xR 3 72) s m args below meth c s.heap [] 0 0 Q (F0 m 0 ls []) := by
  obtain ⟨hx, hb, hml, hown, hts⟩ := B
  have hS : va_S A s.heap s.heap [] := va_S.rf
  refine lv_aload_n hx hb dX0_drain_0 rfl (lv_at hl 0 rfl) ?_
  refine lv_iload_n hx hb dX0_drain_1 rfl (lv_at hl 1 rfl) ?_
  refine lv_iload_n hx hb dX0_drain_2 rfl (lv_at hl 2 rfl) ?_
  refine xcall_i (ws := (xW G C u)) (wc := (xW G C u)) (wr := []) (w1 := (xW G C u)) (v := (p_refusalOfPair u a b)) [0, 1, 2, 3, 4, 5, 6, 7] [] (va_runV (As := [.int a, .int b]) (rest := []) ⟨hx, hb, hml, hown, hts⟩ (c_refusalOfPair l dC dI G C _ u a b hm) (cwV 2 hts gX0_drain_X0_refusalOfPair rfl rfl rfl (by decide +kernel) ⟨Nat.le_of_ble_eq_true rfl, Nat.le_of_ble_eq_true rfl⟩) (xpreV (q0 := 0) (ci := 0) (qc := (RX0, TX0, 9)) hK hP hD rfl rfl) rfl rfl hl.1 rfl (lv_room (Nat.le_of_ble_eq_true rfl)) dX0_drain_3 ⟨Nat.zero_le _, Nat.zero_le _⟩) hP hD hS hA rfl rfl (by decide) (by decide) (fun H locs hP hD hS => ?_)
  have hP : va_P (dC, dI) vwCl (xW G C u) H := hP
  have hD : va_D A (xW G C u) := hD
  refine lv_istore (lv' := [(4, .int (p_refusalOfPair u a b)), (0, .ref (G 0)), (1, .int a), (2, .int b), (3, .int g)]) hx hb dX0_drain_6 hl (by decide) rfl (fun ls hl => ?_)
  refine lv_iload hx hb dX0_drain_8 (lv_at hl 0 rfl) ?_
  refine lv_if_eq (tgt := 16) hx hb dX0_drain_10 rfl (fun c10 => ?_) (fun c10 => ?_)
  · refine lv_iload_n hx hb dX0_drain_16 rfl (lv_at hl 4 rfl) ?_
    refine lv_aload_n hx hb dX0_drain_17 rfl (lv_at hl 1 rfl) ?_
    refine lv_iload_n hx hb dX0_drain_18 rfl (lv_at hl 2 rfl) ?_
    refine xcall_i (ws := (xW G C u)) (wc := (xW G C u)) (wr := []) (w1 := (xW G C u)) (v := (p_countEntries u a)) [0, 1, 2, 3, 4, 5, 6, 7] [] (va_runV (As := [.int a]) (rest := [.int g]) ⟨hx, hb, hml, hown, hts⟩ (c_countEntries l dC dI G C _ u a hn) (cwV 1 hts gX0_drain_X0_countEntries rfl rfl rfl (by decide +kernel) ⟨Nat.le_of_ble_eq_true rfl, Nat.le_of_ble_eq_true rfl⟩) (xpreV (q0 := 0) (ci := 0) (qc := (RX0, TX0, 9)) hK hP hD rfl rfl) rfl rfl hl.1 rfl (lv_room (Nat.le_of_ble_eq_true rfl)) dX0_drain_19 ⟨Nat.zero_le _, Nat.zero_le _⟩) hP hD hS hA rfl rfl (by decide) (by decide) (fun H locs hP hD hS => ?_)
    have hP : va_P (dC, dI) vwCl (xW G C u) H := hP
    have hD : va_D A (xW G C u) := hD
    refine va_mmin hx hb (by rw [hml]; exact hl.1.symm) hown (hts (.methodLink RX0 89 Lib.Math.min.name) (by decide +kernel)) (hts (.static Lib.Math.min.name) (by decide +kernel)) (hts (.initialized "java/lang/Math") (by decide +kernel)) (hts _ (List.mem_of_getElem? (i := 4) rfl)) (Nat.le_of_ble_eq_true rfl) (Nat.le_of_ble_eq_true rfl) (Nat.zero_le _) (Nat.zero_le _) dX0_drain_22 ?_
    refine lv_istore (lv' := [(5, .int (if (p_countEntries u a) < g then (p_countEntries u a) else g)), (4, .int (p_refusalOfPair u a b)), (0, .ref (G 0)), (1, .int a), (2, .int b), (3, .int g)]) hx hb dX0_drain_25 hl (by decide) rfl (fun ls hl => ?_)
    refine lv_iconst (v := 0) hx hb dX0_drain_27 (by decide) ?_
    refine lv_istore (lv' := [(6, .int 0), (5, .int (if (p_countEntries u a) < g then (p_countEntries u a) else g)), (4, .int (p_refusalOfPair u a b)), (0, .ref (G 0)), (1, .int a), (2, .int b), (3, .int g)]) hx hb dX0_drain_28 hl (by decide) rfl (fun ls hl => ?_)
    refine lp_drain (mo := (if (p_countEntries u a) < g then (p_countEntries u a) else g)) (g := g) (uT := q_drain u a b g) (rT := (q_drainL a b (p_most u a g) u).2) (in_refP hm c10).1 (in_refP hm c10).2 ⟨hx, hb, hml, hown, hts⟩ hK hA (fun H locs ls hP hD hS hl => ?_) _ 0 u _ _ _ rfl (Nat.zero_le _) hn (by unfold q_drain; rw [if_pos c10]; rfl) (Nat.zero_add _) hP hD hS (lv_sub hl [0, 1, 3, 4, 5, 6] rfl)
    refine lv_iload hx hb dX0_drain_93 (lv_at hl 0 rfl) ?_
    have e9 : p_drain u a b g = nI (q_drainL a b (p_most u a g) u).2 := by unfold p_drain; rw [if_pos c10]
    exact W.eq (congrArg (fun z => F0 m 95 ls [.int z]) e9.symm) (kk _ _ _ _ dX0_drain_95 hP hD hS)
  · refine lv_iload hx hb dX0_drain_13 (lv_at hl 0 rfl) ?_
    have e8 : q_drain u a b g = u := by unfold q_drain; rw [if_neg c10]
    have e9 : p_drain u a b g = (p_refusalOfPair u a b) := by unfold p_drain; rw [if_neg c10]
    exact W.eq (congrArg (fun z => F0 m 15 ls [.int z]) e9.symm) (kk _ _ _ _ dX0_drain_15 (by rw [e8]; exact hP) (by rw [e8]; exact hD) hS)
theorem c_drain (l : Launch) (dC : Nat → ClassId) (dI : Nat → Nat → Nat) (G : Nat → Nat) (C : Nat → ClassId) (sz : Nat) (u : xS) (a : Int32) (b : Int32) (g : Int32) (hm : xm u ≤ 12) (hn : xn u ≤ 160) : xMi l yX0_drain wsX0_drain (xR 3 72) dC dI (xT C) [.ref (G 0), .int a, .int b, .int g] (xW G C u) (xW G C (q_drain u a b g)) (p_drain u a b g) sz :=
  xmet_i (by decide) rfl rfl (Nat.le_of_ble_eq_true rfl) rfl (fun p e s m args below meth c Q A ls B hK hA hP hD hl kk => b_drain hm hn B hK hA hP hD hl kk)
