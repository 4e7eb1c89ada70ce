theorem yxn_leave (u : xS) (h a : Int32) : xn (yq_leave u h a) = xn u := by
  unfold yq_leave
  split <;> rfl
def yq_drainL (a b : Int32) : Nat → xS → xS × Nat
  | 0, u => (u, 0)
  | d + 1, u =>
    if (yp_extreme u a 1) < 0 then (u, 0)
    else if (yp_isBelow u b (xky u (yp_extreme u a 1).toNatClampNeg)) = 0 then ((yq_drainL a b d (sOw (yq_leave u a (yp_extreme u a 1)) (upd (xow (yq_leave u a (yp_extreme u a 1))) ((yp_extreme u a 1)).toNatClampNeg b))).1, (yq_drainL a b d (sOw (yq_leave u a (yp_extreme u a 1)) (upd (xow (yq_leave u a (yp_extreme u a 1))) ((yp_extreme u a 1)).toNatClampNeg b))).2 + 1)
    else (u, 0)
set_option maxHeartbeats 4000000 in
set_option maxRecDepth 100000 in
theorem yl_drain {p : Program} {l : Launch} {e : Env} {s : State} {m : MethodId} {args : Array Value} {below : List Frame} {meth : Method} {c : Code} {Q : State → Prop} {A : Nat → Prop} {dC : Nat → ClassId} {dI : Nat → Nat → Nat} {G : Nat → Nat} {C : Nat → ClassId} {uT : xS} {rT : Nat} {a b g : Int32} (ha2 : vp_in a 12) (hb2 : vp_in b 12) (B : CallFix p m c cY_drain 8 s args wsY_drain RX1) (hK : va_K (dC, dI) vwCl (yT C) s) (hA : ∀ q : Nat, s.heap.size ≤ q → A q) (kk : ∀ (H : Heap) (locs : List Loc) (ls : Array Slot), va_P (dC, dI) vwCl (yW G C uT) H → va_D A (yW G C uT) → va_S A s.heap H locs → lv_has ls 8 [(5, .int (nI rT)), (0, .ref (G 0)), (1, .int a), (2, .int b), (3, .int g)] → W p l e (xR 2 52) s m args below meth c H locs 0 0 Q (F0 m 94 ls [])) :
    ∀ (d i : Nat) (u : xS) (H : Heap) (locs : List Loc) (ls : Array Slot), g.toNatClampNeg - i = d → i ≤ g.toNatClampNeg → xn u ≤ 160 → (yq_drainL a b d u).1 = uT → i + (yq_drainL a b d u).2 = rT → va_P (dC, dI) vwCl (yW G C u) H → va_D A (yW G C u) → va_S A s.heap H locs → lv_has ls 8 [(5, .int (nI i)), (6, .int 1), (0, .ref (G 0)), (1, .int a), (2, .int b), (3, .int g)] → W p l e (xR 2 52) s m args below meth c H locs 0 0 Q (F0 m 22 ls []) := by
  obtain ⟨hx, hb, hml, hown, hts⟩ := B
  have hfw : ∀ w ∈ u_ws RX1 TX1 9, w ∈ wsY_drain := by decide +kernel
  have hmo := cl_b g
  intro d
  induction d using Nat.strongRecOn with
  | ind d ih =>
    intro i u H locs ls hd hi0 hn hq hr hP hD hS hl
    refine lv_iload hx hb dY_drain_22 (lv_at hl 1 rfl) ?_
    refine lv_if_eq (tgt := 94) hx hb dY_drain_24 rfl (fun q => absurd q (by decide)) (fun _ => ?_)
    refine lv_iload hx hb dY_drain_27 (lv_at hl 0 rfl) ?_
    refine lv_iload_n hx hb dY_drain_29 rfl (lv_at hl 5 rfl) ?_
    refine lv_icmp_ge (tgt := 94) hx hb dY_drain_30 rfl (fun c30 => ?_) (fun c30 => ?_)
    · have hz : d = 0 := by have := cl_le c30 (by omega); omega
      subst hz
      rw [yq_drainL] at hq hr
      have hP : va_P (dC, dI) vwCl (yW G C uT) H := by rw [← hq]; exact hP
      have hD : va_D A (yW G C uT) := by rw [← hq]; exact hD
      have hl : lv_has ls 8 [(5, .int (nI rT)), (0, .ref (G 0)), (1, .int a), (2, .int b), (3, .int g)] := by rw [← hr]; exact lv_sub hl [0, 2, 3, 4, 5] rfl
      exact kk _ _ _ hP hD hS hl
    · have hi : i < g.toNatClampNeg := cl_lt c30 (by omega)
      refine lv_aload_n hx hb dY_drain_33 rfl (lv_at hl 2 rfl) ?_
      refine lv_iload_n hx hb dY_drain_34 rfl (lv_at hl 3 rfl) ?_
      refine lv_iconst (v := 1) hx hb dY_drain_35 (by decide) ?_
      refine xcall_i (ws := (yW G C u)) (wc := (yW G C u)) (wr := []) (w1 := (yW G C u)) (v := (yp_extreme u a 1)) [0, 1, 2, 3, 4, 5, 6, 7] [] (va_runV (As := [.int a, .int 1]) (rest := []) ⟨hx, hb, hml, hown, hts⟩ (yc_extreme l dC dI G C _ u a 1 hn ha2) (cwV 2 hts gY_drain_Y_extreme rfl rfl rfl (by decide +kernel) ⟨Nat.le_of_ble_eq_true rfl, Nat.le_of_ble_eq_true rfl⟩) (xpreV (q0 := 0) (ci := 1) (qc := (RX1, TX1, 9)) hK hP hD rfl rfl) rfl rfl hl.1 rfl (lv_room (Nat.le_of_ble_eq_true rfl)) dY_drain_36 ⟨Nat.zero_le _, Nat.zero_le _⟩) hP hD hS hA rfl rfl (by decide) (by decide) (fun H locs hP hD hS => ?_)
      have hP : va_P (dC, dI) vwCl (yW G C u) H := hP
      have hD : va_D A (yW G C u) := hD
      refine lv_istore (lv' := [(7, .int (yp_extreme u a 1)), (5, .int (nI i)), (6, .int 1), (0, .ref (G 0)), (1, .int a), (2, .int b), (3, .int g)]) hx hb dY_drain_39 hl (by decide) rfl (fun ls hl => ?_)
      refine lv_iload hx hb dY_drain_41 (lv_at hl 0 rfl) ?_
      refine lv_if_lt (tgt := 65) hx hb dY_drain_43 rfl (fun c43 => ?_) (fun c43 => ?_)
      · refine lv_iconst (v := 0) hx hb dY_drain_65 (by decide) ?_
        refine lv_istore (lv' := [(6, .int 0), (7, .int (yp_extreme u a 1)), (5, .int (nI i)), (0, .ref (G 0)), (1, .int a), (2, .int b), (3, .int g)]) hx hb dY_drain_66 hl (by decide) rfl (fun ls hl => ?_)
        refine lv_iload hx hb dY_drain_68 (lv_at hl 0 rfl) ?_
        refine lv_if_eq (tgt := 91) hx hb dY_drain_70 rfl (fun _ => ?_) (fun q => absurd rfl q)
        refine lv_goto (tgt := 22) hx hb dY_drain_91 rfl ?_
        refine lv_iload hx hb dY_drain_22 (lv_at hl 0 rfl) ?_
        refine lv_if_eq (tgt := 94) hx hb dY_drain_24 rfl (fun _ => ?_) (fun q => absurd rfl q)
        obtain ⟨d, rfl⟩ : ∃ d2, d = d2 + 1 := ⟨d - 1, by omega⟩
        rw [yq_drainL, if_pos c43] at hq hr
        have hP : va_P (dC, dI) vwCl (yW G C uT) H := by rw [← hq]; exact hP
        have hD : va_D A (yW G C uT) := by rw [← hq]; exact hD
        have hl : lv_has ls 8 [(5, .int (nI rT)), (0, .ref (G 0)), (1, .int a), (2, .int b), (3, .int g)] := by rw [← hr]; exact lv_sub hl [2, 3, 4, 5, 6] rfl
        exact kk _ _ _ hP hD hS hl
      · refine lv_aload_n hx hb dY_drain_46 rfl (lv_at hl 3 rfl) ?_
        refine lv_iload_n hx hb dY_drain_47 rfl (lv_at hl 5 rfl) ?_
        refine lv_aload_n hx hb dY_drain_48 rfl (lv_at hl 3 rfl) ?_
        refine va_get (D := (dC, dI)) (ci := 1) (v := .ref (G 5)) (C := RX1) (T := TX1) (N := 9) hx hb hts hfw hown hK hP 0 rfl rfl 6 (by decide) (hts (.fieldLink RX1 24 "MeldingHeapsModel" "keys" "[J") (by decide +kernel)) (fun _ h9 => h9) rfl dY_drain_49 ?_
        refine lv_iload hx hb dY_drain_52 (lv_at hl 0 rfl) ?_
        refine va_lald (f := (xky u)) hx hb hK hP 5 4 rfl rfl (yex_vp hn c43) dY_drain_54 ?_
        refine xcall_i (ws := (yW G C u)) (wc := (yW G C u)) (wr := []) (w1 := (yW G C u)) (v := (yp_isBelow u b ((xky u) ((yp_extreme u a 1)).toNatClampNeg))) [0, 1, 2, 3, 4, 5, 6, 7] [] (va_runV (As := [.int b, .long ((xky u) ((yp_extreme u a 1)).toNatClampNeg)]) (rest := []) ⟨hx, hb, hml, hown, hts⟩ (yc_isBelow l dC dI G C _ u b ((xky u) ((yp_extreme u a 1)).toNatClampNeg) hb2) (cwV 2 hts gY_drain_Y_isBelow rfl rfl rfl (by decide +kernel) ⟨Nat.le_of_ble_eq_true rfl, Nat.le_of_ble_eq_true rfl⟩) (xpreV (q0 := 0) (ci := 1) (qc := (RX1, TX1, 9)) hK hP hD rfl rfl) rfl rfl hl.1 rfl (lv_room (Nat.le_of_ble_eq_true rfl)) dY_drain_55 ⟨Nat.zero_le _, Nat.zero_le _⟩) hP hD hS hA rfl rfl (by decide) (by decide) (fun H locs hP hD hS => ?_)
        have hP : va_P (dC, dI) vwCl (yW G C u) H := hP
        have hD : va_D A (yW G C u) := hD
        refine lv_if_ne (tgt := 65) hx hb dY_drain_58 rfl (fun c58 => ?_) (fun c58 => ?_)
        · refine lv_iconst (v := 0) hx hb dY_drain_65 (by decide) ?_
          refine lv_istore (lv' := [(6, .int 0), (7, .int (yp_extreme u a 1)), (5, .int (nI i)), (0, .ref (G 0)), (1, .int a), (2, .int b), (3, .int g)]) hx hb dY_drain_66 hl (by decide) rfl (fun ls hl => ?_)
          refine lv_iload hx hb dY_drain_68 (lv_at hl 0 rfl) ?_
          refine lv_if_eq (tgt := 91) hx hb dY_drain_70 rfl (fun _ => ?_) (fun q => absurd rfl q)
          refine lv_goto (tgt := 22) hx hb dY_drain_91 rfl ?_
          refine lv_iload hx hb dY_drain_22 (lv_at hl 0 rfl) ?_
          refine lv_if_eq (tgt := 94) hx hb dY_drain_24 rfl (fun _ => ?_) (fun q => absurd rfl q)
          obtain ⟨d, rfl⟩ : ∃ d2, d = d2 + 1 := ⟨d - 1, by omega⟩
          rw [yq_drainL, if_neg c43, if_neg c58] at hq hr
          have hP : va_P (dC, dI) vwCl (yW G C uT) H := by rw [← hq]; exact hP
          have hD : va_D A (yW G C uT) := by rw [← hq]; exact hD
          have hl : lv_has ls 8 [(5, .int (nI rT)), (0, .ref (G 0)), (1, .int a), (2, .int b), (3, .int g)] := by rw [← hr]; exact lv_sub hl [2, 3, 4, 5, 6] rfl
          exact kk _ _ _ hP hD hS hl
        · refine lv_iconst (v := 1) hx hb dY_drain_61 (by decide) ?_
          refine lv_goto (tgt := 66) hx hb dY_drain_62 rfl ?_
          refine lv_istore (lv' := [(6, .int 1), (7, .int (yp_extreme u a 1)), (5, .int (nI i)), (0, .ref (G 0)), (1, .int a), (2, .int b), (3, .int g)]) hx hb dY_drain_66 hl (by decide) rfl (fun ls hl => ?_)
          refine lv_iload hx hb dY_drain_68 (lv_at hl 0 rfl) ?_
          refine lv_if_eq (tgt := 91) hx hb dY_drain_70 rfl (fun q => absurd q (by decide)) (fun _ => ?_)
          refine lv_aload_n hx hb dY_drain_73 rfl (lv_at hl 3 rfl) ?_
          refine lv_iload_n hx hb dY_drain_74 rfl (lv_at hl 4 rfl) ?_
          refine lv_iload hx hb dY_drain_75 (lv_at hl 1 rfl) ?_
          refine xcall_v (ws := (yW G C u)) (wc := (yW G C u)) (wr := []) (w1 := (yW G C (yq_leave u a (yp_extreme u a 1)))) [0, 1, 2, 3, 4, 5, 6, 7] [] (va_runV (As := [.int a, .int (yp_extreme u a 1)]) (rest := []) ⟨hx, hb, hml, hown, hts⟩ (yc_leave l dC dI G C _ u a (yp_extreme u a 1) ha2 (yex_vp hn c43)) (cwV 2 hts gY_drain_Y_leave rfl rfl rfl (by decide +kernel) ⟨Nat.le_of_ble_eq_true rfl, Nat.le_of_ble_eq_true rfl⟩) (xpreV (q0 := 0) (ci := 1) (qc := (RX1, TX1, 9)) hK hP hD rfl rfl) rfl rfl hl.1 rfl (lv_room (Nat.le_of_ble_eq_true rfl)) dY_drain_77 ⟨Nat.zero_le _, Nat.zero_le _⟩) hP hD hS hA rfl rfl (by decide) (by decide) (fun H locs hP hD hS => ?_)
          have hP : va_P (dC, dI) vwCl (yW G C (yq_leave u a (yp_extreme u a 1))) H := hP
          have hD : va_D A (yW G C (yq_leave u a (yp_extreme u a 1))) := hD
          refine lv_aload_n hx hb dY_drain_80 rfl (lv_at hl 3 rfl) ?_
          refine va_get (D := (dC, dI)) (ci := 1) (v := .ref (G 7)) (C := RX1) (T := TX1) (N := 9) hx hb hts hfw hown hK hP 0 rfl rfl 8 (by decide) (hts (.fieldLink RX1 30 "MeldingHeapsModel" "homes" "[I") (by decide +kernel)) (fun _ h9 => h9) rfl dY_drain_81 ?_
          refine lv_iload hx hb dY_drain_84 (lv_at hl 1 rfl) ?_
          refine lv_iload_n hx hb dY_drain_86 rfl (lv_at hl 5 rfl) ?_
          refine va_iast (f := (xow (yq_leave u a (yp_extreme u a 1)))) hx hb hK hP hD hS 7 6 rfl rfl (yex_vp hn c43) dY_drain_87 (fun H locs hP hD hS => ?_)
          have hP : va_P (dC, dI) vwCl (yW G C (sOw (yq_leave u a (yp_extreme u a 1)) (upd (xow (yq_leave u a (yp_extreme u a 1))) ((yp_extreme u a 1)).toNatClampNeg b))) H := hP
          have hD : va_D A (yW G C (sOw (yq_leave u a (yp_extreme u a 1)) (upd (xow (yq_leave u a (yp_extreme u a 1))) ((yp_extreme u a 1)).toNatClampNeg b))) := hD
          refine lv_iinc (k := 2) (v := (nI (i + 1))) (lv' := [(5, .int (nI (i + 1))), (6, .int 1), (7, .int (yp_extreme u a 1)), (0, .ref (G 0)), (1, .int a), (2, .int b), (3, .int g)]) hx hb dY_drain_88 hl rfl (xinc _) (by decide) rfl (fun ls hl => ?_)
          refine lv_goto (tgt := 22) hx hb dY_drain_91 rfl ?_
          obtain ⟨d, rfl⟩ : ∃ d2, d = d2 + 1 := ⟨d - 1, by omega⟩
          rw [yq_drainL, if_neg c43, if_pos c58] at hq hr
          have hr2 : i + ((yq_drainL a b d (sOw (yq_leave u a (yp_extreme u a 1)) (upd (xow (yq_leave u a (yp_extreme u a 1))) ((yp_extreme u a 1)).toNatClampNeg b))).2 + 1) = rT := hr
          exact ih d (by omega) (i + 1) (sOw (yq_leave u a (yp_extreme u a 1)) (upd (xow (yq_leave u a (yp_extreme u a 1))) ((yp_extreme u a 1)).toNatClampNeg b)) H locs ls (by omega) (by omega) (by show xn (yq_leave _ _ _) ≤ 160; rw [yxn_leave]; exact hn) hq (by omega) hP hD hS (lv_sub hl [0, 1, 3, 4, 5, 6] rfl)
def yp_drain (u : xS) (a b g : Int32) : Int32 := if (yp_wrongPair u a b) = 0 then nI (yq_drainL a b g.toNatClampNeg u).2 else (yp_wrongPair u a b)
def yq_drain (u : xS) (a b g : Int32) : xS := if (yp_wrongPair u a b) = 0 then (yq_drainL a b g.toNatClampNeg u).1 else u
set_option maxHeartbeats 4000000 in
set_option maxRecDepth 100000 in
theorem yb_drain {p : Program} {l : Launch} {e : Env} {s : State} {m : MethodId} {args : Array Value} {below : List Frame} {meth : Method} {c : Code} {Q : State → Prop} {A : Nat → Prop} {ls : Array Slot} {dC : Nat → ClassId} {dI : Nat → Nat → Nat} {G : Nat → Nat} {C : Nat → ClassId} {u : xS} {a : Int32} {b : Int32} {g : Int32} (hm : xm u ≤ 12) (hn : xn u ≤ 160) (B : CallFix p m c cY_drain 8 s args wsY_drain RX1) (hK : va_K (dC, dI) vwCl (yT C) s) (hA : ∀ q : Nat, s.heap.size ≤ q → A q) (hP : va_P (dC, dI) vwCl (yW G C u) s.heap) (hD : va_D A (yW G C u)) (hl : lv_has ls 8 [(0, .ref (G 0)), (1, .int a), (2, .int b), (3, .int g)]) (kk : (∀ (H : Heap) (locs : List Loc) (pc : Nat) (ls : Array Slot), decode cY_drain pc = .ok (.ireturn, 1) → va_P (dC, dI) vwCl (yW G C (yq_drain u a b g)) H → va_D A (yW G C (yq_drain u a b g)) → va_S A s.heap H locs → W p l e (xR 2 52) s m args below meth c H locs 0 0 Q (F0 m pc ls [.int (yp_drain u a b g)]))) : W p l e (xR 2 52) s m args below meth c s.heap [] 0 0 Q (F0 m 0 ls []) := by
  obtain ⟨hx, hb, hml, hown, hts⟩ := B
  have hS : va_S A s.heap s.heap [] := va_S.rf
  refine lv_aload_n hx hb dY_drain_0 rfl (lv_at hl 0 rfl) ?_
  refine lv_iload_n hx hb dY_drain_1 rfl (lv_at hl 1 rfl) ?_
  refine lv_iload_n hx hb dY_drain_2 rfl (lv_at hl 2 rfl) ?_
  refine xcall_i (ws := (yW G C u)) (wc := (yW G C u)) (wr := []) (w1 := (yW G C u)) (v := (yp_wrongPair u a b)) [0, 1, 2, 3, 4, 5, 6, 7] [] (va_runV (As := [.int a, .int b]) (rest := []) ⟨hx, hb, hml, hown, hts⟩ (yc_wrongPair l dC dI G C _ u a b hm) (cwV 2 hts gY_drain_Y_wrongPair rfl rfl rfl (by decide +kernel) ⟨Nat.le_of_ble_eq_true rfl, Nat.le_of_ble_eq_true rfl⟩) (xpreV (q0 := 0) (ci := 1) (qc := (RX1, TX1, 9)) hK hP hD rfl rfl) rfl rfl hl.1 rfl (lv_room (Nat.le_of_ble_eq_true rfl)) dY_drain_3 ⟨Nat.zero_le _, Nat.zero_le _⟩) hP hD hS hA rfl rfl (by decide) (by decide) (fun H locs hP hD hS => ?_)
  have hP : va_P (dC, dI) vwCl (yW G C u) H := hP
  have hD : va_D A (yW G C u) := hD
  refine lv_istore (lv' := [(4, .int (yp_wrongPair u a b)), (0, .ref (G 0)), (1, .int a), (2, .int b), (3, .int g)]) hx hb dY_drain_6 hl (by decide) rfl (fun ls hl => ?_)
  refine lv_iload hx hb dY_drain_8 (lv_at hl 0 rfl) ?_
  refine lv_if_eq (tgt := 16) hx hb dY_drain_10 rfl (fun c10 => ?_) (fun c10 => ?_)
  · refine lv_iconst (v := 0) hx hb dY_drain_16 (by decide) ?_
    refine lv_istore (lv' := [(5, .int 0), (4, .int (yp_wrongPair u a b)), (0, .ref (G 0)), (1, .int a), (2, .int b), (3, .int g)]) hx hb dY_drain_17 hl (by decide) rfl (fun ls hl => ?_)
    refine lv_iconst (v := 1) hx hb dY_drain_19 (by decide) ?_
    refine lv_istore (lv' := [(6, .int 1), (5, .int 0), (4, .int (yp_wrongPair u a b)), (0, .ref (G 0)), (1, .int a), (2, .int b), (3, .int g)]) hx hb dY_drain_20 hl (by decide) rfl (fun ls hl => ?_)
    refine yl_drain (g := g) (uT := yq_drain u a b g) (rT := (yq_drainL a b g.toNatClampNeg u).2) (yin_wP hm c10).1 (yin_wP hm c10).2 ⟨hx, hb, hml, hown, hts⟩ hK hA (fun H locs ls hP hD hS hl => ?_) _ 0 u _ _ _ rfl (Nat.zero_le _) hn (by unfold yq_drain; rw [if_pos c10]; rfl) (Nat.zero_add _) hP hD hS (lv_sub hl [1, 0, 3, 4, 5, 6] rfl)
    refine lv_iload hx hb dY_drain_94 (lv_at hl 0 rfl) ?_
    have e9 : yp_drain u a b g = nI (yq_drainL a b g.toNatClampNeg u).2 := by unfold yp_drain; rw [if_pos c10]
    exact W.eq (congrArg (fun z => F0 m 96 ls [.int z]) e9.symm) (kk _ _ _ _ dY_drain_96 hP hD hS)
  · refine lv_iload hx hb dY_drain_13 (lv_at hl 0 rfl) ?_
    have e8 : yq_drain u a b g = u := by unfold yq_drain; rw [if_neg c10]
    have e9 : yp_drain u a b g = (yp_wrongPair u a b) := by unfold yp_drain; rw [if_neg c10]
    exact W.eq (congrArg (fun z => F0 m 15 ls [.int z]) e9.symm) (kk _ _ _ _ dY_drain_15 (by rw [e8]; exact hP) (by rw [e8]; exact hD) hS)
theorem yc_drain (l : Launch) (dC : Nat → ClassId) (dI : Nat → Nat → Nat) (G : Nat → Nat) (C : Nat → ClassId) (sz : Nat) (u : xS) (a : Int32) (b : Int32) (g : Int32) (hm : xm u ≤ 12) (hn : xn u ≤ 160) : xMi l yY_drain wsY_drain (xR 2 52) dC dI (yT C) [.ref (G 0), .int a, .int b, .int g] (yW G C u) (yW G C (yq_drain u a b g)) (yp_drain u a b g) sz :=
  xmet_i (by decide) rfl rfl (Nat.le_of_ble_eq_true rfl) rfl (fun p e s m args below meth c Q A ls B hK hA hP hD hl kk => yb_drain hm hn B hK hA hP hD hl kk)
