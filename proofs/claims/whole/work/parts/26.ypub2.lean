def yq_meldL (u : xS) (a b : Int32) : Nat → Nat → Int32
  | 0 => xow u
  | i + 1 =>
    (if ((yq_meldL u a b i) i) = b then
      (upd (yq_meldL u a b i) i a)
    else (upd (yq_meldL u a b i) i ((yq_meldL u a b i) i)))
set_option maxHeartbeats 4000000 in
set_option maxRecDepth 100000 in
theorem yl_meld {p : Program} {l : Launch} {e : Env} {s : State} {m : MethodId} {args : Array Value} {below : List Frame} {meth : Method} {c : Code} {Q : State → Prop} {A : Nat → Prop} {dC : Nat → ClassId} {dI : Nat → Nat → Nat} {G : Nat → Nat} {C : Nat → ClassId} {u : xS} {a : Int32} {b : Int32} (hn : xn u ≤ 160) (B : CallFix p m c cY_meld 5 s args wsY_meld RX1) (hK : va_K (dC, dI) vwCl (yT C) s) (hA : ∀ q : Nat, s.heap.size ≤ q → A q) (kk : ∀ (H : Heap) (locs : List Loc) (ls : Array Slot), va_P (dC, dI) vwCl (yW G C (sOw u (yq_meldL u a b (xn u)))) H → va_D A (yW G C (sOw u (yq_meldL u a b (xn u)))) → va_S A s.heap H locs → lv_has ls 5 [(0, .ref (G 0)), (1, .int a), (2, .int b)] → W p l e (xR 2 44) s m args below meth c H locs 0 0 Q (F0 m 96 ls [])) :
    ∀ (d i : Nat) (H : Heap) (locs : List Loc) (ls : Array Slot), xn u - i = d → i ≤ xn u → va_P (dC, dI) vwCl (yW G C (sOw u (yq_meldL u a b i))) H → va_D A (yW G C (sOw u (yq_meldL u a b i))) → va_S A s.heap H locs → lv_has ls 5 [(4, .int (nI i)), (0, .ref (G 0)), (1, .int a), (2, .int b)] → W p l e (xR 2 44) s m args below meth c H locs 0 0 Q (F0 m 52 ls []) := by
  obtain ⟨hx, hb, hml, hown, hts⟩ := B
  have hfw : ∀ w ∈ u_ws RX1 TX1 9, w ∈ wsY_meld := by decide +kernel
  intro d
  induction d using Nat.strongRecOn with
  | ind d ih =>
    intro i H locs ls hd hi0 hP hD hS hl
    refine lv_iload hx hb dY_meld_52 (lv_at hl 0 rfl) ?_
    refine lv_aload_n hx hb dY_meld_54 rfl (lv_at hl 1 rfl) ?_
    refine va_get (D := (dC, dI)) (ci := 1) (v := .int (nI (xn u))) (C := RX1) (T := TX1) (N := 9) hx hb hts hfw hown hK hP 0 rfl rfl 5 (by decide) (hts (.fieldLink RX1 37 "MeldingHeapsModel" "inserted" "I") (by decide +kernel)) (fun _ h9 => h9) rfl dY_meld_55 ?_
    refine lv_icmp_ge (tgt := 96) hx hb dY_meld_58 rfl (fun c58 => ?_) (fun c58 => ?_)
    · have hi2 : i = xn u := Nat.le_antisymm hi0 ((nI_leI (by omega) (by omega)).mp c58)
      rw [hi2] at hl hP hD
      exact kk _ _ _ hP hD hS (lv_sub hl [1, 2, 3] rfl)
    · have hi : i < xn u := Nat.not_le.mp (fun q => c58 (nI_le q (by omega)))
      refine lv_aload_n hx hb dY_meld_61 rfl (lv_at hl 1 rfl) ?_
      refine va_get (D := (dC, dI)) (ci := 1) (v := .ref (G 7)) (C := RX1) (T := TX1) (N := 9) hx hb hts hfw hown hK hP 0 rfl rfl 8 (by decide) (hts (.fieldLink RX1 30 "MeldingHeapsModel" "homes" "[I") (by decide +kernel)) (fun _ h9 => h9) rfl dY_meld_62 ?_
      refine lv_iload hx hb dY_meld_65 (lv_at hl 0 rfl) ?_
      refine lv_aload_n hx hb dY_meld_67 rfl (lv_at hl 1 rfl) ?_
      refine va_get (D := (dC, dI)) (ci := 1) (v := .ref (G 7)) (C := RX1) (T := TX1) (N := 9) hx hb hts hfw hown hK hP 0 rfl rfl 8 (by decide) (hts (.fieldLink RX1 30 "MeldingHeapsModel" "homes" "[I") (by decide +kernel)) (fun _ h9 => h9) rfl dY_meld_68 ?_
      refine lv_iload hx hb dY_meld_71 (lv_at hl 0 rfl) ?_
      refine va_iald (f := (yq_meldL u a b i)) hx hb hK hP 7 6 rfl rfl (vp_in_nI (by omega) (by decide)) dY_meld_73 ?_
      refine W.eq (congrArg (fun z => F0 m 74 ls (.int ((yq_meldL u a b i) z) :: [.int (nI i), .ref (G 7)])) (nI_clamp (show i < 2 ^ 31 by omega))) ?_
      refine lv_iload_n hx hb dY_meld_74 rfl (lv_at hl 3 rfl) ?_
      refine lv_icmp_ne (tgt := 82) hx hb dY_meld_75 rfl (fun c75 => ?_) (fun c75 => ?_)
      · refine lv_aload_n hx hb dY_meld_82 rfl (lv_at hl 1 rfl) ?_
        refine va_get (D := (dC, dI)) (ci := 1) (v := .ref (G 7)) (C := RX1) (T := TX1) (N := 9) hx hb hts hfw hown hK hP 0 rfl rfl 8 (by decide) (hts (.fieldLink RX1 30 "MeldingHeapsModel" "homes" "[I") (by decide +kernel)) (fun _ h9 => h9) rfl dY_meld_83 ?_
        refine lv_iload hx hb dY_meld_86 (lv_at hl 0 rfl) ?_
        refine va_iald (f := (yq_meldL u a b i)) hx hb hK hP 7 6 rfl rfl (vp_in_nI (by omega) (by decide)) dY_meld_88 ?_
        refine W.eq (congrArg (fun z => F0 m 89 ls (.int ((yq_meldL u a b i) z) :: [.int (nI i), .ref (G 7)])) (nI_clamp (show i < 2 ^ 31 by omega))) ?_
        refine va_iast (f := (yq_meldL u a b i)) hx hb hK hP hD hS 7 6 rfl rfl (vp_in_nI (by omega) (by decide)) dY_meld_89 (fun H locs hP hD hS => ?_)
        rw [nI_clamp (show i < 2 ^ 31 by omega)] at hP hD
        have hP : va_P (dC, dI) vwCl (yW G C (sOw (sOw u (yq_meldL u a b i)) (upd (yq_meldL u a b i) i ((yq_meldL u a b i) i)))) H := hP
        have hD : va_D A (yW G C (sOw (sOw u (yq_meldL u a b i)) (upd (yq_meldL u a b i) i ((yq_meldL u a b i) i)))) := hD
        refine lv_iinc (k := 0) (v := (nI (i + 1))) (lv' := [(4, .int (nI (i + 1))), (0, .ref (G 0)), (1, .int a), (2, .int b)]) hx hb dY_meld_90 hl rfl (xinc _) (by decide) rfl (fun ls hl => ?_)
        refine lv_goto (tgt := 52) hx hb dY_meld_93 rfl ?_
        have hl : lv_has ls 5 [(4, .int (nI (i + 1))), (0, .ref (G 0)), (1, .int a), (2, .int b)] := by exact lv_sub hl [0, 1, 2, 3] rfl
        have e8 : yq_meldL u a b (i + 1) = (upd (yq_meldL u a b i) i ((yq_meldL u a b i) i)) := by rw [yq_meldL]; rw [if_neg c75]
        have hP : va_P (dC, dI) vwCl (yW G C (sOw u (yq_meldL u a b (i + 1)))) H := by rw [e8]; exact hP
        have hD : va_D A (yW G C (sOw u (yq_meldL u a b (i + 1)))) := by rw [e8]; exact hD
        exact ih _ (by omega) (i + 1) _ _ _ rfl hi hP hD hS hl
      · refine lv_iload_n hx hb dY_meld_78 rfl (lv_at hl 2 rfl) ?_
        refine lv_goto (tgt := 89) hx hb dY_meld_79 rfl ?_
        refine va_iast (f := (yq_meldL u a b i)) hx hb hK hP hD hS 7 6 rfl rfl (vp_in_nI (by omega) (by decide)) dY_meld_89 (fun H locs hP hD hS => ?_)
        rw [nI_clamp (show i < 2 ^ 31 by omega)] at hP hD
        have hP : va_P (dC, dI) vwCl (yW G C (sOw (sOw u (yq_meldL u a b i)) (upd (yq_meldL u a b i) i a))) H := hP
        have hD : va_D A (yW G C (sOw (sOw u (yq_meldL u a b i)) (upd (yq_meldL u a b i) i a))) := hD
        refine lv_iinc (k := 0) (v := (nI (i + 1))) (lv' := [(4, .int (nI (i + 1))), (0, .ref (G 0)), (1, .int a), (2, .int b)]) hx hb dY_meld_90 hl rfl (xinc _) (by decide) rfl (fun ls hl => ?_)
        refine lv_goto (tgt := 52) hx hb dY_meld_93 rfl ?_
        have hl : lv_has ls 5 [(4, .int (nI (i + 1))), (0, .ref (G 0)), (1, .int a), (2, .int b)] := by exact lv_sub hl [0, 1, 2, 3] rfl
        have e8 : yq_meldL u a b (i + 1) = (upd (yq_meldL u a b i) i a) := by rw [yq_meldL]; rw [if_pos c75]
        have hP : va_P (dC, dI) vwCl (yW G C (sOw u (yq_meldL u a b (i + 1)))) H := by rw [e8]; exact hP
        have hD : va_D A (yW G C (sOw u (yq_meldL u a b (i + 1)))) := by rw [e8]; exact hD
        exact ih _ (by omega) (i + 1) _ _ _ rfl hi hP hD hS hl
def yp_meld (u : xS) (a : Int32) (b : Int32) : Int32 :=
  (if (yp_wrongPair u a b) = 0 then
    (if ((xkd u) (a).toNatClampNeg) = 0 then
      (if ((xkd u) (b).toNatClampNeg) = 0 then
        (if ((xod u) (a).toNatClampNeg) = ((xod u) (b).toNatClampNeg) then
          (yp_many (sAb (sOw u (yq_meldL u a b (xn u))) (upd (xab u) (b).toNatClampNeg 1)) a)
        else (-7))
      else (-7))
    else (-7))
  else (yp_wrongPair u a b))
def yq_meld (u : xS) (a : Int32) (b : Int32) : xS :=
  (if (yp_wrongPair u a b) = 0 then
    (if ((xkd u) (a).toNatClampNeg) = 0 then
      (if ((xkd u) (b).toNatClampNeg) = 0 then
        (if ((xod u) (a).toNatClampNeg) = ((xod u) (b).toNatClampNeg) then
          (sAb (sOw u (yq_meldL u a b (xn u))) (upd (xab u) (b).toNatClampNeg 1))
        else u)
      else u)
    else u)
  else u)
set_option maxHeartbeats 4000000 in
set_option maxRecDepth 100000 in
theorem yb_meld {p : Program} {l : Launch} {e : Env} {s : State} {m : MethodId} {args : Array Value} {below : List Frame} {meth : Method} {c : Code} {Q : State → Prop} {A : Nat → Prop} {ls : Array Slot} {dC : Nat → ClassId} {dI : Nat → Nat → Nat} {G : Nat → Nat} {C : Nat → ClassId} {u : xS} {a : Int32} {b : Int32} (hm : xm u ≤ 12) (hn : xn u ≤ 160) (B : CallFix p m c cY_meld 5 s args wsY_meld RX1) (hK : va_K (dC, dI) vwCl (yT C) s) (hA : ∀ q : Nat, s.heap.size ≤ q → A q) (hP : va_P (dC, dI) vwCl (yW G C u) s.heap) (hD : va_D A (yW G C u)) (hl : lv_has ls 5 [(0, .ref (G 0)), (1, .int a), (2, .int b)]) (kk : (∀ (H : Heap) (locs : List Loc) (pc : Nat) (ls : Array Slot), decode cY_meld pc = .ok (.ireturn, 1) → va_P (dC, dI) vwCl (yW G C (yq_meld u a b)) H → va_D A (yW G C (yq_meld u a b)) → va_S A s.heap H locs → W p l e (xR 2 44) s m args below meth c H locs 0 0 Q (F0 m pc ls [.int (yp_meld u a b)]))) : W p l e (xR 2 44) s m args below meth c s.heap [] 0 0 Q (F0 m 0 ls []) := by
  obtain ⟨hx, hb, hml, hown, hts⟩ := B
  have hS : va_S A s.heap s.heap [] := va_S.rf
  have hfw : ∀ w ∈ u_ws RX1 TX1 9, w ∈ wsY_meld := by decide +kernel
  refine lv_aload_n hx hb dY_meld_0 rfl (lv_at hl 0 rfl) ?_
  refine lv_iload_n hx hb dY_meld_1 rfl (lv_at hl 1 rfl) ?_
  refine lv_iload_n hx hb dY_meld_2 rfl (lv_at hl 2 rfl) ?_
  refine xcall_i (ws := (yW G C u)) (wc := (yW G C u)) (wr := []) (w1 := (yW G C u)) (v := (yp_wrongPair u a b)) [0, 1, 2, 3, 4, 5, 6, 7] [] (va_runV (As := [.int a, .int b]) (rest := []) ⟨hx, hb, hml, hown, hts⟩ (yc_wrongPair l dC dI G C _ u a b hm) (cwV 2 hts gY_meld_Y_wrongPair rfl rfl rfl (by decide +kernel) ⟨Nat.le_of_ble_eq_true rfl, Nat.le_of_ble_eq_true rfl⟩) (xpreV (q0 := 0) (ci := 1) (qc := (RX1, TX1, 9)) hK hP hD rfl rfl) rfl rfl hl.1 rfl (lv_room (Nat.le_of_ble_eq_true rfl)) dY_meld_3 ⟨Nat.zero_le _, Nat.zero_le _⟩) hP hD hS hA rfl rfl (by decide) (by decide) (fun H locs hP hD hS => ?_)
  have hP : va_P (dC, dI) vwCl (yW G C u) H := hP
  have hD : va_D A (yW G C u) := hD
  refine lv_istore_n (lv' := [(3, .int (yp_wrongPair u a b)), (0, .ref (G 0)), (1, .int a), (2, .int b)]) hx hb dY_meld_6 rfl hl (by decide) rfl (fun ls hl => ?_)
  refine lv_iload_n hx hb dY_meld_7 rfl (lv_at hl 0 rfl) ?_
  refine lv_if_eq (tgt := 13) hx hb dY_meld_8 rfl (fun c8 => ?_) (fun c8 => ?_)
  · refine lv_aload_n hx hb dY_meld_13 rfl (lv_at hl 1 rfl) ?_
    refine va_get (D := (dC, dI)) (ci := 1) (v := .ref (G 1)) (C := RX1) (T := TX1) (N := 9) hx hb hts hfw hown hK hP 0 rfl rfl 1 (by decide) (hts (.fieldLink RX1 7 "MeldingHeapsModel" "kinds" "[I") (by decide +kernel)) (fun _ h9 => h9) rfl dY_meld_14 ?_
    refine lv_iload_n hx hb dY_meld_17 rfl (lv_at hl 2 rfl) ?_
    refine va_iald (f := (xkd u)) hx hb hK hP 1 0 rfl rfl ((yin_wP hm c8).1) dY_meld_18 ?_
    refine lv_if_ne (tgt := 46) hx hb dY_meld_19 rfl (fun c19 => ?_) (fun c19 => ?_)
    · refine lv_bipush (v := (-7)) hx hb dY_meld_46 (by decide) ?_
      have e8 : yq_meld u a b = u := by unfold yq_meld; rw [if_pos c8, if_neg c19]
      have e9 : yp_meld u a b = (-7) := by unfold yp_meld; rw [if_pos c8, if_neg c19]
      exact W.eq (congrArg (fun z => F0 m 48 ls [.int z]) e9.symm) (kk _ _ _ _ dY_meld_48 (by rw [e8]; exact hP) (by rw [e8]; exact hD) hS)
    · refine lv_aload_n hx hb dY_meld_22 rfl (lv_at hl 1 rfl) ?_
      refine va_get (D := (dC, dI)) (ci := 1) (v := .ref (G 1)) (C := RX1) (T := TX1) (N := 9) hx hb hts hfw hown hK hP 0 rfl rfl 1 (by decide) (hts (.fieldLink RX1 7 "MeldingHeapsModel" "kinds" "[I") (by decide +kernel)) (fun _ h9 => h9) rfl dY_meld_23 ?_
      refine lv_iload_n hx hb dY_meld_26 rfl (lv_at hl 3 rfl) ?_
      refine va_iald (f := (xkd u)) hx hb hK hP 1 0 rfl rfl ((yin_wP hm c8).2) dY_meld_27 ?_
      refine lv_if_ne (tgt := 46) hx hb dY_meld_28 rfl (fun c28 => ?_) (fun c28 => ?_)
      · refine lv_bipush (v := (-7)) hx hb dY_meld_46 (by decide) ?_
        have e8 : yq_meld u a b = u := by unfold yq_meld; rw [if_pos c8, if_pos c19, if_neg c28]
        have e9 : yp_meld u a b = (-7) := by unfold yp_meld; rw [if_pos c8, if_pos c19, if_neg c28]
        exact W.eq (congrArg (fun z => F0 m 48 ls [.int z]) e9.symm) (kk _ _ _ _ dY_meld_48 (by rw [e8]; exact hP) (by rw [e8]; exact hD) hS)
      · refine lv_aload_n hx hb dY_meld_31 rfl (lv_at hl 1 rfl) ?_
        refine va_get (D := (dC, dI)) (ci := 1) (v := .ref (G 2)) (C := RX1) (T := TX1) (N := 9) hx hb hts hfw hown hK hP 0 rfl rfl 2 (by decide) (hts (.fieldLink RX1 13 "MeldingHeapsModel" "orders" "[I") (by decide +kernel)) (fun _ h9 => h9) rfl dY_meld_32 ?_
        refine lv_iload_n hx hb dY_meld_35 rfl (lv_at hl 2 rfl) ?_
        refine va_iald (f := (xod u)) hx hb hK hP 2 1 rfl rfl ((yin_wP hm c8).1) dY_meld_36 ?_
        refine lv_aload_n hx hb dY_meld_37 rfl (lv_at hl 1 rfl) ?_
        refine va_get (D := (dC, dI)) (ci := 1) (v := .ref (G 2)) (C := RX1) (T := TX1) (N := 9) hx hb hts hfw hown hK hP 0 rfl rfl 2 (by decide) (hts (.fieldLink RX1 13 "MeldingHeapsModel" "orders" "[I") (by decide +kernel)) (fun _ h9 => h9) rfl dY_meld_38 ?_
        refine lv_iload_n hx hb dY_meld_41 rfl (lv_at hl 3 rfl) ?_
        refine va_iald (f := (xod u)) hx hb hK hP 2 1 rfl rfl ((yin_wP hm c8).2) dY_meld_42 ?_
        refine lv_icmp_eq (tgt := 49) hx hb dY_meld_43 rfl (fun c43 => ?_) (fun c43 => ?_)
        · refine lv_iconst (v := 0) hx hb dY_meld_49 (by decide) ?_
          refine lv_istore (lv' := [(4, .int 0), (3, .int (yp_wrongPair u a b)), (0, .ref (G 0)), (1, .int a), (2, .int b)]) hx hb dY_meld_50 hl (by decide) rfl (fun ls hl => ?_)
          refine yl_meld hn ⟨hx, hb, hml, hown, hts⟩ hK hA (fun H locs ls hP hD hS hl => ?_) _ 0 _ _ _ rfl (Nat.zero_le _) hP hD hS (lv_sub hl [0, 2, 3, 4] rfl)
          refine lv_aload_n hx hb dY_meld_96 rfl (lv_at hl 0 rfl) ?_
          refine va_get (D := (dC, dI)) (ci := 1) (v := .ref (G 3)) (C := RX1) (T := TX1) (N := 9) hx hb hts hfw hown hK hP 0 rfl rfl 3 (by decide) (hts (.fieldLink RX1 16 "MeldingHeapsModel" "gone" "[Z") (by decide +kernel)) (fun _ h9 => h9) rfl dY_meld_97 ?_
          refine lv_iload_n hx hb dY_meld_100 rfl (lv_at hl 2 rfl) ?_
          refine lv_iconst (v := 1) hx hb dY_meld_101 (by decide) ?_
          refine va_zast (f := (xab u)) hx hb hK hP hD hS 3 2 rfl rfl ((yin_wP hm c8).2) dY_meld_102 (fun H locs hP hD hS => ?_)
          have hP : va_P (dC, dI) vwCl (yW G C (sAb (sOw u (yq_meldL u a b (xn u))) (upd (xab u) (b).toNatClampNeg 1))) H := hP
          have hD : va_D A (yW G C (sAb (sOw u (yq_meldL u a b (xn u))) (upd (xab u) (b).toNatClampNeg 1))) := hD
          refine lv_aload_n hx hb dY_meld_103 rfl (lv_at hl 0 rfl) ?_
          refine lv_iload_n hx hb dY_meld_104 rfl (lv_at hl 1 rfl) ?_
          refine xcall_i (ws := (yW G C (sAb (sOw u (yq_meldL u a b (xn u))) (upd (xab u) (b).toNatClampNeg 1)))) (wc := (yW G C (sAb (sOw u (yq_meldL u a b (xn u))) (upd (xab u) (b).toNatClampNeg 1)))) (wr := []) (w1 := (yW G C (sAb (sOw u (yq_meldL u a b (xn u))) (upd (xab u) (b).toNatClampNeg 1)))) (v := (yp_many (sAb (sOw u (yq_meldL u a b (xn u))) (upd (xab u) (b).toNatClampNeg 1)) a)) [0, 1, 2, 3, 4, 5, 6, 7] [] (va_runV (As := [.int a]) (rest := []) ⟨hx, hb, hml, hown, hts⟩ (yc_many l dC dI G C _ (sAb (sOw u (yq_meldL u a b (xn u))) (upd (xab u) (b).toNatClampNeg 1)) a hn) (cwV 1 hts gY_meld_Y_many rfl rfl rfl (by decide +kernel) ⟨Nat.le_of_ble_eq_true rfl, Nat.le_of_ble_eq_true rfl⟩) (xpreV (q0 := 0) (ci := 1) (qc := (RX1, TX1, 9)) hK hP hD rfl rfl) rfl rfl hl.1 rfl (lv_room (Nat.le_of_ble_eq_true rfl)) dY_meld_105 ⟨Nat.zero_le _, Nat.zero_le _⟩) hP hD hS hA rfl rfl (by decide) (by decide) (fun H locs hP hD hS => ?_)
          have hP : va_P (dC, dI) vwCl (yW G C (sAb (sOw u (yq_meldL u a b (xn u))) (upd (xab u) (b).toNatClampNeg 1))) H := hP
          have hD : va_D A (yW G C (sAb (sOw u (yq_meldL u a b (xn u))) (upd (xab u) (b).toNatClampNeg 1))) := hD
          have e8 : yq_meld u a b = (sAb (sOw u (yq_meldL u a b (xn u))) (upd (xab u) (b).toNatClampNeg 1)) := by unfold yq_meld; rw [if_pos c8, if_pos c19, if_pos c28, if_pos c43]
          have e9 : yp_meld u a b = (yp_many (sAb (sOw u (yq_meldL u a b (xn u))) (upd (xab u) (b).toNatClampNeg 1)) a) := by unfold yp_meld; rw [if_pos c8, if_pos c19, if_pos c28, if_pos c43]
          exact W.eq (congrArg (fun z => F0 m 108 ls [.int z]) e9.symm) (kk _ _ _ _ dY_meld_108 (by rw [e8]; exact hP) (by rw [e8]; exact hD) hS)
        · refine lv_bipush (v := (-7)) hx hb dY_meld_46 (by decide) ?_
          have e8 : yq_meld u a b = u := by unfold yq_meld; rw [if_pos c8, if_pos c19, if_pos c28, if_neg c43]
          have e9 : yp_meld u a b = (-7) := by unfold yp_meld; rw [if_pos c8, if_pos c19, if_pos c28, if_neg c43]
          exact W.eq (congrArg (fun z => F0 m 48 ls [.int z]) e9.symm) (kk _ _ _ _ dY_meld_48 (by rw [e8]; exact hP) (by rw [e8]; exact hD) hS)
  · refine lv_iload_n hx hb dY_meld_11 rfl (lv_at hl 0 rfl) ?_
    have e8 : yq_meld u a b = u := by unfold yq_meld; rw [if_neg c8]
    have e9 : yp_meld u a b = (yp_wrongPair u a b) := by unfold yp_meld; rw [if_neg c8]
    exact W.eq (congrArg (fun z => F0 m 12 ls [.int z]) e9.symm) (kk _ _ _ _ dY_meld_12 (by rw [e8]; exact hP) (by rw [e8]; exact hD) hS)
theorem yc_meld (l : Launch) (dC : Nat → ClassId) (dI : Nat → Nat → Nat) (G : Nat → Nat) (C : Nat → ClassId) (sz : Nat) (u : xS) (a : Int32) (b : Int32) (hm : xm u ≤ 12) (hn : xn u ≤ 160) : xMi l yY_meld wsY_meld (xR 2 44) dC dI (yT C) [.ref (G 0), .int a, .int b] (yW G C u) (yW G C (yq_meld u a b)) (yp_meld u a b) sz :=
  xmet_i (by decide) rfl rfl (Nat.le_of_ble_eq_true rfl) rfl (fun p e s m args below meth c Q A ls B hK hA hP hD hl kk => yb_meld hm hn B hK hA hP hD hl kk)
def yq_clearL (u : xS) (h : Int32) : Nat → Nat → Int32
  | 0 => xow u
  | i + 1 =>
    (if ((yq_clearL u h i) i) = h then
      (upd (yq_clearL u h i) i (-1))
    else (upd (yq_clearL u h i) i ((yq_clearL u h i) i)))
set_option maxHeartbeats 4000000 in
set_option maxRecDepth 100000 in
theorem yl_clear {p : Program} {l : Launch} {e : Env} {s : State} {m : MethodId} {args : Array Value} {below : List Frame} {meth : Method} {c : Code} {Q : State → Prop} {A : Nat → Prop} {dC : Nat → ClassId} {dI : Nat → Nat → Nat} {G : Nat → Nat} {C : Nat → ClassId} {u : xS} {h : Int32} (hn : xn u ≤ 160) (B : CallFix p m c cY_clear 5 s args wsY_clear RX1) (hK : va_K (dC, dI) vwCl (yT C) s) (hA : ∀ q : Nat, s.heap.size ≤ q → A q) (kk : ∀ (H : Heap) (locs : List Loc) (ls : Array Slot), va_P (dC, dI) vwCl (yW G C (sOw u (yq_clearL u h (xn u)))) H → va_D A (yW G C (sOw u (yq_clearL u h (xn u)))) → va_S A s.heap H locs → lv_has ls 5 [(0, .ref (G 0)), (1, .int h), (3, .int (yp_many u h))] → W p l e (xR 1 23) s m args below meth c H locs 0 0 Q (F0 m 65 ls [])) :
    ∀ (d i : Nat) (H : Heap) (locs : List Loc) (ls : Array Slot), xn u - i = d → i ≤ xn u → va_P (dC, dI) vwCl (yW G C (sOw u (yq_clearL u h i))) H → va_D A (yW G C (sOw u (yq_clearL u h i))) → va_S A s.heap H locs → lv_has ls 5 [(4, .int (nI i)), (0, .ref (G 0)), (1, .int h), (3, .int (yp_many u h))] → W p l e (xR 1 23) s m args below meth c H locs 0 0 Q (F0 m 21 ls []) := by
  obtain ⟨hx, hb, hml, hown, hts⟩ := B
  have hfw : ∀ w ∈ u_ws RX1 TX1 9, w ∈ wsY_clear := by decide +kernel
  intro d
  induction d using Nat.strongRecOn with
  | ind d ih =>
    intro i H locs ls hd hi0 hP hD hS hl
    refine lv_iload hx hb dY_clear_21 (lv_at hl 0 rfl) ?_
    refine lv_aload_n hx hb dY_clear_23 rfl (lv_at hl 1 rfl) ?_
    refine va_get (D := (dC, dI)) (ci := 1) (v := .int (nI (xn u))) (C := RX1) (T := TX1) (N := 9) hx hb hts hfw hown hK hP 0 rfl rfl 5 (by decide) (hts (.fieldLink RX1 37 "MeldingHeapsModel" "inserted" "I") (by decide +kernel)) (fun _ h9 => h9) rfl dY_clear_24 ?_
    refine lv_icmp_ge (tgt := 65) hx hb dY_clear_27 rfl (fun c27 => ?_) (fun c27 => ?_)
    · have hi2 : i = xn u := Nat.le_antisymm hi0 ((nI_leI (by omega) (by omega)).mp c27)
      rw [hi2] at hl hP hD
      exact kk _ _ _ hP hD hS (lv_sub hl [1, 2, 3] rfl)
    · have hi : i < xn u := Nat.not_le.mp (fun q => c27 (nI_le q (by omega)))
      refine lv_aload_n hx hb dY_clear_30 rfl (lv_at hl 1 rfl) ?_
      refine va_get (D := (dC, dI)) (ci := 1) (v := .ref (G 7)) (C := RX1) (T := TX1) (N := 9) hx hb hts hfw hown hK hP 0 rfl rfl 8 (by decide) (hts (.fieldLink RX1 30 "MeldingHeapsModel" "homes" "[I") (by decide +kernel)) (fun _ h9 => h9) rfl dY_clear_31 ?_
      refine lv_iload hx hb dY_clear_34 (lv_at hl 0 rfl) ?_
      refine lv_aload_n hx hb dY_clear_36 rfl (lv_at hl 1 rfl) ?_
      refine va_get (D := (dC, dI)) (ci := 1) (v := .ref (G 7)) (C := RX1) (T := TX1) (N := 9) hx hb hts hfw hown hK hP 0 rfl rfl 8 (by decide) (hts (.fieldLink RX1 30 "MeldingHeapsModel" "homes" "[I") (by decide +kernel)) (fun _ h9 => h9) rfl dY_clear_37 ?_
      refine lv_iload hx hb dY_clear_40 (lv_at hl 0 rfl) ?_
      refine va_iald (f := (yq_clearL u h i)) hx hb hK hP 7 6 rfl rfl (vp_in_nI (by omega) (by decide)) dY_clear_42 ?_
      refine W.eq (congrArg (fun z => F0 m 43 ls (.int ((yq_clearL u h i) z) :: [.int (nI i), .ref (G 7)])) (nI_clamp (show i < 2 ^ 31 by omega))) ?_
      refine lv_iload_n hx hb dY_clear_43 rfl (lv_at hl 2 rfl) ?_
      refine lv_icmp_ne (tgt := 51) hx hb dY_clear_44 rfl (fun c44 => ?_) (fun c44 => ?_)
      · refine lv_aload_n hx hb dY_clear_51 rfl (lv_at hl 1 rfl) ?_
        refine va_get (D := (dC, dI)) (ci := 1) (v := .ref (G 7)) (C := RX1) (T := TX1) (N := 9) hx hb hts hfw hown hK hP 0 rfl rfl 8 (by decide) (hts (.fieldLink RX1 30 "MeldingHeapsModel" "homes" "[I") (by decide +kernel)) (fun _ h9 => h9) rfl dY_clear_52 ?_
        refine lv_iload hx hb dY_clear_55 (lv_at hl 0 rfl) ?_
        refine va_iald (f := (yq_clearL u h i)) hx hb hK hP 7 6 rfl rfl (vp_in_nI (by omega) (by decide)) dY_clear_57 ?_
        refine W.eq (congrArg (fun z => F0 m 58 ls (.int ((yq_clearL u h i) z) :: [.int (nI i), .ref (G 7)])) (nI_clamp (show i < 2 ^ 31 by omega))) ?_
        refine va_iast (f := (yq_clearL u h i)) hx hb hK hP hD hS 7 6 rfl rfl (vp_in_nI (by omega) (by decide)) dY_clear_58 (fun H locs hP hD hS => ?_)
        rw [nI_clamp (show i < 2 ^ 31 by omega)] at hP hD
        have hP : va_P (dC, dI) vwCl (yW G C (sOw (sOw u (yq_clearL u h i)) (upd (yq_clearL u h i) i ((yq_clearL u h i) i)))) H := hP
        have hD : va_D A (yW G C (sOw (sOw u (yq_clearL u h i)) (upd (yq_clearL u h i) i ((yq_clearL u h i) i)))) := hD
        refine lv_iinc (k := 0) (v := (nI (i + 1))) (lv' := [(4, .int (nI (i + 1))), (0, .ref (G 0)), (1, .int h), (3, .int (yp_many u h))]) hx hb dY_clear_59 hl rfl (xinc _) (by decide) rfl (fun ls hl => ?_)
        refine lv_goto (tgt := 21) hx hb dY_clear_62 rfl ?_
        have hl : lv_has ls 5 [(4, .int (nI (i + 1))), (0, .ref (G 0)), (1, .int h), (3, .int (yp_many u h))] := by exact lv_sub hl [0, 1, 2, 3] rfl
        have e8 : yq_clearL u h (i + 1) = (upd (yq_clearL u h i) i ((yq_clearL u h i) i)) := by rw [yq_clearL]; rw [if_neg c44]
        have hP : va_P (dC, dI) vwCl (yW G C (sOw u (yq_clearL u h (i + 1)))) H := by rw [e8]; exact hP
        have hD : va_D A (yW G C (sOw u (yq_clearL u h (i + 1)))) := by rw [e8]; exact hD
        exact ih _ (by omega) (i + 1) _ _ _ rfl hi hP hD hS hl
      · refine lv_iconst (v := (-1)) hx hb dY_clear_47 (by decide) ?_
        refine lv_goto (tgt := 58) hx hb dY_clear_48 rfl ?_
        refine va_iast (f := (yq_clearL u h i)) hx hb hK hP hD hS 7 6 rfl rfl (vp_in_nI (by omega) (by decide)) dY_clear_58 (fun H locs hP hD hS => ?_)
        rw [nI_clamp (show i < 2 ^ 31 by omega)] at hP hD
        have hP : va_P (dC, dI) vwCl (yW G C (sOw (sOw u (yq_clearL u h i)) (upd (yq_clearL u h i) i (-1)))) H := hP
        have hD : va_D A (yW G C (sOw (sOw u (yq_clearL u h i)) (upd (yq_clearL u h i) i (-1)))) := hD
        refine lv_iinc (k := 0) (v := (nI (i + 1))) (lv' := [(4, .int (nI (i + 1))), (0, .ref (G 0)), (1, .int h), (3, .int (yp_many u h))]) hx hb dY_clear_59 hl rfl (xinc _) (by decide) rfl (fun ls hl => ?_)
        refine lv_goto (tgt := 21) hx hb dY_clear_62 rfl ?_
        have hl : lv_has ls 5 [(4, .int (nI (i + 1))), (0, .ref (G 0)), (1, .int h), (3, .int (yp_many u h))] := by exact lv_sub hl [0, 1, 2, 3] rfl
        have e8 : yq_clearL u h (i + 1) = (upd (yq_clearL u h i) i (-1)) := by rw [yq_clearL]; rw [if_pos c44]
        have hP : va_P (dC, dI) vwCl (yW G C (sOw u (yq_clearL u h (i + 1)))) H := by rw [e8]; exact hP
        have hD : va_D A (yW G C (sOw u (yq_clearL u h (i + 1)))) := by rw [e8]; exact hD
        exact ih _ (by omega) (i + 1) _ _ _ rfl hi hP hD hS hl
def yp_clear (u : xS) (h : Int32) : Int32 :=
  (if (yp_wrongHeap u h) = 0 then
    (yp_many u h)
  else (yp_wrongHeap u h))
def yq_clear (u : xS) (h : Int32) : xS :=
  (if (yp_wrongHeap u h) = 0 then
    (sFl (sOw u (yq_clearL u h (xn u))) (vp_updL (xfl u) (h).toNatClampNeg (-9223372036854775808)))
  else u)
set_option maxHeartbeats 4000000 in
set_option maxRecDepth 100000 in
theorem yb_clear {p : Program} {l : Launch} {e : Env} {s : State} {m : MethodId} {args : Array Value} {below : List Frame} {meth : Method} {c : Code} {Q : State → Prop} {A : Nat → Prop} {ls : Array Slot} {dC : Nat → ClassId} {dI : Nat → Nat → Nat} {G : Nat → Nat} {C : Nat → ClassId} {u : xS} {h : Int32} (hm : xm u ≤ 12) (hn : xn u ≤ 160) (B : CallFix p m c cY_clear 5 s args wsY_clear RX1) (hK : va_K (dC, dI) vwCl (yT C) s) (hA : ∀ q : Nat, s.heap.size ≤ q → A q) (hP : va_P (dC, dI) vwCl (yW G C u) s.heap) (hD : va_D A (yW G C u)) (hl : lv_has ls 5 [(0, .ref (G 0)), (1, .int h)]) (kk : (∀ (H : Heap) (locs : List Loc) (pc : Nat) (ls : Array Slot), decode cY_clear pc = .ok (.ireturn, 1) → va_P (dC, dI) vwCl (yW G C (yq_clear u h)) H → va_D A (yW G C (yq_clear u h)) → va_S A s.heap H locs → W p l e (xR 1 23) s m args below meth c H locs 0 0 Q (F0 m pc ls [.int (yp_clear u h)]))) : W p l e (xR 1 23) s m args below meth c s.heap [] 0 0 Q (F0 m 0 ls []) := by
  obtain ⟨hx, hb, hml, hown, hts⟩ := B
  have hS : va_S A s.heap s.heap [] := va_S.rf
  have hfw : ∀ w ∈ u_ws RX1 TX1 9, w ∈ wsY_clear := by decide +kernel
  refine lv_aload_n hx hb dY_clear_0 rfl (lv_at hl 0 rfl) ?_
  refine lv_iload_n hx hb dY_clear_1 rfl (lv_at hl 1 rfl) ?_
  refine xcall_i (ws := (yW G C u)) (wc := (yW G C u)) (wr := []) (w1 := (yW G C u)) (v := (yp_wrongHeap u h)) [0, 1, 2, 3, 4, 5, 6, 7] [] (va_runV (As := [.int h]) (rest := []) ⟨hx, hb, hml, hown, hts⟩ (yc_wrongHeap l dC dI G C _ u h hm) (cwV 1 hts gY_clear_Y_wrongHeap rfl rfl rfl (by decide +kernel) ⟨Nat.le_of_ble_eq_true rfl, Nat.le_of_ble_eq_true rfl⟩) (xpreV (q0 := 0) (ci := 1) (qc := (RX1, TX1, 9)) hK hP hD rfl rfl) rfl rfl hl.1 rfl (lv_room (Nat.le_of_ble_eq_true rfl)) dY_clear_2 ⟨Nat.zero_le _, Nat.zero_le _⟩) hP hD hS hA rfl rfl (by decide) (by decide) (fun H locs hP hD hS => ?_)
  have hP : va_P (dC, dI) vwCl (yW G C u) H := hP
  have hD : va_D A (yW G C u) := hD
  refine lv_istore_n (lv' := [(2, .int (yp_wrongHeap u h)), (0, .ref (G 0)), (1, .int h)]) hx hb dY_clear_5 rfl hl (by decide) rfl (fun ls hl => ?_)
  refine lv_iload_n hx hb dY_clear_6 rfl (lv_at hl 0 rfl) ?_
  refine lv_if_eq (tgt := 12) hx hb dY_clear_7 rfl (fun c7 => ?_) (fun c7 => ?_)
  · refine lv_aload_n hx hb dY_clear_12 rfl (lv_at hl 1 rfl) ?_
    refine lv_iload_n hx hb dY_clear_13 rfl (lv_at hl 2 rfl) ?_
    refine xcall_i (ws := (yW G C u)) (wc := (yW G C u)) (wr := []) (w1 := (yW G C u)) (v := (yp_many u h)) [0, 1, 2, 3, 4, 5, 6, 7] [] (va_runV (As := [.int h]) (rest := []) ⟨hx, hb, hml, hown, hts⟩ (yc_many l dC dI G C _ u h hn) (cwV 1 hts gY_clear_Y_many rfl rfl rfl (by decide +kernel) ⟨Nat.le_of_ble_eq_true rfl, Nat.le_of_ble_eq_true rfl⟩) (xpreV (q0 := 0) (ci := 1) (qc := (RX1, TX1, 9)) hK hP hD rfl rfl) rfl rfl hl.1 rfl (lv_room (Nat.le_of_ble_eq_true rfl)) dY_clear_14 ⟨Nat.zero_le _, Nat.zero_le _⟩) hP hD hS hA rfl rfl (by decide) (by decide) (fun H locs hP hD hS => ?_)
    have hP : va_P (dC, dI) vwCl (yW G C u) H := hP
    have hD : va_D A (yW G C u) := hD
    refine lv_istore_n (lv' := [(3, .int (yp_many u h)), (2, .int (yp_wrongHeap u h)), (0, .ref (G 0)), (1, .int h)]) hx hb dY_clear_17 rfl hl (by decide) rfl (fun ls hl => ?_)
    refine lv_iconst (v := 0) hx hb dY_clear_18 (by decide) ?_
    refine lv_istore (lv' := [(4, .int 0), (3, .int (yp_many u h)), (2, .int (yp_wrongHeap u h)), (0, .ref (G 0)), (1, .int h)]) hx hb dY_clear_19 hl (by decide) rfl (fun ls hl => ?_)
    refine yl_clear hn ⟨hx, hb, hml, hown, hts⟩ hK hA (fun H locs ls hP hD hS hl => ?_) _ 0 _ _ _ rfl (Nat.zero_le _) hP hD hS (lv_sub hl [0, 3, 4, 1] rfl)
    refine lv_aload_n hx hb dY_clear_65 rfl (lv_at hl 0 rfl) ?_
    refine va_get (D := (dC, dI)) (ci := 1) (v := .ref (G 4)) (C := RX1) (T := TX1) (N := 9) hx hb hts hfw hown hK hP 0 rfl rfl 4 (by decide) (hts (.fieldLink RX1 20 "MeldingHeapsModel" "floors" "[J") (by decide +kernel)) (fun _ h9 => h9) rfl dY_clear_66 ?_
    refine lv_iload_n hx hb dY_clear_69 rfl (lv_at hl 1 rfl) ?_
    refine lv_ldc2 (v := (-9223372036854775808)) hx hb hown (hts (.constantLong RX1 42 (-9223372036854775808)) (by decide +kernel)) dY_clear_70 ?_
    refine va_last (f := (xfl u)) hx hb hK hP hD hS 4 3 rfl rfl (yin_wH hm c7) dY_clear_73 (fun H locs hP hD hS => ?_)
    have hP : va_P (dC, dI) vwCl (yW G C (sFl (sOw u (yq_clearL u h (xn u))) (vp_updL (xfl u) (h).toNatClampNeg (-9223372036854775808)))) H := hP
    have hD : va_D A (yW G C (sFl (sOw u (yq_clearL u h (xn u))) (vp_updL (xfl u) (h).toNatClampNeg (-9223372036854775808)))) := hD
    refine lv_iload_n hx hb dY_clear_74 rfl (lv_at hl 2 rfl) ?_
    have e8 : yq_clear u h = (sFl (sOw u (yq_clearL u h (xn u))) (vp_updL (xfl u) (h).toNatClampNeg (-9223372036854775808))) := by unfold yq_clear; rw [if_pos c7]
    have e9 : yp_clear u h = (yp_many u h) := by unfold yp_clear; rw [if_pos c7]
    exact W.eq (congrArg (fun z => F0 m 75 ls [.int z]) e9.symm) (kk _ _ _ _ dY_clear_75 (by rw [e8]; exact hP) (by rw [e8]; exact hD) hS)
  · refine lv_iload_n hx hb dY_clear_10 rfl (lv_at hl 0 rfl) ?_
    have e8 : yq_clear u h = u := by unfold yq_clear; rw [if_neg c7]
    have e9 : yp_clear u h = (yp_wrongHeap u h) := by unfold yp_clear; rw [if_neg c7]
    exact W.eq (congrArg (fun z => F0 m 11 ls [.int z]) e9.symm) (kk _ _ _ _ dY_clear_11 (by rw [e8]; exact hP) (by rw [e8]; exact hD) hS)
theorem yc_clear (l : Launch) (dC : Nat → ClassId) (dI : Nat → Nat → Nat) (G : Nat → Nat) (C : Nat → ClassId) (sz : Nat) (u : xS) (h : Int32) (hm : xm u ≤ 12) (hn : xn u ≤ 160) : xMi l yY_clear wsY_clear (xR 1 23) dC dI (yT C) [.ref (G 0), .int h] (yW G C u) (yW G C (yq_clear u h)) (yp_clear u h) sz :=
  xmet_i (by decide) rfl rfl (Nat.le_of_ble_eq_true rfl) rfl (fun p e s m args below meth c Q A ls B hK hA hP hD hl kk => yb_clear hm hn B hK hA hP hD hl kk)
def yp_size (u : xS) (h : Int32) : Int32 :=
  (if (yp_wrongHeap u h) = 0 then
    (yp_many u h)
  else (yp_wrongHeap u h))
set_option maxHeartbeats 4000000 in
set_option maxRecDepth 100000 in
theorem yb_size {p : Program} {l : Launch} {e : Env} {s : State} {m : MethodId} {args : Array Value} {below : List Frame} {meth : Method} {c : Code} {Q : State → Prop} {A : Nat → Prop} {ls : Array Slot} {dC : Nat → ClassId} {dI : Nat → Nat → Nat} {G : Nat → Nat} {C : Nat → ClassId} {u : xS} {h : Int32} (hm : xm u ≤ 12) (hn : xn u ≤ 160) (B : CallFix p m c cY_size 3 s args wsY_size RX1) (hK : va_K (dC, dI) vwCl (yT C) s) (hA : ∀ q : Nat, s.heap.size ≤ q → A q) (hP : va_P (dC, dI) vwCl (yW G C u) s.heap) (hD : va_D A (yW G C u)) (hl : lv_has ls 3 [(0, .ref (G 0)), (1, .int h)]) (kk : (∀ (H : Heap) (locs : List Loc) (pc : Nat) (ls : Array Slot), decode cY_size pc = .ok (.ireturn, 1) → va_P (dC, dI) vwCl (yW G C u) H → va_D A (yW G C u) → va_S A s.heap H locs → W p l e (xR 1 23) s m args below meth c H locs 0 0 Q (F0 m pc ls [.int (yp_size u h)]))) : W p l e (xR 1 23) s m args below meth c s.heap [] 0 0 Q (F0 m 0 ls []) := by
  obtain ⟨hx, hb, hml, hown, hts⟩ := B
  have hS : va_S A s.heap s.heap [] := va_S.rf
  refine lv_aload_n hx hb dY_size_0 rfl (lv_at hl 0 rfl) ?_
  refine lv_iload_n hx hb dY_size_1 rfl (lv_at hl 1 rfl) ?_
  refine xcall_i (ws := (yW G C u)) (wc := (yW G C u)) (wr := []) (w1 := (yW G C u)) (v := (yp_wrongHeap u h)) [0, 1, 2, 3, 4, 5, 6, 7] [] (va_runV (As := [.int h]) (rest := []) ⟨hx, hb, hml, hown, hts⟩ (yc_wrongHeap l dC dI G C _ u h hm) (cwV 1 hts gY_size_Y_wrongHeap rfl rfl rfl (by decide +kernel) ⟨Nat.le_of_ble_eq_true rfl, Nat.le_of_ble_eq_true rfl⟩) (xpreV (q0 := 0) (ci := 1) (qc := (RX1, TX1, 9)) hK hP hD rfl rfl) rfl rfl hl.1 rfl (lv_room (Nat.le_of_ble_eq_true rfl)) dY_size_2 ⟨Nat.zero_le _, Nat.zero_le _⟩) hP hD hS hA rfl rfl (by decide) (by decide) (fun H locs hP hD hS => ?_)
  have hP : va_P (dC, dI) vwCl (yW G C u) H := hP
  have hD : va_D A (yW G C u) := hD
  refine lv_istore_n (lv' := [(2, .int (yp_wrongHeap u h)), (0, .ref (G 0)), (1, .int h)]) hx hb dY_size_5 rfl hl (by decide) rfl (fun ls hl => ?_)
  refine lv_iload_n hx hb dY_size_6 rfl (lv_at hl 0 rfl) ?_
  refine lv_if_eq (tgt := 14) hx hb dY_size_7 rfl (fun c7 => ?_) (fun c7 => ?_)
  · refine lv_aload_n hx hb dY_size_14 rfl (lv_at hl 1 rfl) ?_
    refine lv_iload_n hx hb dY_size_15 rfl (lv_at hl 2 rfl) ?_
    refine xcall_i (ws := (yW G C u)) (wc := (yW G C u)) (wr := []) (w1 := (yW G C u)) (v := (yp_many u h)) [0, 1, 2, 3, 4, 5, 6, 7] [] (va_runV (As := [.int h]) (rest := []) ⟨hx, hb, hml, hown, hts⟩ (yc_many l dC dI G C _ u h hn) (cwV 1 hts gY_size_Y_many rfl rfl rfl (by decide +kernel) ⟨Nat.le_of_ble_eq_true rfl, Nat.le_of_ble_eq_true rfl⟩) (xpreV (q0 := 0) (ci := 1) (qc := (RX1, TX1, 9)) hK hP hD rfl rfl) rfl rfl hl.1 rfl (lv_room (Nat.le_of_ble_eq_true rfl)) dY_size_16 ⟨Nat.zero_le _, Nat.zero_le _⟩) hP hD hS hA rfl rfl (by decide) (by decide) (fun H locs hP hD hS => ?_)
    have hP : va_P (dC, dI) vwCl (yW G C u) H := hP
    have hD : va_D A (yW G C u) := hD
    have e9 : yp_size u h = (yp_many u h) := by unfold yp_size; rw [if_pos c7]
    exact W.eq (congrArg (fun z => F0 m 19 ls [.int z]) e9.symm) (kk _ _ _ _ dY_size_19 hP hD hS)
  · refine lv_iload_n hx hb dY_size_10 rfl (lv_at hl 0 rfl) ?_
    refine lv_goto (tgt := 19) hx hb dY_size_11 rfl ?_
    have e9 : yp_size u h = (yp_wrongHeap u h) := by unfold yp_size; rw [if_neg c7]
    exact W.eq (congrArg (fun z => F0 m 19 ls [.int z]) e9.symm) (kk _ _ _ _ dY_size_19 hP hD hS)
theorem yc_size (l : Launch) (dC : Nat → ClassId) (dI : Nat → Nat → Nat) (G : Nat → Nat) (C : Nat → ClassId) (sz : Nat) (u : xS) (h : Int32) (hm : xm u ≤ 12) (hn : xn u ≤ 160) : xMi l yY_size wsY_size (xR 1 23) dC dI (yT C) [.ref (G 0), .int h] (yW G C u) (yW G C u) (yp_size u h) sz :=
  xmet_i (by decide) rfl rfl (Nat.le_of_ble_eq_true rfl) rfl (fun p e s m args below meth c Q A ls B hK hA hP hD hl kk => yb_size hm hn B hK hA hP hD hl kk)
def yp_floor (u : xS) (h : Int32) : Int64 :=
  (if (yp_wrongHeap u h) = 0 then
    ((xfl u) (h).toNatClampNeg)
  else (-9223372036854775808))
set_option maxHeartbeats 4000000 in
set_option maxRecDepth 100000 in
theorem yb_floor {p : Program} {l : Launch} {e : Env} {s : State} {m : MethodId} {args : Array Value} {below : List Frame} {meth : Method} {c : Code} {Q : State → Prop} {A : Nat → Prop} {ls : Array Slot} {dC : Nat → ClassId} {dI : Nat → Nat → Nat} {G : Nat → Nat} {C : Nat → ClassId} {u : xS} {h : Int32} (hm : xm u ≤ 12) (B : CallFix p m c cY_floor 2 s args wsY_floor RX1) (hK : va_K (dC, dI) vwCl (yT C) s) (hA : ∀ q : Nat, s.heap.size ≤ q → A q) (hP : va_P (dC, dI) vwCl (yW G C u) s.heap) (hD : va_D A (yW G C u)) (hl : lv_has ls 2 [(0, .ref (G 0)), (1, .int h)]) (kk : (∀ (H : Heap) (locs : List Loc) (pc : Nat) (ls : Array Slot), decode cY_floor pc = .ok (.lreturn, 1) → va_P (dC, dI) vwCl (yW G C u) H → va_D A (yW G C u) → va_S A s.heap H locs → W p l e (xR 1 21) s m args below meth c H locs 0 0 Q (F0 m pc ls [.long (yp_floor u h)]))) : W p l e (xR 1 21) s m args below meth c s.heap [] 0 0 Q (F0 m 0 ls []) := by
  obtain ⟨hx, hb, hml, hown, hts⟩ := B
  have hS : va_S A s.heap s.heap [] := va_S.rf
  have hfw : ∀ w ∈ u_ws RX1 TX1 9, w ∈ wsY_floor := by decide +kernel
  refine lv_aload_n hx hb dY_floor_0 rfl (lv_at hl 0 rfl) ?_
  refine lv_iload_n hx hb dY_floor_1 rfl (lv_at hl 1 rfl) ?_
  refine xcall_i (ws := (yW G C u)) (wc := (yW G C u)) (wr := []) (w1 := (yW G C u)) (v := (yp_wrongHeap u h)) [0, 1, 2, 3, 4, 5, 6, 7] [] (va_runV (As := [.int h]) (rest := []) ⟨hx, hb, hml, hown, hts⟩ (yc_wrongHeap l dC dI G C _ u h hm) (cwV 1 hts gY_floor_Y_wrongHeap rfl rfl rfl (by decide +kernel) ⟨Nat.le_of_ble_eq_true rfl, Nat.le_of_ble_eq_true rfl⟩) (xpreV (q0 := 0) (ci := 1) (qc := (RX1, TX1, 9)) hK hP hD rfl rfl) rfl rfl hl.1 rfl (lv_room (Nat.le_of_ble_eq_true rfl)) dY_floor_2 ⟨Nat.zero_le _, Nat.zero_le _⟩) hP hD hS hA rfl rfl (by decide) (by decide) (fun H locs hP hD hS => ?_)
  have hP : va_P (dC, dI) vwCl (yW G C u) H := hP
  have hD : va_D A (yW G C u) := hD
  refine lv_if_ne (tgt := 17) hx hb dY_floor_5 rfl (fun c5 => ?_) (fun c5 => ?_)
  · refine lv_ldc2 (v := (-9223372036854775808)) hx hb hown (hts (.constantLong RX1 42 (-9223372036854775808)) (by decide +kernel)) dY_floor_17 ?_
    have e9 : yp_floor u h = (-9223372036854775808) := by unfold yp_floor; rw [if_neg c5]
    exact W.eq (congrArg (fun z => F0 m 20 ls [.long z]) e9.symm) (kk _ _ _ _ dY_floor_20 hP hD hS)
  · refine lv_aload_n hx hb dY_floor_8 rfl (lv_at hl 0 rfl) ?_
    refine va_get (D := (dC, dI)) (ci := 1) (v := .ref (G 4)) (C := RX1) (T := TX1) (N := 9) hx hb hts hfw hown hK hP 0 rfl rfl 4 (by decide) (hts (.fieldLink RX1 20 "MeldingHeapsModel" "floors" "[J") (by decide +kernel)) (fun _ h9 => h9) rfl dY_floor_9 ?_
    refine lv_iload_n hx hb dY_floor_12 rfl (lv_at hl 1 rfl) ?_
    refine va_lald (f := (xfl u)) hx hb hK hP 4 3 rfl rfl (yin_wH hm c5) dY_floor_13 ?_
    refine lv_goto (tgt := 20) hx hb dY_floor_14 rfl ?_
    have e9 : yp_floor u h = ((xfl u) (h).toNatClampNeg) := by unfold yp_floor; rw [if_pos c5]
    exact W.eq (congrArg (fun z => F0 m 20 ls [.long z]) e9.symm) (kk _ _ _ _ dY_floor_20 hP hD hS)
theorem yc_floor (l : Launch) (dC : Nat → ClassId) (dI : Nat → Nat → Nat) (G : Nat → Nat) (C : Nat → ClassId) (sz : Nat) (u : xS) (h : Int32) (hm : xm u ≤ 12) : xMl l yY_floor wsY_floor (xR 1 21) dC dI (yT C) [.ref (G 0), .int h] (yW G C u) (yW G C u) (yp_floor u h) sz :=
  xmet_l (by decide) rfl (Nat.le_of_ble_eq_true rfl) rfl (fun p e s m args below meth c Q A ls B hK hA hP hD hl kk => yb_floor hm B hK hA hP hD hl kk)
def yp_key (u : xS) (a : Int32) : Int64 :=
  (if (yp_wrongEntry u a) = 0 then
    ((xky u) (a).toNatClampNeg)
  else 0)
set_option maxHeartbeats 4000000 in
set_option maxRecDepth 100000 in
theorem yb_key {p : Program} {l : Launch} {e : Env} {s : State} {m : MethodId} {args : Array Value} {below : List Frame} {meth : Method} {c : Code} {Q : State → Prop} {A : Nat → Prop} {ls : Array Slot} {dC : Nat → ClassId} {dI : Nat → Nat → Nat} {G : Nat → Nat} {C : Nat → ClassId} {u : xS} {a : Int32} (hn : xn u ≤ 160) (B : CallFix p m c cY_key 2 s args wsY_key RX1) (hK : va_K (dC, dI) vwCl (yT C) s) (hA : ∀ q : Nat, s.heap.size ≤ q → A q) (hP : va_P (dC, dI) vwCl (yW G C u) s.heap) (hD : va_D A (yW G C u)) (hl : lv_has ls 2 [(0, .ref (G 0)), (1, .int a)]) (kk : (∀ (H : Heap) (locs : List Loc) (pc : Nat) (ls : Array Slot), decode cY_key pc = .ok (.lreturn, 1) → va_P (dC, dI) vwCl (yW G C u) H → va_D A (yW G C u) → va_S A s.heap H locs → W p l e (xR 1 21) s m args below meth c H locs 0 0 Q (F0 m pc ls [.long (yp_key u a)]))) : W p l e (xR 1 21) s m args below meth c s.heap [] 0 0 Q (F0 m 0 ls []) := by
  obtain ⟨hx, hb, hml, hown, hts⟩ := B
  have hS : va_S A s.heap s.heap [] := va_S.rf
  have hfw : ∀ w ∈ u_ws RX1 TX1 9, w ∈ wsY_key := by decide +kernel
  refine lv_aload_n hx hb dY_key_0 rfl (lv_at hl 0 rfl) ?_
  refine lv_iload_n hx hb dY_key_1 rfl (lv_at hl 1 rfl) ?_
  refine xcall_i (ws := (yW G C u)) (wc := (yW G C u)) (wr := []) (w1 := (yW G C u)) (v := (yp_wrongEntry u a)) [0, 1, 2, 3, 4, 5, 6, 7] [] (va_runV (As := [.int a]) (rest := []) ⟨hx, hb, hml, hown, hts⟩ (yc_wrongEntry l dC dI G C _ u a hn) (cwV 1 hts gY_key_Y_wrongEntry rfl rfl rfl (by decide +kernel) ⟨Nat.le_of_ble_eq_true rfl, Nat.le_of_ble_eq_true rfl⟩) (xpreV (q0 := 0) (ci := 1) (qc := (RX1, TX1, 9)) hK hP hD rfl rfl) rfl rfl hl.1 rfl (lv_room (Nat.le_of_ble_eq_true rfl)) dY_key_2 ⟨Nat.zero_le _, Nat.zero_le _⟩) hP hD hS hA rfl rfl (by decide) (by decide) (fun H locs hP hD hS => ?_)
  have hP : va_P (dC, dI) vwCl (yW G C u) H := hP
  have hD : va_D A (yW G C u) := hD
  refine lv_if_ne (tgt := 17) hx hb dY_key_5 rfl (fun c5 => ?_) (fun c5 => ?_)
  · refine lv_lconst (v := 0) hx hb dY_key_17 (by decide) ?_
    have e9 : yp_key u a = 0 := by unfold yp_key; rw [if_neg c5]
    exact W.eq (congrArg (fun z => F0 m 18 ls [.long z]) e9.symm) (kk _ _ _ _ dY_key_18 hP hD hS)
  · refine lv_aload_n hx hb dY_key_8 rfl (lv_at hl 0 rfl) ?_
    refine va_get (D := (dC, dI)) (ci := 1) (v := .ref (G 5)) (C := RX1) (T := TX1) (N := 9) hx hb hts hfw hown hK hP 0 rfl rfl 6 (by decide) (hts (.fieldLink RX1 24 "MeldingHeapsModel" "keys" "[J") (by decide +kernel)) (fun _ h9 => h9) rfl dY_key_9 ?_
    refine lv_iload_n hx hb dY_key_12 rfl (lv_at hl 1 rfl) ?_
    refine va_lald (f := (xky u)) hx hb hK hP 5 4 rfl rfl ((yin_wE hn c5).1) dY_key_13 ?_
    refine lv_goto (tgt := 18) hx hb dY_key_14 rfl ?_
    have e9 : yp_key u a = ((xky u) (a).toNatClampNeg) := by unfold yp_key; rw [if_pos c5]
    exact W.eq (congrArg (fun z => F0 m 18 ls [.long z]) e9.symm) (kk _ _ _ _ dY_key_18 hP hD hS)
theorem yc_key (l : Launch) (dC : Nat → ClassId) (dI : Nat → Nat → Nat) (G : Nat → Nat) (C : Nat → ClassId) (sz : Nat) (u : xS) (a : Int32) (hn : xn u ≤ 160) : xMl l yY_key wsY_key (xR 1 21) dC dI (yT C) [.ref (G 0), .int a] (yW G C u) (yW G C u) (yp_key u a) sz :=
  xmet_l (by decide) rfl (Nat.le_of_ble_eq_true rfl) rfl (fun p e s m args below meth c Q A ls B hK hA hP hD hl kk => yb_key hn B hK hA hP hD hl kk)
def yp_value (u : xS) (a : Int32) : Int32 :=
  (if (yp_wrongEntry u a) = 0 then
    ((xvl u) (a).toNatClampNeg)
  else 0)
set_option maxHeartbeats 4000000 in
set_option maxRecDepth 100000 in
theorem yb_value {p : Program} {l : Launch} {e : Env} {s : State} {m : MethodId} {args : Array Value} {below : List Frame} {meth : Method} {c : Code} {Q : State → Prop} {A : Nat → Prop} {ls : Array Slot} {dC : Nat → ClassId} {dI : Nat → Nat → Nat} {G : Nat → Nat} {C : Nat → ClassId} {u : xS} {a : Int32} (hn : xn u ≤ 160) (B : CallFix p m c cY_value 2 s args wsY_value RX1) (hK : va_K (dC, dI) vwCl (yT C) s) (hA : ∀ q : Nat, s.heap.size ≤ q → A q) (hP : va_P (dC, dI) vwCl (yW G C u) s.heap) (hD : va_D A (yW G C u)) (hl : lv_has ls 2 [(0, .ref (G 0)), (1, .int a)]) (kk : (∀ (H : Heap) (locs : List Loc) (pc : Nat) (ls : Array Slot), decode cY_value pc = .ok (.ireturn, 1) → va_P (dC, dI) vwCl (yW G C u) H → va_D A (yW G C u) → va_S A s.heap H locs → W p l e (xR 1 21) s m args below meth c H locs 0 0 Q (F0 m pc ls [.int (yp_value u a)]))) : W p l e (xR 1 21) s m args below meth c s.heap [] 0 0 Q (F0 m 0 ls []) := by
  obtain ⟨hx, hb, hml, hown, hts⟩ := B
  have hS : va_S A s.heap s.heap [] := va_S.rf
  have hfw : ∀ w ∈ u_ws RX1 TX1 9, w ∈ wsY_value := by decide +kernel
  refine lv_aload_n hx hb dY_value_0 rfl (lv_at hl 0 rfl) ?_
  refine lv_iload_n hx hb dY_value_1 rfl (lv_at hl 1 rfl) ?_
  refine xcall_i (ws := (yW G C u)) (wc := (yW G C u)) (wr := []) (w1 := (yW G C u)) (v := (yp_wrongEntry u a)) [0, 1, 2, 3, 4, 5, 6, 7] [] (va_runV (As := [.int a]) (rest := []) ⟨hx, hb, hml, hown, hts⟩ (yc_wrongEntry l dC dI G C _ u a hn) (cwV 1 hts gY_value_Y_wrongEntry rfl rfl rfl (by decide +kernel) ⟨Nat.le_of_ble_eq_true rfl, Nat.le_of_ble_eq_true rfl⟩) (xpreV (q0 := 0) (ci := 1) (qc := (RX1, TX1, 9)) hK hP hD rfl rfl) rfl rfl hl.1 rfl (lv_room (Nat.le_of_ble_eq_true rfl)) dY_value_2 ⟨Nat.zero_le _, Nat.zero_le _⟩) hP hD hS hA rfl rfl (by decide) (by decide) (fun H locs hP hD hS => ?_)
  have hP : va_P (dC, dI) vwCl (yW G C u) H := hP
  have hD : va_D A (yW G C u) := hD
  refine lv_if_ne (tgt := 17) hx hb dY_value_5 rfl (fun c5 => ?_) (fun c5 => ?_)
  · refine lv_iconst (v := 0) hx hb dY_value_17 (by decide) ?_
    have e9 : yp_value u a = 0 := by unfold yp_value; rw [if_neg c5]
    exact W.eq (congrArg (fun z => F0 m 18 ls [.int z]) e9.symm) (kk _ _ _ _ dY_value_18 hP hD hS)
  · refine lv_aload_n hx hb dY_value_8 rfl (lv_at hl 0 rfl) ?_
    refine va_get (D := (dC, dI)) (ci := 1) (v := .ref (G 6)) (C := RX1) (T := TX1) (N := 9) hx hb hts hfw hown hK hP 0 rfl rfl 7 (by decide) (hts (.fieldLink RX1 27 "MeldingHeapsModel" "values" "[I") (by decide +kernel)) (fun _ h9 => h9) rfl dY_value_9 ?_
    refine lv_iload_n hx hb dY_value_12 rfl (lv_at hl 1 rfl) ?_
    refine va_iald (f := (xvl u)) hx hb hK hP 6 5 rfl rfl ((yin_wE hn c5).1) dY_value_13 ?_
    refine lv_goto (tgt := 18) hx hb dY_value_14 rfl ?_
    have e9 : yp_value u a = ((xvl u) (a).toNatClampNeg) := by unfold yp_value; rw [if_pos c5]
    exact W.eq (congrArg (fun z => F0 m 18 ls [.int z]) e9.symm) (kk _ _ _ _ dY_value_18 hP hD hS)
theorem yc_value (l : Launch) (dC : Nat → ClassId) (dI : Nat → Nat → Nat) (G : Nat → Nat) (C : Nat → ClassId) (sz : Nat) (u : xS) (a : Int32) (hn : xn u ≤ 160) : xMi l yY_value wsY_value (xR 1 21) dC dI (yT C) [.ref (G 0), .int a] (yW G C u) (yW G C u) (yp_value u a) sz :=
  xmet_i (by decide) rfl rfl (Nat.le_of_ble_eq_true rfl) rfl (fun p e s m args below meth c Q A ls B hK hA hP hD hl kk => yb_value hn B hK hA hP hD hl kk)
def yp_owner (u : xS) (a : Int32) : Int32 :=
  (if (yp_wrongEntry u a) = 0 then
    ((xow u) (a).toNatClampNeg)
  else (yp_wrongEntry u a))
set_option maxHeartbeats 4000000 in
set_option maxRecDepth 100000 in
theorem yb_owner {p : Program} {l : Launch} {e : Env} {s : State} {m : MethodId} {args : Array Value} {below : List Frame} {meth : Method} {c : Code} {Q : State → Prop} {A : Nat → Prop} {ls : Array Slot} {dC : Nat → ClassId} {dI : Nat → Nat → Nat} {G : Nat → Nat} {C : Nat → ClassId} {u : xS} {a : Int32} (hn : xn u ≤ 160) (B : CallFix p m c cY_owner 3 s args wsY_owner RX1) (hK : va_K (dC, dI) vwCl (yT C) s) (hA : ∀ q : Nat, s.heap.size ≤ q → A q) (hP : va_P (dC, dI) vwCl (yW G C u) s.heap) (hD : va_D A (yW G C u)) (hl : lv_has ls 3 [(0, .ref (G 0)), (1, .int a)]) (kk : (∀ (H : Heap) (locs : List Loc) (pc : Nat) (ls : Array Slot), decode cY_owner pc = .ok (.ireturn, 1) → va_P (dC, dI) vwCl (yW G C u) H → va_D A (yW G C u) → va_S A s.heap H locs → W p l e (xR 1 21) s m args below meth c H locs 0 0 Q (F0 m pc ls [.int (yp_owner u a)]))) : W p l e (xR 1 21) s m args below meth c s.heap [] 0 0 Q (F0 m 0 ls []) := by
  obtain ⟨hx, hb, hml, hown, hts⟩ := B
  have hS : va_S A s.heap s.heap [] := va_S.rf
  have hfw : ∀ w ∈ u_ws RX1 TX1 9, w ∈ wsY_owner := by decide +kernel
  refine lv_aload_n hx hb dY_owner_0 rfl (lv_at hl 0 rfl) ?_
  refine lv_iload_n hx hb dY_owner_1 rfl (lv_at hl 1 rfl) ?_
  refine xcall_i (ws := (yW G C u)) (wc := (yW G C u)) (wr := []) (w1 := (yW G C u)) (v := (yp_wrongEntry u a)) [0, 1, 2, 3, 4, 5, 6, 7] [] (va_runV (As := [.int a]) (rest := []) ⟨hx, hb, hml, hown, hts⟩ (yc_wrongEntry l dC dI G C _ u a hn) (cwV 1 hts gY_owner_Y_wrongEntry rfl rfl rfl (by decide +kernel) ⟨Nat.le_of_ble_eq_true rfl, Nat.le_of_ble_eq_true rfl⟩) (xpreV (q0 := 0) (ci := 1) (qc := (RX1, TX1, 9)) hK hP hD rfl rfl) rfl rfl hl.1 rfl (lv_room (Nat.le_of_ble_eq_true rfl)) dY_owner_2 ⟨Nat.zero_le _, Nat.zero_le _⟩) hP hD hS hA rfl rfl (by decide) (by decide) (fun H locs hP hD hS => ?_)
  have hP : va_P (dC, dI) vwCl (yW G C u) H := hP
  have hD : va_D A (yW G C u) := hD
  refine lv_istore_n (lv' := [(2, .int (yp_wrongEntry u a)), (0, .ref (G 0)), (1, .int a)]) hx hb dY_owner_5 rfl hl (by decide) rfl (fun ls hl => ?_)
  refine lv_iload_n hx hb dY_owner_6 rfl (lv_at hl 0 rfl) ?_
  refine lv_if_eq (tgt := 14) hx hb dY_owner_7 rfl (fun c7 => ?_) (fun c7 => ?_)
  · refine lv_aload_n hx hb dY_owner_14 rfl (lv_at hl 1 rfl) ?_
    refine va_get (D := (dC, dI)) (ci := 1) (v := .ref (G 7)) (C := RX1) (T := TX1) (N := 9) hx hb hts hfw hown hK hP 0 rfl rfl 8 (by decide) (hts (.fieldLink RX1 30 "MeldingHeapsModel" "homes" "[I") (by decide +kernel)) (fun _ h9 => h9) rfl dY_owner_15 ?_
    refine lv_iload_n hx hb dY_owner_18 rfl (lv_at hl 2 rfl) ?_
    refine va_iald (f := (xow u)) hx hb hK hP 7 6 rfl rfl ((yin_wE hn c7).1) dY_owner_19 ?_
    have e9 : yp_owner u a = ((xow u) (a).toNatClampNeg) := by unfold yp_owner; rw [if_pos c7]
    exact W.eq (congrArg (fun z => F0 m 20 ls [.int z]) e9.symm) (kk _ _ _ _ dY_owner_20 hP hD hS)
  · refine lv_iload_n hx hb dY_owner_10 rfl (lv_at hl 0 rfl) ?_
    refine lv_goto (tgt := 20) hx hb dY_owner_11 rfl ?_
    have e9 : yp_owner u a = (yp_wrongEntry u a) := by unfold yp_owner; rw [if_neg c7]
    exact W.eq (congrArg (fun z => F0 m 20 ls [.int z]) e9.symm) (kk _ _ _ _ dY_owner_20 hP hD hS)
theorem yc_owner (l : Launch) (dC : Nat → ClassId) (dI : Nat → Nat → Nat) (G : Nat → Nat) (C : Nat → ClassId) (sz : Nat) (u : xS) (a : Int32) (hn : xn u ≤ 160) : xMi l yY_owner wsY_owner (xR 1 21) dC dI (yT C) [.ref (G 0), .int a] (yW G C u) (yW G C u) (yp_owner u a) sz :=
  xmet_i (by decide) rfl rfl (Nat.le_of_ble_eq_true rfl) rfl (fun p e s m args below meth c Q A ls B hK hA hP hD hl kk => yb_owner hn B hK hA hP hD hl kk)
def yp_before (u : xS) (a : Int32) : Int32 :=
  (if (yp_wrongEntry u a) = 0 then
    (yp_rank u a)
  else (yp_wrongEntry u a))
set_option maxHeartbeats 4000000 in
set_option maxRecDepth 100000 in
theorem yb_before {p : Program} {l : Launch} {e : Env} {s : State} {m : MethodId} {args : Array Value} {below : List Frame} {meth : Method} {c : Code} {Q : State → Prop} {A : Nat → Prop} {ls : Array Slot} {dC : Nat → ClassId} {dI : Nat → Nat → Nat} {G : Nat → Nat} {C : Nat → ClassId} {u : xS} {a : Int32} (hn : xn u ≤ 160) (ho : ∀ j : Nat, j < xn u → xow u j = -1 ∨ vp_in (xow u j) 12) (B : CallFix p m c cY_before 3 s args wsY_before RX1) (hK : va_K (dC, dI) vwCl (yT C) s) (hA : ∀ q : Nat, s.heap.size ≤ q → A q) (hP : va_P (dC, dI) vwCl (yW G C u) s.heap) (hD : va_D A (yW G C u)) (hl : lv_has ls 3 [(0, .ref (G 0)), (1, .int a)]) (kk : (∀ (H : Heap) (locs : List Loc) (pc : Nat) (ls : Array Slot), decode cY_before pc = .ok (.ireturn, 1) → va_P (dC, dI) vwCl (yW G C u) H → va_D A (yW G C u) → va_S A s.heap H locs → W p l e (xR 2 52) s m args below meth c H locs 0 0 Q (F0 m pc ls [.int (yp_before u a)]))) : W p l e (xR 2 52) s m args below meth c s.heap [] 0 0 Q (F0 m 0 ls []) := by
  obtain ⟨hx, hb, hml, hown, hts⟩ := B
  have hS : va_S A s.heap s.heap [] := va_S.rf
  refine lv_aload_n hx hb dY_before_0 rfl (lv_at hl 0 rfl) ?_
  refine lv_iload_n hx hb dY_before_1 rfl (lv_at hl 1 rfl) ?_
  refine xcall_i (ws := (yW G C u)) (wc := (yW G C u)) (wr := []) (w1 := (yW G C u)) (v := (yp_wrongEntry u a)) [0, 1, 2, 3, 4, 5, 6, 7] [] (va_runV (As := [.int a]) (rest := []) ⟨hx, hb, hml, hown, hts⟩ (yc_wrongEntry l dC dI G C _ u a hn) (cwV 1 hts gY_before_Y_wrongEntry rfl rfl rfl (by decide +kernel) ⟨Nat.le_of_ble_eq_true rfl, Nat.le_of_ble_eq_true rfl⟩) (xpreV (q0 := 0) (ci := 1) (qc := (RX1, TX1, 9)) hK hP hD rfl rfl) rfl rfl hl.1 rfl (lv_room (Nat.le_of_ble_eq_true rfl)) dY_before_2 ⟨Nat.zero_le _, Nat.zero_le _⟩) hP hD hS hA rfl rfl (by decide) (by decide) (fun H locs hP hD hS => ?_)
  have hP : va_P (dC, dI) vwCl (yW G C u) H := hP
  have hD : va_D A (yW G C u) := hD
  refine lv_istore_n (lv' := [(2, .int (yp_wrongEntry u a)), (0, .ref (G 0)), (1, .int a)]) hx hb dY_before_5 rfl hl (by decide) rfl (fun ls hl => ?_)
  refine lv_iload_n hx hb dY_before_6 rfl (lv_at hl 0 rfl) ?_
  refine lv_if_eq (tgt := 14) hx hb dY_before_7 rfl (fun c7 => ?_) (fun c7 => ?_)
  · refine lv_aload_n hx hb dY_before_14 rfl (lv_at hl 1 rfl) ?_
    refine lv_iload_n hx hb dY_before_15 rfl (lv_at hl 2 rfl) ?_
    refine xcall_i (ws := (yW G C u)) (wc := (yW G C u)) (wr := []) (w1 := (yW G C u)) (v := (yp_rank u a)) [0, 1, 2, 3, 4, 5, 6, 7] [] (va_runV (As := [.int a]) (rest := []) ⟨hx, hb, hml, hown, hts⟩ (yc_rank l dC dI G C _ u a hn (yin_wE hn c7).1 (yin_own hn ho c7)) (cwV 1 hts gY_before_Y_rank rfl rfl rfl (by decide +kernel) ⟨Nat.le_of_ble_eq_true rfl, Nat.le_of_ble_eq_true rfl⟩) (xpreV (q0 := 0) (ci := 1) (qc := (RX1, TX1, 9)) hK hP hD rfl rfl) rfl rfl hl.1 rfl (lv_room (Nat.le_of_ble_eq_true rfl)) dY_before_16 ⟨Nat.zero_le _, Nat.zero_le _⟩) hP hD hS hA rfl rfl (by decide) (by decide) (fun H locs hP hD hS => ?_)
    have hP : va_P (dC, dI) vwCl (yW G C u) H := hP
    have hD : va_D A (yW G C u) := hD
    have e9 : yp_before u a = (yp_rank u a) := by unfold yp_before; rw [if_pos c7]
    exact W.eq (congrArg (fun z => F0 m 19 ls [.int z]) e9.symm) (kk _ _ _ _ dY_before_19 hP hD hS)
  · refine lv_iload_n hx hb dY_before_10 rfl (lv_at hl 0 rfl) ?_
    refine lv_goto (tgt := 19) hx hb dY_before_11 rfl ?_
    have e9 : yp_before u a = (yp_wrongEntry u a) := by unfold yp_before; rw [if_neg c7]
    exact W.eq (congrArg (fun z => F0 m 19 ls [.int z]) e9.symm) (kk _ _ _ _ dY_before_19 hP hD hS)
theorem yc_before (l : Launch) (dC : Nat → ClassId) (dI : Nat → Nat → Nat) (G : Nat → Nat) (C : Nat → ClassId) (sz : Nat) (u : xS) (a : Int32) (hn : xn u ≤ 160) (ho : ∀ j : Nat, j < xn u → xow u j = -1 ∨ vp_in (xow u j) 12) : xMi l yY_before wsY_before (xR 2 52) dC dI (yT C) [.ref (G 0), .int a] (yW G C u) (yW G C u) (yp_before u a) sz :=
  xmet_i (by decide) rfl rfl (Nat.le_of_ble_eq_true rfl) rfl (fun p e s m args below meth c Q A ls B hK hA hP hD hl kk => yb_before hn ho B hK hA hP hD hl kk)
