def yu0 : xS := (0, 0, fun _ => 0, fun _ => 0, fun _ => 0, fun _ => 0, fun _ => 0, fun _ => 0, fun _ => 0)
def yGf (h0 q1 q2 q3 q4 q5 q6 q7 : Nat) : Nat → Nat := fun k => match k with
  | 0 => h0
  | 1 => q1
  | 2 => q2
  | 3 => q3
  | 4 => q4
  | 5 => q5
  | 6 => q6
  | _ => q7
def yCf (k1 k2 k3 k4 k5 k6 k7 : ClassId) : Nat → ClassId := fun k => match k with
  | 0 => k1
  | 1 => k1
  | 2 => k2
  | 3 => k3
  | 4 => k4
  | 5 => k5
  | 6 => k6
  | _ => k7
set_option maxHeartbeats 4000000 in
set_option maxRecDepth 100000 in
theorem yc_init (l : Launch) (dC : Nat → ClassId) (dI : Nat → Nat → Nat) (h0 : Nat) (sz : Nat) : Met l yY_init wsY_init ({ frames := 1, cells := 7, slots := 528, locals := 12 }) (va_Pc [.ref h0] (fun U => U.heap.size = sz ∧ va_P (dC, dI) vwCl [(h0, .inr (1, [.int 0, .null, .null, .null, .null, .int 0, .null, .null, .null]))] U.heap ∧ va_K (dC, dI) vwCl [] U ∧ va_D (fun _ => True) [(h0, .inr (1, [.int 0, .null, .null, .null, .null, .int 0, .null, .null, .null]))])) (va_Qv (fun u : (Nat → Nat) × (Nat → ClassId) => u.1 0 = h0) (fun u t => va_P (dC, dI) vwCl (yW u.1 u.2 yu0) t.heap ∧ va_K (dC, dI) vwCl (yT u.2) t ∧ va_D (va_A [(h0, .inr (1, [.int 0, .null, .null, .null, .null, .int 0, .null, .null, .null]))] sz) (yW u.1 u.2 yu0)) (va_A [(h0, .inr (1, [.int 0, .null, .null, .null, .null, .int 0, .null, .null, .null]))] sz)) 7 528 (va_A [(h0, .inr (1, [.int 0, .null, .null, .null, .null, .int 0, .null, .null, .null]))] sz) := by
  refine Met.ofW (cc := cY_init) (maxL := 1) (ret := none) (by decide) rfl ?_
  intro p e s m args below meth c s₁ B hml hv
  obtain ⟨rfl, hsz, hP, hK, hD0⟩ := hv
  have hx := B.exec
  have hb := B.bytes
  have hr := B.returns
  have hts := atoms_spec (ws := wsY_init) B.pre
  have hown : s.vm.findClass RX1 = some m.cls := findClass_of_methodNamed B.named
  have hlocks := B.notSynchronized
  have hin : meth.name = "<init>" := (name_of_methodNamed B.named B.method).1
  subst hsz
  have hD := hD0.self (sz := s.heap.size)
  generalize hAe : va_A [(h0, .inr (1, [.int 0, .null, .null, .null, .null, .int 0, .null, .null, .null]))] s.heap.size = A at hD ⊢
  have hA : ∀ q : Nat, s.heap.size ≤ q → A q := fun q h => by rw [← hAe]; exact Or.inr h
  have hS : va_S A s.heap s.heap [] := va_S.rf
  have hP : va_P (dC, dI) vwCl [(h0, .inr (1, [.int 0, .null, .null, .null, .null, .int 0, .null, .null, .null]))] s.heap := hP
  have hl := lv_entry ([.ref h0]) (n := 1) (Nat.le_of_ble_eq_true rfl)
  rw [lg_entry_eq]
  generalize (lg_sl ([.ref h0]) ++ List.replicate (1 - (lg_sl ([.ref h0])).length) Slot.unset).toArray = ls at hl ⊢
  have hl : lv_has ls 1 [(0, .ref h0)] := hl
  refine lv_aload_n hx hb dY_init_0 rfl (lv_at hl 0 rfl) ?_
  refine W.objInit hx hb hown (hts (.methodLink RX1 1 objectInit) (by decide +kernel)) (hts (.instanceMethod objectInit) (by decide +kernel)) (hts _ (List.mem_of_getElem? (i := 3) rfl)) rfl (by rw [hml]; exact hl.1) rfl dY_init_1 (Nat.le_of_ble_eq_true rfl) (Nat.le_of_ble_eq_true rfl) ?_
  refine W.eq (g2 := F0 m 4 ls []) rfl ?_
  refine lv_aload_n hx hb dY_init_4 rfl (lv_at hl 0 rfl) ?_
  refine lv_bipush (v := 12) hx hb dY_init_5 (by decide) ?_
  refine va_newa (atype := .int) (ty := .int) (n := 12) (N' := 12) (a0 := (12, .inl (fun _ => 0))) hx hb (hts (.arrayClass .int) (by decide +kernel)) rfl hK hP hD hS hA (xz_i 12) (by decide) (by decide) (by decide) (Nat.le_of_ble_eq_true rfl) (Nat.le_of_ble_eq_true rfl) dY_init_7 (fun q1 k1 H hK hP hD hS => ?_)
  have hP : va_P (dC, dI) vwCl [(h0, .inr (1, [.int 0, .null, .null, .null, .null, .int 0, .null, .null, .null])), (q1, .inl (k1, 12, .inl (fun _ => 0)))] H := hP
  have hD : va_D A [(h0, .inr (1, [.int 0, .null, .null, .null, .null, .int 0, .null, .null, .null])), (q1, .inl (k1, 12, .inl (fun _ => 0)))] := hD
  have hK : va_K (dC, dI) vwCl [(k1, .int)] s := hK
  refine W.widen (k := 1) (n := 12) (by omega) (by omega) ?_
  refine va_putF (D := (dC, dI)) (ci := 1) (v := .ref q1) (ty := .array .int) (C := RX1) (T := TX1) (N := 9) hx hb hts (by decide +kernel) tyX1 tyX1_ok nmX1 hown hK hP hD hS 0 rfl rfl 1 (by decide) (hts (.fieldLink RX1 7 "MeldingHeapsModel" "kinds" "[I") (by decide +kernel)) (fun _ h9 => h9) rfl hin rfl (by decide +kernel) rfl rfl (Nat.le_of_ble_eq_true rfl) dY_init_9 (fun H locs hP hD hS => ?_)
  have hP : va_P (dC, dI) vwCl [(h0, .inr (1, [.int 0, .ref q1, .null, .null, .null, .int 0, .null, .null, .null])), (q1, .inl (k1, 12, .inl (fun _ => 0)))] H := hP
  have hD : va_D A [(h0, .inr (1, [.int 0, .ref q1, .null, .null, .null, .int 0, .null, .null, .null])), (q1, .inl (k1, 12, .inl (fun _ => 0)))] := hD
  refine lv_aload_n hx hb dY_init_12 rfl (lv_at hl 0 rfl) ?_
  refine lv_bipush (v := 12) hx hb dY_init_13 (by decide) ?_
  refine va_newa (atype := .int) (ty := .int) (n := 12) (N' := 12) (a0 := (12, .inl (fun _ => 0))) hx hb (hts (.arrayClass .int) (by decide +kernel)) rfl hK hP hD hS hA (xz_i 12) (by decide) (by decide) (by decide) (Nat.le_of_ble_eq_true rfl) (Nat.le_of_ble_eq_true rfl) dY_init_15 (fun q2 k2 H hK hP hD hS => ?_)
  have hP : va_P (dC, dI) vwCl [(h0, .inr (1, [.int 0, .ref q1, .null, .null, .null, .int 0, .null, .null, .null])), (q1, .inl (k1, 12, .inl (fun _ => 0))), (q2, .inl (k2, 12, .inl (fun _ => 0)))] H := hP
  have hD : va_D A [(h0, .inr (1, [.int 0, .ref q1, .null, .null, .null, .int 0, .null, .null, .null])), (q1, .inl (k1, 12, .inl (fun _ => 0))), (q2, .inl (k2, 12, .inl (fun _ => 0)))] := hD
  have hK : va_K (dC, dI) vwCl [(k1, .int), (k2, .int)] s := hK
  refine W.widen (k := 2) (n := 24) (by omega) (by omega) ?_
  refine va_putF (D := (dC, dI)) (ci := 1) (v := .ref q2) (ty := .array .int) (C := RX1) (T := TX1) (N := 9) hx hb hts (by decide +kernel) tyX1 tyX1_ok nmX1 hown hK hP hD hS 0 rfl rfl 2 (by decide) (hts (.fieldLink RX1 13 "MeldingHeapsModel" "orders" "[I") (by decide +kernel)) (fun _ h9 => h9) rfl hin rfl (by decide +kernel) rfl rfl (Nat.le_of_ble_eq_true rfl) dY_init_17 (fun H locs hP hD hS => ?_)
  have hP : va_P (dC, dI) vwCl [(h0, .inr (1, [.int 0, .ref q1, .ref q2, .null, .null, .int 0, .null, .null, .null])), (q1, .inl (k1, 12, .inl (fun _ => 0))), (q2, .inl (k2, 12, .inl (fun _ => 0)))] H := hP
  have hD : va_D A [(h0, .inr (1, [.int 0, .ref q1, .ref q2, .null, .null, .int 0, .null, .null, .null])), (q1, .inl (k1, 12, .inl (fun _ => 0))), (q2, .inl (k2, 12, .inl (fun _ => 0)))] := hD
  refine lv_aload_n hx hb dY_init_20 rfl (lv_at hl 0 rfl) ?_
  refine lv_bipush (v := 12) hx hb dY_init_21 (by decide) ?_
  refine va_newa (atype := .boolean) (ty := .boolean) (n := 12) (N' := 12) (a0 := (12, .inl (fun _ => 0))) hx hb (hts (.arrayClass .boolean) (by decide +kernel)) rfl hK hP hD hS hA (xz_z 12) (by decide) (by decide) (by decide) (Nat.le_of_ble_eq_true rfl) (Nat.le_of_ble_eq_true rfl) dY_init_23 (fun q3 k3 H hK hP hD hS => ?_)
  have hP : va_P (dC, dI) vwCl [(h0, .inr (1, [.int 0, .ref q1, .ref q2, .null, .null, .int 0, .null, .null, .null])), (q1, .inl (k1, 12, .inl (fun _ => 0))), (q2, .inl (k2, 12, .inl (fun _ => 0))), (q3, .inl (k3, 12, .inl (fun _ => 0)))] H := hP
  have hD : va_D A [(h0, .inr (1, [.int 0, .ref q1, .ref q2, .null, .null, .int 0, .null, .null, .null])), (q1, .inl (k1, 12, .inl (fun _ => 0))), (q2, .inl (k2, 12, .inl (fun _ => 0))), (q3, .inl (k3, 12, .inl (fun _ => 0)))] := hD
  have hK : va_K (dC, dI) vwCl [(k1, .int), (k2, .int), (k3, .boolean)] s := hK
  refine W.widen (k := 3) (n := 36) (by omega) (by omega) ?_
  refine va_putF (D := (dC, dI)) (ci := 1) (v := .ref q3) (ty := .array .boolean) (C := RX1) (T := TX1) (N := 9) hx hb hts (by decide +kernel) tyX1 tyX1_ok nmX1 hown hK hP hD hS 0 rfl rfl 3 (by decide) (hts (.fieldLink RX1 16 "MeldingHeapsModel" "gone" "[Z") (by decide +kernel)) (fun _ h9 => h9) rfl hin rfl (by decide +kernel) rfl rfl (Nat.le_of_ble_eq_true rfl) dY_init_25 (fun H locs hP hD hS => ?_)
  have hP : va_P (dC, dI) vwCl [(h0, .inr (1, [.int 0, .ref q1, .ref q2, .ref q3, .null, .int 0, .null, .null, .null])), (q1, .inl (k1, 12, .inl (fun _ => 0))), (q2, .inl (k2, 12, .inl (fun _ => 0))), (q3, .inl (k3, 12, .inl (fun _ => 0)))] H := hP
  have hD : va_D A [(h0, .inr (1, [.int 0, .ref q1, .ref q2, .ref q3, .null, .int 0, .null, .null, .null])), (q1, .inl (k1, 12, .inl (fun _ => 0))), (q2, .inl (k2, 12, .inl (fun _ => 0))), (q3, .inl (k3, 12, .inl (fun _ => 0)))] := hD
  refine lv_aload_n hx hb dY_init_28 rfl (lv_at hl 0 rfl) ?_
  refine lv_bipush (v := 12) hx hb dY_init_29 (by decide) ?_
  refine va_newa (atype := .long) (ty := .long) (n := 12) (N' := 12) (a0 := (12, .inr (.inl (fun _ => 0)))) hx hb (hts (.arrayClass .long) (by decide +kernel)) rfl hK hP hD hS hA (xz_l 12) (by decide) (by decide) (by decide) (Nat.le_of_ble_eq_true rfl) (Nat.le_of_ble_eq_true rfl) dY_init_31 (fun q4 k4 H hK hP hD hS => ?_)
  have hP : va_P (dC, dI) vwCl [(h0, .inr (1, [.int 0, .ref q1, .ref q2, .ref q3, .null, .int 0, .null, .null, .null])), (q1, .inl (k1, 12, .inl (fun _ => 0))), (q2, .inl (k2, 12, .inl (fun _ => 0))), (q3, .inl (k3, 12, .inl (fun _ => 0))), (q4, .inl (k4, 12, .inr (.inl (fun _ => 0))))] H := hP
  have hD : va_D A [(h0, .inr (1, [.int 0, .ref q1, .ref q2, .ref q3, .null, .int 0, .null, .null, .null])), (q1, .inl (k1, 12, .inl (fun _ => 0))), (q2, .inl (k2, 12, .inl (fun _ => 0))), (q3, .inl (k3, 12, .inl (fun _ => 0))), (q4, .inl (k4, 12, .inr (.inl (fun _ => 0))))] := hD
  have hK : va_K (dC, dI) vwCl [(k1, .int), (k2, .int), (k3, .boolean), (k4, .long)] s := hK
  refine W.widen (k := 4) (n := 48) (by omega) (by omega) ?_
  refine va_putF (D := (dC, dI)) (ci := 1) (v := .ref q4) (ty := .array .long) (C := RX1) (T := TX1) (N := 9) hx hb hts (by decide +kernel) tyX1 tyX1_ok nmX1 hown hK hP hD hS 0 rfl rfl 4 (by decide) (hts (.fieldLink RX1 20 "MeldingHeapsModel" "floors" "[J") (by decide +kernel)) (fun _ h9 => h9) rfl hin rfl (by decide +kernel) rfl rfl (Nat.le_of_ble_eq_true rfl) dY_init_33 (fun H locs hP hD hS => ?_)
  have hP : va_P (dC, dI) vwCl [(h0, .inr (1, [.int 0, .ref q1, .ref q2, .ref q3, .ref q4, .int 0, .null, .null, .null])), (q1, .inl (k1, 12, .inl (fun _ => 0))), (q2, .inl (k2, 12, .inl (fun _ => 0))), (q3, .inl (k3, 12, .inl (fun _ => 0))), (q4, .inl (k4, 12, .inr (.inl (fun _ => 0))))] H := hP
  have hD : va_D A [(h0, .inr (1, [.int 0, .ref q1, .ref q2, .ref q3, .ref q4, .int 0, .null, .null, .null])), (q1, .inl (k1, 12, .inl (fun _ => 0))), (q2, .inl (k2, 12, .inl (fun _ => 0))), (q3, .inl (k3, 12, .inl (fun _ => 0))), (q4, .inl (k4, 12, .inr (.inl (fun _ => 0))))] := hD
  refine lv_aload_n hx hb dY_init_36 rfl (lv_at hl 0 rfl) ?_
  refine lv_sipush (v := 160) hx hb dY_init_37 (by decide) ?_
  refine va_newa (atype := .long) (ty := .long) (n := 160) (N' := 160) (a0 := (160, .inr (.inl (fun _ => 0)))) hx hb (hts (.arrayClass .long) (by decide +kernel)) rfl hK hP hD hS hA (xz_l 160) (by decide) (by decide) (by decide) (Nat.le_of_ble_eq_true rfl) (Nat.le_of_ble_eq_true rfl) dY_init_40 (fun q5 k5 H hK hP hD hS => ?_)
  have hP : va_P (dC, dI) vwCl [(h0, .inr (1, [.int 0, .ref q1, .ref q2, .ref q3, .ref q4, .int 0, .null, .null, .null])), (q1, .inl (k1, 12, .inl (fun _ => 0))), (q2, .inl (k2, 12, .inl (fun _ => 0))), (q3, .inl (k3, 12, .inl (fun _ => 0))), (q4, .inl (k4, 12, .inr (.inl (fun _ => 0)))), (q5, .inl (k5, 160, .inr (.inl (fun _ => 0))))] H := hP
  have hD : va_D A [(h0, .inr (1, [.int 0, .ref q1, .ref q2, .ref q3, .ref q4, .int 0, .null, .null, .null])), (q1, .inl (k1, 12, .inl (fun _ => 0))), (q2, .inl (k2, 12, .inl (fun _ => 0))), (q3, .inl (k3, 12, .inl (fun _ => 0))), (q4, .inl (k4, 12, .inr (.inl (fun _ => 0)))), (q5, .inl (k5, 160, .inr (.inl (fun _ => 0))))] := hD
  have hK : va_K (dC, dI) vwCl [(k1, .int), (k2, .int), (k3, .boolean), (k4, .long), (k5, .long)] s := hK
  refine W.widen (k := 5) (n := 208) (by omega) (by omega) ?_
  refine va_putF (D := (dC, dI)) (ci := 1) (v := .ref q5) (ty := .array .long) (C := RX1) (T := TX1) (N := 9) hx hb hts (by decide +kernel) tyX1 tyX1_ok nmX1 hown hK hP hD hS 0 rfl rfl 6 (by decide) (hts (.fieldLink RX1 24 "MeldingHeapsModel" "keys" "[J") (by decide +kernel)) (fun _ h9 => h9) rfl hin rfl (by decide +kernel) rfl rfl (Nat.le_of_ble_eq_true rfl) dY_init_42 (fun H locs hP hD hS => ?_)
  have hP : va_P (dC, dI) vwCl [(h0, .inr (1, [.int 0, .ref q1, .ref q2, .ref q3, .ref q4, .int 0, .ref q5, .null, .null])), (q1, .inl (k1, 12, .inl (fun _ => 0))), (q2, .inl (k2, 12, .inl (fun _ => 0))), (q3, .inl (k3, 12, .inl (fun _ => 0))), (q4, .inl (k4, 12, .inr (.inl (fun _ => 0)))), (q5, .inl (k5, 160, .inr (.inl (fun _ => 0))))] H := hP
  have hD : va_D A [(h0, .inr (1, [.int 0, .ref q1, .ref q2, .ref q3, .ref q4, .int 0, .ref q5, .null, .null])), (q1, .inl (k1, 12, .inl (fun _ => 0))), (q2, .inl (k2, 12, .inl (fun _ => 0))), (q3, .inl (k3, 12, .inl (fun _ => 0))), (q4, .inl (k4, 12, .inr (.inl (fun _ => 0)))), (q5, .inl (k5, 160, .inr (.inl (fun _ => 0))))] := hD
  refine lv_aload_n hx hb dY_init_45 rfl (lv_at hl 0 rfl) ?_
  refine lv_sipush (v := 160) hx hb dY_init_46 (by decide) ?_
  refine va_newa (atype := .int) (ty := .int) (n := 160) (N' := 160) (a0 := (160, .inl (fun _ => 0))) hx hb (hts (.arrayClass .int) (by decide +kernel)) rfl hK hP hD hS hA (xz_i 160) (by decide) (by decide) (by decide) (Nat.le_of_ble_eq_true rfl) (Nat.le_of_ble_eq_true rfl) dY_init_49 (fun q6 k6 H hK hP hD hS => ?_)
  have hP : va_P (dC, dI) vwCl [(h0, .inr (1, [.int 0, .ref q1, .ref q2, .ref q3, .ref q4, .int 0, .ref q5, .null, .null])), (q1, .inl (k1, 12, .inl (fun _ => 0))), (q2, .inl (k2, 12, .inl (fun _ => 0))), (q3, .inl (k3, 12, .inl (fun _ => 0))), (q4, .inl (k4, 12, .inr (.inl (fun _ => 0)))), (q5, .inl (k5, 160, .inr (.inl (fun _ => 0)))), (q6, .inl (k6, 160, .inl (fun _ => 0)))] H := hP
  have hD : va_D A [(h0, .inr (1, [.int 0, .ref q1, .ref q2, .ref q3, .ref q4, .int 0, .ref q5, .null, .null])), (q1, .inl (k1, 12, .inl (fun _ => 0))), (q2, .inl (k2, 12, .inl (fun _ => 0))), (q3, .inl (k3, 12, .inl (fun _ => 0))), (q4, .inl (k4, 12, .inr (.inl (fun _ => 0)))), (q5, .inl (k5, 160, .inr (.inl (fun _ => 0)))), (q6, .inl (k6, 160, .inl (fun _ => 0)))] := hD
  have hK : va_K (dC, dI) vwCl [(k1, .int), (k2, .int), (k3, .boolean), (k4, .long), (k5, .long), (k6, .int)] s := hK
  refine W.widen (k := 6) (n := 368) (by omega) (by omega) ?_
  refine va_putF (D := (dC, dI)) (ci := 1) (v := .ref q6) (ty := .array .int) (C := RX1) (T := TX1) (N := 9) hx hb hts (by decide +kernel) tyX1 tyX1_ok nmX1 hown hK hP hD hS 0 rfl rfl 7 (by decide) (hts (.fieldLink RX1 27 "MeldingHeapsModel" "values" "[I") (by decide +kernel)) (fun _ h9 => h9) rfl hin rfl (by decide +kernel) rfl rfl (Nat.le_of_ble_eq_true rfl) dY_init_51 (fun H locs hP hD hS => ?_)
  have hP : va_P (dC, dI) vwCl [(h0, .inr (1, [.int 0, .ref q1, .ref q2, .ref q3, .ref q4, .int 0, .ref q5, .ref q6, .null])), (q1, .inl (k1, 12, .inl (fun _ => 0))), (q2, .inl (k2, 12, .inl (fun _ => 0))), (q3, .inl (k3, 12, .inl (fun _ => 0))), (q4, .inl (k4, 12, .inr (.inl (fun _ => 0)))), (q5, .inl (k5, 160, .inr (.inl (fun _ => 0)))), (q6, .inl (k6, 160, .inl (fun _ => 0)))] H := hP
  have hD : va_D A [(h0, .inr (1, [.int 0, .ref q1, .ref q2, .ref q3, .ref q4, .int 0, .ref q5, .ref q6, .null])), (q1, .inl (k1, 12, .inl (fun _ => 0))), (q2, .inl (k2, 12, .inl (fun _ => 0))), (q3, .inl (k3, 12, .inl (fun _ => 0))), (q4, .inl (k4, 12, .inr (.inl (fun _ => 0)))), (q5, .inl (k5, 160, .inr (.inl (fun _ => 0)))), (q6, .inl (k6, 160, .inl (fun _ => 0)))] := hD
  refine lv_aload_n hx hb dY_init_54 rfl (lv_at hl 0 rfl) ?_
  refine lv_sipush (v := 160) hx hb dY_init_55 (by decide) ?_
  refine va_newa (atype := .int) (ty := .int) (n := 160) (N' := 160) (a0 := (160, .inl (fun _ => 0))) hx hb (hts (.arrayClass .int) (by decide +kernel)) rfl hK hP hD hS hA (xz_i 160) (by decide) (by decide) (by decide) (Nat.le_of_ble_eq_true rfl) (Nat.le_of_ble_eq_true rfl) dY_init_58 (fun q7 k7 H hK hP hD hS => ?_)
  have hP : va_P (dC, dI) vwCl [(h0, .inr (1, [.int 0, .ref q1, .ref q2, .ref q3, .ref q4, .int 0, .ref q5, .ref q6, .null])), (q1, .inl (k1, 12, .inl (fun _ => 0))), (q2, .inl (k2, 12, .inl (fun _ => 0))), (q3, .inl (k3, 12, .inl (fun _ => 0))), (q4, .inl (k4, 12, .inr (.inl (fun _ => 0)))), (q5, .inl (k5, 160, .inr (.inl (fun _ => 0)))), (q6, .inl (k6, 160, .inl (fun _ => 0))), (q7, .inl (k7, 160, .inl (fun _ => 0)))] H := hP
  have hD : va_D A [(h0, .inr (1, [.int 0, .ref q1, .ref q2, .ref q3, .ref q4, .int 0, .ref q5, .ref q6, .null])), (q1, .inl (k1, 12, .inl (fun _ => 0))), (q2, .inl (k2, 12, .inl (fun _ => 0))), (q3, .inl (k3, 12, .inl (fun _ => 0))), (q4, .inl (k4, 12, .inr (.inl (fun _ => 0)))), (q5, .inl (k5, 160, .inr (.inl (fun _ => 0)))), (q6, .inl (k6, 160, .inl (fun _ => 0))), (q7, .inl (k7, 160, .inl (fun _ => 0)))] := hD
  have hK : va_K (dC, dI) vwCl [(k1, .int), (k2, .int), (k3, .boolean), (k4, .long), (k5, .long), (k6, .int), (k7, .int)] s := hK
  refine W.widen (k := 7) (n := 528) (by omega) (by omega) ?_
  refine va_putF (D := (dC, dI)) (ci := 1) (v := .ref q7) (ty := .array .int) (C := RX1) (T := TX1) (N := 9) hx hb hts (by decide +kernel) tyX1 tyX1_ok nmX1 hown hK hP hD hS 0 rfl rfl 8 (by decide) (hts (.fieldLink RX1 30 "MeldingHeapsModel" "homes" "[I") (by decide +kernel)) (fun _ h9 => h9) rfl hin rfl (by decide +kernel) rfl rfl (Nat.le_of_ble_eq_true rfl) dY_init_60 (fun H locs hP hD hS => ?_)
  have hP : va_P (dC, dI) vwCl [(h0, .inr (1, [.int 0, .ref q1, .ref q2, .ref q3, .ref q4, .int 0, .ref q5, .ref q6, .ref q7])), (q1, .inl (k1, 12, .inl (fun _ => 0))), (q2, .inl (k2, 12, .inl (fun _ => 0))), (q3, .inl (k3, 12, .inl (fun _ => 0))), (q4, .inl (k4, 12, .inr (.inl (fun _ => 0)))), (q5, .inl (k5, 160, .inr (.inl (fun _ => 0)))), (q6, .inl (k6, 160, .inl (fun _ => 0))), (q7, .inl (k7, 160, .inl (fun _ => 0)))] H := hP
  have hD : va_D A [(h0, .inr (1, [.int 0, .ref q1, .ref q2, .ref q3, .ref q4, .int 0, .ref q5, .ref q6, .ref q7])), (q1, .inl (k1, 12, .inl (fun _ => 0))), (q2, .inl (k2, 12, .inl (fun _ => 0))), (q3, .inl (k3, 12, .inl (fun _ => 0))), (q4, .inl (k4, 12, .inr (.inl (fun _ => 0)))), (q5, .inl (k5, 160, .inr (.inl (fun _ => 0)))), (q6, .inl (k6, 160, .inl (fun _ => 0))), (q7, .inl (k7, 160, .inl (fun _ => 0)))] := hD
  exact W.vret hx hb hr (fun t ht hW => ⟨⟨(yGf h0 q1 q2 q3 q4 q5 q6 q7, yCf k1 k2 k3 k4 k5 k6 k7), rfl, rfl, by rw [ht]; exact hP, va_K.moved hW.alike hK, hD⟩, hS.F ht⟩) hS.2.2 dY_init_63
