abbrev yS : Type := xS
def kyL (a b : Int32) : Int64 := (a.toInt64 <<< ((32 : Int32).toInt64 &&& 63)) ||| (b.toInt64 &&& 4294967295)
set_option maxHeartbeats 4000000 in
set_option maxRecDepth 100000 in
theorem k_open {p : Program} {l : Launch} {e : Env} {s : State} {m : MethodId} {below : List Frame} {meth : Method} {c : Code} {Q : State → Prop} {H : Heap} {locs : List Loc} {ls : Array Slot} {dC : Nat → ClassId} {dI : Nat → Nat → Nat} {G G2 : Nat → Nat} {C C2 : Nat → ClassId} {u : xS} {v : yS} {b L i : Nat} {xs : Nat → Int32} (B : CallFix p m c cL_law 4 s #[Value.ref b] lw_tbl RL) (hK : va_K (dC, dI) vwCl (xT C ++ yT C2) s) (hX : va_X b L xs s s.heap) (hbl : b < s.heap.size) (hi : i + 5 ≤ L) (hL : L ≤ 2560) (hr : Rel u v) (hP : va_P (dC, dI) vwCl (xW G C u ++ yW G2 C2 v) H) (hD : va_D (fun q => s.heap.size ≤ q) (xW G C u ++ yW G2 C2 v)) (hS : va_S (fun q => s.heap.size ≤ q) s.heap H locs) (hl : lv_has ls 4 [(3, .int (nI i)), (0, .ref b), (1, .ref (G 0)), (2, .ref (G2 0))]) (kk : ∀ (u2 : xS) (v2 : yS) (H : Heap) (locs : List Loc), Rel u2 v2 → va_P (dC, dI) vwCl (xW G C u2 ++ yW G2 C2 v2) H → va_D (fun q => s.heap.size ≤ q) (xW G C u2 ++ yW G2 C2 v2) → va_S (fun q => s.heap.size ≤ q) s.heap H locs → W p l e room_1 s m #[Value.ref b] below meth c H locs 16 1074 Q (F0 m 639 ls [])) : W p l e room_1 s m #[Value.ref b] below meth c H locs 16 1074 Q (F0 m 116 ls []) := by
  obtain ⟨hx, hb, hml, hown, hts⟩ := B
  have hbA : ¬ s.heap.size ≤ b := Nat.not_le.mpr hbl
  have hA : ∀ q : Nat, s.heap.size ≤ q → s.heap.size ≤ q := fun _ h => h
  refine lv_aload_n hx hb dL_law_116 rfl (lv_at hl 2 rfl) ?_
  refine lv_aload_n hx hb dL_law_117 rfl (lv_at hl 1 rfl) ?_
  refine lv_iload_n hx hb dL_law_118 rfl (lv_at hl 0 rfl) ?_
  refine lv_iconst (v := 1) hx hb dL_law_119 (by decide) ?_
  refine lv_iadd hx hb dL_law_120 ?_
  refine W.eq (congrArg (fun z => F0 m 121 ls (.int z :: [.ref b, .ref (G 0)])) (nI_add i 1)) ?_
  refine va_sld hx hb hX hbl hbA hS (vp_in_nI (show (i + 1) < L by omega) (by omega)) dL_law_121 ?_
  refine W.eq (congrArg (fun z => F0 m 122 ls (.int (xs z) :: [.ref (G 0)])) (nI_clamp (show (i + 1) < 2 ^ 31 by omega))) ?_
  refine lv_aload_n hx hb dL_law_122 rfl (lv_at hl 1 rfl) ?_
  refine lv_iload_n hx hb dL_law_123 rfl (lv_at hl 0 rfl) ?_
  refine lv_iconst (v := 2) hx hb dL_law_124 (by decide) ?_
  refine lv_iadd hx hb dL_law_125 ?_
  refine W.eq (congrArg (fun z => F0 m 126 ls (.int z :: [.ref b, .int (xs (i + 1)), .ref (G 0)])) (nI_add i 2)) ?_
  refine va_sld hx hb hX hbl hbA hS (vp_in_nI (show (i + 2) < L by omega) (by omega)) dL_law_126 ?_
  refine W.eq (congrArg (fun z => F0 m 127 ls (.int (xs z) :: [.int (xs (i + 1)), .ref (G 0)])) (nI_clamp (show (i + 2) < 2 ^ 31 by omega))) ?_
  have hPc := hP.sub (ws' := (xW G C u)) [0, 1, 2, 3, 4, 5, 6, 7] rfl
  have hDc := hD.sub (ws' := (xW G C u)) [0, 1, 2, 3, 4, 5, 6, 7] (by decide) rfl
  have hKc := hK.sub (tys' := xT C) [0, 1, 2, 3, 4, 5, 6] rfl
  refine xcall_i (ws := (xW G C u ++ yW G2 C2 v)) (wc := (xW G C u)) (wr := (yW G2 C2 v)) (w1 := (xW G C (q_open u (xs (i + 1)) (xs (i + 2))))) (v := (p_open u (xs (i + 1)) (xs (i + 2)))) [0, 1, 2, 3, 4, 5, 6, 7] [8, 9, 10, 11, 12, 13, 14, 15] (va_runV (As := [.int (xs (i + 1)), .int (xs (i + 2))]) (rest := []) ⟨hx, hb, hml, hown, hts⟩ (c_open l dC dI G C _ u (xs (i + 1)) (xs (i + 2)) (rel_hm hr)) (cwV 2 hts (gLup gL_law_X0_open) rfl rfl rfl (by decide +kernel) ⟨Nat.le_of_ble_eq_true rfl, Nat.le_of_ble_eq_true rfl⟩) (xpreV (q0 := 0) (ci := 0) (qc := (RX0, TX0, 9)) hKc hPc hDc rfl rfl) rfl rfl hl.1 rfl (lv_room (Nat.le_of_ble_eq_true rfl)) dL_law_127 ⟨Nat.le_of_ble_eq_true rfl, Nat.le_of_ble_eq_true rfl⟩) hP hD hS hA rfl rfl (by decide) (by decide) (fun H locs hP hD hS => ?_)
  have hP := hP.sub (ws' := (xW G C (q_open u (xs (i + 1)) (xs (i + 2))) ++ yW G2 C2 v)) [8, 9, 10, 11, 12, 13, 14, 15, 0, 1, 2, 3, 4, 5, 6, 7] rfl
  have hD := hD.sub (ws' := (xW G C (q_open u (xs (i + 1)) (xs (i + 2))) ++ yW G2 C2 v)) [8, 9, 10, 11, 12, 13, 14, 15, 0, 1, 2, 3, 4, 5, 6, 7] (by decide) rfl
  refine lv_aload_n hx hb dL_law_130 rfl (lv_at hl 3 rfl) ?_
  refine lv_aload_n hx hb dL_law_131 rfl (lv_at hl 1 rfl) ?_
  refine lv_iload_n hx hb dL_law_132 rfl (lv_at hl 0 rfl) ?_
  refine lv_iconst (v := 1) hx hb dL_law_133 (by decide) ?_
  refine lv_iadd hx hb dL_law_134 ?_
  refine W.eq (congrArg (fun z => F0 m 135 ls (.int z :: [.ref b, .ref (G2 0), .int (p_open u (xs (i + 1)) (xs (i + 2)))])) (nI_add i 1)) ?_
  refine va_sld hx hb hX hbl hbA hS (vp_in_nI (show (i + 1) < L by omega) (by omega)) dL_law_135 ?_
  refine W.eq (congrArg (fun z => F0 m 136 ls (.int (xs z) :: [.ref (G2 0), .int (p_open u (xs (i + 1)) (xs (i + 2)))])) (nI_clamp (show (i + 1) < 2 ^ 31 by omega))) ?_
  refine lv_aload_n hx hb dL_law_136 rfl (lv_at hl 1 rfl) ?_
  refine lv_iload_n hx hb dL_law_137 rfl (lv_at hl 0 rfl) ?_
  refine lv_iconst (v := 2) hx hb dL_law_138 (by decide) ?_
  refine lv_iadd hx hb dL_law_139 ?_
  refine W.eq (congrArg (fun z => F0 m 140 ls (.int z :: [.ref b, .int (xs (i + 1)), .ref (G2 0), .int (p_open u (xs (i + 1)) (xs (i + 2)))])) (nI_add i 2)) ?_
  refine va_sld hx hb hX hbl hbA hS (vp_in_nI (show (i + 2) < L by omega) (by omega)) dL_law_140 ?_
  refine W.eq (congrArg (fun z => F0 m 141 ls (.int (xs z) :: [.int (xs (i + 1)), .ref (G2 0), .int (p_open u (xs (i + 1)) (xs (i + 2)))])) (nI_clamp (show (i + 2) < 2 ^ 31 by omega))) ?_
  have hPc := hP.sub (ws' := (yW G2 C2 v)) [8, 9, 10, 11, 12, 13, 14, 15] rfl
  have hDc := hD.sub (ws' := (yW G2 C2 v)) [8, 9, 10, 11, 12, 13, 14, 15] (by decide) rfl
  have hKc := hK.sub (tys' := yT C2) [7, 8, 9, 10, 11, 12, 13] rfl
  refine xcall_i (ws := (xW G C (q_open u (xs (i + 1)) (xs (i + 2))) ++ yW G2 C2 v)) (wc := (yW G2 C2 v)) (wr := (xW G C (q_open u (xs (i + 1)) (xs (i + 2))))) (w1 := (yW G2 C2 (yq_open v (xs (i + 1)) (xs (i + 2))))) (v := (yp_open v (xs (i + 1)) (xs (i + 2)))) [8, 9, 10, 11, 12, 13, 14, 15] [0, 1, 2, 3, 4, 5, 6, 7] (va_runV (As := [.int (xs (i + 1)), .int (xs (i + 2))]) (rest := [.int (p_open u (xs (i + 1)) (xs (i + 2)))]) ⟨hx, hb, hml, hown, hts⟩ (yc_open l dC dI G2 C2 _ v (xs (i + 1)) (xs (i + 2)) (yrel_hm hr)) (cwV 2 hts gL_law_Y_open rfl rfl rfl (by decide +kernel) ⟨Nat.le_of_ble_eq_true rfl, Nat.le_of_ble_eq_true rfl⟩) (xpreV (q0 := 0) (ci := 1) (qc := (RX1, TX1, 9)) hKc hPc hDc rfl rfl) rfl rfl hl.1 rfl (lv_room (Nat.le_of_ble_eq_true rfl)) dL_law_141 ⟨Nat.le_of_ble_eq_true rfl, Nat.le_of_ble_eq_true rfl⟩) hP hD hS hA rfl rfl (by decide) (by decide) (fun H locs hP hD hS => ?_)
  have hP : va_P (dC, dI) vwCl (xW G C (q_open u (xs (i + 1)) (xs (i + 2))) ++ yW G2 C2 (yq_open v (xs (i + 1)) (xs (i + 2)))) H := hP
  have hD : va_D (fun q => s.heap.size ≤ q) (xW G C (q_open u (xs (i + 1)) (xs (i + 2))) ++ yW G2 C2 (yq_open v (xs (i + 1)) (xs (i + 2)))) := hD
  obtain ⟨ea, er⟩ := r_open hr (xs (i + 1)) (xs (i + 2))
  refine lv_icmp_eq (tgt := 639) hx hb dL_law_144 rfl (fun _ => ?_) (fun q => absurd ea q)
  exact kk (q_open u (xs (i + 1)) (xs (i + 2))) (yq_open v (xs (i + 1)) (xs (i + 2))) _ _ er hP hD hS
set_option maxHeartbeats 4000000 in
set_option maxRecDepth 100000 in
theorem k_insert {p : Program} {l : Launch} {e : Env} {s : State} {m : MethodId} {below : List Frame} {meth : Method} {c : Code} {Q : State → Prop} {H : Heap} {locs : List Loc} {ls : Array Slot} {dC : Nat → ClassId} {dI : Nat → Nat → Nat} {G G2 : Nat → Nat} {C C2 : Nat → ClassId} {u : xS} {v : yS} {b L i : Nat} {xs : Nat → Int32} (B : CallFix p m c cL_law 4 s #[Value.ref b] lw_tbl RL) (hK : va_K (dC, dI) vwCl (xT C ++ yT C2) s) (hX : va_X b L xs s s.heap) (hbl : b < s.heap.size) (hi : i + 5 ≤ L) (hL : L ≤ 2560) (hr : Rel u v) (hP : va_P (dC, dI) vwCl (xW G C u ++ yW G2 C2 v) H) (hD : va_D (fun q => s.heap.size ≤ q) (xW G C u ++ yW G2 C2 v)) (hS : va_S (fun q => s.heap.size ≤ q) s.heap H locs) (hl : lv_has ls 4 [(3, .int (nI i)), (0, .ref b), (1, .ref (G 0)), (2, .ref (G2 0))]) (kk : ∀ (u2 : xS) (v2 : yS) (H : Heap) (locs : List Loc), Rel u2 v2 → va_P (dC, dI) vwCl (xW G C u2 ++ yW G2 C2 v2) H → va_D (fun q => s.heap.size ≤ q) (xW G C u2 ++ yW G2 C2 v2) → va_S (fun q => s.heap.size ≤ q) s.heap H locs → W p l e room_1 s m #[Value.ref b] below meth c H locs 16 1074 Q (F0 m 639 ls [])) : W p l e room_1 s m #[Value.ref b] below meth c H locs 16 1074 Q (F0 m 149 ls []) := by
  obtain ⟨hx, hb, hml, hown, hts⟩ := B
  have hbA : ¬ s.heap.size ≤ b := Nat.not_le.mpr hbl
  have hA : ∀ q : Nat, s.heap.size ≤ q → s.heap.size ≤ q := fun _ h => h
  refine lv_aload_n hx hb dL_law_149 rfl (lv_at hl 2 rfl) ?_
  refine lv_aload_n hx hb dL_law_150 rfl (lv_at hl 1 rfl) ?_
  refine lv_iload_n hx hb dL_law_151 rfl (lv_at hl 0 rfl) ?_
  refine lv_iconst (v := 1) hx hb dL_law_152 (by decide) ?_
  refine lv_iadd hx hb dL_law_153 ?_
  refine W.eq (congrArg (fun z => F0 m 154 ls (.int z :: [.ref b, .ref (G 0)])) (nI_add i 1)) ?_
  refine va_sld hx hb hX hbl hbA hS (vp_in_nI (show (i + 1) < L by omega) (by omega)) dL_law_154 ?_
  refine W.eq (congrArg (fun z => F0 m 155 ls (.int (xs z) :: [.ref (G 0)])) (nI_clamp (show (i + 1) < 2 ^ 31 by omega))) ?_
  refine lv_aload_n hx hb dL_law_155 rfl (lv_at hl 1 rfl) ?_
  refine lv_iload_n hx hb dL_law_156 rfl (lv_at hl 0 rfl) ?_
  refine lv_iconst (v := 2) hx hb dL_law_157 (by decide) ?_
  refine lv_iadd hx hb dL_law_158 ?_
  refine W.eq (congrArg (fun z => F0 m 159 ls (.int z :: [.ref b, .int (xs (i + 1)), .ref (G 0)])) (nI_add i 2)) ?_
  refine va_sld hx hb hX hbl hbA hS (vp_in_nI (show (i + 2) < L by omega) (by omega)) dL_law_159 ?_
  refine W.eq (congrArg (fun z => F0 m 160 ls (.int (xs z) :: [.int (xs (i + 1)), .ref (G 0)])) (nI_clamp (show (i + 2) < 2 ^ 31 by omega))) ?_
  refine lv_i2l (v := ((xs (i + 2))).toInt64) hx hb dL_law_160 rfl ?_
  refine lv_bipush (v := 32) hx hb dL_law_161 (by decide) ?_
  refine lv_lshl (v := (((xs (i + 2))).toInt64 <<< ((32 : Int32).toInt64 &&& 63))) hx hb dL_law_163 rfl ?_
  refine lv_aload_n hx hb dL_law_164 rfl (lv_at hl 1 rfl) ?_
  refine lv_iload_n hx hb dL_law_165 rfl (lv_at hl 0 rfl) ?_
  refine lv_iconst (v := 3) hx hb dL_law_166 (by decide) ?_
  refine lv_iadd hx hb dL_law_167 ?_
  refine W.eq (congrArg (fun z => F0 m 168 ls (.int z :: [.ref b, .long (((xs (i + 2))).toInt64 <<< ((32 : Int32).toInt64 &&& 63)), .int (xs (i + 1)), .ref (G 0)])) (nI_add i 3)) ?_
  refine va_sld hx hb hX hbl hbA hS (vp_in_nI (show (i + 3) < L by omega) (by omega)) dL_law_168 ?_
  refine W.eq (congrArg (fun z => F0 m 169 ls (.int (xs z) :: [.long (((xs (i + 2))).toInt64 <<< ((32 : Int32).toInt64 &&& 63)), .int (xs (i + 1)), .ref (G 0)])) (nI_clamp (show (i + 3) < 2 ^ 31 by omega))) ?_
  refine lv_i2l (v := ((xs (i + 3))).toInt64) hx hb dL_law_169 rfl ?_
  refine lv_ldc2 (v := 4294967295) hx hb hown (hts (.constantLong RL 18 4294967295) (by decide +kernel)) dL_law_170 ?_
  refine lv_land hx hb dL_law_173 ?_
  refine lv_lor hx hb dL_law_174 ?_
  refine W.eq (g2 := F0 m 175 ls [.long (kyL (xs (i + 2)) (xs (i + 3))), .int (xs (i + 1)), .ref (G 0)]) rfl ?_
  refine lv_aload_n hx hb dL_law_175 rfl (lv_at hl 1 rfl) ?_
  refine lv_iload_n hx hb dL_law_176 rfl (lv_at hl 0 rfl) ?_
  refine lv_iconst (v := 4) hx hb dL_law_177 (by decide) ?_
  refine lv_iadd hx hb dL_law_178 ?_
  refine W.eq (congrArg (fun z => F0 m 179 ls (.int z :: [.ref b, .long (kyL (xs (i + 2)) (xs (i + 3))), .int (xs (i + 1)), .ref (G 0)])) (nI_add i 4)) ?_
  refine va_sld hx hb hX hbl hbA hS (vp_in_nI (show (i + 4) < L by omega) (by omega)) dL_law_179 ?_
  refine W.eq (congrArg (fun z => F0 m 180 ls (.int (xs z) :: [.long (kyL (xs (i + 2)) (xs (i + 3))), .int (xs (i + 1)), .ref (G 0)])) (nI_clamp (show (i + 4) < 2 ^ 31 by omega))) ?_
  have hPc := hP.sub (ws' := (xW G C u)) [0, 1, 2, 3, 4, 5, 6, 7] rfl
  have hDc := hD.sub (ws' := (xW G C u)) [0, 1, 2, 3, 4, 5, 6, 7] (by decide) rfl
  have hKc := hK.sub (tys' := xT C) [0, 1, 2, 3, 4, 5, 6] rfl
  refine xcall_i (ws := (xW G C u ++ yW G2 C2 v)) (wc := (xW G C u)) (wr := (yW G2 C2 v)) (w1 := (xW G C (q_insert u (xs (i + 1)) (kyL (xs (i + 2)) (xs (i + 3))) (xs (i + 4))))) (v := (p_insert u (xs (i + 1)) (kyL (xs (i + 2)) (xs (i + 3))) (xs (i + 4)))) [0, 1, 2, 3, 4, 5, 6, 7] [8, 9, 10, 11, 12, 13, 14, 15] (va_runV (As := [.int (xs (i + 1)), .long (kyL (xs (i + 2)) (xs (i + 3))), .int (xs (i + 4))]) (rest := []) ⟨hx, hb, hml, hown, hts⟩ (c_insert l dC dI G C _ u (xs (i + 1)) (kyL (xs (i + 2)) (xs (i + 3))) (xs (i + 4)) (rel_hm hr) (rel_hn hr)) (cwV 3 hts (gLup gL_law_X0_insert) rfl rfl rfl (by decide +kernel) ⟨Nat.le_of_ble_eq_true rfl, Nat.le_of_ble_eq_true rfl⟩) (xpreV (q0 := 0) (ci := 0) (qc := (RX0, TX0, 9)) hKc hPc hDc rfl rfl) rfl rfl hl.1 rfl (lv_room (Nat.le_of_ble_eq_true rfl)) dL_law_180 ⟨Nat.le_of_ble_eq_true rfl, Nat.le_of_ble_eq_true rfl⟩) hP hD hS hA rfl rfl (by decide) (by decide) (fun H locs hP hD hS => ?_)
  have hP := hP.sub (ws' := (xW G C (q_insert u (xs (i + 1)) (kyL (xs (i + 2)) (xs (i + 3))) (xs (i + 4))) ++ yW G2 C2 v)) [8, 9, 10, 11, 12, 13, 14, 15, 0, 1, 2, 3, 4, 5, 6, 7] rfl
  have hD := hD.sub (ws' := (xW G C (q_insert u (xs (i + 1)) (kyL (xs (i + 2)) (xs (i + 3))) (xs (i + 4))) ++ yW G2 C2 v)) [8, 9, 10, 11, 12, 13, 14, 15, 0, 1, 2, 3, 4, 5, 6, 7] (by decide) rfl
  refine lv_aload_n hx hb dL_law_183 rfl (lv_at hl 3 rfl) ?_
  refine lv_aload_n hx hb dL_law_184 rfl (lv_at hl 1 rfl) ?_
  refine lv_iload_n hx hb dL_law_185 rfl (lv_at hl 0 rfl) ?_
  refine lv_iconst (v := 1) hx hb dL_law_186 (by decide) ?_
  refine lv_iadd hx hb dL_law_187 ?_
  refine W.eq (congrArg (fun z => F0 m 188 ls (.int z :: [.ref b, .ref (G2 0), .int (p_insert u (xs (i + 1)) (kyL (xs (i + 2)) (xs (i + 3))) (xs (i + 4)))])) (nI_add i 1)) ?_
  refine va_sld hx hb hX hbl hbA hS (vp_in_nI (show (i + 1) < L by omega) (by omega)) dL_law_188 ?_
  refine W.eq (congrArg (fun z => F0 m 189 ls (.int (xs z) :: [.ref (G2 0), .int (p_insert u (xs (i + 1)) (kyL (xs (i + 2)) (xs (i + 3))) (xs (i + 4)))])) (nI_clamp (show (i + 1) < 2 ^ 31 by omega))) ?_
  refine lv_aload_n hx hb dL_law_189 rfl (lv_at hl 1 rfl) ?_
  refine lv_iload_n hx hb dL_law_190 rfl (lv_at hl 0 rfl) ?_
  refine lv_iconst (v := 2) hx hb dL_law_191 (by decide) ?_
  refine lv_iadd hx hb dL_law_192 ?_
  refine W.eq (congrArg (fun z => F0 m 193 ls (.int z :: [.ref b, .int (xs (i + 1)), .ref (G2 0), .int (p_insert u (xs (i + 1)) (kyL (xs (i + 2)) (xs (i + 3))) (xs (i + 4)))])) (nI_add i 2)) ?_
  refine va_sld hx hb hX hbl hbA hS (vp_in_nI (show (i + 2) < L by omega) (by omega)) dL_law_193 ?_
  refine W.eq (congrArg (fun z => F0 m 194 ls (.int (xs z) :: [.int (xs (i + 1)), .ref (G2 0), .int (p_insert u (xs (i + 1)) (kyL (xs (i + 2)) (xs (i + 3))) (xs (i + 4)))])) (nI_clamp (show (i + 2) < 2 ^ 31 by omega))) ?_
  refine lv_i2l (v := ((xs (i + 2))).toInt64) hx hb dL_law_194 rfl ?_
  refine lv_bipush (v := 32) hx hb dL_law_195 (by decide) ?_
  refine lv_lshl (v := (((xs (i + 2))).toInt64 <<< ((32 : Int32).toInt64 &&& 63))) hx hb dL_law_197 rfl ?_
  refine lv_aload_n hx hb dL_law_198 rfl (lv_at hl 1 rfl) ?_
  refine lv_iload_n hx hb dL_law_199 rfl (lv_at hl 0 rfl) ?_
  refine lv_iconst (v := 3) hx hb dL_law_200 (by decide) ?_
  refine lv_iadd hx hb dL_law_201 ?_
  refine W.eq (congrArg (fun z => F0 m 202 ls (.int z :: [.ref b, .long (((xs (i + 2))).toInt64 <<< ((32 : Int32).toInt64 &&& 63)), .int (xs (i + 1)), .ref (G2 0), .int (p_insert u (xs (i + 1)) (kyL (xs (i + 2)) (xs (i + 3))) (xs (i + 4)))])) (nI_add i 3)) ?_
  refine va_sld hx hb hX hbl hbA hS (vp_in_nI (show (i + 3) < L by omega) (by omega)) dL_law_202 ?_
  refine W.eq (congrArg (fun z => F0 m 203 ls (.int (xs z) :: [.long (((xs (i + 2))).toInt64 <<< ((32 : Int32).toInt64 &&& 63)), .int (xs (i + 1)), .ref (G2 0), .int (p_insert u (xs (i + 1)) (kyL (xs (i + 2)) (xs (i + 3))) (xs (i + 4)))])) (nI_clamp (show (i + 3) < 2 ^ 31 by omega))) ?_
  refine lv_i2l (v := ((xs (i + 3))).toInt64) hx hb dL_law_203 rfl ?_
  refine lv_ldc2 (v := 4294967295) hx hb hown (hts (.constantLong RL 18 4294967295) (by decide +kernel)) dL_law_204 ?_
  refine lv_land hx hb dL_law_207 ?_
  refine lv_lor hx hb dL_law_208 ?_
  refine W.eq (g2 := F0 m 209 ls [.long (kyL (xs (i + 2)) (xs (i + 3))), .int (xs (i + 1)), .ref (G2 0), .int (p_insert u (xs (i + 1)) (kyL (xs (i + 2)) (xs (i + 3))) (xs (i + 4)))]) rfl ?_
  refine lv_aload_n hx hb dL_law_209 rfl (lv_at hl 1 rfl) ?_
  refine lv_iload_n hx hb dL_law_210 rfl (lv_at hl 0 rfl) ?_
  refine lv_iconst (v := 4) hx hb dL_law_211 (by decide) ?_
  refine lv_iadd hx hb dL_law_212 ?_
  refine W.eq (congrArg (fun z => F0 m 213 ls (.int z :: [.ref b, .long (kyL (xs (i + 2)) (xs (i + 3))), .int (xs (i + 1)), .ref (G2 0), .int (p_insert u (xs (i + 1)) (kyL (xs (i + 2)) (xs (i + 3))) (xs (i + 4)))])) (nI_add i 4)) ?_
  refine va_sld hx hb hX hbl hbA hS (vp_in_nI (show (i + 4) < L by omega) (by omega)) dL_law_213 ?_
  refine W.eq (congrArg (fun z => F0 m 214 ls (.int (xs z) :: [.long (kyL (xs (i + 2)) (xs (i + 3))), .int (xs (i + 1)), .ref (G2 0), .int (p_insert u (xs (i + 1)) (kyL (xs (i + 2)) (xs (i + 3))) (xs (i + 4)))])) (nI_clamp (show (i + 4) < 2 ^ 31 by omega))) ?_
  have hPc := hP.sub (ws' := (yW G2 C2 v)) [8, 9, 10, 11, 12, 13, 14, 15] rfl
  have hDc := hD.sub (ws' := (yW G2 C2 v)) [8, 9, 10, 11, 12, 13, 14, 15] (by decide) rfl
  have hKc := hK.sub (tys' := yT C2) [7, 8, 9, 10, 11, 12, 13] rfl
  refine xcall_i (ws := (xW G C (q_insert u (xs (i + 1)) (kyL (xs (i + 2)) (xs (i + 3))) (xs (i + 4))) ++ yW G2 C2 v)) (wc := (yW G2 C2 v)) (wr := (xW G C (q_insert u (xs (i + 1)) (kyL (xs (i + 2)) (xs (i + 3))) (xs (i + 4))))) (w1 := (yW G2 C2 (yq_insert v (xs (i + 1)) (kyL (xs (i + 2)) (xs (i + 3))) (xs (i + 4))))) (v := (yp_insert v (xs (i + 1)) (kyL (xs (i + 2)) (xs (i + 3))) (xs (i + 4)))) [8, 9, 10, 11, 12, 13, 14, 15] [0, 1, 2, 3, 4, 5, 6, 7] (va_runV (As := [.int (xs (i + 1)), .long (kyL (xs (i + 2)) (xs (i + 3))), .int (xs (i + 4))]) (rest := [.int (p_insert u (xs (i + 1)) (kyL (xs (i + 2)) (xs (i + 3))) (xs (i + 4)))]) ⟨hx, hb, hml, hown, hts⟩ (yc_insert l dC dI G2 C2 _ v (xs (i + 1)) (kyL (xs (i + 2)) (xs (i + 3))) (xs (i + 4)) (yrel_hm hr) (yrel_hn hr)) (cwV 3 hts gL_law_Y_insert rfl rfl rfl (by decide +kernel) ⟨Nat.le_of_ble_eq_true rfl, Nat.le_of_ble_eq_true rfl⟩) (xpreV (q0 := 0) (ci := 1) (qc := (RX1, TX1, 9)) hKc hPc hDc rfl rfl) rfl rfl hl.1 rfl (lv_room (Nat.le_of_ble_eq_true rfl)) dL_law_214 ⟨Nat.le_of_ble_eq_true rfl, Nat.le_of_ble_eq_true rfl⟩) hP hD hS hA rfl rfl (by decide) (by decide) (fun H locs hP hD hS => ?_)
  have hP : va_P (dC, dI) vwCl (xW G C (q_insert u (xs (i + 1)) (kyL (xs (i + 2)) (xs (i + 3))) (xs (i + 4))) ++ yW G2 C2 (yq_insert v (xs (i + 1)) (kyL (xs (i + 2)) (xs (i + 3))) (xs (i + 4)))) H := hP
  have hD : va_D (fun q => s.heap.size ≤ q) (xW G C (q_insert u (xs (i + 1)) (kyL (xs (i + 2)) (xs (i + 3))) (xs (i + 4))) ++ yW G2 C2 (yq_insert v (xs (i + 1)) (kyL (xs (i + 2)) (xs (i + 3))) (xs (i + 4)))) := hD
  obtain ⟨ea, er⟩ := r_insert hr (xs (i + 1)) (kyL (xs (i + 2)) (xs (i + 3))) (xs (i + 4))
  refine lv_icmp_eq (tgt := 639) hx hb dL_law_217 rfl (fun _ => ?_) (fun q => absurd ea q)
  exact kk (q_insert u (xs (i + 1)) (kyL (xs (i + 2)) (xs (i + 3))) (xs (i + 4))) (yq_insert v (xs (i + 1)) (kyL (xs (i + 2)) (xs (i + 3))) (xs (i + 4))) _ _ er hP hD hS
set_option maxHeartbeats 4000000 in
set_option maxRecDepth 100000 in
theorem k_first {p : Program} {l : Launch} {e : Env} {s : State} {m : MethodId} {below : List Frame} {meth : Method} {c : Code} {Q : State → Prop} {H : Heap} {locs : List Loc} {ls : Array Slot} {dC : Nat → ClassId} {dI : Nat → Nat → Nat} {G G2 : Nat → Nat} {C C2 : Nat → ClassId} {u : xS} {v : yS} {b L i : Nat} {xs : Nat → Int32} (B : CallFix p m c cL_law 4 s #[Value.ref b] lw_tbl RL) (hK : va_K (dC, dI) vwCl (xT C ++ yT C2) s) (hX : va_X b L xs s s.heap) (hbl : b < s.heap.size) (hi : i + 5 ≤ L) (hL : L ≤ 2560) (hr : Rel u v) (hP : va_P (dC, dI) vwCl (xW G C u ++ yW G2 C2 v) H) (hD : va_D (fun q => s.heap.size ≤ q) (xW G C u ++ yW G2 C2 v)) (hS : va_S (fun q => s.heap.size ≤ q) s.heap H locs) (hl : lv_has ls 4 [(3, .int (nI i)), (0, .ref b), (1, .ref (G 0)), (2, .ref (G2 0))]) (kk : ∀ (u2 : xS) (v2 : yS) (H : Heap) (locs : List Loc), Rel u2 v2 → va_P (dC, dI) vwCl (xW G C u2 ++ yW G2 C2 v2) H → va_D (fun q => s.heap.size ≤ q) (xW G C u2 ++ yW G2 C2 v2) → va_S (fun q => s.heap.size ≤ q) s.heap H locs → W p l e room_1 s m #[Value.ref b] below meth c H locs 16 1074 Q (F0 m 639 ls [])) : W p l e room_1 s m #[Value.ref b] below meth c H locs 16 1074 Q (F0 m 222 ls []) := by
  obtain ⟨hx, hb, hml, hown, hts⟩ := B
  have hbA : ¬ s.heap.size ≤ b := Nat.not_le.mpr hbl
  have hA : ∀ q : Nat, s.heap.size ≤ q → s.heap.size ≤ q := fun _ h => h
  refine lv_aload_n hx hb dL_law_222 rfl (lv_at hl 2 rfl) ?_
  refine lv_aload_n hx hb dL_law_223 rfl (lv_at hl 1 rfl) ?_
  refine lv_iload_n hx hb dL_law_224 rfl (lv_at hl 0 rfl) ?_
  refine lv_iconst (v := 1) hx hb dL_law_225 (by decide) ?_
  refine lv_iadd hx hb dL_law_226 ?_
  refine W.eq (congrArg (fun z => F0 m 227 ls (.int z :: [.ref b, .ref (G 0)])) (nI_add i 1)) ?_
  refine va_sld hx hb hX hbl hbA hS (vp_in_nI (show (i + 1) < L by omega) (by omega)) dL_law_227 ?_
  refine W.eq (congrArg (fun z => F0 m 228 ls (.int (xs z) :: [.ref (G 0)])) (nI_clamp (show (i + 1) < 2 ^ 31 by omega))) ?_
  have hPc := hP.sub (ws' := (xW G C u)) [0, 1, 2, 3, 4, 5, 6, 7] rfl
  have hDc := hD.sub (ws' := (xW G C u)) [0, 1, 2, 3, 4, 5, 6, 7] (by decide) rfl
  have hKc := hK.sub (tys' := xT C) [0, 1, 2, 3, 4, 5, 6] rfl
  refine xcall_i (ws := (xW G C u ++ yW G2 C2 v)) (wc := (xW G C u)) (wr := (yW G2 C2 v)) (w1 := (xW G C u)) (v := (p_first u (xs (i + 1)))) [0, 1, 2, 3, 4, 5, 6, 7] [8, 9, 10, 11, 12, 13, 14, 15] (va_runV (As := [.int (xs (i + 1))]) (rest := []) ⟨hx, hb, hml, hown, hts⟩ (c_first l dC dI G C _ u (xs (i + 1)) (rel_hm hr) (rel_hn hr)) (cwV 1 hts (gLup gL_law_X0_first) rfl rfl rfl (by decide +kernel) ⟨Nat.le_of_ble_eq_true rfl, Nat.le_of_ble_eq_true rfl⟩) (xpreV (q0 := 0) (ci := 0) (qc := (RX0, TX0, 9)) hKc hPc hDc rfl rfl) rfl rfl hl.1 rfl (lv_room (Nat.le_of_ble_eq_true rfl)) dL_law_228 ⟨Nat.le_of_ble_eq_true rfl, Nat.le_of_ble_eq_true rfl⟩) hP hD hS hA rfl rfl (by decide) (by decide) (fun H locs hP hD hS => ?_)
  have hP := hP.sub (ws' := (xW G C u ++ yW G2 C2 v)) [8, 9, 10, 11, 12, 13, 14, 15, 0, 1, 2, 3, 4, 5, 6, 7] rfl
  have hD := hD.sub (ws' := (xW G C u ++ yW G2 C2 v)) [8, 9, 10, 11, 12, 13, 14, 15, 0, 1, 2, 3, 4, 5, 6, 7] (by decide) rfl
  refine lv_aload_n hx hb dL_law_231 rfl (lv_at hl 3 rfl) ?_
  refine lv_aload_n hx hb dL_law_232 rfl (lv_at hl 1 rfl) ?_
  refine lv_iload_n hx hb dL_law_233 rfl (lv_at hl 0 rfl) ?_
  refine lv_iconst (v := 1) hx hb dL_law_234 (by decide) ?_
  refine lv_iadd hx hb dL_law_235 ?_
  refine W.eq (congrArg (fun z => F0 m 236 ls (.int z :: [.ref b, .ref (G2 0), .int (p_first u (xs (i + 1)))])) (nI_add i 1)) ?_
  refine va_sld hx hb hX hbl hbA hS (vp_in_nI (show (i + 1) < L by omega) (by omega)) dL_law_236 ?_
  refine W.eq (congrArg (fun z => F0 m 237 ls (.int (xs z) :: [.ref (G2 0), .int (p_first u (xs (i + 1)))])) (nI_clamp (show (i + 1) < 2 ^ 31 by omega))) ?_
  have hPc := hP.sub (ws' := (yW G2 C2 v)) [8, 9, 10, 11, 12, 13, 14, 15] rfl
  have hDc := hD.sub (ws' := (yW G2 C2 v)) [8, 9, 10, 11, 12, 13, 14, 15] (by decide) rfl
  have hKc := hK.sub (tys' := yT C2) [7, 8, 9, 10, 11, 12, 13] rfl
  refine xcall_i (ws := (xW G C u ++ yW G2 C2 v)) (wc := (yW G2 C2 v)) (wr := (xW G C u)) (w1 := (yW G2 C2 v)) (v := (yp_first v (xs (i + 1)))) [8, 9, 10, 11, 12, 13, 14, 15] [0, 1, 2, 3, 4, 5, 6, 7] (va_runV (As := [.int (xs (i + 1))]) (rest := [.int (p_first u (xs (i + 1)))]) ⟨hx, hb, hml, hown, hts⟩ (yc_first l dC dI G2 C2 _ v (xs (i + 1)) (yrel_hm hr) (yrel_hn hr)) (cwV 1 hts gL_law_Y_first rfl rfl rfl (by decide +kernel) ⟨Nat.le_of_ble_eq_true rfl, Nat.le_of_ble_eq_true rfl⟩) (xpreV (q0 := 0) (ci := 1) (qc := (RX1, TX1, 9)) hKc hPc hDc rfl rfl) rfl rfl hl.1 rfl (lv_room (Nat.le_of_ble_eq_true rfl)) dL_law_237 ⟨Nat.le_of_ble_eq_true rfl, Nat.le_of_ble_eq_true rfl⟩) hP hD hS hA rfl rfl (by decide) (by decide) (fun H locs hP hD hS => ?_)
  have hP : va_P (dC, dI) vwCl (xW G C u ++ yW G2 C2 v) H := hP
  have hD : va_D (fun q => s.heap.size ≤ q) (xW G C u ++ yW G2 C2 v) := hD
  obtain ⟨ea, er⟩ := r_first hr (xs (i + 1))
  refine lv_icmp_eq (tgt := 639) hx hb dL_law_240 rfl (fun _ => ?_) (fun q => absurd ea q)
  exact kk u v _ _ er hP hD hS
set_option maxHeartbeats 4000000 in
set_option maxRecDepth 100000 in
theorem k_last {p : Program} {l : Launch} {e : Env} {s : State} {m : MethodId} {below : List Frame} {meth : Method} {c : Code} {Q : State → Prop} {H : Heap} {locs : List Loc} {ls : Array Slot} {dC : Nat → ClassId} {dI : Nat → Nat → Nat} {G G2 : Nat → Nat} {C C2 : Nat → ClassId} {u : xS} {v : yS} {b L i : Nat} {xs : Nat → Int32} (B : CallFix p m c cL_law 4 s #[Value.ref b] lw_tbl RL) (hK : va_K (dC, dI) vwCl (xT C ++ yT C2) s) (hX : va_X b L xs s s.heap) (hbl : b < s.heap.size) (hi : i + 5 ≤ L) (hL : L ≤ 2560) (hr : Rel u v) (hP : va_P (dC, dI) vwCl (xW G C u ++ yW G2 C2 v) H) (hD : va_D (fun q => s.heap.size ≤ q) (xW G C u ++ yW G2 C2 v)) (hS : va_S (fun q => s.heap.size ≤ q) s.heap H locs) (hl : lv_has ls 4 [(3, .int (nI i)), (0, .ref b), (1, .ref (G 0)), (2, .ref (G2 0))]) (kk : ∀ (u2 : xS) (v2 : yS) (H : Heap) (locs : List Loc), Rel u2 v2 → va_P (dC, dI) vwCl (xW G C u2 ++ yW G2 C2 v2) H → va_D (fun q => s.heap.size ≤ q) (xW G C u2 ++ yW G2 C2 v2) → va_S (fun q => s.heap.size ≤ q) s.heap H locs → W p l e room_1 s m #[Value.ref b] below meth c H locs 16 1074 Q (F0 m 639 ls [])) : W p l e room_1 s m #[Value.ref b] below meth c H locs 16 1074 Q (F0 m 245 ls []) := by
  obtain ⟨hx, hb, hml, hown, hts⟩ := B
  have hbA : ¬ s.heap.size ≤ b := Nat.not_le.mpr hbl
  have hA : ∀ q : Nat, s.heap.size ≤ q → s.heap.size ≤ q := fun _ h => h
  refine lv_aload_n hx hb dL_law_245 rfl (lv_at hl 2 rfl) ?_
  refine lv_aload_n hx hb dL_law_246 rfl (lv_at hl 1 rfl) ?_
  refine lv_iload_n hx hb dL_law_247 rfl (lv_at hl 0 rfl) ?_
  refine lv_iconst (v := 1) hx hb dL_law_248 (by decide) ?_
  refine lv_iadd hx hb dL_law_249 ?_
  refine W.eq (congrArg (fun z => F0 m 250 ls (.int z :: [.ref b, .ref (G 0)])) (nI_add i 1)) ?_
  refine va_sld hx hb hX hbl hbA hS (vp_in_nI (show (i + 1) < L by omega) (by omega)) dL_law_250 ?_
  refine W.eq (congrArg (fun z => F0 m 251 ls (.int (xs z) :: [.ref (G 0)])) (nI_clamp (show (i + 1) < 2 ^ 31 by omega))) ?_
  have hPc := hP.sub (ws' := (xW G C u)) [0, 1, 2, 3, 4, 5, 6, 7] rfl
  have hDc := hD.sub (ws' := (xW G C u)) [0, 1, 2, 3, 4, 5, 6, 7] (by decide) rfl
  have hKc := hK.sub (tys' := xT C) [0, 1, 2, 3, 4, 5, 6] rfl
  refine xcall_i (ws := (xW G C u ++ yW G2 C2 v)) (wc := (xW G C u)) (wr := (yW G2 C2 v)) (w1 := (xW G C u)) (v := (p_last u (xs (i + 1)))) [0, 1, 2, 3, 4, 5, 6, 7] [8, 9, 10, 11, 12, 13, 14, 15] (va_runV (As := [.int (xs (i + 1))]) (rest := []) ⟨hx, hb, hml, hown, hts⟩ (c_last l dC dI G C _ u (xs (i + 1)) (rel_hm hr) (rel_hn hr)) (cwV 1 hts (gLup gL_law_X0_last) rfl rfl rfl (by decide +kernel) ⟨Nat.le_of_ble_eq_true rfl, Nat.le_of_ble_eq_true rfl⟩) (xpreV (q0 := 0) (ci := 0) (qc := (RX0, TX0, 9)) hKc hPc hDc rfl rfl) rfl rfl hl.1 rfl (lv_room (Nat.le_of_ble_eq_true rfl)) dL_law_251 ⟨Nat.le_of_ble_eq_true rfl, Nat.le_of_ble_eq_true rfl⟩) hP hD hS hA rfl rfl (by decide) (by decide) (fun H locs hP hD hS => ?_)
  have hP := hP.sub (ws' := (xW G C u ++ yW G2 C2 v)) [8, 9, 10, 11, 12, 13, 14, 15, 0, 1, 2, 3, 4, 5, 6, 7] rfl
  have hD := hD.sub (ws' := (xW G C u ++ yW G2 C2 v)) [8, 9, 10, 11, 12, 13, 14, 15, 0, 1, 2, 3, 4, 5, 6, 7] (by decide) rfl
  refine lv_aload_n hx hb dL_law_254 rfl (lv_at hl 3 rfl) ?_
  refine lv_aload_n hx hb dL_law_255 rfl (lv_at hl 1 rfl) ?_
  refine lv_iload_n hx hb dL_law_256 rfl (lv_at hl 0 rfl) ?_
  refine lv_iconst (v := 1) hx hb dL_law_257 (by decide) ?_
  refine lv_iadd hx hb dL_law_258 ?_
  refine W.eq (congrArg (fun z => F0 m 259 ls (.int z :: [.ref b, .ref (G2 0), .int (p_last u (xs (i + 1)))])) (nI_add i 1)) ?_
  refine va_sld hx hb hX hbl hbA hS (vp_in_nI (show (i + 1) < L by omega) (by omega)) dL_law_259 ?_
  refine W.eq (congrArg (fun z => F0 m 260 ls (.int (xs z) :: [.ref (G2 0), .int (p_last u (xs (i + 1)))])) (nI_clamp (show (i + 1) < 2 ^ 31 by omega))) ?_
  have hPc := hP.sub (ws' := (yW G2 C2 v)) [8, 9, 10, 11, 12, 13, 14, 15] rfl
  have hDc := hD.sub (ws' := (yW G2 C2 v)) [8, 9, 10, 11, 12, 13, 14, 15] (by decide) rfl
  have hKc := hK.sub (tys' := yT C2) [7, 8, 9, 10, 11, 12, 13] rfl
  refine xcall_i (ws := (xW G C u ++ yW G2 C2 v)) (wc := (yW G2 C2 v)) (wr := (xW G C u)) (w1 := (yW G2 C2 v)) (v := (yp_last v (xs (i + 1)))) [8, 9, 10, 11, 12, 13, 14, 15] [0, 1, 2, 3, 4, 5, 6, 7] (va_runV (As := [.int (xs (i + 1))]) (rest := [.int (p_last u (xs (i + 1)))]) ⟨hx, hb, hml, hown, hts⟩ (yc_last l dC dI G2 C2 _ v (xs (i + 1)) (yrel_hm hr) (yrel_hn hr)) (cwV 1 hts gL_law_Y_last rfl rfl rfl (by decide +kernel) ⟨Nat.le_of_ble_eq_true rfl, Nat.le_of_ble_eq_true rfl⟩) (xpreV (q0 := 0) (ci := 1) (qc := (RX1, TX1, 9)) hKc hPc hDc rfl rfl) rfl rfl hl.1 rfl (lv_room (Nat.le_of_ble_eq_true rfl)) dL_law_260 ⟨Nat.le_of_ble_eq_true rfl, Nat.le_of_ble_eq_true rfl⟩) hP hD hS hA rfl rfl (by decide) (by decide) (fun H locs hP hD hS => ?_)
  have hP : va_P (dC, dI) vwCl (xW G C u ++ yW G2 C2 v) H := hP
  have hD : va_D (fun q => s.heap.size ≤ q) (xW G C u ++ yW G2 C2 v) := hD
  obtain ⟨ea, er⟩ := r_last hr (xs (i + 1))
  refine lv_icmp_eq (tgt := 639) hx hb dL_law_263 rfl (fun _ => ?_) (fun q => absurd ea q)
  exact kk u v _ _ er hP hD hS
set_option maxHeartbeats 4000000 in
set_option maxRecDepth 100000 in
theorem k_take {p : Program} {l : Launch} {e : Env} {s : State} {m : MethodId} {below : List Frame} {meth : Method} {c : Code} {Q : State → Prop} {H : Heap} {locs : List Loc} {ls : Array Slot} {dC : Nat → ClassId} {dI : Nat → Nat → Nat} {G G2 : Nat → Nat} {C C2 : Nat → ClassId} {u : xS} {v : yS} {b L i : Nat} {xs : Nat → Int32} (B : CallFix p m c cL_law 4 s #[Value.ref b] lw_tbl RL) (hK : va_K (dC, dI) vwCl (xT C ++ yT C2) s) (hX : va_X b L xs s s.heap) (hbl : b < s.heap.size) (hi : i + 5 ≤ L) (hL : L ≤ 2560) (hr : Rel u v) (hP : va_P (dC, dI) vwCl (xW G C u ++ yW G2 C2 v) H) (hD : va_D (fun q => s.heap.size ≤ q) (xW G C u ++ yW G2 C2 v)) (hS : va_S (fun q => s.heap.size ≤ q) s.heap H locs) (hl : lv_has ls 4 [(3, .int (nI i)), (0, .ref b), (1, .ref (G 0)), (2, .ref (G2 0))]) (kk : ∀ (u2 : xS) (v2 : yS) (H : Heap) (locs : List Loc), Rel u2 v2 → va_P (dC, dI) vwCl (xW G C u2 ++ yW G2 C2 v2) H → va_D (fun q => s.heap.size ≤ q) (xW G C u2 ++ yW G2 C2 v2) → va_S (fun q => s.heap.size ≤ q) s.heap H locs → W p l e room_1 s m #[Value.ref b] below meth c H locs 16 1074 Q (F0 m 639 ls [])) : W p l e room_1 s m #[Value.ref b] below meth c H locs 16 1074 Q (F0 m 268 ls []) := by
  obtain ⟨hx, hb, hml, hown, hts⟩ := B
  have hbA : ¬ s.heap.size ≤ b := Nat.not_le.mpr hbl
  have hA : ∀ q : Nat, s.heap.size ≤ q → s.heap.size ≤ q := fun _ h => h
  refine lv_aload_n hx hb dL_law_268 rfl (lv_at hl 2 rfl) ?_
  refine lv_aload_n hx hb dL_law_269 rfl (lv_at hl 1 rfl) ?_
  refine lv_iload_n hx hb dL_law_270 rfl (lv_at hl 0 rfl) ?_
  refine lv_iconst (v := 1) hx hb dL_law_271 (by decide) ?_
  refine lv_iadd hx hb dL_law_272 ?_
  refine W.eq (congrArg (fun z => F0 m 273 ls (.int z :: [.ref b, .ref (G 0)])) (nI_add i 1)) ?_
  refine va_sld hx hb hX hbl hbA hS (vp_in_nI (show (i + 1) < L by omega) (by omega)) dL_law_273 ?_
  refine W.eq (congrArg (fun z => F0 m 274 ls (.int (xs z) :: [.ref (G 0)])) (nI_clamp (show (i + 1) < 2 ^ 31 by omega))) ?_
  have hPc := hP.sub (ws' := (xW G C u)) [0, 1, 2, 3, 4, 5, 6, 7] rfl
  have hDc := hD.sub (ws' := (xW G C u)) [0, 1, 2, 3, 4, 5, 6, 7] (by decide) rfl
  have hKc := hK.sub (tys' := xT C) [0, 1, 2, 3, 4, 5, 6] rfl
  refine xcall_i (ws := (xW G C u ++ yW G2 C2 v)) (wc := (xW G C u)) (wr := (yW G2 C2 v)) (w1 := (xW G C (q_take u (xs (i + 1))))) (v := (p_take u (xs (i + 1)))) [0, 1, 2, 3, 4, 5, 6, 7] [8, 9, 10, 11, 12, 13, 14, 15] (va_runV (As := [.int (xs (i + 1))]) (rest := []) ⟨hx, hb, hml, hown, hts⟩ (c_take l dC dI G C _ u (xs (i + 1)) (rel_hm hr) (rel_hn hr)) (cwV 1 hts (gLup gL_law_X0_take) rfl rfl rfl (by decide +kernel) ⟨Nat.le_of_ble_eq_true rfl, Nat.le_of_ble_eq_true rfl⟩) (xpreV (q0 := 0) (ci := 0) (qc := (RX0, TX0, 9)) hKc hPc hDc rfl rfl) rfl rfl hl.1 rfl (lv_room (Nat.le_of_ble_eq_true rfl)) dL_law_274 ⟨Nat.le_of_ble_eq_true rfl, Nat.le_of_ble_eq_true rfl⟩) hP hD hS hA rfl rfl (by decide) (by decide) (fun H locs hP hD hS => ?_)
  have hP := hP.sub (ws' := (xW G C (q_take u (xs (i + 1))) ++ yW G2 C2 v)) [8, 9, 10, 11, 12, 13, 14, 15, 0, 1, 2, 3, 4, 5, 6, 7] rfl
  have hD := hD.sub (ws' := (xW G C (q_take u (xs (i + 1))) ++ yW G2 C2 v)) [8, 9, 10, 11, 12, 13, 14, 15, 0, 1, 2, 3, 4, 5, 6, 7] (by decide) rfl
  refine lv_aload_n hx hb dL_law_277 rfl (lv_at hl 3 rfl) ?_
  refine lv_aload_n hx hb dL_law_278 rfl (lv_at hl 1 rfl) ?_
  refine lv_iload_n hx hb dL_law_279 rfl (lv_at hl 0 rfl) ?_
  refine lv_iconst (v := 1) hx hb dL_law_280 (by decide) ?_
  refine lv_iadd hx hb dL_law_281 ?_
  refine W.eq (congrArg (fun z => F0 m 282 ls (.int z :: [.ref b, .ref (G2 0), .int (p_take u (xs (i + 1)))])) (nI_add i 1)) ?_
  refine va_sld hx hb hX hbl hbA hS (vp_in_nI (show (i + 1) < L by omega) (by omega)) dL_law_282 ?_
  refine W.eq (congrArg (fun z => F0 m 283 ls (.int (xs z) :: [.ref (G2 0), .int (p_take u (xs (i + 1)))])) (nI_clamp (show (i + 1) < 2 ^ 31 by omega))) ?_
  have hPc := hP.sub (ws' := (yW G2 C2 v)) [8, 9, 10, 11, 12, 13, 14, 15] rfl
  have hDc := hD.sub (ws' := (yW G2 C2 v)) [8, 9, 10, 11, 12, 13, 14, 15] (by decide) rfl
  have hKc := hK.sub (tys' := yT C2) [7, 8, 9, 10, 11, 12, 13] rfl
  refine xcall_i (ws := (xW G C (q_take u (xs (i + 1))) ++ yW G2 C2 v)) (wc := (yW G2 C2 v)) (wr := (xW G C (q_take u (xs (i + 1))))) (w1 := (yW G2 C2 (yq_take v (xs (i + 1))))) (v := (yp_take v (xs (i + 1)))) [8, 9, 10, 11, 12, 13, 14, 15] [0, 1, 2, 3, 4, 5, 6, 7] (va_runV (As := [.int (xs (i + 1))]) (rest := [.int (p_take u (xs (i + 1)))]) ⟨hx, hb, hml, hown, hts⟩ (yc_take l dC dI G2 C2 _ v (xs (i + 1)) (yrel_hm hr) (yrel_hn hr)) (cwV 1 hts gL_law_Y_take rfl rfl rfl (by decide +kernel) ⟨Nat.le_of_ble_eq_true rfl, Nat.le_of_ble_eq_true rfl⟩) (xpreV (q0 := 0) (ci := 1) (qc := (RX1, TX1, 9)) hKc hPc hDc rfl rfl) rfl rfl hl.1 rfl (lv_room (Nat.le_of_ble_eq_true rfl)) dL_law_283 ⟨Nat.le_of_ble_eq_true rfl, Nat.le_of_ble_eq_true rfl⟩) hP hD hS hA rfl rfl (by decide) (by decide) (fun H locs hP hD hS => ?_)
  have hP : va_P (dC, dI) vwCl (xW G C (q_take u (xs (i + 1))) ++ yW G2 C2 (yq_take v (xs (i + 1)))) H := hP
  have hD : va_D (fun q => s.heap.size ≤ q) (xW G C (q_take u (xs (i + 1))) ++ yW G2 C2 (yq_take v (xs (i + 1)))) := hD
  obtain ⟨ea, er⟩ := r_take hr (xs (i + 1))
  refine lv_icmp_eq (tgt := 639) hx hb dL_law_286 rfl (fun _ => ?_) (fun q => absurd ea q)
  exact kk (q_take u (xs (i + 1))) (yq_take v (xs (i + 1))) _ _ er hP hD hS
set_option maxHeartbeats 4000000 in
set_option maxRecDepth 100000 in
theorem k_takeLast {p : Program} {l : Launch} {e : Env} {s : State} {m : MethodId} {below : List Frame} {meth : Method} {c : Code} {Q : State → Prop} {H : Heap} {locs : List Loc} {ls : Array Slot} {dC : Nat → ClassId} {dI : Nat → Nat → Nat} {G G2 : Nat → Nat} {C C2 : Nat → ClassId} {u : xS} {v : yS} {b L i : Nat} {xs : Nat → Int32} (B : CallFix p m c cL_law 4 s #[Value.ref b] lw_tbl RL) (hK : va_K (dC, dI) vwCl (xT C ++ yT C2) s) (hX : va_X b L xs s s.heap) (hbl : b < s.heap.size) (hi : i + 5 ≤ L) (hL : L ≤ 2560) (hr : Rel u v) (hP : va_P (dC, dI) vwCl (xW G C u ++ yW G2 C2 v) H) (hD : va_D (fun q => s.heap.size ≤ q) (xW G C u ++ yW G2 C2 v)) (hS : va_S (fun q => s.heap.size ≤ q) s.heap H locs) (hl : lv_has ls 4 [(3, .int (nI i)), (0, .ref b), (1, .ref (G 0)), (2, .ref (G2 0))]) (kk : ∀ (u2 : xS) (v2 : yS) (H : Heap) (locs : List Loc), Rel u2 v2 → va_P (dC, dI) vwCl (xW G C u2 ++ yW G2 C2 v2) H → va_D (fun q => s.heap.size ≤ q) (xW G C u2 ++ yW G2 C2 v2) → va_S (fun q => s.heap.size ≤ q) s.heap H locs → W p l e room_1 s m #[Value.ref b] below meth c H locs 16 1074 Q (F0 m 639 ls [])) : W p l e room_1 s m #[Value.ref b] below meth c H locs 16 1074 Q (F0 m 291 ls []) := by
  obtain ⟨hx, hb, hml, hown, hts⟩ := B
  have hbA : ¬ s.heap.size ≤ b := Nat.not_le.mpr hbl
  have hA : ∀ q : Nat, s.heap.size ≤ q → s.heap.size ≤ q := fun _ h => h
  refine lv_aload_n hx hb dL_law_291 rfl (lv_at hl 2 rfl) ?_
  refine lv_aload_n hx hb dL_law_292 rfl (lv_at hl 1 rfl) ?_
  refine lv_iload_n hx hb dL_law_293 rfl (lv_at hl 0 rfl) ?_
  refine lv_iconst (v := 1) hx hb dL_law_294 (by decide) ?_
  refine lv_iadd hx hb dL_law_295 ?_
  refine W.eq (congrArg (fun z => F0 m 296 ls (.int z :: [.ref b, .ref (G 0)])) (nI_add i 1)) ?_
  refine va_sld hx hb hX hbl hbA hS (vp_in_nI (show (i + 1) < L by omega) (by omega)) dL_law_296 ?_
  refine W.eq (congrArg (fun z => F0 m 297 ls (.int (xs z) :: [.ref (G 0)])) (nI_clamp (show (i + 1) < 2 ^ 31 by omega))) ?_
  have hPc := hP.sub (ws' := (xW G C u)) [0, 1, 2, 3, 4, 5, 6, 7] rfl
  have hDc := hD.sub (ws' := (xW G C u)) [0, 1, 2, 3, 4, 5, 6, 7] (by decide) rfl
  have hKc := hK.sub (tys' := xT C) [0, 1, 2, 3, 4, 5, 6] rfl
  refine xcall_i (ws := (xW G C u ++ yW G2 C2 v)) (wc := (xW G C u)) (wr := (yW G2 C2 v)) (w1 := (xW G C (q_takeLast u (xs (i + 1))))) (v := (p_takeLast u (xs (i + 1)))) [0, 1, 2, 3, 4, 5, 6, 7] [8, 9, 10, 11, 12, 13, 14, 15] (va_runV (As := [.int (xs (i + 1))]) (rest := []) ⟨hx, hb, hml, hown, hts⟩ (c_takeLast l dC dI G C _ u (xs (i + 1)) (rel_hm hr) (rel_hn hr)) (cwV 1 hts (gLup gL_law_X0_takeLast) rfl rfl rfl (by decide +kernel) ⟨Nat.le_of_ble_eq_true rfl, Nat.le_of_ble_eq_true rfl⟩) (xpreV (q0 := 0) (ci := 0) (qc := (RX0, TX0, 9)) hKc hPc hDc rfl rfl) rfl rfl hl.1 rfl (lv_room (Nat.le_of_ble_eq_true rfl)) dL_law_297 ⟨Nat.le_of_ble_eq_true rfl, Nat.le_of_ble_eq_true rfl⟩) hP hD hS hA rfl rfl (by decide) (by decide) (fun H locs hP hD hS => ?_)
  have hP := hP.sub (ws' := (xW G C (q_takeLast u (xs (i + 1))) ++ yW G2 C2 v)) [8, 9, 10, 11, 12, 13, 14, 15, 0, 1, 2, 3, 4, 5, 6, 7] rfl
  have hD := hD.sub (ws' := (xW G C (q_takeLast u (xs (i + 1))) ++ yW G2 C2 v)) [8, 9, 10, 11, 12, 13, 14, 15, 0, 1, 2, 3, 4, 5, 6, 7] (by decide) rfl
  refine lv_aload_n hx hb dL_law_300 rfl (lv_at hl 3 rfl) ?_
  refine lv_aload_n hx hb dL_law_301 rfl (lv_at hl 1 rfl) ?_
  refine lv_iload_n hx hb dL_law_302 rfl (lv_at hl 0 rfl) ?_
  refine lv_iconst (v := 1) hx hb dL_law_303 (by decide) ?_
  refine lv_iadd hx hb dL_law_304 ?_
  refine W.eq (congrArg (fun z => F0 m 305 ls (.int z :: [.ref b, .ref (G2 0), .int (p_takeLast u (xs (i + 1)))])) (nI_add i 1)) ?_
  refine va_sld hx hb hX hbl hbA hS (vp_in_nI (show (i + 1) < L by omega) (by omega)) dL_law_305 ?_
  refine W.eq (congrArg (fun z => F0 m 306 ls (.int (xs z) :: [.ref (G2 0), .int (p_takeLast u (xs (i + 1)))])) (nI_clamp (show (i + 1) < 2 ^ 31 by omega))) ?_
  have hPc := hP.sub (ws' := (yW G2 C2 v)) [8, 9, 10, 11, 12, 13, 14, 15] rfl
  have hDc := hD.sub (ws' := (yW G2 C2 v)) [8, 9, 10, 11, 12, 13, 14, 15] (by decide) rfl
  have hKc := hK.sub (tys' := yT C2) [7, 8, 9, 10, 11, 12, 13] rfl
  refine xcall_i (ws := (xW G C (q_takeLast u (xs (i + 1))) ++ yW G2 C2 v)) (wc := (yW G2 C2 v)) (wr := (xW G C (q_takeLast u (xs (i + 1))))) (w1 := (yW G2 C2 (yq_takeLast v (xs (i + 1))))) (v := (yp_takeLast v (xs (i + 1)))) [8, 9, 10, 11, 12, 13, 14, 15] [0, 1, 2, 3, 4, 5, 6, 7] (va_runV (As := [.int (xs (i + 1))]) (rest := [.int (p_takeLast u (xs (i + 1)))]) ⟨hx, hb, hml, hown, hts⟩ (yc_takeLast l dC dI G2 C2 _ v (xs (i + 1)) (yrel_hm hr) (yrel_hn hr)) (cwV 1 hts gL_law_Y_takeLast rfl rfl rfl (by decide +kernel) ⟨Nat.le_of_ble_eq_true rfl, Nat.le_of_ble_eq_true rfl⟩) (xpreV (q0 := 0) (ci := 1) (qc := (RX1, TX1, 9)) hKc hPc hDc rfl rfl) rfl rfl hl.1 rfl (lv_room (Nat.le_of_ble_eq_true rfl)) dL_law_306 ⟨Nat.le_of_ble_eq_true rfl, Nat.le_of_ble_eq_true rfl⟩) hP hD hS hA rfl rfl (by decide) (by decide) (fun H locs hP hD hS => ?_)
  have hP : va_P (dC, dI) vwCl (xW G C (q_takeLast u (xs (i + 1))) ++ yW G2 C2 (yq_takeLast v (xs (i + 1)))) H := hP
  have hD : va_D (fun q => s.heap.size ≤ q) (xW G C (q_takeLast u (xs (i + 1))) ++ yW G2 C2 (yq_takeLast v (xs (i + 1)))) := hD
  obtain ⟨ea, er⟩ := r_takeLast hr (xs (i + 1))
  refine lv_icmp_eq (tgt := 639) hx hb dL_law_309 rfl (fun _ => ?_) (fun q => absurd ea q)
  exact kk (q_takeLast u (xs (i + 1))) (yq_takeLast v (xs (i + 1))) _ _ er hP hD hS
set_option maxHeartbeats 4000000 in
set_option maxRecDepth 100000 in
theorem k_decrease {p : Program} {l : Launch} {e : Env} {s : State} {m : MethodId} {below : List Frame} {meth : Method} {c : Code} {Q : State → Prop} {H : Heap} {locs : List Loc} {ls : Array Slot} {dC : Nat → ClassId} {dI : Nat → Nat → Nat} {G G2 : Nat → Nat} {C C2 : Nat → ClassId} {u : xS} {v : yS} {b L i : Nat} {xs : Nat → Int32} (B : CallFix p m c cL_law 4 s #[Value.ref b] lw_tbl RL) (hK : va_K (dC, dI) vwCl (xT C ++ yT C2) s) (hX : va_X b L xs s s.heap) (hbl : b < s.heap.size) (hi : i + 5 ≤ L) (hL : L ≤ 2560) (hr : Rel u v) (hP : va_P (dC, dI) vwCl (xW G C u ++ yW G2 C2 v) H) (hD : va_D (fun q => s.heap.size ≤ q) (xW G C u ++ yW G2 C2 v)) (hS : va_S (fun q => s.heap.size ≤ q) s.heap H locs) (hl : lv_has ls 4 [(3, .int (nI i)), (0, .ref b), (1, .ref (G 0)), (2, .ref (G2 0))]) (kk : ∀ (u2 : xS) (v2 : yS) (H : Heap) (locs : List Loc), Rel u2 v2 → va_P (dC, dI) vwCl (xW G C u2 ++ yW G2 C2 v2) H → va_D (fun q => s.heap.size ≤ q) (xW G C u2 ++ yW G2 C2 v2) → va_S (fun q => s.heap.size ≤ q) s.heap H locs → W p l e room_1 s m #[Value.ref b] below meth c H locs 16 1074 Q (F0 m 639 ls [])) : W p l e room_1 s m #[Value.ref b] below meth c H locs 16 1074 Q (F0 m 314 ls []) := by
  obtain ⟨hx, hb, hml, hown, hts⟩ := B
  have hbA : ¬ s.heap.size ≤ b := Nat.not_le.mpr hbl
  have hA : ∀ q : Nat, s.heap.size ≤ q → s.heap.size ≤ q := fun _ h => h
  refine lv_aload_n hx hb dL_law_314 rfl (lv_at hl 2 rfl) ?_
  refine lv_aload_n hx hb dL_law_315 rfl (lv_at hl 1 rfl) ?_
  refine lv_iload_n hx hb dL_law_316 rfl (lv_at hl 0 rfl) ?_
  refine lv_iconst (v := 1) hx hb dL_law_317 (by decide) ?_
  refine lv_iadd hx hb dL_law_318 ?_
  refine W.eq (congrArg (fun z => F0 m 319 ls (.int z :: [.ref b, .ref (G 0)])) (nI_add i 1)) ?_
  refine va_sld hx hb hX hbl hbA hS (vp_in_nI (show (i + 1) < L by omega) (by omega)) dL_law_319 ?_
  refine W.eq (congrArg (fun z => F0 m 320 ls (.int (xs z) :: [.ref (G 0)])) (nI_clamp (show (i + 1) < 2 ^ 31 by omega))) ?_
  refine lv_aload_n hx hb dL_law_320 rfl (lv_at hl 1 rfl) ?_
  refine lv_iload_n hx hb dL_law_321 rfl (lv_at hl 0 rfl) ?_
  refine lv_iconst (v := 2) hx hb dL_law_322 (by decide) ?_
  refine lv_iadd hx hb dL_law_323 ?_
  refine W.eq (congrArg (fun z => F0 m 324 ls (.int z :: [.ref b, .int (xs (i + 1)), .ref (G 0)])) (nI_add i 2)) ?_
  refine va_sld hx hb hX hbl hbA hS (vp_in_nI (show (i + 2) < L by omega) (by omega)) dL_law_324 ?_
  refine W.eq (congrArg (fun z => F0 m 325 ls (.int (xs z) :: [.int (xs (i + 1)), .ref (G 0)])) (nI_clamp (show (i + 2) < 2 ^ 31 by omega))) ?_
  refine lv_i2l (v := ((xs (i + 2))).toInt64) hx hb dL_law_325 rfl ?_
  refine lv_bipush (v := 32) hx hb dL_law_326 (by decide) ?_
  refine lv_lshl (v := (((xs (i + 2))).toInt64 <<< ((32 : Int32).toInt64 &&& 63))) hx hb dL_law_328 rfl ?_
  refine lv_aload_n hx hb dL_law_329 rfl (lv_at hl 1 rfl) ?_
  refine lv_iload_n hx hb dL_law_330 rfl (lv_at hl 0 rfl) ?_
  refine lv_iconst (v := 3) hx hb dL_law_331 (by decide) ?_
  refine lv_iadd hx hb dL_law_332 ?_
  refine W.eq (congrArg (fun z => F0 m 333 ls (.int z :: [.ref b, .long (((xs (i + 2))).toInt64 <<< ((32 : Int32).toInt64 &&& 63)), .int (xs (i + 1)), .ref (G 0)])) (nI_add i 3)) ?_
  refine va_sld hx hb hX hbl hbA hS (vp_in_nI (show (i + 3) < L by omega) (by omega)) dL_law_333 ?_
  refine W.eq (congrArg (fun z => F0 m 334 ls (.int (xs z) :: [.long (((xs (i + 2))).toInt64 <<< ((32 : Int32).toInt64 &&& 63)), .int (xs (i + 1)), .ref (G 0)])) (nI_clamp (show (i + 3) < 2 ^ 31 by omega))) ?_
  refine lv_i2l (v := ((xs (i + 3))).toInt64) hx hb dL_law_334 rfl ?_
  refine lv_ldc2 (v := 4294967295) hx hb hown (hts (.constantLong RL 18 4294967295) (by decide +kernel)) dL_law_335 ?_
  refine lv_land hx hb dL_law_338 ?_
  refine lv_lor hx hb dL_law_339 ?_
  refine W.eq (g2 := F0 m 340 ls [.long (kyL (xs (i + 2)) (xs (i + 3))), .int (xs (i + 1)), .ref (G 0)]) rfl ?_
  have hPc := hP.sub (ws' := (xW G C u)) [0, 1, 2, 3, 4, 5, 6, 7] rfl
  have hDc := hD.sub (ws' := (xW G C u)) [0, 1, 2, 3, 4, 5, 6, 7] (by decide) rfl
  have hKc := hK.sub (tys' := xT C) [0, 1, 2, 3, 4, 5, 6] rfl
  refine xcall_i (ws := (xW G C u ++ yW G2 C2 v)) (wc := (xW G C u)) (wr := (yW G2 C2 v)) (w1 := (xW G C (q_decrease u (xs (i + 1)) (kyL (xs (i + 2)) (xs (i + 3)))))) (v := (p_decrease u (xs (i + 1)) (kyL (xs (i + 2)) (xs (i + 3))))) [0, 1, 2, 3, 4, 5, 6, 7] [8, 9, 10, 11, 12, 13, 14, 15] (va_runV (As := [.int (xs (i + 1)), .long (kyL (xs (i + 2)) (xs (i + 3)))]) (rest := []) ⟨hx, hb, hml, hown, hts⟩ (c_decrease l dC dI G C _ u (xs (i + 1)) (kyL (xs (i + 2)) (xs (i + 3))) (rel_hn hr) (rel_ho hr)) (cwV 2 hts (gLup gL_law_X0_decrease) rfl rfl rfl (by decide +kernel) ⟨Nat.le_of_ble_eq_true rfl, Nat.le_of_ble_eq_true rfl⟩) (xpreV (q0 := 0) (ci := 0) (qc := (RX0, TX0, 9)) hKc hPc hDc rfl rfl) rfl rfl hl.1 rfl (lv_room (Nat.le_of_ble_eq_true rfl)) dL_law_340 ⟨Nat.le_of_ble_eq_true rfl, Nat.le_of_ble_eq_true rfl⟩) hP hD hS hA rfl rfl (by decide) (by decide) (fun H locs hP hD hS => ?_)
  have hP := hP.sub (ws' := (xW G C (q_decrease u (xs (i + 1)) (kyL (xs (i + 2)) (xs (i + 3)))) ++ yW G2 C2 v)) [8, 9, 10, 11, 12, 13, 14, 15, 0, 1, 2, 3, 4, 5, 6, 7] rfl
  have hD := hD.sub (ws' := (xW G C (q_decrease u (xs (i + 1)) (kyL (xs (i + 2)) (xs (i + 3)))) ++ yW G2 C2 v)) [8, 9, 10, 11, 12, 13, 14, 15, 0, 1, 2, 3, 4, 5, 6, 7] (by decide) rfl
  refine lv_aload_n hx hb dL_law_343 rfl (lv_at hl 3 rfl) ?_
  refine lv_aload_n hx hb dL_law_344 rfl (lv_at hl 1 rfl) ?_
  refine lv_iload_n hx hb dL_law_345 rfl (lv_at hl 0 rfl) ?_
  refine lv_iconst (v := 1) hx hb dL_law_346 (by decide) ?_
  refine lv_iadd hx hb dL_law_347 ?_
  refine W.eq (congrArg (fun z => F0 m 348 ls (.int z :: [.ref b, .ref (G2 0), .int (p_decrease u (xs (i + 1)) (kyL (xs (i + 2)) (xs (i + 3))))])) (nI_add i 1)) ?_
  refine va_sld hx hb hX hbl hbA hS (vp_in_nI (show (i + 1) < L by omega) (by omega)) dL_law_348 ?_
  refine W.eq (congrArg (fun z => F0 m 349 ls (.int (xs z) :: [.ref (G2 0), .int (p_decrease u (xs (i + 1)) (kyL (xs (i + 2)) (xs (i + 3))))])) (nI_clamp (show (i + 1) < 2 ^ 31 by omega))) ?_
  refine lv_aload_n hx hb dL_law_349 rfl (lv_at hl 1 rfl) ?_
  refine lv_iload_n hx hb dL_law_350 rfl (lv_at hl 0 rfl) ?_
  refine lv_iconst (v := 2) hx hb dL_law_351 (by decide) ?_
  refine lv_iadd hx hb dL_law_352 ?_
  refine W.eq (congrArg (fun z => F0 m 353 ls (.int z :: [.ref b, .int (xs (i + 1)), .ref (G2 0), .int (p_decrease u (xs (i + 1)) (kyL (xs (i + 2)) (xs (i + 3))))])) (nI_add i 2)) ?_
  refine va_sld hx hb hX hbl hbA hS (vp_in_nI (show (i + 2) < L by omega) (by omega)) dL_law_353 ?_
  refine W.eq (congrArg (fun z => F0 m 354 ls (.int (xs z) :: [.int (xs (i + 1)), .ref (G2 0), .int (p_decrease u (xs (i + 1)) (kyL (xs (i + 2)) (xs (i + 3))))])) (nI_clamp (show (i + 2) < 2 ^ 31 by omega))) ?_
  refine lv_i2l (v := ((xs (i + 2))).toInt64) hx hb dL_law_354 rfl ?_
  refine lv_bipush (v := 32) hx hb dL_law_355 (by decide) ?_
  refine lv_lshl (v := (((xs (i + 2))).toInt64 <<< ((32 : Int32).toInt64 &&& 63))) hx hb dL_law_357 rfl ?_
  refine lv_aload_n hx hb dL_law_358 rfl (lv_at hl 1 rfl) ?_
  refine lv_iload_n hx hb dL_law_359 rfl (lv_at hl 0 rfl) ?_
  refine lv_iconst (v := 3) hx hb dL_law_360 (by decide) ?_
  refine lv_iadd hx hb dL_law_361 ?_
  refine W.eq (congrArg (fun z => F0 m 362 ls (.int z :: [.ref b, .long (((xs (i + 2))).toInt64 <<< ((32 : Int32).toInt64 &&& 63)), .int (xs (i + 1)), .ref (G2 0), .int (p_decrease u (xs (i + 1)) (kyL (xs (i + 2)) (xs (i + 3))))])) (nI_add i 3)) ?_
  refine va_sld hx hb hX hbl hbA hS (vp_in_nI (show (i + 3) < L by omega) (by omega)) dL_law_362 ?_
  refine W.eq (congrArg (fun z => F0 m 363 ls (.int (xs z) :: [.long (((xs (i + 2))).toInt64 <<< ((32 : Int32).toInt64 &&& 63)), .int (xs (i + 1)), .ref (G2 0), .int (p_decrease u (xs (i + 1)) (kyL (xs (i + 2)) (xs (i + 3))))])) (nI_clamp (show (i + 3) < 2 ^ 31 by omega))) ?_
  refine lv_i2l (v := ((xs (i + 3))).toInt64) hx hb dL_law_363 rfl ?_
  refine lv_ldc2 (v := 4294967295) hx hb hown (hts (.constantLong RL 18 4294967295) (by decide +kernel)) dL_law_364 ?_
  refine lv_land hx hb dL_law_367 ?_
  refine lv_lor hx hb dL_law_368 ?_
  refine W.eq (g2 := F0 m 369 ls [.long (kyL (xs (i + 2)) (xs (i + 3))), .int (xs (i + 1)), .ref (G2 0), .int (p_decrease u (xs (i + 1)) (kyL (xs (i + 2)) (xs (i + 3))))]) rfl ?_
  have hPc := hP.sub (ws' := (yW G2 C2 v)) [8, 9, 10, 11, 12, 13, 14, 15] rfl
  have hDc := hD.sub (ws' := (yW G2 C2 v)) [8, 9, 10, 11, 12, 13, 14, 15] (by decide) rfl
  have hKc := hK.sub (tys' := yT C2) [7, 8, 9, 10, 11, 12, 13] rfl
  refine xcall_i (ws := (xW G C (q_decrease u (xs (i + 1)) (kyL (xs (i + 2)) (xs (i + 3)))) ++ yW G2 C2 v)) (wc := (yW G2 C2 v)) (wr := (xW G C (q_decrease u (xs (i + 1)) (kyL (xs (i + 2)) (xs (i + 3)))))) (w1 := (yW G2 C2 (yq_decrease v (xs (i + 1)) (kyL (xs (i + 2)) (xs (i + 3)))))) (v := (yp_decrease v (xs (i + 1)) (kyL (xs (i + 2)) (xs (i + 3))))) [8, 9, 10, 11, 12, 13, 14, 15] [0, 1, 2, 3, 4, 5, 6, 7] (va_runV (As := [.int (xs (i + 1)), .long (kyL (xs (i + 2)) (xs (i + 3)))]) (rest := [.int (p_decrease u (xs (i + 1)) (kyL (xs (i + 2)) (xs (i + 3))))]) ⟨hx, hb, hml, hown, hts⟩ (yc_decrease l dC dI G2 C2 _ v (xs (i + 1)) (kyL (xs (i + 2)) (xs (i + 3))) (yrel_hn hr) (yrel_ho hr)) (cwV 2 hts gL_law_Y_decrease rfl rfl rfl (by decide +kernel) ⟨Nat.le_of_ble_eq_true rfl, Nat.le_of_ble_eq_true rfl⟩) (xpreV (q0 := 0) (ci := 1) (qc := (RX1, TX1, 9)) hKc hPc hDc rfl rfl) rfl rfl hl.1 rfl (lv_room (Nat.le_of_ble_eq_true rfl)) dL_law_369 ⟨Nat.le_of_ble_eq_true rfl, Nat.le_of_ble_eq_true rfl⟩) hP hD hS hA rfl rfl (by decide) (by decide) (fun H locs hP hD hS => ?_)
  have hP : va_P (dC, dI) vwCl (xW G C (q_decrease u (xs (i + 1)) (kyL (xs (i + 2)) (xs (i + 3)))) ++ yW G2 C2 (yq_decrease v (xs (i + 1)) (kyL (xs (i + 2)) (xs (i + 3))))) H := hP
  have hD : va_D (fun q => s.heap.size ≤ q) (xW G C (q_decrease u (xs (i + 1)) (kyL (xs (i + 2)) (xs (i + 3)))) ++ yW G2 C2 (yq_decrease v (xs (i + 1)) (kyL (xs (i + 2)) (xs (i + 3))))) := hD
  obtain ⟨ea, er⟩ := r_decrease hr (xs (i + 1)) (kyL (xs (i + 2)) (xs (i + 3)))
  refine lv_icmp_eq (tgt := 639) hx hb dL_law_372 rfl (fun _ => ?_) (fun q => absurd ea q)
  exact kk (q_decrease u (xs (i + 1)) (kyL (xs (i + 2)) (xs (i + 3)))) (yq_decrease v (xs (i + 1)) (kyL (xs (i + 2)) (xs (i + 3)))) _ _ er hP hD hS
set_option maxHeartbeats 4000000 in
set_option maxRecDepth 100000 in
theorem k_delete {p : Program} {l : Launch} {e : Env} {s : State} {m : MethodId} {below : List Frame} {meth : Method} {c : Code} {Q : State → Prop} {H : Heap} {locs : List Loc} {ls : Array Slot} {dC : Nat → ClassId} {dI : Nat → Nat → Nat} {G G2 : Nat → Nat} {C C2 : Nat → ClassId} {u : xS} {v : yS} {b L i : Nat} {xs : Nat → Int32} (B : CallFix p m c cL_law 4 s #[Value.ref b] lw_tbl RL) (hK : va_K (dC, dI) vwCl (xT C ++ yT C2) s) (hX : va_X b L xs s s.heap) (hbl : b < s.heap.size) (hi : i + 5 ≤ L) (hL : L ≤ 2560) (hr : Rel u v) (hP : va_P (dC, dI) vwCl (xW G C u ++ yW G2 C2 v) H) (hD : va_D (fun q => s.heap.size ≤ q) (xW G C u ++ yW G2 C2 v)) (hS : va_S (fun q => s.heap.size ≤ q) s.heap H locs) (hl : lv_has ls 4 [(3, .int (nI i)), (0, .ref b), (1, .ref (G 0)), (2, .ref (G2 0))]) (kk : ∀ (u2 : xS) (v2 : yS) (H : Heap) (locs : List Loc), Rel u2 v2 → va_P (dC, dI) vwCl (xW G C u2 ++ yW G2 C2 v2) H → va_D (fun q => s.heap.size ≤ q) (xW G C u2 ++ yW G2 C2 v2) → va_S (fun q => s.heap.size ≤ q) s.heap H locs → W p l e room_1 s m #[Value.ref b] below meth c H locs 16 1074 Q (F0 m 639 ls [])) : W p l e room_1 s m #[Value.ref b] below meth c H locs 16 1074 Q (F0 m 377 ls []) := by
  obtain ⟨hx, hb, hml, hown, hts⟩ := B
  have hbA : ¬ s.heap.size ≤ b := Nat.not_le.mpr hbl
  have hA : ∀ q : Nat, s.heap.size ≤ q → s.heap.size ≤ q := fun _ h => h
  refine lv_aload_n hx hb dL_law_377 rfl (lv_at hl 2 rfl) ?_
  refine lv_aload_n hx hb dL_law_378 rfl (lv_at hl 1 rfl) ?_
  refine lv_iload_n hx hb dL_law_379 rfl (lv_at hl 0 rfl) ?_
  refine lv_iconst (v := 1) hx hb dL_law_380 (by decide) ?_
  refine lv_iadd hx hb dL_law_381 ?_
  refine W.eq (congrArg (fun z => F0 m 382 ls (.int z :: [.ref b, .ref (G 0)])) (nI_add i 1)) ?_
  refine va_sld hx hb hX hbl hbA hS (vp_in_nI (show (i + 1) < L by omega) (by omega)) dL_law_382 ?_
  refine W.eq (congrArg (fun z => F0 m 383 ls (.int (xs z) :: [.ref (G 0)])) (nI_clamp (show (i + 1) < 2 ^ 31 by omega))) ?_
  have hPc := hP.sub (ws' := (xW G C u)) [0, 1, 2, 3, 4, 5, 6, 7] rfl
  have hDc := hD.sub (ws' := (xW G C u)) [0, 1, 2, 3, 4, 5, 6, 7] (by decide) rfl
  have hKc := hK.sub (tys' := xT C) [0, 1, 2, 3, 4, 5, 6] rfl
  refine xcall_i (ws := (xW G C u ++ yW G2 C2 v)) (wc := (xW G C u)) (wr := (yW G2 C2 v)) (w1 := (xW G C (q_delete u (xs (i + 1))))) (v := (p_delete u (xs (i + 1)))) [0, 1, 2, 3, 4, 5, 6, 7] [8, 9, 10, 11, 12, 13, 14, 15] (va_runV (As := [.int (xs (i + 1))]) (rest := []) ⟨hx, hb, hml, hown, hts⟩ (c_delete l dC dI G C _ u (xs (i + 1)) (rel_hn hr)) (cwV 1 hts (gLup gL_law_X0_delete) rfl rfl rfl (by decide +kernel) ⟨Nat.le_of_ble_eq_true rfl, Nat.le_of_ble_eq_true rfl⟩) (xpreV (q0 := 0) (ci := 0) (qc := (RX0, TX0, 9)) hKc hPc hDc rfl rfl) rfl rfl hl.1 rfl (lv_room (Nat.le_of_ble_eq_true rfl)) dL_law_383 ⟨Nat.le_of_ble_eq_true rfl, Nat.le_of_ble_eq_true rfl⟩) hP hD hS hA rfl rfl (by decide) (by decide) (fun H locs hP hD hS => ?_)
  have hP := hP.sub (ws' := (xW G C (q_delete u (xs (i + 1))) ++ yW G2 C2 v)) [8, 9, 10, 11, 12, 13, 14, 15, 0, 1, 2, 3, 4, 5, 6, 7] rfl
  have hD := hD.sub (ws' := (xW G C (q_delete u (xs (i + 1))) ++ yW G2 C2 v)) [8, 9, 10, 11, 12, 13, 14, 15, 0, 1, 2, 3, 4, 5, 6, 7] (by decide) rfl
  refine lv_aload_n hx hb dL_law_386 rfl (lv_at hl 3 rfl) ?_
  refine lv_aload_n hx hb dL_law_387 rfl (lv_at hl 1 rfl) ?_
  refine lv_iload_n hx hb dL_law_388 rfl (lv_at hl 0 rfl) ?_
  refine lv_iconst (v := 1) hx hb dL_law_389 (by decide) ?_
  refine lv_iadd hx hb dL_law_390 ?_
  refine W.eq (congrArg (fun z => F0 m 391 ls (.int z :: [.ref b, .ref (G2 0), .int (p_delete u (xs (i + 1)))])) (nI_add i 1)) ?_
  refine va_sld hx hb hX hbl hbA hS (vp_in_nI (show (i + 1) < L by omega) (by omega)) dL_law_391 ?_
  refine W.eq (congrArg (fun z => F0 m 392 ls (.int (xs z) :: [.ref (G2 0), .int (p_delete u (xs (i + 1)))])) (nI_clamp (show (i + 1) < 2 ^ 31 by omega))) ?_
  have hPc := hP.sub (ws' := (yW G2 C2 v)) [8, 9, 10, 11, 12, 13, 14, 15] rfl
  have hDc := hD.sub (ws' := (yW G2 C2 v)) [8, 9, 10, 11, 12, 13, 14, 15] (by decide) rfl
  have hKc := hK.sub (tys' := yT C2) [7, 8, 9, 10, 11, 12, 13] rfl
  refine xcall_i (ws := (xW G C (q_delete u (xs (i + 1))) ++ yW G2 C2 v)) (wc := (yW G2 C2 v)) (wr := (xW G C (q_delete u (xs (i + 1))))) (w1 := (yW G2 C2 (yq_delete v (xs (i + 1))))) (v := (yp_delete v (xs (i + 1)))) [8, 9, 10, 11, 12, 13, 14, 15] [0, 1, 2, 3, 4, 5, 6, 7] (va_runV (As := [.int (xs (i + 1))]) (rest := [.int (p_delete u (xs (i + 1)))]) ⟨hx, hb, hml, hown, hts⟩ (yc_delete l dC dI G2 C2 _ v (xs (i + 1)) (yrel_hn hr)) (cwV 1 hts gL_law_Y_delete rfl rfl rfl (by decide +kernel) ⟨Nat.le_of_ble_eq_true rfl, Nat.le_of_ble_eq_true rfl⟩) (xpreV (q0 := 0) (ci := 1) (qc := (RX1, TX1, 9)) hKc hPc hDc rfl rfl) rfl rfl hl.1 rfl (lv_room (Nat.le_of_ble_eq_true rfl)) dL_law_392 ⟨Nat.le_of_ble_eq_true rfl, Nat.le_of_ble_eq_true rfl⟩) hP hD hS hA rfl rfl (by decide) (by decide) (fun H locs hP hD hS => ?_)
  have hP : va_P (dC, dI) vwCl (xW G C (q_delete u (xs (i + 1))) ++ yW G2 C2 (yq_delete v (xs (i + 1)))) H := hP
  have hD : va_D (fun q => s.heap.size ≤ q) (xW G C (q_delete u (xs (i + 1))) ++ yW G2 C2 (yq_delete v (xs (i + 1)))) := hD
  obtain ⟨ea, er⟩ := r_delete hr (xs (i + 1))
  refine lv_icmp_eq (tgt := 639) hx hb dL_law_395 rfl (fun _ => ?_) (fun q => absurd ea q)
  exact kk (q_delete u (xs (i + 1))) (yq_delete v (xs (i + 1))) _ _ er hP hD hS
set_option maxHeartbeats 4000000 in
set_option maxRecDepth 100000 in
theorem k_meld {p : Program} {l : Launch} {e : Env} {s : State} {m : MethodId} {below : List Frame} {meth : Method} {c : Code} {Q : State → Prop} {H : Heap} {locs : List Loc} {ls : Array Slot} {dC : Nat → ClassId} {dI : Nat → Nat → Nat} {G G2 : Nat → Nat} {C C2 : Nat → ClassId} {u : xS} {v : yS} {b L i : Nat} {xs : Nat → Int32} (B : CallFix p m c cL_law 4 s #[Value.ref b] lw_tbl RL) (hK : va_K (dC, dI) vwCl (xT C ++ yT C2) s) (hX : va_X b L xs s s.heap) (hbl : b < s.heap.size) (hi : i + 5 ≤ L) (hL : L ≤ 2560) (hr : Rel u v) (hP : va_P (dC, dI) vwCl (xW G C u ++ yW G2 C2 v) H) (hD : va_D (fun q => s.heap.size ≤ q) (xW G C u ++ yW G2 C2 v)) (hS : va_S (fun q => s.heap.size ≤ q) s.heap H locs) (hl : lv_has ls 4 [(3, .int (nI i)), (0, .ref b), (1, .ref (G 0)), (2, .ref (G2 0))]) (kk : ∀ (u2 : xS) (v2 : yS) (H : Heap) (locs : List Loc), Rel u2 v2 → va_P (dC, dI) vwCl (xW G C u2 ++ yW G2 C2 v2) H → va_D (fun q => s.heap.size ≤ q) (xW G C u2 ++ yW G2 C2 v2) → va_S (fun q => s.heap.size ≤ q) s.heap H locs → W p l e room_1 s m #[Value.ref b] below meth c H locs 16 1074 Q (F0 m 639 ls [])) : W p l e room_1 s m #[Value.ref b] below meth c H locs 16 1074 Q (F0 m 400 ls []) := by
  obtain ⟨hx, hb, hml, hown, hts⟩ := B
  have hbA : ¬ s.heap.size ≤ b := Nat.not_le.mpr hbl
  have hA : ∀ q : Nat, s.heap.size ≤ q → s.heap.size ≤ q := fun _ h => h
  refine lv_aload_n hx hb dL_law_400 rfl (lv_at hl 2 rfl) ?_
  refine lv_aload_n hx hb dL_law_401 rfl (lv_at hl 1 rfl) ?_
  refine lv_iload_n hx hb dL_law_402 rfl (lv_at hl 0 rfl) ?_
  refine lv_iconst (v := 1) hx hb dL_law_403 (by decide) ?_
  refine lv_iadd hx hb dL_law_404 ?_
  refine W.eq (congrArg (fun z => F0 m 405 ls (.int z :: [.ref b, .ref (G 0)])) (nI_add i 1)) ?_
  refine va_sld hx hb hX hbl hbA hS (vp_in_nI (show (i + 1) < L by omega) (by omega)) dL_law_405 ?_
  refine W.eq (congrArg (fun z => F0 m 406 ls (.int (xs z) :: [.ref (G 0)])) (nI_clamp (show (i + 1) < 2 ^ 31 by omega))) ?_
  refine lv_aload_n hx hb dL_law_406 rfl (lv_at hl 1 rfl) ?_
  refine lv_iload_n hx hb dL_law_407 rfl (lv_at hl 0 rfl) ?_
  refine lv_iconst (v := 2) hx hb dL_law_408 (by decide) ?_
  refine lv_iadd hx hb dL_law_409 ?_
  refine W.eq (congrArg (fun z => F0 m 410 ls (.int z :: [.ref b, .int (xs (i + 1)), .ref (G 0)])) (nI_add i 2)) ?_
  refine va_sld hx hb hX hbl hbA hS (vp_in_nI (show (i + 2) < L by omega) (by omega)) dL_law_410 ?_
  refine W.eq (congrArg (fun z => F0 m 411 ls (.int (xs z) :: [.int (xs (i + 1)), .ref (G 0)])) (nI_clamp (show (i + 2) < 2 ^ 31 by omega))) ?_
  have hPc := hP.sub (ws' := (xW G C u)) [0, 1, 2, 3, 4, 5, 6, 7] rfl
  have hDc := hD.sub (ws' := (xW G C u)) [0, 1, 2, 3, 4, 5, 6, 7] (by decide) rfl
  have hKc := hK.sub (tys' := xT C) [0, 1, 2, 3, 4, 5, 6] rfl
  refine xcall_i (ws := (xW G C u ++ yW G2 C2 v)) (wc := (xW G C u)) (wr := (yW G2 C2 v)) (w1 := (xW G C (q_meld u (xs (i + 1)) (xs (i + 2))))) (v := (p_meld u (xs (i + 1)) (xs (i + 2)))) [0, 1, 2, 3, 4, 5, 6, 7] [8, 9, 10, 11, 12, 13, 14, 15] (va_runV (As := [.int (xs (i + 1)), .int (xs (i + 2))]) (rest := []) ⟨hx, hb, hml, hown, hts⟩ (c_meld l dC dI G C _ u (xs (i + 1)) (xs (i + 2)) (rel_hm hr) (rel_hn hr)) (cwV 2 hts (gLup gL_law_X0_meld) rfl rfl rfl (by decide +kernel) ⟨Nat.le_of_ble_eq_true rfl, Nat.le_of_ble_eq_true rfl⟩) (xpreV (q0 := 0) (ci := 0) (qc := (RX0, TX0, 9)) hKc hPc hDc rfl rfl) rfl rfl hl.1 rfl (lv_room (Nat.le_of_ble_eq_true rfl)) dL_law_411 ⟨Nat.le_of_ble_eq_true rfl, Nat.le_of_ble_eq_true rfl⟩) hP hD hS hA rfl rfl (by decide) (by decide) (fun H locs hP hD hS => ?_)
  have hP := hP.sub (ws' := (xW G C (q_meld u (xs (i + 1)) (xs (i + 2))) ++ yW G2 C2 v)) [8, 9, 10, 11, 12, 13, 14, 15, 0, 1, 2, 3, 4, 5, 6, 7] rfl
  have hD := hD.sub (ws' := (xW G C (q_meld u (xs (i + 1)) (xs (i + 2))) ++ yW G2 C2 v)) [8, 9, 10, 11, 12, 13, 14, 15, 0, 1, 2, 3, 4, 5, 6, 7] (by decide) rfl
  refine lv_aload_n hx hb dL_law_414 rfl (lv_at hl 3 rfl) ?_
  refine lv_aload_n hx hb dL_law_415 rfl (lv_at hl 1 rfl) ?_
  refine lv_iload_n hx hb dL_law_416 rfl (lv_at hl 0 rfl) ?_
  refine lv_iconst (v := 1) hx hb dL_law_417 (by decide) ?_
  refine lv_iadd hx hb dL_law_418 ?_
  refine W.eq (congrArg (fun z => F0 m 419 ls (.int z :: [.ref b, .ref (G2 0), .int (p_meld u (xs (i + 1)) (xs (i + 2)))])) (nI_add i 1)) ?_
  refine va_sld hx hb hX hbl hbA hS (vp_in_nI (show (i + 1) < L by omega) (by omega)) dL_law_419 ?_
  refine W.eq (congrArg (fun z => F0 m 420 ls (.int (xs z) :: [.ref (G2 0), .int (p_meld u (xs (i + 1)) (xs (i + 2)))])) (nI_clamp (show (i + 1) < 2 ^ 31 by omega))) ?_
  refine lv_aload_n hx hb dL_law_420 rfl (lv_at hl 1 rfl) ?_
  refine lv_iload_n hx hb dL_law_421 rfl (lv_at hl 0 rfl) ?_
  refine lv_iconst (v := 2) hx hb dL_law_422 (by decide) ?_
  refine lv_iadd hx hb dL_law_423 ?_
  refine W.eq (congrArg (fun z => F0 m 424 ls (.int z :: [.ref b, .int (xs (i + 1)), .ref (G2 0), .int (p_meld u (xs (i + 1)) (xs (i + 2)))])) (nI_add i 2)) ?_
  refine va_sld hx hb hX hbl hbA hS (vp_in_nI (show (i + 2) < L by omega) (by omega)) dL_law_424 ?_
  refine W.eq (congrArg (fun z => F0 m 425 ls (.int (xs z) :: [.int (xs (i + 1)), .ref (G2 0), .int (p_meld u (xs (i + 1)) (xs (i + 2)))])) (nI_clamp (show (i + 2) < 2 ^ 31 by omega))) ?_
  have hPc := hP.sub (ws' := (yW G2 C2 v)) [8, 9, 10, 11, 12, 13, 14, 15] rfl
  have hDc := hD.sub (ws' := (yW G2 C2 v)) [8, 9, 10, 11, 12, 13, 14, 15] (by decide) rfl
  have hKc := hK.sub (tys' := yT C2) [7, 8, 9, 10, 11, 12, 13] rfl
  refine xcall_i (ws := (xW G C (q_meld u (xs (i + 1)) (xs (i + 2))) ++ yW G2 C2 v)) (wc := (yW G2 C2 v)) (wr := (xW G C (q_meld u (xs (i + 1)) (xs (i + 2))))) (w1 := (yW G2 C2 (yq_meld v (xs (i + 1)) (xs (i + 2))))) (v := (yp_meld v (xs (i + 1)) (xs (i + 2)))) [8, 9, 10, 11, 12, 13, 14, 15] [0, 1, 2, 3, 4, 5, 6, 7] (va_runV (As := [.int (xs (i + 1)), .int (xs (i + 2))]) (rest := [.int (p_meld u (xs (i + 1)) (xs (i + 2)))]) ⟨hx, hb, hml, hown, hts⟩ (yc_meld l dC dI G2 C2 _ v (xs (i + 1)) (xs (i + 2)) (yrel_hm hr) (yrel_hn hr)) (cwV 2 hts gL_law_Y_meld rfl rfl rfl (by decide +kernel) ⟨Nat.le_of_ble_eq_true rfl, Nat.le_of_ble_eq_true rfl⟩) (xpreV (q0 := 0) (ci := 1) (qc := (RX1, TX1, 9)) hKc hPc hDc rfl rfl) rfl rfl hl.1 rfl (lv_room (Nat.le_of_ble_eq_true rfl)) dL_law_425 ⟨Nat.le_of_ble_eq_true rfl, Nat.le_of_ble_eq_true rfl⟩) hP hD hS hA rfl rfl (by decide) (by decide) (fun H locs hP hD hS => ?_)
  have hP : va_P (dC, dI) vwCl (xW G C (q_meld u (xs (i + 1)) (xs (i + 2))) ++ yW G2 C2 (yq_meld v (xs (i + 1)) (xs (i + 2)))) H := hP
  have hD : va_D (fun q => s.heap.size ≤ q) (xW G C (q_meld u (xs (i + 1)) (xs (i + 2))) ++ yW G2 C2 (yq_meld v (xs (i + 1)) (xs (i + 2)))) := hD
  obtain ⟨ea, er⟩ := r_meld hr (xs (i + 1)) (xs (i + 2))
  refine lv_icmp_eq (tgt := 639) hx hb dL_law_428 rfl (fun _ => ?_) (fun q => absurd ea q)
  exact kk (q_meld u (xs (i + 1)) (xs (i + 2))) (yq_meld v (xs (i + 1)) (xs (i + 2))) _ _ er hP hD hS
set_option maxHeartbeats 4000000 in
set_option maxRecDepth 100000 in
theorem k_drain {p : Program} {l : Launch} {e : Env} {s : State} {m : MethodId} {below : List Frame} {meth : Method} {c : Code} {Q : State → Prop} {H : Heap} {locs : List Loc} {ls : Array Slot} {dC : Nat → ClassId} {dI : Nat → Nat → Nat} {G G2 : Nat → Nat} {C C2 : Nat → ClassId} {u : xS} {v : yS} {b L i : Nat} {xs : Nat → Int32} (B : CallFix p m c cL_law 4 s #[Value.ref b] lw_tbl RL) (hK : va_K (dC, dI) vwCl (xT C ++ yT C2) s) (hX : va_X b L xs s s.heap) (hbl : b < s.heap.size) (hi : i + 5 ≤ L) (hL : L ≤ 2560) (hr : Rel u v) (hP : va_P (dC, dI) vwCl (xW G C u ++ yW G2 C2 v) H) (hD : va_D (fun q => s.heap.size ≤ q) (xW G C u ++ yW G2 C2 v)) (hS : va_S (fun q => s.heap.size ≤ q) s.heap H locs) (hl : lv_has ls 4 [(3, .int (nI i)), (0, .ref b), (1, .ref (G 0)), (2, .ref (G2 0))]) (kk : ∀ (u2 : xS) (v2 : yS) (H : Heap) (locs : List Loc), Rel u2 v2 → va_P (dC, dI) vwCl (xW G C u2 ++ yW G2 C2 v2) H → va_D (fun q => s.heap.size ≤ q) (xW G C u2 ++ yW G2 C2 v2) → va_S (fun q => s.heap.size ≤ q) s.heap H locs → W p l e room_1 s m #[Value.ref b] below meth c H locs 16 1074 Q (F0 m 639 ls [])) : W p l e room_1 s m #[Value.ref b] below meth c H locs 16 1074 Q (F0 m 433 ls []) := by
  obtain ⟨hx, hb, hml, hown, hts⟩ := B
  have hbA : ¬ s.heap.size ≤ b := Nat.not_le.mpr hbl
  have hA : ∀ q : Nat, s.heap.size ≤ q → s.heap.size ≤ q := fun _ h => h
  refine lv_aload_n hx hb dL_law_433 rfl (lv_at hl 2 rfl) ?_
  refine lv_aload_n hx hb dL_law_434 rfl (lv_at hl 1 rfl) ?_
  refine lv_iload_n hx hb dL_law_435 rfl (lv_at hl 0 rfl) ?_
  refine lv_iconst (v := 1) hx hb dL_law_436 (by decide) ?_
  refine lv_iadd hx hb dL_law_437 ?_
  refine W.eq (congrArg (fun z => F0 m 438 ls (.int z :: [.ref b, .ref (G 0)])) (nI_add i 1)) ?_
  refine va_sld hx hb hX hbl hbA hS (vp_in_nI (show (i + 1) < L by omega) (by omega)) dL_law_438 ?_
  refine W.eq (congrArg (fun z => F0 m 439 ls (.int (xs z) :: [.ref (G 0)])) (nI_clamp (show (i + 1) < 2 ^ 31 by omega))) ?_
  refine lv_aload_n hx hb dL_law_439 rfl (lv_at hl 1 rfl) ?_
  refine lv_iload_n hx hb dL_law_440 rfl (lv_at hl 0 rfl) ?_
  refine lv_iconst (v := 2) hx hb dL_law_441 (by decide) ?_
  refine lv_iadd hx hb dL_law_442 ?_
  refine W.eq (congrArg (fun z => F0 m 443 ls (.int z :: [.ref b, .int (xs (i + 1)), .ref (G 0)])) (nI_add i 2)) ?_
  refine va_sld hx hb hX hbl hbA hS (vp_in_nI (show (i + 2) < L by omega) (by omega)) dL_law_443 ?_
  refine W.eq (congrArg (fun z => F0 m 444 ls (.int (xs z) :: [.int (xs (i + 1)), .ref (G 0)])) (nI_clamp (show (i + 2) < 2 ^ 31 by omega))) ?_
  refine lv_aload_n hx hb dL_law_444 rfl (lv_at hl 1 rfl) ?_
  refine lv_iload_n hx hb dL_law_445 rfl (lv_at hl 0 rfl) ?_
  refine lv_iconst (v := 3) hx hb dL_law_446 (by decide) ?_
  refine lv_iadd hx hb dL_law_447 ?_
  refine W.eq (congrArg (fun z => F0 m 448 ls (.int z :: [.ref b, .int (xs (i + 2)), .int (xs (i + 1)), .ref (G 0)])) (nI_add i 3)) ?_
  refine va_sld hx hb hX hbl hbA hS (vp_in_nI (show (i + 3) < L by omega) (by omega)) dL_law_448 ?_
  refine W.eq (congrArg (fun z => F0 m 449 ls (.int (xs z) :: [.int (xs (i + 2)), .int (xs (i + 1)), .ref (G 0)])) (nI_clamp (show (i + 3) < 2 ^ 31 by omega))) ?_
  have hPc := hP.sub (ws' := (xW G C u)) [0, 1, 2, 3, 4, 5, 6, 7] rfl
  have hDc := hD.sub (ws' := (xW G C u)) [0, 1, 2, 3, 4, 5, 6, 7] (by decide) rfl
  have hKc := hK.sub (tys' := xT C) [0, 1, 2, 3, 4, 5, 6] rfl
  refine xcall_i (ws := (xW G C u ++ yW G2 C2 v)) (wc := (xW G C u)) (wr := (yW G2 C2 v)) (w1 := (xW G C (q_drain u (xs (i + 1)) (xs (i + 2)) (xs (i + 3))))) (v := (p_drain u (xs (i + 1)) (xs (i + 2)) (xs (i + 3)))) [0, 1, 2, 3, 4, 5, 6, 7] [8, 9, 10, 11, 12, 13, 14, 15] (va_runV (As := [.int (xs (i + 1)), .int (xs (i + 2)), .int (xs (i + 3))]) (rest := []) ⟨hx, hb, hml, hown, hts⟩ (c_drain l dC dI G C _ u (xs (i + 1)) (xs (i + 2)) (xs (i + 3)) (rel_hm hr) (rel_hn hr)) (cwV 3 hts (gLup gL_law_X0_drain) rfl rfl rfl (by decide +kernel) ⟨Nat.le_of_ble_eq_true rfl, Nat.le_of_ble_eq_true rfl⟩) (xpreV (q0 := 0) (ci := 0) (qc := (RX0, TX0, 9)) hKc hPc hDc rfl rfl) rfl rfl hl.1 rfl (lv_room (Nat.le_of_ble_eq_true rfl)) dL_law_449 ⟨Nat.le_of_ble_eq_true rfl, Nat.le_of_ble_eq_true rfl⟩) hP hD hS hA rfl rfl (by decide) (by decide) (fun H locs hP hD hS => ?_)
  have hP := hP.sub (ws' := (xW G C (q_drain u (xs (i + 1)) (xs (i + 2)) (xs (i + 3))) ++ yW G2 C2 v)) [8, 9, 10, 11, 12, 13, 14, 15, 0, 1, 2, 3, 4, 5, 6, 7] rfl
  have hD := hD.sub (ws' := (xW G C (q_drain u (xs (i + 1)) (xs (i + 2)) (xs (i + 3))) ++ yW G2 C2 v)) [8, 9, 10, 11, 12, 13, 14, 15, 0, 1, 2, 3, 4, 5, 6, 7] (by decide) rfl
  refine lv_aload_n hx hb dL_law_452 rfl (lv_at hl 3 rfl) ?_
  refine lv_aload_n hx hb dL_law_453 rfl (lv_at hl 1 rfl) ?_
  refine lv_iload_n hx hb dL_law_454 rfl (lv_at hl 0 rfl) ?_
  refine lv_iconst (v := 1) hx hb dL_law_455 (by decide) ?_
  refine lv_iadd hx hb dL_law_456 ?_
  refine W.eq (congrArg (fun z => F0 m 457 ls (.int z :: [.ref b, .ref (G2 0), .int (p_drain u (xs (i + 1)) (xs (i + 2)) (xs (i + 3)))])) (nI_add i 1)) ?_
  refine va_sld hx hb hX hbl hbA hS (vp_in_nI (show (i + 1) < L by omega) (by omega)) dL_law_457 ?_
  refine W.eq (congrArg (fun z => F0 m 458 ls (.int (xs z) :: [.ref (G2 0), .int (p_drain u (xs (i + 1)) (xs (i + 2)) (xs (i + 3)))])) (nI_clamp (show (i + 1) < 2 ^ 31 by omega))) ?_
  refine lv_aload_n hx hb dL_law_458 rfl (lv_at hl 1 rfl) ?_
  refine lv_iload_n hx hb dL_law_459 rfl (lv_at hl 0 rfl) ?_
  refine lv_iconst (v := 2) hx hb dL_law_460 (by decide) ?_
  refine lv_iadd hx hb dL_law_461 ?_
  refine W.eq (congrArg (fun z => F0 m 462 ls (.int z :: [.ref b, .int (xs (i + 1)), .ref (G2 0), .int (p_drain u (xs (i + 1)) (xs (i + 2)) (xs (i + 3)))])) (nI_add i 2)) ?_
  refine va_sld hx hb hX hbl hbA hS (vp_in_nI (show (i + 2) < L by omega) (by omega)) dL_law_462 ?_
  refine W.eq (congrArg (fun z => F0 m 463 ls (.int (xs z) :: [.int (xs (i + 1)), .ref (G2 0), .int (p_drain u (xs (i + 1)) (xs (i + 2)) (xs (i + 3)))])) (nI_clamp (show (i + 2) < 2 ^ 31 by omega))) ?_
  refine lv_aload_n hx hb dL_law_463 rfl (lv_at hl 1 rfl) ?_
  refine lv_iload_n hx hb dL_law_464 rfl (lv_at hl 0 rfl) ?_
  refine lv_iconst (v := 3) hx hb dL_law_465 (by decide) ?_
  refine lv_iadd hx hb dL_law_466 ?_
  refine W.eq (congrArg (fun z => F0 m 467 ls (.int z :: [.ref b, .int (xs (i + 2)), .int (xs (i + 1)), .ref (G2 0), .int (p_drain u (xs (i + 1)) (xs (i + 2)) (xs (i + 3)))])) (nI_add i 3)) ?_
  refine va_sld hx hb hX hbl hbA hS (vp_in_nI (show (i + 3) < L by omega) (by omega)) dL_law_467 ?_
  refine W.eq (congrArg (fun z => F0 m 468 ls (.int (xs z) :: [.int (xs (i + 2)), .int (xs (i + 1)), .ref (G2 0), .int (p_drain u (xs (i + 1)) (xs (i + 2)) (xs (i + 3)))])) (nI_clamp (show (i + 3) < 2 ^ 31 by omega))) ?_
  have hPc := hP.sub (ws' := (yW G2 C2 v)) [8, 9, 10, 11, 12, 13, 14, 15] rfl
  have hDc := hD.sub (ws' := (yW G2 C2 v)) [8, 9, 10, 11, 12, 13, 14, 15] (by decide) rfl
  have hKc := hK.sub (tys' := yT C2) [7, 8, 9, 10, 11, 12, 13] rfl
  refine xcall_i (ws := (xW G C (q_drain u (xs (i + 1)) (xs (i + 2)) (xs (i + 3))) ++ yW G2 C2 v)) (wc := (yW G2 C2 v)) (wr := (xW G C (q_drain u (xs (i + 1)) (xs (i + 2)) (xs (i + 3))))) (w1 := (yW G2 C2 (yq_drain v (xs (i + 1)) (xs (i + 2)) (xs (i + 3))))) (v := (yp_drain v (xs (i + 1)) (xs (i + 2)) (xs (i + 3)))) [8, 9, 10, 11, 12, 13, 14, 15] [0, 1, 2, 3, 4, 5, 6, 7] (va_runV (As := [.int (xs (i + 1)), .int (xs (i + 2)), .int (xs (i + 3))]) (rest := [.int (p_drain u (xs (i + 1)) (xs (i + 2)) (xs (i + 3)))]) ⟨hx, hb, hml, hown, hts⟩ (yc_drain l dC dI G2 C2 _ v (xs (i + 1)) (xs (i + 2)) (xs (i + 3)) (yrel_hm hr) (yrel_hn hr)) (cwV 3 hts gL_law_Y_drain rfl rfl rfl (by decide +kernel) ⟨Nat.le_of_ble_eq_true rfl, Nat.le_of_ble_eq_true rfl⟩) (xpreV (q0 := 0) (ci := 1) (qc := (RX1, TX1, 9)) hKc hPc hDc rfl rfl) rfl rfl hl.1 rfl (lv_room (Nat.le_of_ble_eq_true rfl)) dL_law_468 ⟨Nat.le_of_ble_eq_true rfl, Nat.le_of_ble_eq_true rfl⟩) hP hD hS hA rfl rfl (by decide) (by decide) (fun H locs hP hD hS => ?_)
  have hP : va_P (dC, dI) vwCl (xW G C (q_drain u (xs (i + 1)) (xs (i + 2)) (xs (i + 3))) ++ yW G2 C2 (yq_drain v (xs (i + 1)) (xs (i + 2)) (xs (i + 3)))) H := hP
  have hD : va_D (fun q => s.heap.size ≤ q) (xW G C (q_drain u (xs (i + 1)) (xs (i + 2)) (xs (i + 3))) ++ yW G2 C2 (yq_drain v (xs (i + 1)) (xs (i + 2)) (xs (i + 3)))) := hD
  obtain ⟨ea, er⟩ := r_drain hr (xs (i + 1)) (xs (i + 2)) (xs (i + 3))
  refine lv_icmp_eq (tgt := 639) hx hb dL_law_471 rfl (fun _ => ?_) (fun q => absurd ea q)
  exact kk (q_drain u (xs (i + 1)) (xs (i + 2)) (xs (i + 3))) (yq_drain v (xs (i + 1)) (xs (i + 2)) (xs (i + 3))) _ _ er hP hD hS
set_option maxHeartbeats 4000000 in
set_option maxRecDepth 100000 in
theorem k_clear {p : Program} {l : Launch} {e : Env} {s : State} {m : MethodId} {below : List Frame} {meth : Method} {c : Code} {Q : State → Prop} {H : Heap} {locs : List Loc} {ls : Array Slot} {dC : Nat → ClassId} {dI : Nat → Nat → Nat} {G G2 : Nat → Nat} {C C2 : Nat → ClassId} {u : xS} {v : yS} {b L i : Nat} {xs : Nat → Int32} (B : CallFix p m c cL_law 4 s #[Value.ref b] lw_tbl RL) (hK : va_K (dC, dI) vwCl (xT C ++ yT C2) s) (hX : va_X b L xs s s.heap) (hbl : b < s.heap.size) (hi : i + 5 ≤ L) (hL : L ≤ 2560) (hr : Rel u v) (hP : va_P (dC, dI) vwCl (xW G C u ++ yW G2 C2 v) H) (hD : va_D (fun q => s.heap.size ≤ q) (xW G C u ++ yW G2 C2 v)) (hS : va_S (fun q => s.heap.size ≤ q) s.heap H locs) (hl : lv_has ls 4 [(3, .int (nI i)), (0, .ref b), (1, .ref (G 0)), (2, .ref (G2 0))]) (kk : ∀ (u2 : xS) (v2 : yS) (H : Heap) (locs : List Loc), Rel u2 v2 → va_P (dC, dI) vwCl (xW G C u2 ++ yW G2 C2 v2) H → va_D (fun q => s.heap.size ≤ q) (xW G C u2 ++ yW G2 C2 v2) → va_S (fun q => s.heap.size ≤ q) s.heap H locs → W p l e room_1 s m #[Value.ref b] below meth c H locs 16 1074 Q (F0 m 639 ls [])) : W p l e room_1 s m #[Value.ref b] below meth c H locs 16 1074 Q (F0 m 476 ls []) := by
  obtain ⟨hx, hb, hml, hown, hts⟩ := B
  have hbA : ¬ s.heap.size ≤ b := Nat.not_le.mpr hbl
  have hA : ∀ q : Nat, s.heap.size ≤ q → s.heap.size ≤ q := fun _ h => h
  refine lv_aload_n hx hb dL_law_476 rfl (lv_at hl 2 rfl) ?_
  refine lv_aload_n hx hb dL_law_477 rfl (lv_at hl 1 rfl) ?_
  refine lv_iload_n hx hb dL_law_478 rfl (lv_at hl 0 rfl) ?_
  refine lv_iconst (v := 1) hx hb dL_law_479 (by decide) ?_
  refine lv_iadd hx hb dL_law_480 ?_
  refine W.eq (congrArg (fun z => F0 m 481 ls (.int z :: [.ref b, .ref (G 0)])) (nI_add i 1)) ?_
  refine va_sld hx hb hX hbl hbA hS (vp_in_nI (show (i + 1) < L by omega) (by omega)) dL_law_481 ?_
  refine W.eq (congrArg (fun z => F0 m 482 ls (.int (xs z) :: [.ref (G 0)])) (nI_clamp (show (i + 1) < 2 ^ 31 by omega))) ?_
  have hPc := hP.sub (ws' := (xW G C u)) [0, 1, 2, 3, 4, 5, 6, 7] rfl
  have hDc := hD.sub (ws' := (xW G C u)) [0, 1, 2, 3, 4, 5, 6, 7] (by decide) rfl
  have hKc := hK.sub (tys' := xT C) [0, 1, 2, 3, 4, 5, 6] rfl
  refine xcall_i (ws := (xW G C u ++ yW G2 C2 v)) (wc := (xW G C u)) (wr := (yW G2 C2 v)) (w1 := (xW G C (q_clear u (xs (i + 1))))) (v := (p_clear u (xs (i + 1)))) [0, 1, 2, 3, 4, 5, 6, 7] [8, 9, 10, 11, 12, 13, 14, 15] (va_runV (As := [.int (xs (i + 1))]) (rest := []) ⟨hx, hb, hml, hown, hts⟩ (c_clear l dC dI G C _ u (xs (i + 1)) (rel_hm hr) (rel_hn hr)) (cwV 1 hts (gLup gL_law_X0_clear) rfl rfl rfl (by decide +kernel) ⟨Nat.le_of_ble_eq_true rfl, Nat.le_of_ble_eq_true rfl⟩) (xpreV (q0 := 0) (ci := 0) (qc := (RX0, TX0, 9)) hKc hPc hDc rfl rfl) rfl rfl hl.1 rfl (lv_room (Nat.le_of_ble_eq_true rfl)) dL_law_482 ⟨Nat.le_of_ble_eq_true rfl, Nat.le_of_ble_eq_true rfl⟩) hP hD hS hA rfl rfl (by decide) (by decide) (fun H locs hP hD hS => ?_)
  have hP := hP.sub (ws' := (xW G C (q_clear u (xs (i + 1))) ++ yW G2 C2 v)) [8, 9, 10, 11, 12, 13, 14, 15, 0, 1, 2, 3, 4, 5, 6, 7] rfl
  have hD := hD.sub (ws' := (xW G C (q_clear u (xs (i + 1))) ++ yW G2 C2 v)) [8, 9, 10, 11, 12, 13, 14, 15, 0, 1, 2, 3, 4, 5, 6, 7] (by decide) rfl
  refine lv_aload_n hx hb dL_law_485 rfl (lv_at hl 3 rfl) ?_
  refine lv_aload_n hx hb dL_law_486 rfl (lv_at hl 1 rfl) ?_
  refine lv_iload_n hx hb dL_law_487 rfl (lv_at hl 0 rfl) ?_
  refine lv_iconst (v := 1) hx hb dL_law_488 (by decide) ?_
  refine lv_iadd hx hb dL_law_489 ?_
  refine W.eq (congrArg (fun z => F0 m 490 ls (.int z :: [.ref b, .ref (G2 0), .int (p_clear u (xs (i + 1)))])) (nI_add i 1)) ?_
  refine va_sld hx hb hX hbl hbA hS (vp_in_nI (show (i + 1) < L by omega) (by omega)) dL_law_490 ?_
  refine W.eq (congrArg (fun z => F0 m 491 ls (.int (xs z) :: [.ref (G2 0), .int (p_clear u (xs (i + 1)))])) (nI_clamp (show (i + 1) < 2 ^ 31 by omega))) ?_
  have hPc := hP.sub (ws' := (yW G2 C2 v)) [8, 9, 10, 11, 12, 13, 14, 15] rfl
  have hDc := hD.sub (ws' := (yW G2 C2 v)) [8, 9, 10, 11, 12, 13, 14, 15] (by decide) rfl
  have hKc := hK.sub (tys' := yT C2) [7, 8, 9, 10, 11, 12, 13] rfl
  refine xcall_i (ws := (xW G C (q_clear u (xs (i + 1))) ++ yW G2 C2 v)) (wc := (yW G2 C2 v)) (wr := (xW G C (q_clear u (xs (i + 1))))) (w1 := (yW G2 C2 (yq_clear v (xs (i + 1))))) (v := (yp_clear v (xs (i + 1)))) [8, 9, 10, 11, 12, 13, 14, 15] [0, 1, 2, 3, 4, 5, 6, 7] (va_runV (As := [.int (xs (i + 1))]) (rest := [.int (p_clear u (xs (i + 1)))]) ⟨hx, hb, hml, hown, hts⟩ (yc_clear l dC dI G2 C2 _ v (xs (i + 1)) (yrel_hm hr) (yrel_hn hr)) (cwV 1 hts gL_law_Y_clear rfl rfl rfl (by decide +kernel) ⟨Nat.le_of_ble_eq_true rfl, Nat.le_of_ble_eq_true rfl⟩) (xpreV (q0 := 0) (ci := 1) (qc := (RX1, TX1, 9)) hKc hPc hDc rfl rfl) rfl rfl hl.1 rfl (lv_room (Nat.le_of_ble_eq_true rfl)) dL_law_491 ⟨Nat.le_of_ble_eq_true rfl, Nat.le_of_ble_eq_true rfl⟩) hP hD hS hA rfl rfl (by decide) (by decide) (fun H locs hP hD hS => ?_)
  have hP : va_P (dC, dI) vwCl (xW G C (q_clear u (xs (i + 1))) ++ yW G2 C2 (yq_clear v (xs (i + 1)))) H := hP
  have hD : va_D (fun q => s.heap.size ≤ q) (xW G C (q_clear u (xs (i + 1))) ++ yW G2 C2 (yq_clear v (xs (i + 1)))) := hD
  obtain ⟨ea, er⟩ := r_clear hr (xs (i + 1))
  refine lv_icmp_eq (tgt := 639) hx hb dL_law_494 rfl (fun _ => ?_) (fun q => absurd ea q)
  exact kk (q_clear u (xs (i + 1))) (yq_clear v (xs (i + 1))) _ _ er hP hD hS
set_option maxHeartbeats 4000000 in
set_option maxRecDepth 100000 in
theorem k_size {p : Program} {l : Launch} {e : Env} {s : State} {m : MethodId} {below : List Frame} {meth : Method} {c : Code} {Q : State → Prop} {H : Heap} {locs : List Loc} {ls : Array Slot} {dC : Nat → ClassId} {dI : Nat → Nat → Nat} {G G2 : Nat → Nat} {C C2 : Nat → ClassId} {u : xS} {v : yS} {b L i : Nat} {xs : Nat → Int32} (B : CallFix p m c cL_law 4 s #[Value.ref b] lw_tbl RL) (hK : va_K (dC, dI) vwCl (xT C ++ yT C2) s) (hX : va_X b L xs s s.heap) (hbl : b < s.heap.size) (hi : i + 5 ≤ L) (hL : L ≤ 2560) (hr : Rel u v) (hP : va_P (dC, dI) vwCl (xW G C u ++ yW G2 C2 v) H) (hD : va_D (fun q => s.heap.size ≤ q) (xW G C u ++ yW G2 C2 v)) (hS : va_S (fun q => s.heap.size ≤ q) s.heap H locs) (hl : lv_has ls 4 [(3, .int (nI i)), (0, .ref b), (1, .ref (G 0)), (2, .ref (G2 0))]) (kk : ∀ (u2 : xS) (v2 : yS) (H : Heap) (locs : List Loc), Rel u2 v2 → va_P (dC, dI) vwCl (xW G C u2 ++ yW G2 C2 v2) H → va_D (fun q => s.heap.size ≤ q) (xW G C u2 ++ yW G2 C2 v2) → va_S (fun q => s.heap.size ≤ q) s.heap H locs → W p l e room_1 s m #[Value.ref b] below meth c H locs 16 1074 Q (F0 m 639 ls [])) : W p l e room_1 s m #[Value.ref b] below meth c H locs 16 1074 Q (F0 m 499 ls []) := by
  obtain ⟨hx, hb, hml, hown, hts⟩ := B
  have hbA : ¬ s.heap.size ≤ b := Nat.not_le.mpr hbl
  have hA : ∀ q : Nat, s.heap.size ≤ q → s.heap.size ≤ q := fun _ h => h
  refine lv_aload_n hx hb dL_law_499 rfl (lv_at hl 2 rfl) ?_
  refine lv_aload_n hx hb dL_law_500 rfl (lv_at hl 1 rfl) ?_
  refine lv_iload_n hx hb dL_law_501 rfl (lv_at hl 0 rfl) ?_
  refine lv_iconst (v := 1) hx hb dL_law_502 (by decide) ?_
  refine lv_iadd hx hb dL_law_503 ?_
  refine W.eq (congrArg (fun z => F0 m 504 ls (.int z :: [.ref b, .ref (G 0)])) (nI_add i 1)) ?_
  refine va_sld hx hb hX hbl hbA hS (vp_in_nI (show (i + 1) < L by omega) (by omega)) dL_law_504 ?_
  refine W.eq (congrArg (fun z => F0 m 505 ls (.int (xs z) :: [.ref (G 0)])) (nI_clamp (show (i + 1) < 2 ^ 31 by omega))) ?_
  have hPc := hP.sub (ws' := (xW G C u)) [0, 1, 2, 3, 4, 5, 6, 7] rfl
  have hDc := hD.sub (ws' := (xW G C u)) [0, 1, 2, 3, 4, 5, 6, 7] (by decide) rfl
  have hKc := hK.sub (tys' := xT C) [0, 1, 2, 3, 4, 5, 6] rfl
  refine xcall_i (ws := (xW G C u ++ yW G2 C2 v)) (wc := (xW G C u)) (wr := (yW G2 C2 v)) (w1 := (xW G C u)) (v := (p_size u (xs (i + 1)))) [0, 1, 2, 3, 4, 5, 6, 7] [8, 9, 10, 11, 12, 13, 14, 15] (va_runV (As := [.int (xs (i + 1))]) (rest := []) ⟨hx, hb, hml, hown, hts⟩ (c_size l dC dI G C _ u (xs (i + 1)) (rel_hm hr) (rel_hn hr)) (cwV 1 hts (gLup gL_law_X0_size) rfl rfl rfl (by decide +kernel) ⟨Nat.le_of_ble_eq_true rfl, Nat.le_of_ble_eq_true rfl⟩) (xpreV (q0 := 0) (ci := 0) (qc := (RX0, TX0, 9)) hKc hPc hDc rfl rfl) rfl rfl hl.1 rfl (lv_room (Nat.le_of_ble_eq_true rfl)) dL_law_505 ⟨Nat.le_of_ble_eq_true rfl, Nat.le_of_ble_eq_true rfl⟩) hP hD hS hA rfl rfl (by decide) (by decide) (fun H locs hP hD hS => ?_)
  have hP := hP.sub (ws' := (xW G C u ++ yW G2 C2 v)) [8, 9, 10, 11, 12, 13, 14, 15, 0, 1, 2, 3, 4, 5, 6, 7] rfl
  have hD := hD.sub (ws' := (xW G C u ++ yW G2 C2 v)) [8, 9, 10, 11, 12, 13, 14, 15, 0, 1, 2, 3, 4, 5, 6, 7] (by decide) rfl
  refine lv_aload_n hx hb dL_law_508 rfl (lv_at hl 3 rfl) ?_
  refine lv_aload_n hx hb dL_law_509 rfl (lv_at hl 1 rfl) ?_
  refine lv_iload_n hx hb dL_law_510 rfl (lv_at hl 0 rfl) ?_
  refine lv_iconst (v := 1) hx hb dL_law_511 (by decide) ?_
  refine lv_iadd hx hb dL_law_512 ?_
  refine W.eq (congrArg (fun z => F0 m 513 ls (.int z :: [.ref b, .ref (G2 0), .int (p_size u (xs (i + 1)))])) (nI_add i 1)) ?_
  refine va_sld hx hb hX hbl hbA hS (vp_in_nI (show (i + 1) < L by omega) (by omega)) dL_law_513 ?_
  refine W.eq (congrArg (fun z => F0 m 514 ls (.int (xs z) :: [.ref (G2 0), .int (p_size u (xs (i + 1)))])) (nI_clamp (show (i + 1) < 2 ^ 31 by omega))) ?_
  have hPc := hP.sub (ws' := (yW G2 C2 v)) [8, 9, 10, 11, 12, 13, 14, 15] rfl
  have hDc := hD.sub (ws' := (yW G2 C2 v)) [8, 9, 10, 11, 12, 13, 14, 15] (by decide) rfl
  have hKc := hK.sub (tys' := yT C2) [7, 8, 9, 10, 11, 12, 13] rfl
  refine xcall_i (ws := (xW G C u ++ yW G2 C2 v)) (wc := (yW G2 C2 v)) (wr := (xW G C u)) (w1 := (yW G2 C2 v)) (v := (yp_size v (xs (i + 1)))) [8, 9, 10, 11, 12, 13, 14, 15] [0, 1, 2, 3, 4, 5, 6, 7] (va_runV (As := [.int (xs (i + 1))]) (rest := [.int (p_size u (xs (i + 1)))]) ⟨hx, hb, hml, hown, hts⟩ (yc_size l dC dI G2 C2 _ v (xs (i + 1)) (yrel_hm hr) (yrel_hn hr)) (cwV 1 hts gL_law_Y_size rfl rfl rfl (by decide +kernel) ⟨Nat.le_of_ble_eq_true rfl, Nat.le_of_ble_eq_true rfl⟩) (xpreV (q0 := 0) (ci := 1) (qc := (RX1, TX1, 9)) hKc hPc hDc rfl rfl) rfl rfl hl.1 rfl (lv_room (Nat.le_of_ble_eq_true rfl)) dL_law_514 ⟨Nat.le_of_ble_eq_true rfl, Nat.le_of_ble_eq_true rfl⟩) hP hD hS hA rfl rfl (by decide) (by decide) (fun H locs hP hD hS => ?_)
  have hP : va_P (dC, dI) vwCl (xW G C u ++ yW G2 C2 v) H := hP
  have hD : va_D (fun q => s.heap.size ≤ q) (xW G C u ++ yW G2 C2 v) := hD
  obtain ⟨ea, er⟩ := r_size hr (xs (i + 1))
  refine lv_icmp_eq (tgt := 639) hx hb dL_law_517 rfl (fun _ => ?_) (fun q => absurd ea q)
  exact kk u v _ _ er hP hD hS
set_option maxHeartbeats 4000000 in
set_option maxRecDepth 100000 in
theorem k_floor {p : Program} {l : Launch} {e : Env} {s : State} {m : MethodId} {below : List Frame} {meth : Method} {c : Code} {Q : State → Prop} {H : Heap} {locs : List Loc} {ls : Array Slot} {dC : Nat → ClassId} {dI : Nat → Nat → Nat} {G G2 : Nat → Nat} {C C2 : Nat → ClassId} {u : xS} {v : yS} {b L i : Nat} {xs : Nat → Int32} (B : CallFix p m c cL_law 4 s #[Value.ref b] lw_tbl RL) (hK : va_K (dC, dI) vwCl (xT C ++ yT C2) s) (hX : va_X b L xs s s.heap) (hbl : b < s.heap.size) (hi : i + 5 ≤ L) (hL : L ≤ 2560) (hr : Rel u v) (hP : va_P (dC, dI) vwCl (xW G C u ++ yW G2 C2 v) H) (hD : va_D (fun q => s.heap.size ≤ q) (xW G C u ++ yW G2 C2 v)) (hS : va_S (fun q => s.heap.size ≤ q) s.heap H locs) (hl : lv_has ls 4 [(3, .int (nI i)), (0, .ref b), (1, .ref (G 0)), (2, .ref (G2 0))]) (kk : ∀ (u2 : xS) (v2 : yS) (H : Heap) (locs : List Loc), Rel u2 v2 → va_P (dC, dI) vwCl (xW G C u2 ++ yW G2 C2 v2) H → va_D (fun q => s.heap.size ≤ q) (xW G C u2 ++ yW G2 C2 v2) → va_S (fun q => s.heap.size ≤ q) s.heap H locs → W p l e room_1 s m #[Value.ref b] below meth c H locs 16 1074 Q (F0 m 639 ls [])) : W p l e room_1 s m #[Value.ref b] below meth c H locs 16 1074 Q (F0 m 522 ls []) := by
  obtain ⟨hx, hb, hml, hown, hts⟩ := B
  have hbA : ¬ s.heap.size ≤ b := Nat.not_le.mpr hbl
  have hA : ∀ q : Nat, s.heap.size ≤ q → s.heap.size ≤ q := fun _ h => h
  refine lv_aload_n hx hb dL_law_522 rfl (lv_at hl 2 rfl) ?_
  refine lv_aload_n hx hb dL_law_523 rfl (lv_at hl 1 rfl) ?_
  refine lv_iload_n hx hb dL_law_524 rfl (lv_at hl 0 rfl) ?_
  refine lv_iconst (v := 1) hx hb dL_law_525 (by decide) ?_
  refine lv_iadd hx hb dL_law_526 ?_
  refine W.eq (congrArg (fun z => F0 m 527 ls (.int z :: [.ref b, .ref (G 0)])) (nI_add i 1)) ?_
  refine va_sld hx hb hX hbl hbA hS (vp_in_nI (show (i + 1) < L by omega) (by omega)) dL_law_527 ?_
  refine W.eq (congrArg (fun z => F0 m 528 ls (.int (xs z) :: [.ref (G 0)])) (nI_clamp (show (i + 1) < 2 ^ 31 by omega))) ?_
  have hPc := hP.sub (ws' := (xW G C u)) [0, 1, 2, 3, 4, 5, 6, 7] rfl
  have hDc := hD.sub (ws' := (xW G C u)) [0, 1, 2, 3, 4, 5, 6, 7] (by decide) rfl
  have hKc := hK.sub (tys' := xT C) [0, 1, 2, 3, 4, 5, 6] rfl
  refine xcall_l (ws := (xW G C u ++ yW G2 C2 v)) (wc := (xW G C u)) (wr := (yW G2 C2 v)) (w1 := (xW G C u)) (v := (p_floor u (xs (i + 1)))) [0, 1, 2, 3, 4, 5, 6, 7] [8, 9, 10, 11, 12, 13, 14, 15] (va_runV (As := [.int (xs (i + 1))]) (rest := []) ⟨hx, hb, hml, hown, hts⟩ (c_floor l dC dI G C _ u (xs (i + 1)) (rel_hm hr)) (cwV 1 hts (gLup gL_law_X0_floor) rfl rfl rfl (by decide +kernel) ⟨Nat.le_of_ble_eq_true rfl, Nat.le_of_ble_eq_true rfl⟩) (xpreV (q0 := 0) (ci := 0) (qc := (RX0, TX0, 9)) hKc hPc hDc rfl rfl) rfl rfl hl.1 rfl (lv_room (Nat.le_of_ble_eq_true rfl)) dL_law_528 ⟨Nat.le_of_ble_eq_true rfl, Nat.le_of_ble_eq_true rfl⟩) hP hD hS hA rfl rfl (by decide) (by decide) (fun H locs hP hD hS => ?_)
  have hP := hP.sub (ws' := (xW G C u ++ yW G2 C2 v)) [8, 9, 10, 11, 12, 13, 14, 15, 0, 1, 2, 3, 4, 5, 6, 7] rfl
  have hD := hD.sub (ws' := (xW G C u ++ yW G2 C2 v)) [8, 9, 10, 11, 12, 13, 14, 15, 0, 1, 2, 3, 4, 5, 6, 7] (by decide) rfl
  refine lv_aload_n hx hb dL_law_531 rfl (lv_at hl 3 rfl) ?_
  refine lv_aload_n hx hb dL_law_532 rfl (lv_at hl 1 rfl) ?_
  refine lv_iload_n hx hb dL_law_533 rfl (lv_at hl 0 rfl) ?_
  refine lv_iconst (v := 1) hx hb dL_law_534 (by decide) ?_
  refine lv_iadd hx hb dL_law_535 ?_
  refine W.eq (congrArg (fun z => F0 m 536 ls (.int z :: [.ref b, .ref (G2 0), .long (p_floor u (xs (i + 1)))])) (nI_add i 1)) ?_
  refine va_sld hx hb hX hbl hbA hS (vp_in_nI (show (i + 1) < L by omega) (by omega)) dL_law_536 ?_
  refine W.eq (congrArg (fun z => F0 m 537 ls (.int (xs z) :: [.ref (G2 0), .long (p_floor u (xs (i + 1)))])) (nI_clamp (show (i + 1) < 2 ^ 31 by omega))) ?_
  have hPc := hP.sub (ws' := (yW G2 C2 v)) [8, 9, 10, 11, 12, 13, 14, 15] rfl
  have hDc := hD.sub (ws' := (yW G2 C2 v)) [8, 9, 10, 11, 12, 13, 14, 15] (by decide) rfl
  have hKc := hK.sub (tys' := yT C2) [7, 8, 9, 10, 11, 12, 13] rfl
  refine xcall_l (ws := (xW G C u ++ yW G2 C2 v)) (wc := (yW G2 C2 v)) (wr := (xW G C u)) (w1 := (yW G2 C2 v)) (v := (yp_floor v (xs (i + 1)))) [8, 9, 10, 11, 12, 13, 14, 15] [0, 1, 2, 3, 4, 5, 6, 7] (va_runV (As := [.int (xs (i + 1))]) (rest := [.long (p_floor u (xs (i + 1)))]) ⟨hx, hb, hml, hown, hts⟩ (yc_floor l dC dI G2 C2 _ v (xs (i + 1)) (yrel_hm hr)) (cwV 1 hts gL_law_Y_floor rfl rfl rfl (by decide +kernel) ⟨Nat.le_of_ble_eq_true rfl, Nat.le_of_ble_eq_true rfl⟩) (xpreV (q0 := 0) (ci := 1) (qc := (RX1, TX1, 9)) hKc hPc hDc rfl rfl) rfl rfl hl.1 rfl (lv_room (Nat.le_of_ble_eq_true rfl)) dL_law_537 ⟨Nat.le_of_ble_eq_true rfl, Nat.le_of_ble_eq_true rfl⟩) hP hD hS hA rfl rfl (by decide) (by decide) (fun H locs hP hD hS => ?_)
  have hP : va_P (dC, dI) vwCl (xW G C u ++ yW G2 C2 v) H := hP
  have hD : va_D (fun q => s.heap.size ≤ q) (xW G C u ++ yW G2 C2 v) := hD
  refine W.lcmp hx hb dL_law_540 ?_
  obtain ⟨ea, er⟩ := r_floor hr (xs (i + 1))
  refine lv_if_eq (tgt := 639) hx hb dL_law_541 rfl (fun _ => ?_) (fun q => absurd ((lg_cmp_eq _ _).mpr ea) q)
  exact kk u v _ _ er hP hD hS
set_option maxHeartbeats 4000000 in
set_option maxRecDepth 100000 in
theorem k_key {p : Program} {l : Launch} {e : Env} {s : State} {m : MethodId} {below : List Frame} {meth : Method} {c : Code} {Q : State → Prop} {H : Heap} {locs : List Loc} {ls : Array Slot} {dC : Nat → ClassId} {dI : Nat → Nat → Nat} {G G2 : Nat → Nat} {C C2 : Nat → ClassId} {u : xS} {v : yS} {b L i : Nat} {xs : Nat → Int32} (B : CallFix p m c cL_law 4 s #[Value.ref b] lw_tbl RL) (hK : va_K (dC, dI) vwCl (xT C ++ yT C2) s) (hX : va_X b L xs s s.heap) (hbl : b < s.heap.size) (hi : i + 5 ≤ L) (hL : L ≤ 2560) (hr : Rel u v) (hP : va_P (dC, dI) vwCl (xW G C u ++ yW G2 C2 v) H) (hD : va_D (fun q => s.heap.size ≤ q) (xW G C u ++ yW G2 C2 v)) (hS : va_S (fun q => s.heap.size ≤ q) s.heap H locs) (hl : lv_has ls 4 [(3, .int (nI i)), (0, .ref b), (1, .ref (G 0)), (2, .ref (G2 0))]) (kk : ∀ (u2 : xS) (v2 : yS) (H : Heap) (locs : List Loc), Rel u2 v2 → va_P (dC, dI) vwCl (xW G C u2 ++ yW G2 C2 v2) H → va_D (fun q => s.heap.size ≤ q) (xW G C u2 ++ yW G2 C2 v2) → va_S (fun q => s.heap.size ≤ q) s.heap H locs → W p l e room_1 s m #[Value.ref b] below meth c H locs 16 1074 Q (F0 m 639 ls [])) : W p l e room_1 s m #[Value.ref b] below meth c H locs 16 1074 Q (F0 m 546 ls []) := by
  obtain ⟨hx, hb, hml, hown, hts⟩ := B
  have hbA : ¬ s.heap.size ≤ b := Nat.not_le.mpr hbl
  have hA : ∀ q : Nat, s.heap.size ≤ q → s.heap.size ≤ q := fun _ h => h
  refine lv_aload_n hx hb dL_law_546 rfl (lv_at hl 2 rfl) ?_
  refine lv_aload_n hx hb dL_law_547 rfl (lv_at hl 1 rfl) ?_
  refine lv_iload_n hx hb dL_law_548 rfl (lv_at hl 0 rfl) ?_
  refine lv_iconst (v := 1) hx hb dL_law_549 (by decide) ?_
  refine lv_iadd hx hb dL_law_550 ?_
  refine W.eq (congrArg (fun z => F0 m 551 ls (.int z :: [.ref b, .ref (G 0)])) (nI_add i 1)) ?_
  refine va_sld hx hb hX hbl hbA hS (vp_in_nI (show (i + 1) < L by omega) (by omega)) dL_law_551 ?_
  refine W.eq (congrArg (fun z => F0 m 552 ls (.int (xs z) :: [.ref (G 0)])) (nI_clamp (show (i + 1) < 2 ^ 31 by omega))) ?_
  have hPc := hP.sub (ws' := (xW G C u)) [0, 1, 2, 3, 4, 5, 6, 7] rfl
  have hDc := hD.sub (ws' := (xW G C u)) [0, 1, 2, 3, 4, 5, 6, 7] (by decide) rfl
  have hKc := hK.sub (tys' := xT C) [0, 1, 2, 3, 4, 5, 6] rfl
  refine xcall_l (ws := (xW G C u ++ yW G2 C2 v)) (wc := (xW G C u)) (wr := (yW G2 C2 v)) (w1 := (xW G C u)) (v := (p_key u (xs (i + 1)))) [0, 1, 2, 3, 4, 5, 6, 7] [8, 9, 10, 11, 12, 13, 14, 15] (va_runV (As := [.int (xs (i + 1))]) (rest := []) ⟨hx, hb, hml, hown, hts⟩ (c_key l dC dI G C _ u (xs (i + 1)) (rel_hn hr)) (cwV 1 hts (gLup gL_law_X0_key) rfl rfl rfl (by decide +kernel) ⟨Nat.le_of_ble_eq_true rfl, Nat.le_of_ble_eq_true rfl⟩) (xpreV (q0 := 0) (ci := 0) (qc := (RX0, TX0, 9)) hKc hPc hDc rfl rfl) rfl rfl hl.1 rfl (lv_room (Nat.le_of_ble_eq_true rfl)) dL_law_552 ⟨Nat.le_of_ble_eq_true rfl, Nat.le_of_ble_eq_true rfl⟩) hP hD hS hA rfl rfl (by decide) (by decide) (fun H locs hP hD hS => ?_)
  have hP := hP.sub (ws' := (xW G C u ++ yW G2 C2 v)) [8, 9, 10, 11, 12, 13, 14, 15, 0, 1, 2, 3, 4, 5, 6, 7] rfl
  have hD := hD.sub (ws' := (xW G C u ++ yW G2 C2 v)) [8, 9, 10, 11, 12, 13, 14, 15, 0, 1, 2, 3, 4, 5, 6, 7] (by decide) rfl
  refine lv_aload_n hx hb dL_law_555 rfl (lv_at hl 3 rfl) ?_
  refine lv_aload_n hx hb dL_law_556 rfl (lv_at hl 1 rfl) ?_
  refine lv_iload_n hx hb dL_law_557 rfl (lv_at hl 0 rfl) ?_
  refine lv_iconst (v := 1) hx hb dL_law_558 (by decide) ?_
  refine lv_iadd hx hb dL_law_559 ?_
  refine W.eq (congrArg (fun z => F0 m 560 ls (.int z :: [.ref b, .ref (G2 0), .long (p_key u (xs (i + 1)))])) (nI_add i 1)) ?_
  refine va_sld hx hb hX hbl hbA hS (vp_in_nI (show (i + 1) < L by omega) (by omega)) dL_law_560 ?_
  refine W.eq (congrArg (fun z => F0 m 561 ls (.int (xs z) :: [.ref (G2 0), .long (p_key u (xs (i + 1)))])) (nI_clamp (show (i + 1) < 2 ^ 31 by omega))) ?_
  have hPc := hP.sub (ws' := (yW G2 C2 v)) [8, 9, 10, 11, 12, 13, 14, 15] rfl
  have hDc := hD.sub (ws' := (yW G2 C2 v)) [8, 9, 10, 11, 12, 13, 14, 15] (by decide) rfl
  have hKc := hK.sub (tys' := yT C2) [7, 8, 9, 10, 11, 12, 13] rfl
  refine xcall_l (ws := (xW G C u ++ yW G2 C2 v)) (wc := (yW G2 C2 v)) (wr := (xW G C u)) (w1 := (yW G2 C2 v)) (v := (yp_key v (xs (i + 1)))) [8, 9, 10, 11, 12, 13, 14, 15] [0, 1, 2, 3, 4, 5, 6, 7] (va_runV (As := [.int (xs (i + 1))]) (rest := [.long (p_key u (xs (i + 1)))]) ⟨hx, hb, hml, hown, hts⟩ (yc_key l dC dI G2 C2 _ v (xs (i + 1)) (yrel_hn hr)) (cwV 1 hts gL_law_Y_key rfl rfl rfl (by decide +kernel) ⟨Nat.le_of_ble_eq_true rfl, Nat.le_of_ble_eq_true rfl⟩) (xpreV (q0 := 0) (ci := 1) (qc := (RX1, TX1, 9)) hKc hPc hDc rfl rfl) rfl rfl hl.1 rfl (lv_room (Nat.le_of_ble_eq_true rfl)) dL_law_561 ⟨Nat.le_of_ble_eq_true rfl, Nat.le_of_ble_eq_true rfl⟩) hP hD hS hA rfl rfl (by decide) (by decide) (fun H locs hP hD hS => ?_)
  have hP : va_P (dC, dI) vwCl (xW G C u ++ yW G2 C2 v) H := hP
  have hD : va_D (fun q => s.heap.size ≤ q) (xW G C u ++ yW G2 C2 v) := hD
  refine W.lcmp hx hb dL_law_564 ?_
  obtain ⟨ea, er⟩ := r_key hr (xs (i + 1))
  refine lv_if_eq (tgt := 639) hx hb dL_law_565 rfl (fun _ => ?_) (fun q => absurd ((lg_cmp_eq _ _).mpr ea) q)
  exact kk u v _ _ er hP hD hS
set_option maxHeartbeats 4000000 in
set_option maxRecDepth 100000 in
theorem k_value {p : Program} {l : Launch} {e : Env} {s : State} {m : MethodId} {below : List Frame} {meth : Method} {c : Code} {Q : State → Prop} {H : Heap} {locs : List Loc} {ls : Array Slot} {dC : Nat → ClassId} {dI : Nat → Nat → Nat} {G G2 : Nat → Nat} {C C2 : Nat → ClassId} {u : xS} {v : yS} {b L i : Nat} {xs : Nat → Int32} (B : CallFix p m c cL_law 4 s #[Value.ref b] lw_tbl RL) (hK : va_K (dC, dI) vwCl (xT C ++ yT C2) s) (hX : va_X b L xs s s.heap) (hbl : b < s.heap.size) (hi : i + 5 ≤ L) (hL : L ≤ 2560) (hr : Rel u v) (hP : va_P (dC, dI) vwCl (xW G C u ++ yW G2 C2 v) H) (hD : va_D (fun q => s.heap.size ≤ q) (xW G C u ++ yW G2 C2 v)) (hS : va_S (fun q => s.heap.size ≤ q) s.heap H locs) (hl : lv_has ls 4 [(3, .int (nI i)), (0, .ref b), (1, .ref (G 0)), (2, .ref (G2 0))]) (kk : ∀ (u2 : xS) (v2 : yS) (H : Heap) (locs : List Loc), Rel u2 v2 → va_P (dC, dI) vwCl (xW G C u2 ++ yW G2 C2 v2) H → va_D (fun q => s.heap.size ≤ q) (xW G C u2 ++ yW G2 C2 v2) → va_S (fun q => s.heap.size ≤ q) s.heap H locs → W p l e room_1 s m #[Value.ref b] below meth c H locs 16 1074 Q (F0 m 639 ls [])) : W p l e room_1 s m #[Value.ref b] below meth c H locs 16 1074 Q (F0 m 570 ls []) := by
  obtain ⟨hx, hb, hml, hown, hts⟩ := B
  have hbA : ¬ s.heap.size ≤ b := Nat.not_le.mpr hbl
  have hA : ∀ q : Nat, s.heap.size ≤ q → s.heap.size ≤ q := fun _ h => h
  refine lv_aload_n hx hb dL_law_570 rfl (lv_at hl 2 rfl) ?_
  refine lv_aload_n hx hb dL_law_571 rfl (lv_at hl 1 rfl) ?_
  refine lv_iload_n hx hb dL_law_572 rfl (lv_at hl 0 rfl) ?_
  refine lv_iconst (v := 1) hx hb dL_law_573 (by decide) ?_
  refine lv_iadd hx hb dL_law_574 ?_
  refine W.eq (congrArg (fun z => F0 m 575 ls (.int z :: [.ref b, .ref (G 0)])) (nI_add i 1)) ?_
  refine va_sld hx hb hX hbl hbA hS (vp_in_nI (show (i + 1) < L by omega) (by omega)) dL_law_575 ?_
  refine W.eq (congrArg (fun z => F0 m 576 ls (.int (xs z) :: [.ref (G 0)])) (nI_clamp (show (i + 1) < 2 ^ 31 by omega))) ?_
  have hPc := hP.sub (ws' := (xW G C u)) [0, 1, 2, 3, 4, 5, 6, 7] rfl
  have hDc := hD.sub (ws' := (xW G C u)) [0, 1, 2, 3, 4, 5, 6, 7] (by decide) rfl
  have hKc := hK.sub (tys' := xT C) [0, 1, 2, 3, 4, 5, 6] rfl
  refine xcall_i (ws := (xW G C u ++ yW G2 C2 v)) (wc := (xW G C u)) (wr := (yW G2 C2 v)) (w1 := (xW G C u)) (v := (p_value u (xs (i + 1)))) [0, 1, 2, 3, 4, 5, 6, 7] [8, 9, 10, 11, 12, 13, 14, 15] (va_runV (As := [.int (xs (i + 1))]) (rest := []) ⟨hx, hb, hml, hown, hts⟩ (c_value l dC dI G C _ u (xs (i + 1)) (rel_hn hr)) (cwV 1 hts (gLup gL_law_X0_value) rfl rfl rfl (by decide +kernel) ⟨Nat.le_of_ble_eq_true rfl, Nat.le_of_ble_eq_true rfl⟩) (xpreV (q0 := 0) (ci := 0) (qc := (RX0, TX0, 9)) hKc hPc hDc rfl rfl) rfl rfl hl.1 rfl (lv_room (Nat.le_of_ble_eq_true rfl)) dL_law_576 ⟨Nat.le_of_ble_eq_true rfl, Nat.le_of_ble_eq_true rfl⟩) hP hD hS hA rfl rfl (by decide) (by decide) (fun H locs hP hD hS => ?_)
  have hP := hP.sub (ws' := (xW G C u ++ yW G2 C2 v)) [8, 9, 10, 11, 12, 13, 14, 15, 0, 1, 2, 3, 4, 5, 6, 7] rfl
  have hD := hD.sub (ws' := (xW G C u ++ yW G2 C2 v)) [8, 9, 10, 11, 12, 13, 14, 15, 0, 1, 2, 3, 4, 5, 6, 7] (by decide) rfl
  refine lv_aload_n hx hb dL_law_579 rfl (lv_at hl 3 rfl) ?_
  refine lv_aload_n hx hb dL_law_580 rfl (lv_at hl 1 rfl) ?_
  refine lv_iload_n hx hb dL_law_581 rfl (lv_at hl 0 rfl) ?_
  refine lv_iconst (v := 1) hx hb dL_law_582 (by decide) ?_
  refine lv_iadd hx hb dL_law_583 ?_
  refine W.eq (congrArg (fun z => F0 m 584 ls (.int z :: [.ref b, .ref (G2 0), .int (p_value u (xs (i + 1)))])) (nI_add i 1)) ?_
  refine va_sld hx hb hX hbl hbA hS (vp_in_nI (show (i + 1) < L by omega) (by omega)) dL_law_584 ?_
  refine W.eq (congrArg (fun z => F0 m 585 ls (.int (xs z) :: [.ref (G2 0), .int (p_value u (xs (i + 1)))])) (nI_clamp (show (i + 1) < 2 ^ 31 by omega))) ?_
  have hPc := hP.sub (ws' := (yW G2 C2 v)) [8, 9, 10, 11, 12, 13, 14, 15] rfl
  have hDc := hD.sub (ws' := (yW G2 C2 v)) [8, 9, 10, 11, 12, 13, 14, 15] (by decide) rfl
  have hKc := hK.sub (tys' := yT C2) [7, 8, 9, 10, 11, 12, 13] rfl
  refine xcall_i (ws := (xW G C u ++ yW G2 C2 v)) (wc := (yW G2 C2 v)) (wr := (xW G C u)) (w1 := (yW G2 C2 v)) (v := (yp_value v (xs (i + 1)))) [8, 9, 10, 11, 12, 13, 14, 15] [0, 1, 2, 3, 4, 5, 6, 7] (va_runV (As := [.int (xs (i + 1))]) (rest := [.int (p_value u (xs (i + 1)))]) ⟨hx, hb, hml, hown, hts⟩ (yc_value l dC dI G2 C2 _ v (xs (i + 1)) (yrel_hn hr)) (cwV 1 hts gL_law_Y_value rfl rfl rfl (by decide +kernel) ⟨Nat.le_of_ble_eq_true rfl, Nat.le_of_ble_eq_true rfl⟩) (xpreV (q0 := 0) (ci := 1) (qc := (RX1, TX1, 9)) hKc hPc hDc rfl rfl) rfl rfl hl.1 rfl (lv_room (Nat.le_of_ble_eq_true rfl)) dL_law_585 ⟨Nat.le_of_ble_eq_true rfl, Nat.le_of_ble_eq_true rfl⟩) hP hD hS hA rfl rfl (by decide) (by decide) (fun H locs hP hD hS => ?_)
  have hP : va_P (dC, dI) vwCl (xW G C u ++ yW G2 C2 v) H := hP
  have hD : va_D (fun q => s.heap.size ≤ q) (xW G C u ++ yW G2 C2 v) := hD
  obtain ⟨ea, er⟩ := r_value hr (xs (i + 1))
  refine lv_icmp_eq (tgt := 639) hx hb dL_law_588 rfl (fun _ => ?_) (fun q => absurd ea q)
  exact kk u v _ _ er hP hD hS
set_option maxHeartbeats 4000000 in
set_option maxRecDepth 100000 in
theorem k_owner {p : Program} {l : Launch} {e : Env} {s : State} {m : MethodId} {below : List Frame} {meth : Method} {c : Code} {Q : State → Prop} {H : Heap} {locs : List Loc} {ls : Array Slot} {dC : Nat → ClassId} {dI : Nat → Nat → Nat} {G G2 : Nat → Nat} {C C2 : Nat → ClassId} {u : xS} {v : yS} {b L i : Nat} {xs : Nat → Int32} (B : CallFix p m c cL_law 4 s #[Value.ref b] lw_tbl RL) (hK : va_K (dC, dI) vwCl (xT C ++ yT C2) s) (hX : va_X b L xs s s.heap) (hbl : b < s.heap.size) (hi : i + 5 ≤ L) (hL : L ≤ 2560) (hr : Rel u v) (hP : va_P (dC, dI) vwCl (xW G C u ++ yW G2 C2 v) H) (hD : va_D (fun q => s.heap.size ≤ q) (xW G C u ++ yW G2 C2 v)) (hS : va_S (fun q => s.heap.size ≤ q) s.heap H locs) (hl : lv_has ls 4 [(3, .int (nI i)), (0, .ref b), (1, .ref (G 0)), (2, .ref (G2 0))]) (kk : ∀ (u2 : xS) (v2 : yS) (H : Heap) (locs : List Loc), Rel u2 v2 → va_P (dC, dI) vwCl (xW G C u2 ++ yW G2 C2 v2) H → va_D (fun q => s.heap.size ≤ q) (xW G C u2 ++ yW G2 C2 v2) → va_S (fun q => s.heap.size ≤ q) s.heap H locs → W p l e room_1 s m #[Value.ref b] below meth c H locs 16 1074 Q (F0 m 639 ls [])) : W p l e room_1 s m #[Value.ref b] below meth c H locs 16 1074 Q (F0 m 593 ls []) := by
  obtain ⟨hx, hb, hml, hown, hts⟩ := B
  have hbA : ¬ s.heap.size ≤ b := Nat.not_le.mpr hbl
  have hA : ∀ q : Nat, s.heap.size ≤ q → s.heap.size ≤ q := fun _ h => h
  refine lv_aload_n hx hb dL_law_593 rfl (lv_at hl 2 rfl) ?_
  refine lv_aload_n hx hb dL_law_594 rfl (lv_at hl 1 rfl) ?_
  refine lv_iload_n hx hb dL_law_595 rfl (lv_at hl 0 rfl) ?_
  refine lv_iconst (v := 1) hx hb dL_law_596 (by decide) ?_
  refine lv_iadd hx hb dL_law_597 ?_
  refine W.eq (congrArg (fun z => F0 m 598 ls (.int z :: [.ref b, .ref (G 0)])) (nI_add i 1)) ?_
  refine va_sld hx hb hX hbl hbA hS (vp_in_nI (show (i + 1) < L by omega) (by omega)) dL_law_598 ?_
  refine W.eq (congrArg (fun z => F0 m 599 ls (.int (xs z) :: [.ref (G 0)])) (nI_clamp (show (i + 1) < 2 ^ 31 by omega))) ?_
  have hPc := hP.sub (ws' := (xW G C u)) [0, 1, 2, 3, 4, 5, 6, 7] rfl
  have hDc := hD.sub (ws' := (xW G C u)) [0, 1, 2, 3, 4, 5, 6, 7] (by decide) rfl
  have hKc := hK.sub (tys' := xT C) [0, 1, 2, 3, 4, 5, 6] rfl
  refine xcall_i (ws := (xW G C u ++ yW G2 C2 v)) (wc := (xW G C u)) (wr := (yW G2 C2 v)) (w1 := (xW G C u)) (v := (p_owner u (xs (i + 1)))) [0, 1, 2, 3, 4, 5, 6, 7] [8, 9, 10, 11, 12, 13, 14, 15] (va_runV (As := [.int (xs (i + 1))]) (rest := []) ⟨hx, hb, hml, hown, hts⟩ (c_owner l dC dI G C _ u (xs (i + 1)) (rel_hn hr)) (cwV 1 hts (gLup gL_law_X0_owner) rfl rfl rfl (by decide +kernel) ⟨Nat.le_of_ble_eq_true rfl, Nat.le_of_ble_eq_true rfl⟩) (xpreV (q0 := 0) (ci := 0) (qc := (RX0, TX0, 9)) hKc hPc hDc rfl rfl) rfl rfl hl.1 rfl (lv_room (Nat.le_of_ble_eq_true rfl)) dL_law_599 ⟨Nat.le_of_ble_eq_true rfl, Nat.le_of_ble_eq_true rfl⟩) hP hD hS hA rfl rfl (by decide) (by decide) (fun H locs hP hD hS => ?_)
  have hP := hP.sub (ws' := (xW G C u ++ yW G2 C2 v)) [8, 9, 10, 11, 12, 13, 14, 15, 0, 1, 2, 3, 4, 5, 6, 7] rfl
  have hD := hD.sub (ws' := (xW G C u ++ yW G2 C2 v)) [8, 9, 10, 11, 12, 13, 14, 15, 0, 1, 2, 3, 4, 5, 6, 7] (by decide) rfl
  refine lv_aload_n hx hb dL_law_602 rfl (lv_at hl 3 rfl) ?_
  refine lv_aload_n hx hb dL_law_603 rfl (lv_at hl 1 rfl) ?_
  refine lv_iload_n hx hb dL_law_604 rfl (lv_at hl 0 rfl) ?_
  refine lv_iconst (v := 1) hx hb dL_law_605 (by decide) ?_
  refine lv_iadd hx hb dL_law_606 ?_
  refine W.eq (congrArg (fun z => F0 m 607 ls (.int z :: [.ref b, .ref (G2 0), .int (p_owner u (xs (i + 1)))])) (nI_add i 1)) ?_
  refine va_sld hx hb hX hbl hbA hS (vp_in_nI (show (i + 1) < L by omega) (by omega)) dL_law_607 ?_
  refine W.eq (congrArg (fun z => F0 m 608 ls (.int (xs z) :: [.ref (G2 0), .int (p_owner u (xs (i + 1)))])) (nI_clamp (show (i + 1) < 2 ^ 31 by omega))) ?_
  have hPc := hP.sub (ws' := (yW G2 C2 v)) [8, 9, 10, 11, 12, 13, 14, 15] rfl
  have hDc := hD.sub (ws' := (yW G2 C2 v)) [8, 9, 10, 11, 12, 13, 14, 15] (by decide) rfl
  have hKc := hK.sub (tys' := yT C2) [7, 8, 9, 10, 11, 12, 13] rfl
  refine xcall_i (ws := (xW G C u ++ yW G2 C2 v)) (wc := (yW G2 C2 v)) (wr := (xW G C u)) (w1 := (yW G2 C2 v)) (v := (yp_owner v (xs (i + 1)))) [8, 9, 10, 11, 12, 13, 14, 15] [0, 1, 2, 3, 4, 5, 6, 7] (va_runV (As := [.int (xs (i + 1))]) (rest := [.int (p_owner u (xs (i + 1)))]) ⟨hx, hb, hml, hown, hts⟩ (yc_owner l dC dI G2 C2 _ v (xs (i + 1)) (yrel_hn hr)) (cwV 1 hts gL_law_Y_owner rfl rfl rfl (by decide +kernel) ⟨Nat.le_of_ble_eq_true rfl, Nat.le_of_ble_eq_true rfl⟩) (xpreV (q0 := 0) (ci := 1) (qc := (RX1, TX1, 9)) hKc hPc hDc rfl rfl) rfl rfl hl.1 rfl (lv_room (Nat.le_of_ble_eq_true rfl)) dL_law_608 ⟨Nat.le_of_ble_eq_true rfl, Nat.le_of_ble_eq_true rfl⟩) hP hD hS hA rfl rfl (by decide) (by decide) (fun H locs hP hD hS => ?_)
  have hP : va_P (dC, dI) vwCl (xW G C u ++ yW G2 C2 v) H := hP
  have hD : va_D (fun q => s.heap.size ≤ q) (xW G C u ++ yW G2 C2 v) := hD
  obtain ⟨ea, er⟩ := r_owner hr (xs (i + 1))
  refine lv_icmp_eq (tgt := 639) hx hb dL_law_611 rfl (fun _ => ?_) (fun q => absurd ea q)
  exact kk u v _ _ er hP hD hS
set_option maxHeartbeats 4000000 in
set_option maxRecDepth 100000 in
theorem k_before {p : Program} {l : Launch} {e : Env} {s : State} {m : MethodId} {below : List Frame} {meth : Method} {c : Code} {Q : State → Prop} {H : Heap} {locs : List Loc} {ls : Array Slot} {dC : Nat → ClassId} {dI : Nat → Nat → Nat} {G G2 : Nat → Nat} {C C2 : Nat → ClassId} {u : xS} {v : yS} {b L i : Nat} {xs : Nat → Int32} (B : CallFix p m c cL_law 4 s #[Value.ref b] lw_tbl RL) (hK : va_K (dC, dI) vwCl (xT C ++ yT C2) s) (hX : va_X b L xs s s.heap) (hbl : b < s.heap.size) (hi : i + 5 ≤ L) (hL : L ≤ 2560) (hr : Rel u v) (hP : va_P (dC, dI) vwCl (xW G C u ++ yW G2 C2 v) H) (hD : va_D (fun q => s.heap.size ≤ q) (xW G C u ++ yW G2 C2 v)) (hS : va_S (fun q => s.heap.size ≤ q) s.heap H locs) (hl : lv_has ls 4 [(3, .int (nI i)), (0, .ref b), (1, .ref (G 0)), (2, .ref (G2 0))]) (kk : ∀ (u2 : xS) (v2 : yS) (H : Heap) (locs : List Loc), Rel u2 v2 → va_P (dC, dI) vwCl (xW G C u2 ++ yW G2 C2 v2) H → va_D (fun q => s.heap.size ≤ q) (xW G C u2 ++ yW G2 C2 v2) → va_S (fun q => s.heap.size ≤ q) s.heap H locs → W p l e room_1 s m #[Value.ref b] below meth c H locs 16 1074 Q (F0 m 639 ls [])) : W p l e room_1 s m #[Value.ref b] below meth c H locs 16 1074 Q (F0 m 616 ls []) := by
  obtain ⟨hx, hb, hml, hown, hts⟩ := B
  have hbA : ¬ s.heap.size ≤ b := Nat.not_le.mpr hbl
  have hA : ∀ q : Nat, s.heap.size ≤ q → s.heap.size ≤ q := fun _ h => h
  refine lv_aload_n hx hb dL_law_616 rfl (lv_at hl 2 rfl) ?_
  refine lv_aload_n hx hb dL_law_617 rfl (lv_at hl 1 rfl) ?_
  refine lv_iload_n hx hb dL_law_618 rfl (lv_at hl 0 rfl) ?_
  refine lv_iconst (v := 1) hx hb dL_law_619 (by decide) ?_
  refine lv_iadd hx hb dL_law_620 ?_
  refine W.eq (congrArg (fun z => F0 m 621 ls (.int z :: [.ref b, .ref (G 0)])) (nI_add i 1)) ?_
  refine va_sld hx hb hX hbl hbA hS (vp_in_nI (show (i + 1) < L by omega) (by omega)) dL_law_621 ?_
  refine W.eq (congrArg (fun z => F0 m 622 ls (.int (xs z) :: [.ref (G 0)])) (nI_clamp (show (i + 1) < 2 ^ 31 by omega))) ?_
  have hPc := hP.sub (ws' := (xW G C u)) [0, 1, 2, 3, 4, 5, 6, 7] rfl
  have hDc := hD.sub (ws' := (xW G C u)) [0, 1, 2, 3, 4, 5, 6, 7] (by decide) rfl
  have hKc := hK.sub (tys' := xT C) [0, 1, 2, 3, 4, 5, 6] rfl
  refine xcall_i (ws := (xW G C u ++ yW G2 C2 v)) (wc := (xW G C u)) (wr := (yW G2 C2 v)) (w1 := (xW G C u)) (v := (p_before u (xs (i + 1)))) [0, 1, 2, 3, 4, 5, 6, 7] [8, 9, 10, 11, 12, 13, 14, 15] (va_runV (As := [.int (xs (i + 1))]) (rest := []) ⟨hx, hb, hml, hown, hts⟩ (c_before l dC dI G C _ u (xs (i + 1)) (rel_hn hr) (rel_ho hr)) (cwV 1 hts (gLup gL_law_X0_before) rfl rfl rfl (by decide +kernel) ⟨Nat.le_of_ble_eq_true rfl, Nat.le_of_ble_eq_true rfl⟩) (xpreV (q0 := 0) (ci := 0) (qc := (RX0, TX0, 9)) hKc hPc hDc rfl rfl) rfl rfl hl.1 rfl (lv_room (Nat.le_of_ble_eq_true rfl)) dL_law_622 ⟨Nat.le_of_ble_eq_true rfl, Nat.le_of_ble_eq_true rfl⟩) hP hD hS hA rfl rfl (by decide) (by decide) (fun H locs hP hD hS => ?_)
  have hP := hP.sub (ws' := (xW G C u ++ yW G2 C2 v)) [8, 9, 10, 11, 12, 13, 14, 15, 0, 1, 2, 3, 4, 5, 6, 7] rfl
  have hD := hD.sub (ws' := (xW G C u ++ yW G2 C2 v)) [8, 9, 10, 11, 12, 13, 14, 15, 0, 1, 2, 3, 4, 5, 6, 7] (by decide) rfl
  refine lv_aload_n hx hb dL_law_625 rfl (lv_at hl 3 rfl) ?_
  refine lv_aload_n hx hb dL_law_626 rfl (lv_at hl 1 rfl) ?_
  refine lv_iload_n hx hb dL_law_627 rfl (lv_at hl 0 rfl) ?_
  refine lv_iconst (v := 1) hx hb dL_law_628 (by decide) ?_
  refine lv_iadd hx hb dL_law_629 ?_
  refine W.eq (congrArg (fun z => F0 m 630 ls (.int z :: [.ref b, .ref (G2 0), .int (p_before u (xs (i + 1)))])) (nI_add i 1)) ?_
  refine va_sld hx hb hX hbl hbA hS (vp_in_nI (show (i + 1) < L by omega) (by omega)) dL_law_630 ?_
  refine W.eq (congrArg (fun z => F0 m 631 ls (.int (xs z) :: [.ref (G2 0), .int (p_before u (xs (i + 1)))])) (nI_clamp (show (i + 1) < 2 ^ 31 by omega))) ?_
  have hPc := hP.sub (ws' := (yW G2 C2 v)) [8, 9, 10, 11, 12, 13, 14, 15] rfl
  have hDc := hD.sub (ws' := (yW G2 C2 v)) [8, 9, 10, 11, 12, 13, 14, 15] (by decide) rfl
  have hKc := hK.sub (tys' := yT C2) [7, 8, 9, 10, 11, 12, 13] rfl
  refine xcall_i (ws := (xW G C u ++ yW G2 C2 v)) (wc := (yW G2 C2 v)) (wr := (xW G C u)) (w1 := (yW G2 C2 v)) (v := (yp_before v (xs (i + 1)))) [8, 9, 10, 11, 12, 13, 14, 15] [0, 1, 2, 3, 4, 5, 6, 7] (va_runV (As := [.int (xs (i + 1))]) (rest := [.int (p_before u (xs (i + 1)))]) ⟨hx, hb, hml, hown, hts⟩ (yc_before l dC dI G2 C2 _ v (xs (i + 1)) (yrel_hn hr) (yrel_ho hr)) (cwV 1 hts gL_law_Y_before rfl rfl rfl (by decide +kernel) ⟨Nat.le_of_ble_eq_true rfl, Nat.le_of_ble_eq_true rfl⟩) (xpreV (q0 := 0) (ci := 1) (qc := (RX1, TX1, 9)) hKc hPc hDc rfl rfl) rfl rfl hl.1 rfl (lv_room (Nat.le_of_ble_eq_true rfl)) dL_law_631 ⟨Nat.le_of_ble_eq_true rfl, Nat.le_of_ble_eq_true rfl⟩) hP hD hS hA rfl rfl (by decide) (by decide) (fun H locs hP hD hS => ?_)
  have hP : va_P (dC, dI) vwCl (xW G C u ++ yW G2 C2 v) H := hP
  have hD : va_D (fun q => s.heap.size ≤ q) (xW G C u ++ yW G2 C2 v) := hD
  obtain ⟨ea, er⟩ := r_before hr (xs (i + 1))
  refine lv_icmp_eq (tgt := 639) hx hb dL_law_634 rfl (fun _ => ?_) (fun q => absurd ea q)
  exact kk u v _ _ er hP hD hS
