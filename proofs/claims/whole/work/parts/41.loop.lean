theorem xinc5 (i : Nat) : nI i + Int32.ofInt 5 = nI (i + 5) := by
  rw [← nI_add i 5]
  exact congrArg (fun z => nI i + z) (by decide)
theorem hd_out {L i : Nat} (hL : L ≤ 2560) (hi : i ≤ L) (h : ¬ nI L - 5 < nI i) : i + 5 ≤ L := by
  rw [Int32.lt_iff_toInt_lt, show (5 : Int32) = nI 5 from by decide, pk_sub_toInt (by omega) (by omega), nI_toInt (by omega)] at h
  omega
set_option maxHeartbeats 4000000 in
set_option maxRecDepth 100000 in
theorem lp_law {p : Program} {l : Launch} {e : Env} {s : State} {m : MethodId} {below : List Frame} {meth : Method} {c : Code} {Q : State → Prop} {dC : Nat → ClassId} {dI : Nat → Nat → Nat} {G G2 : Nat → Nat} {C C2 : Nat → ClassId} {b L : Nat} {xs : Nat → Int32} (B : CallFix p m c cL_law 4 s #[Value.ref b] lw_tbl RL) (hK : va_K (dC, dI) vwCl (xT C ++ yT C2) s) (hX : va_X b L xs s s.heap) (hbl : b < s.heap.size) (hL : L ≤ 2560) (kk : ∀ (H : Heap) (locs : List Loc) (ls : Array Slot), va_S (fun q => s.heap.size ≤ q) s.heap H locs → W p l e room_1 s m #[Value.ref b] below meth c H locs 16 1074 Q (F0 m 645 ls [])) :
    ∀ (d i : Nat) (u : xS) (v : yS) (H : Heap) (locs : List Loc) (ls : Array Slot), L - i = d → i ≤ L → Rel u v → va_P (dC, dI) vwCl (xW G C u ++ yW G2 C2 v) H → va_D (fun q => s.heap.size ≤ q) (xW G C u ++ yW G2 C2 v) → va_S (fun q => s.heap.size ≤ q) s.heap H locs → lv_has ls 4 [(3, .int (nI i)), (0, .ref b), (1, .ref (G 0)), (2, .ref (G2 0))] → W p l e room_1 s m #[Value.ref b] below meth c H locs 16 1074 Q (F0 m 18 ls []) := by
  have B0 := B
  obtain ⟨hx, hb, hml, hown, hts⟩ := B
  have hbA : ¬ s.heap.size ≤ b := Nat.not_le.mpr hbl
  intro d
  induction d using Nat.strongRecOn with
  | ind d ih =>
    intro i u v H locs ls hd hi0 hr hP hD hS hl
    refine lv_iload_n hx hb dL_law_18 rfl (lv_at hl 0 rfl) ?_
    refine lv_aload_n hx hb dL_law_19 rfl (lv_at hl 1 rfl) ?_
    refine va_slen hx hb hX hbl hbA hS dL_law_20 ?_
    refine lv_iconst (v := 5) hx hb dL_law_21 (by decide) ?_
    refine lv_isub hx hb dL_law_22 ?_
    refine lv_icmp_gt (tgt := 645) hx hb dL_law_23 rfl (fun _ => kk _ _ _ hS) (fun c23 => ?_)
    have hi : i + 5 ≤ L := hd_out hL hi0 c23
    refine lv_aload_n hx hb dL_law_26 rfl (lv_at hl 1 rfl) ?_
    refine lv_iload_n hx hb dL_law_27 rfl (lv_at hl 0 rfl) ?_
    refine va_sld hx hb hX hbl hbA hS (vp_in_nI (show i < L by omega) (by omega)) dL_law_28 ?_
    refine lv_bipush (v := 31) hx hb dL_law_29 (by decide) ?_
    refine lv_iand hx hb dL_law_31 ?_
    obtain ⟨j, hj, ej⟩ := pk_andE (xs (nI i).toNatClampNeg) (m := 31) 5 (by decide)
    refine W.eq (congrArg (fun z => F0 m 32 ls [.int z]) ej) ?_
    have back : ∀ (u2 : xS) (v2 : yS) (H : Heap) (locs : List Loc), Rel u2 v2 → va_P (dC, dI) vwCl (xW G C u2 ++ yW G2 C2 v2) H → va_D (fun q => s.heap.size ≤ q) (xW G C u2 ++ yW G2 C2 v2) → va_S (fun q => s.heap.size ≤ q) s.heap H locs → W p l e room_1 s m #[Value.ref b] below meth c H locs 16 1074 Q (F0 m 639 ls []) := by
      intro u2 v2 H locs hr hP hD hS
      refine lv_iinc (k := 0) (v := nI (i + 5)) (lv' := [(3, .int (nI (i + 5))), (0, .ref b), (1, .ref (G 0)), (2, .ref (G2 0))]) hx hb dL_law_639 hl rfl (xinc5 i) (by decide) rfl (fun ls hl => ?_)
      refine lv_goto (tgt := 18) hx hb dL_law_642 rfl ?_
      exact ih _ (by omega) (i + 5) u2 v2 H locs ls rfl hi hr hP hD hS hl
    by_cases h0 : j = 0
    · subst h0
      refine lv_tableIn (tgt := 116) hx hb dL_law_32 (by decide) (by decide) rfl rfl ?_
      exact k_open B0 hK hX hbl hi hL hr hP hD hS hl back
    by_cases h1 : j = 1
    · subst h1
      refine lv_tableIn (tgt := 149) hx hb dL_law_32 (by decide) (by decide) rfl rfl ?_
      exact k_insert B0 hK hX hbl hi hL hr hP hD hS hl back
    by_cases h2 : j = 2
    · subst h2
      refine lv_tableIn (tgt := 222) hx hb dL_law_32 (by decide) (by decide) rfl rfl ?_
      exact k_first B0 hK hX hbl hi hL hr hP hD hS hl back
    by_cases h3 : j = 3
    · subst h3
      refine lv_tableIn (tgt := 245) hx hb dL_law_32 (by decide) (by decide) rfl rfl ?_
      exact k_last B0 hK hX hbl hi hL hr hP hD hS hl back
    by_cases h4 : j = 4
    · subst h4
      refine lv_tableIn (tgt := 268) hx hb dL_law_32 (by decide) (by decide) rfl rfl ?_
      exact k_take B0 hK hX hbl hi hL hr hP hD hS hl back
    by_cases h5 : j = 5
    · subst h5
      refine lv_tableIn (tgt := 291) hx hb dL_law_32 (by decide) (by decide) rfl rfl ?_
      exact k_takeLast B0 hK hX hbl hi hL hr hP hD hS hl back
    by_cases h6 : j = 6
    · subst h6
      refine lv_tableIn (tgt := 314) hx hb dL_law_32 (by decide) (by decide) rfl rfl ?_
      exact k_decrease B0 hK hX hbl hi hL hr hP hD hS hl back
    by_cases h7 : j = 7
    · subst h7
      refine lv_tableIn (tgt := 377) hx hb dL_law_32 (by decide) (by decide) rfl rfl ?_
      exact k_delete B0 hK hX hbl hi hL hr hP hD hS hl back
    by_cases h8 : j = 8
    · subst h8
      refine lv_tableIn (tgt := 400) hx hb dL_law_32 (by decide) (by decide) rfl rfl ?_
      exact k_meld B0 hK hX hbl hi hL hr hP hD hS hl back
    by_cases h9 : j = 9
    · subst h9
      refine lv_tableIn (tgt := 433) hx hb dL_law_32 (by decide) (by decide) rfl rfl ?_
      exact k_drain B0 hK hX hbl hi hL hr hP hD hS hl back
    by_cases h10 : j = 10
    · subst h10
      refine lv_tableIn (tgt := 476) hx hb dL_law_32 (by decide) (by decide) rfl rfl ?_
      exact k_clear B0 hK hX hbl hi hL hr hP hD hS hl back
    by_cases h11 : j = 11
    · subst h11
      refine lv_tableIn (tgt := 499) hx hb dL_law_32 (by decide) (by decide) rfl rfl ?_
      exact k_size B0 hK hX hbl hi hL hr hP hD hS hl back
    by_cases h12 : j = 12
    · subst h12
      refine lv_tableIn (tgt := 522) hx hb dL_law_32 (by decide) (by decide) rfl rfl ?_
      exact k_floor B0 hK hX hbl hi hL hr hP hD hS hl back
    by_cases h13 : j = 13
    · subst h13
      refine lv_tableIn (tgt := 546) hx hb dL_law_32 (by decide) (by decide) rfl rfl ?_
      exact k_key B0 hK hX hbl hi hL hr hP hD hS hl back
    by_cases h14 : j = 14
    · subst h14
      refine lv_tableIn (tgt := 570) hx hb dL_law_32 (by decide) (by decide) rfl rfl ?_
      exact k_value B0 hK hX hbl hi hL hr hP hD hS hl back
    by_cases h15 : j = 15
    · subst h15
      refine lv_tableIn (tgt := 593) hx hb dL_law_32 (by decide) (by decide) rfl rfl ?_
      exact k_owner B0 hK hX hbl hi hL hr hP hD hS hl back
    by_cases h16 : j = 16
    · subst h16
      refine lv_tableIn (tgt := 616) hx hb dL_law_32 (by decide) (by decide) rfl rfl ?_
      exact k_before B0 hK hX hbl hi hL hr hP hD hS hl back
    refine lv_tableOut (tgt := 639) hx hb dL_law_32 (Or.inr (by rw [nI_toInt (by omega)]; omega)) rfl ?_
    exact back u v H locs hr hP hD hS
