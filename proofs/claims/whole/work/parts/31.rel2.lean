/-! closed forms, counts, and how a step keeps the tie -/
theorem upd_at (f : Nat → Int32) (k j : Nat) (x : Int32) : upd f k x j = if j = k then x else f j := by
  by_cases h : j = k
  · rw [if_pos h, h, pk_us]
  · rw [if_neg h, pk_un h]
theorem updL_at (f : Nat → Int64) (k j : Nat) (x : Int64) : vp_updL f k x j = if j = k then x else f j := rfl
theorem updL_same (f : Nat → Int64) (k : Nat) : vp_updL f k (f k) = f := by
  funext j
  rw [updL_at]
  by_cases h : j = k
  · rw [if_pos h, h]
  · rw [if_neg h]
theorem ho_form (u : xS) (h b : Int32) : ∀ i j, q_handOverAllL u h b i j = if j < i ∧ xow u j = h then b else xow u j := by
  intro i
  induction i with
  | zero => intro j; rw [if_neg (fun q => absurd q.1 (Nat.not_lt_zero j))]; rfl
  | succ i ih =>
    intro j
    have ii : q_handOverAllL u h b i i = xow u i := by rw [ih, if_neg (fun q => absurd q.1 (Nat.lt_irrefl i))]
    rw [q_handOverAllL, ii]
    by_cases c : xow u i = h
    · rw [if_pos c, upd_at, ih]
      by_cases e : j = i
      · rw [if_pos e, if_pos ⟨by omega, by rw [e]; exact c⟩]
      · rw [if_neg e]
        by_cases d : j < i ∧ xow u j = h
        · rw [if_pos d, if_pos ⟨by omega, d.2⟩]
        · rw [if_neg d, if_neg (fun q => d ⟨by omega, q.2⟩)]
    · rw [if_neg c, ih]
      by_cases d : j < i ∧ xow u j = h
      · rw [if_pos d, if_pos ⟨by omega, d.2⟩]
      · rw [if_neg d, if_neg (fun q => d ⟨by
          have := q.1
          by_cases e : j = i
          · exact absurd (e ▸ q.2) c
          · omega, q.2⟩)]
theorem ym_form (u : xS) (a b : Int32) : ∀ i j, yq_meldL u a b i j = if j < i ∧ xow u j = b then a else xow u j := by
  intro i
  induction i with
  | zero => intro j; rw [if_neg (fun q => absurd q.1 (Nat.not_lt_zero j))]; rfl
  | succ i ih =>
    intro j
    have ii : yq_meldL u a b i i = xow u i := by rw [ih, if_neg (fun q => absurd q.1 (Nat.lt_irrefl i))]
    rw [yq_meldL, ii]
    by_cases c : xow u i = b
    · rw [if_pos c, upd_at, ih]
      by_cases e : j = i
      · rw [if_pos e, if_pos ⟨by omega, by rw [e]; exact c⟩]
      · rw [if_neg e]
        by_cases d : j < i ∧ xow u j = b
        · rw [if_pos d, if_pos ⟨by omega, d.2⟩]
        · rw [if_neg d, if_neg (fun q => d ⟨by omega, q.2⟩)]
    · rw [if_neg c, upd_at, ih]
      by_cases e : j = i
      · rw [if_pos e, if_neg (fun q => c (e ▸ q.2)), e]
      · rw [if_neg e]
        by_cases d : j < i ∧ xow u j = b
        · rw [if_pos d, if_pos ⟨by omega, d.2⟩]
        · rw [if_neg d, if_neg (fun q => d ⟨by omega, q.2⟩)]
theorem yc_form (u : xS) (h : Int32) : ∀ i j, yq_clearL u h i j = if j < i ∧ xow u j = h then -1 else xow u j := by
  intro i
  induction i with
  | zero => intro j; rw [if_neg (fun q => absurd q.1 (Nat.not_lt_zero j))]; rfl
  | succ i ih =>
    intro j
    have ii : yq_clearL u h i i = xow u i := by rw [ih, if_neg (fun q => absurd q.1 (Nat.lt_irrefl i))]
    rw [yq_clearL, ii]
    by_cases c : xow u i = h
    · rw [if_pos c, upd_at, ih]
      by_cases e : j = i
      · rw [if_pos e, if_pos ⟨by omega, by rw [e]; exact c⟩]
      · rw [if_neg e]
        by_cases d : j < i ∧ xow u j = h
        · rw [if_pos d, if_pos ⟨by omega, d.2⟩]
        · rw [if_neg d, if_neg (fun q => d ⟨by omega, q.2⟩)]
    · rw [if_neg c, upd_at, ih]
      by_cases e : j = i
      · rw [if_pos e, if_neg (fun q => c (e ▸ q.2)), e]
      · rw [if_neg e]
        by_cases d : j < i ∧ xow u j = h
        · rw [if_pos d, if_pos ⟨by omega, d.2⟩]
        · rw [if_neg d, if_neg (fun q => d ⟨by omega, q.2⟩)]
theorem ho_cnt (u : xS) (h b : Int32) : ∀ i, p_handOverAllL u h b i = p_countEntriesL u h i := by
  intro i
  induction i with
  | zero => rfl
  | succ i ih =>
    have ii : q_handOverAllL u h b i i = xow u i := by rw [ho_form, if_neg (fun q => absurd q.1 (Nat.lt_irrefl i))]
    rw [p_handOverAllL, p_countEntriesL, ii, ih]
theorem cnt_ow {u v : xS} (e : xow u = xow v) (h : Int32) : ∀ i, p_countEntriesL u h i = p_countEntriesL v h i := by
  intro i
  induction i with
  | zero => rfl
  | succ i ih => rw [p_countEntriesL, p_countEntriesL, e, ih]
theorem cnt_le (u : xS) (h : Int32) : ∀ i, p_countEntriesL u h i ≤ i := by
  intro i
  induction i with
  | zero => exact Nat.le_refl _
  | succ i ih =>
    rw [p_countEntriesL]
    split <;> omega
theorem cnt_pos {u : xS} {h : Int32} {j : Nat} (hj : xow u j = h) : ∀ i, j < i → 0 < p_countEntriesL u h i := by
  intro i
  induction i with
  | zero => exact fun q => absurd q (Nat.not_lt_zero j)
  | succ i ih =>
    intro q
    rw [p_countEntriesL]
    by_cases e : j = i
    · rw [if_pos (e ▸ hj)]; omega
    · have := ih (by omega)
      split <;> omega
/-- one owner less -/
theorem cnt_out {u : xS} {h x : Int32} {j : Nat} (hj : xow u j = h) (hx : ¬ x = h) : ∀ i, (j < i → p_countEntriesL (sOw u (upd (xow u) j x)) h i + 1 = p_countEntriesL u h i) ∧ (i ≤ j → p_countEntriesL (sOw u (upd (xow u) j x)) h i = p_countEntriesL u h i) := by
  intro i
  induction i with
  | zero => exact ⟨fun q => absurd q (Nat.not_lt_zero j), fun _ => rfl⟩
  | succ i ih =>
    have e0 : ∀ z, xow (sOw u (upd (xow u) j x)) z = if z = j then x else xow u z := fun z => upd_at _ _ _ _
    rw [p_countEntriesL, p_countEntriesL, e0]
    refine ⟨fun q => ?_, fun q => ?_⟩
    · by_cases e : i = j
      · have h9 := ih.2 (by omega)
        rw [if_pos e, if_neg hx, h9, if_pos (show xow u i = h by rw [e]; exact hj)]
      · have := ih.1 (by omega)
        rw [if_neg e]
        split <;> omega
    · have := ih.2 (by omega)
      rw [if_neg (show ¬ i = j by omega)]
      split <;> omega
theorem inv_set {u : xS} {w : Nat → Int32} (I : Inv u w) (j : Nat) {x y : Int32} (hx : x = if y < 0 then -4 else y) (hy : y = -1 ∨ ∃ h, h < xm u ∧ y = nI h) : Inv (sOw u (upd (xow u) j x)) (upd w j y) := by
  refine ⟨I.1, I.2.1, fun i => ?_, fun i hi => ?_, I.2.2.2.2.1, I.2.2.2.2.2.1, I.2.2.2.2.2.2⟩
  · show upd (xow u) j x i = _
    rw [upd_at, upd_at]
    by_cases e : i = j
    · rw [if_pos e, if_pos e, hx]
    · rw [if_neg e, if_neg e, I.2.2.1 i]
  · rw [upd_at]
    by_cases e : i = j
    · rw [if_pos e]; exact hy
    · rw [if_neg e]; exact I.2.2.2.1 i hi
theorem raise_rel {u : xS} {w : Nat → Int32} (I : Inv u w) {k : Nat} (hk : k < xm u) (f : Int32) : yq_leave (sOw u w) (nI k) f = sOw (q_raiseFloor u (nI k) (xky u f.toNatClampNeg)) w ∧ Inv (q_raiseFloor u (nI k) (xky u f.toNatClampNeg)) w ∧ xow (q_raiseFloor u (nI k) (xky u f.toNatClampNeg)) = xow u ∧ xm (q_raiseFloor u (nI k) (xky u f.toNatClampNeg)) = xm u := by
  have hm := I.1
  have e1 : yq_leave (sOw u w) (nI k) f = if xkd u (nI k).toNatClampNeg = 2 then sFl (sOw u w) (vp_updL (xfl u) (nI k).toNatClampNeg (yp_weight (sOw u w) (nI k) (xky u f.toNatClampNeg))) else sFl (sOw u w) (vp_updL (xfl u) (nI k).toNatClampNeg (xfl u (nI k).toNatClampNeg)) := rfl
  rw [e1, e_wt (od_of I hk), updL_same]
  unfold q_raiseFloor
  by_cases h1 : xkd u (nI k).toNatClampNeg = 2
  · rw [if_pos h1, if_pos h1]
    refine ⟨rfl, ⟨I.1, I.2.1, I.2.2.1, I.2.2.2.1, I.2.2.2.2.1, fun h hh hn => ?_, I.2.2.2.2.2.2⟩, rfl, rfl⟩
    show vp_updL (xfl u) (nI k).toNatClampNeg _ h = _
    rw [nI_clamp (by omega)] at h1 ⊢
    rw [updL_at, if_neg (fun q => hn (by rw [q]; exact h1))]
    exact I.2.2.2.2.2.1 h hh hn
  · rw [if_neg h1, if_neg h1]
    exact ⟨rfl, I, rfl, rfl⟩
theorem cb_zero {u : xS} {h a : Int32} : ∀ i, p_countBeforeL u h a i = 0 ↔ ∀ j, j < i → xow u j = h → p_isBefore u (xod u h.toNatClampNeg) (nI j) a = 0 := by
  intro i
  induction i with
  | zero => exact ⟨fun _ j hj => absurd hj (Nat.not_lt_zero j), fun _ => rfl⟩
  | succ i ih =>
    rw [p_countBeforeL]
    by_cases c : xow u i = h
    · rw [if_pos c]
      by_cases d : p_isBefore u (xod u h.toNatClampNeg) (nI i) a = 0
      · rw [if_pos d, ih]
        refine ⟨fun q j hj hj2 => ?_, fun q j hj hj2 => q j (by omega) hj2⟩
        by_cases e : j = i
        · rw [e]; exact d
        · exact q j (by omega) hj2
      · rw [if_neg d]
        exact ⟨fun q => absurd q (by omega), fun q => absurd (q i (by omega) c) d⟩
    · rw [if_neg c, ih]
      refine ⟨fun q j hj hj2 => ?_, fun q j hj hj2 => q j (by omega) hj2⟩
      by_cases e : j = i
      · exact absurd (e ▸ hj2) c
      · exact q j (by omega) hj2
theorem ff_cb {u : xS} {h : Int32} {b : Nat} (hn : xn u ≤ 160) (hb : b < xn u) (ho : xow u b = h) : p_findFirst u h = nI b ↔ p_countBeforeL u h (nI b) (xn u) = 0 := by
  rw [cb_zero]
  show p_findFirstL u h (xn u) = nI b ↔ _
  rcases ff_spec u h (xn u) (by omega) with ⟨e, hno⟩ | ⟨k, hk, e, hok, hmin⟩
  · exact absurd ho (hno b hb)
  · rw [e]
    refine ⟨fun q j hj hj2 => ?_, fun q => ?_⟩
    · have hkb := nI_inj (by omega) (by omega) q
      rw [isBefore_bf (by omega) (by omega)]
      rcases hmin j hj hj2 with z | z
      · rw [z, hkb]; exact bf_irr
      · rw [← hkb]; exact bf_asym z
    · rcases hmin b hb ho with z | z
      · rw [z]
      · exact absurd z ((isBefore_bf (by omega) (by omega)).mp (q k hk hok))
theorem cb_le (u : xS) (h a : Int32) : ∀ i, p_countBeforeL u h a i ≤ i := by
  intro i
  induction i with
  | zero => exact Nat.le_refl _
  | succ i ih =>
    rw [p_countBeforeL]
    (repeat' split) <;> omega
