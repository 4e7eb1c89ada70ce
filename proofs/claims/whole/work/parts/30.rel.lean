/-! the tie: the reference's state is that of the heaps, but for the owners of what is removed -/
def Inv (u : xS) (w : Nat → Int32) : Prop := xm u ≤ 12 ∧ xn u ≤ 160 ∧ (∀ j : Nat, xow u j = if w j < 0 then -4 else w j) ∧ (∀ j : Nat, j < xn u → w j = -1 ∨ ∃ h, h < xm u ∧ w j = nI h) ∧ (∀ h : Nat, h < xm u → xod u h = 0 ∨ xod u h = 1 ∨ xod u h = 2 ∨ xod u h = 3) ∧ (∀ h : Nat, h < xm u → ¬ xkd u h = 2 → xfl u h = -9223372036854775808) ∧ (∀ h : Nat, ¬ xab u h = 0 → h < xm u ∧ xkd u h = 0)
def Rel (u v : xS) : Prop := ∃ w : Nat → Int32, v = sOw u w ∧ Inv u w
theorem i_nlt {a b : Int32} : ¬ a < b ↔ b ≤ a := by
  rw [Int32.lt_iff_toInt_lt, Int32.le_iff_toInt_le]; omega
theorem i_nle {a b : Int32} : ¬ a ≤ b ↔ b < a := by
  rw [Int32.lt_iff_toInt_lt, Int32.le_iff_toInt_le]; omega
theorem l_nlt {a b : Int64} : ¬ a < b ↔ b ≤ a := by
  rw [Int64.lt_iff_toInt_lt, Int64.le_iff_toInt_le]; omega
theorem nI_n4 {k : Nat} (h : k < 2 ^ 31) : ¬ nI k = -4 := fun q => nI_pos h (by rw [q]; decide)
theorem nI_inj {a b : Nat} (ha : a < 2 ^ 31) (hb : b < 2 ^ 31) (h : nI a = nI b) : a = b := (nI_eq ha hb).mp h
theorem hk_isHeap {u : xS} {h : Int32} (hm : xm u ≤ 12) (c : ¬ p_isHeap u h = 0) : ∃ k, k < xm u ∧ h = nI k := by
  unfold p_isHeap at c
  by_cases h1 : h < 0
  · rw [if_pos h1] at c; exact absurd rfl c
  · rw [if_neg h1] at c
    by_cases h2 : (nI (xm u)) ≤ h
    · rw [if_pos h2] at c; exact absurd rfl c
    · obtain ⟨j, hj, rfl⟩ := nI_of h1
      exact ⟨j, Nat.not_le.mp (fun q : xm u ≤ j => h2 (nI_le q hj)), rfl⟩
theorem hk_of {u : xS} {h : Int32} (hm : xm u ≤ 12) (c : p_refusalOfHeap u h = 0) : ∃ k, k < xm u ∧ h = nI k := by
  unfold p_refusalOfHeap at c
  by_cases h1 : p_isHeap u h = 0
  · rw [if_pos h1] at c; exact absurd c (by decide)
  · exact hk_isHeap hm h1
theorem e_wH (u : xS) (w : Nat → Int32) (h : Int32) : yp_wrongHeap (sOw u w) h = p_refusalOfHeap u h := by
  show (if h < 0 then (-2 : Int32) else (if h < nI (xm u) then (if xab u h.toNatClampNeg = 0 then 0 else -3) else -2)) = _
  unfold p_refusalOfHeap p_isHeap
  by_cases h1 : h < 0
  · rw [if_pos h1, if_pos h1, if_pos (rfl : (0 : Int32) = 0)]
  · rw [if_neg h1, if_neg h1]
    by_cases h2 : h < nI (xm u)
    · rw [if_pos h2, if_neg (i_nle.mpr h2), if_neg (by decide : ¬ (1 : Int32) = 0)]
    · rw [if_neg h2, if_pos (i_nlt.mp h2), if_pos (rfl : (0 : Int32) = 0)]
theorem e_wE {u : xS} {w : Nat → Int32} (I : Inv u w) (a : Int32) : yp_wrongEntry (sOw u w) a = p_refusalOfEntry u a := by
  show (if a < 0 then (-2 : Int32) else (if a < nI (xn u) then (if 0 ≤ w a.toNatClampNeg then 0 else -4) else -2)) = _
  unfold p_refusalOfEntry p_isEntry
  by_cases h1 : a < 0
  · rw [if_pos h1, if_pos h1, if_pos (rfl : (0 : Int32) = 0)]
  · rw [if_neg h1, if_neg h1]
    by_cases h2 : a < nI (xn u)
    · rw [if_pos h2, if_neg (i_nle.mpr h2), if_neg (by decide : ¬ (1 : Int32) = 0), I.2.2.1]
      by_cases h3 : w a.toNatClampNeg < 0
      · rw [if_pos h3, if_neg (i_nle.mpr h3), if_pos (rfl : (-4 : Int32) = -4)]
      · rw [if_neg h3, if_pos (i_nlt.mp h3), if_neg (fun q => h3 (by rw [q]; decide))]
    · rw [if_neg h2, if_pos (i_nlt.mp h2), if_pos (rfl : (0 : Int32) = 0)]
theorem e_wP (u : xS) (w : Nat → Int32) (a b : Int32) : yp_wrongPair (sOw u w) a b = p_refusalOfPair u a b := by
  unfold yp_wrongPair p_refusalOfPair
  rw [e_wH, e_wH]
  by_cases h1 : p_refusalOfHeap u a = 0
  · rw [if_pos h1, if_pos h1]
  · rw [if_neg h1, if_neg h1, if_neg h1]
theorem own_iff {u : xS} {w : Nat → Int32} (I : Inv u w) {k : Nat} (hk : k < 2 ^ 31) (j : Nat) : xow u j = nI k ↔ w j = nI k := by
  rw [I.2.2.1 j]
  by_cases h : w j < 0
  · rw [if_pos h]
    exact ⟨fun q => absurd q.symm (nI_n4 hk), fun q => absurd (by rw [← q]; exact h) (nI_pos hk)⟩
  · rw [if_neg h]
theorem od_of {u : xS} {w : Nat → Int32} (I : Inv u w) {k : Nat} (hk : k < xm u) : xod u (nI k).toNatClampNeg = 0 ∨ xod u (nI k).toNatClampNeg = 1 ∨ xod u (nI k).toNatClampNeg = 2 ∨ xod u (nI k).toNatClampNeg = 3 := by
  have := I.1
  rw [nI_clamp (by omega)]
  exact I.2.2.2.2.1 k hk
theorem e_wt {u : xS} {w : Nat → Int32} {h : Int32} (ho : xod u h.toNatClampNeg = 0 ∨ xod u h.toNatClampNeg = 1 ∨ xod u h.toNatClampNeg = 2 ∨ xod u h.toNatClampNeg = 3) (k : Int64) : yp_weight (sOw u w) h k = p_weight (xod u h.toNatClampNeg) k := by
  show (if xod u h.toNatClampNeg = 0 then k else (if xod u h.toNatClampNeg = 1 then ((-1) - k) else (if xod u h.toNatClampNeg = 2 then (k ^^^ (-9223372036854775808)) else (k &&& 65535)))) = _
  unfold p_weight
  rcases ho with e | e | e | e
  · rw [e, if_pos (rfl : (0 : Int32) = 0), if_neg (by decide : ¬ (0 : Int32) = 1), if_neg (by decide : ¬ (0 : Int32) = 2), if_neg (by decide : ¬ (0 : Int32) = 3)]
  · rw [e, if_neg (by decide : ¬ (1 : Int32) = 0), if_pos (rfl : (1 : Int32) = 1), if_pos (rfl : (1 : Int32) = 1)]
  · rw [e, if_neg (by decide : ¬ (2 : Int32) = 0), if_neg (by decide : ¬ (2 : Int32) = 1), if_neg (by decide : ¬ (2 : Int32) = 1), if_pos (rfl : (2 : Int32) = 2), if_pos (rfl : (2 : Int32) = 2)]
  · rw [e, if_neg (by decide : ¬ (3 : Int32) = 0), if_neg (by decide : ¬ (3 : Int32) = 1), if_neg (by decide : ¬ (3 : Int32) = 1), if_neg (by decide : ¬ (3 : Int32) = 2), if_neg (by decide : ¬ (3 : Int32) = 2), if_pos (rfl : (3 : Int32) = 3)]
theorem min_le (x : Int64) : (-9223372036854775808 : Int64) ≤ x := by
  rw [Int64.le_iff_toInt_le, show (-9223372036854775808 : Int64).toInt = -9223372036854775808 from by decide]
  have := Int64.le_toInt x
  omega
theorem e_bl {u : xS} {w : Nat → Int32} (I : Inv u w) {k : Nat} (hk : k < xm u) (y : Int64) : yp_isBelow (sOw u w) (nI k) y = p_isBelowFloor u (nI k) y := by
  have hm := I.1
  show (if xkd u (nI k).toNatClampNeg = 2 then (if 0 ≤ (lg_cmp (yp_weight (sOw u w) (nI k) y) (xfl u (nI k).toNatClampNeg)) then (0 : Int32) else 1) else 0) = _
  unfold p_isBelowFloor
  rw [e_wt (od_of I hk)]
  by_cases h1 : xkd u (nI k).toNatClampNeg = 2
  · rw [if_pos h1]
  · rw [if_neg h1]
    have h2 : 0 ≤ lg_cmp (p_weight (xod u (nI k).toNatClampNeg) y) (xfl u (nI k).toNatClampNeg) := by
      rw [lg_cmp_ge]
      rw [nI_clamp (by omega)] at h1 ⊢
      rw [I.2.2.2.2.2.1 k hk h1]
      exact min_le _
    rw [if_pos h2]
theorem bf_def {w : Nat → Int64} {a b : Nat} : bf w a b ↔ (w a < w b ∨ (w a = w b ∧ a < b)) := Iff.rfl
theorem e_ff {u : xS} {w : Nat → Int32} (I : Inv u w) {k : Nat} (hk : k < xm u) : ∀ i, i < 2 ^ 31 → (yp_extremeL (sOw u w) (nI k) 1 i).1 = p_findFirstL u (nI k) i ∧ (p_findFirstL u (nI k) i = -1 ∨ ∃ j, j < i ∧ p_findFirstL u (nI k) i = nI j ∧ (yp_extremeL (sOw u w) (nI k) 1 i).2 = p_weight (xod u (nI k).toNatClampNeg) (xky u j)) := by
  have hm := I.1
  intro i
  induction i with
  | zero => exact fun _ => ⟨rfl, Or.inl rfl⟩
  | succ i ih =>
    intro hi
    obtain ⟨e1, e2⟩ := ih (by omega)
    rw [yp_extremeL, p_findFirstL]
    by_cases h1 : w i = nI k
    · have h2 : xow (sOw u w) i = nI k := h1
      have h3 : xow u i = nI k := (own_iff I (by omega) i).mpr h1
      rw [if_pos h2, if_pos h3]
      rcases e2 with e2 | ⟨j, hj, e2, e3⟩
      · rw [if_pos (by rw [e1]; exact e2), if_pos e2]
        exact ⟨rfl, Or.inr ⟨i, Nat.lt_succ_self i, rfl, e_wt (od_of I hk) _⟩⟩
      · have ne : ¬ p_findFirstL u (nI k) i = -1 := by rw [e2]; exact nI_m1 (by omega)
        rw [if_neg (by rw [e1]; exact ne), if_neg ne, if_neg (by decide : ¬ (1 : Int32) = 0)]
        by_cases hc : 0 ≤ lg_cmp (yp_weight (sOw u w) (nI k) (xky (sOw u w) i)) (yp_extremeL (sOw u w) (nI k) 1 i).2
        · have hb : p_isBefore u (xod u (nI k).toNatClampNeg) (nI i) (p_findFirstL u (nI k) i) = 0 := by
            rw [e2, isBefore_bf (by omega) (by omega), bf_def]
            rw [lg_cmp_ge, e_wt (od_of I hk), e3] at hc
            rintro (q | ⟨-, q⟩)
            · exact l_nlt.mpr hc q
            · omega
          rw [if_pos hc, if_pos hb]
          exact ⟨e1, Or.inr ⟨j, by omega, e2, e3⟩⟩
        · have hb : ¬ p_isBefore u (xod u (nI k).toNatClampNeg) (nI i) (p_findFirstL u (nI k) i) = 0 := by
            rw [e2, isBefore_bf (by omega) (by omega), bf_def]
            rw [lg_cmp_ge, e_wt (od_of I hk), e3] at hc
            intro q
            refine q (Or.inl ?_)
            by_cases z : p_weight (xod u (nI k).toNatClampNeg) (xky u i) < p_weight (xod u (nI k).toNatClampNeg) (xky u j)
            · exact z
            · exact absurd (l_nlt.mp z) hc
          rw [if_neg hc, if_neg hb]
          exact ⟨rfl, Or.inr ⟨i, Nat.lt_succ_self i, rfl, e_wt (od_of I hk) _⟩⟩
    · have h2 : ¬ xow (sOw u w) i = nI k := h1
      have h3 : ¬ xow u i = nI k := fun q => h1 ((own_iff I (by omega) i).mp q)
      rw [if_neg h2, if_neg h3]
      refine ⟨e1, ?_⟩
      rcases e2 with e2 | ⟨j, hj, e2, e3⟩
      · exact Or.inl e2
      · exact Or.inr ⟨j, by omega, e2, e3⟩
theorem e_fl {u : xS} {w : Nat → Int32} (I : Inv u w) {k : Nat} (hk : k < xm u) : ∀ i, i < 2 ^ 31 → (yp_extremeL (sOw u w) (nI k) 0 i).1 = p_findLastL u (nI k) i ∧ (p_findLastL u (nI k) i = -1 ∨ ∃ j, j < i ∧ p_findLastL u (nI k) i = nI j ∧ (yp_extremeL (sOw u w) (nI k) 0 i).2 = p_weight (xod u (nI k).toNatClampNeg) (xky u j)) := by
  have hm := I.1
  intro i
  induction i with
  | zero => exact fun _ => ⟨rfl, Or.inl rfl⟩
  | succ i ih =>
    intro hi
    obtain ⟨e1, e2⟩ := ih (by omega)
    rw [yp_extremeL, p_findLastL]
    by_cases h1 : w i = nI k
    · have h2 : xow (sOw u w) i = nI k := h1
      have h3 : xow u i = nI k := (own_iff I (by omega) i).mpr h1
      rw [if_pos h2, if_pos h3]
      rcases e2 with e2 | ⟨j, hj, e2, e3⟩
      · rw [if_pos (by rw [e1]; exact e2), if_pos e2]
        exact ⟨rfl, Or.inr ⟨i, Nat.lt_succ_self i, rfl, e_wt (od_of I hk) _⟩⟩
      · have ne : ¬ p_findLastL u (nI k) i = -1 := by rw [e2]; exact nI_m1 (by omega)
        rw [if_neg (by rw [e1]; exact ne), if_neg ne, if_pos (rfl : (0 : Int32) = 0)]
        by_cases hc : lg_cmp (yp_weight (sOw u w) (nI k) (xky (sOw u w) i)) (yp_extremeL (sOw u w) (nI k) 0 i).2 < 0
        · have hb : p_isBefore u (xod u (nI k).toNatClampNeg) (p_findLastL u (nI k) i) (nI i) = 0 := by
            rw [e2, isBefore_bf (by omega) (by omega), bf_def]
            rw [lg_cmp_lt, e_wt (od_of I hk), e3, Int64.lt_iff_toInt_lt] at hc
            have hc2 : (p_weight (xod u (nI k).toNatClampNeg) (xky u i)).toInt < (p_weight (xod u (nI k).toNatClampNeg) (xky u j)).toInt := hc
            rintro (q | ⟨q, -⟩)
            · rw [Int64.lt_iff_toInt_lt] at q
              omega
            · rw [← Int64.toInt_inj] at q
              omega
          rw [if_pos hc, if_pos hb]
          exact ⟨e1, Or.inr ⟨j, by omega, e2, e3⟩⟩
        · have hb : ¬ p_isBefore u (xod u (nI k).toNatClampNeg) (p_findLastL u (nI k) i) (nI i) = 0 := by
            rw [e2, isBefore_bf (by omega) (by omega), bf_def]
            rw [lg_cmp_lt, e_wt (od_of I hk), e3, Int64.lt_iff_toInt_lt] at hc
            intro q
            refine q ?_
            rw [Int64.lt_iff_toInt_lt, ← Int64.toInt_inj]
            have hc2 : ¬ (p_weight (xod u (nI k).toNatClampNeg) (xky u i)).toInt < (p_weight (xod u (nI k).toNatClampNeg) (xky u j)).toInt := hc
            omega
          rw [if_neg hc, if_neg hb]
          exact ⟨rfl, Or.inr ⟨i, Nat.lt_succ_self i, rfl, e_wt (od_of I hk) _⟩⟩
    · have h2 : ¬ xow (sOw u w) i = nI k := h1
      have h3 : ¬ xow u i = nI k := fun q => h1 ((own_iff I (by omega) i).mp q)
      rw [if_neg h2, if_neg h3]
      refine ⟨e1, ?_⟩
      rcases e2 with e2 | ⟨j, hj, e2, e3⟩
      · exact Or.inl e2
      · exact Or.inr ⟨j, by omega, e2, e3⟩
theorem e_cnt {u : xS} {w : Nat → Int32} (I : Inv u w) {k : Nat} (hk : k < 2 ^ 31) : ∀ i, yp_manyL (sOw u w) (nI k) i = p_countEntriesL u (nI k) i := by
  intro i
  induction i with
  | zero => rfl
  | succ i ih =>
    rw [yp_manyL, p_countEntriesL]
    by_cases h1 : w i = nI k
    · have h2 : xow (sOw u w) i = nI k := h1
      rw [if_pos h2, if_pos ((own_iff I hk i).mpr h1), ih]
    · have h2 : ¬ xow (sOw u w) i = nI k := h1
      rw [if_neg h2, if_neg (fun q => h1 ((own_iff I hk i).mp q)), ih]
theorem e_rank {u : xS} {w : Nat → Int32} (I : Inv u w) {k : Nat} (hk : k < xm u) {a : Int32} (hw : w a.toNatClampNeg = nI k) : ∀ i, i < 2 ^ 31 → yp_rankL (sOw u w) a i = p_countBeforeL u (nI k) a i := by
  have hm := I.1
  intro i
  induction i with
  | zero => exact fun _ => rfl
  | succ i ih =>
    intro hi
    have ih := ih (by omega)
    have hw2 : xow (sOw u w) a.toNatClampNeg = nI k := hw
    rw [yp_rankL, p_countBeforeL, hw2]
    by_cases h1 : w i = nI k
    · have h2 : xow (sOw u w) i = nI k := h1
      rw [if_pos h2, if_pos ((own_iff I (by omega) i).mpr h1)]
      unfold p_isBefore
      rw [e_wt (od_of I hk), e_wt (od_of I hk), nI_clamp (show i < 2 ^ 31 by omega)]
      by_cases c1 : lg_cmp (p_weight (xod u (nI k).toNatClampNeg) (xky u i)) (p_weight (xod u (nI k).toNatClampNeg) (xky u a.toNatClampNeg)) < 0
      · rw [if_pos c1, if_pos c1, if_neg (by decide : ¬ (1 : Int32) = 0), ih]
      · rw [if_neg c1, if_neg c1]
        by_cases c2 : lg_cmp (p_weight (xod u (nI k).toNatClampNeg) (xky u i)) (p_weight (xod u (nI k).toNatClampNeg) (xky u a.toNatClampNeg)) = 0
        · rw [if_pos c2, if_pos c2]
          by_cases c3 : a ≤ nI i
          · rw [if_pos c3, if_pos c3, if_pos (rfl : (0 : Int32) = 0), ih]
          · rw [if_neg c3, if_neg c3, if_neg (by decide : ¬ (1 : Int32) = 0), ih]
        · rw [if_neg c2, if_neg c2, if_pos (rfl : (0 : Int32) = 0), ih]
    · have h2 : ¬ xow (sOw u w) i = nI k := h1
      rw [if_neg h2, if_neg (fun q => h1 ((own_iff I (by omega) i).mp q)), ih]
