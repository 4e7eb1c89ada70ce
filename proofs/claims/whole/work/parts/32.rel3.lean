/-! one row a call: the answers are alike, and the tie is kept -/
theorem r_open {u v : xS} (hr : Rel u v) (a b : Int32) : p_open u a b = yp_open v a b ∧ Rel (q_open u a b) (yq_open v a b) := by
  obtain ⟨w, rfl, I⟩ := hr
  have hm := I.1
  have e1 : yp_open (sOw u w) a b = yp_open u a b := rfl
  rw [e1]
  unfold p_open yp_open q_open yq_open
  by_cases h1 : a < 0
  · simp only [if_pos h1]; exact ⟨trivial, w, rfl, I⟩
  simp only [if_neg h1]
  by_cases h2 : 2 < a
  · simp only [if_pos h2]; exact ⟨trivial, w, rfl, I⟩
  simp only [if_neg h2]
  by_cases h3 : b < 0
  · simp only [if_pos h3]; exact ⟨trivial, w, rfl, I⟩
  simp only [if_neg h3]
  by_cases h4 : b ≤ 3
  · simp only [if_pos h4]
    by_cases h5 : nI (xm u) < 12
    · have h6 : ¬ nI (xm u) = 12 := fun q => absurd (q ▸ h5) (by decide)
      have h6' : ¬ nI (xm (sOw u w)) = 12 := h6
      have h7 : xm u < 12 := (nI_ltI (by omega) (by decide)).mp (show nI (xm u) < nI 12 from h5)
      rw [if_pos h5, if_neg h6, if_pos h5, if_neg h6']
      refine ⟨(nI_pred _).symm, w, ?_, ?_⟩
      · have ea : upd (xab u) (nI (xm u)).toNatClampNeg 0 = xab u := by
          funext j
          rw [nI_clamp (by omega), upd_at]
          by_cases e : j = xm u
          · rw [if_pos e]
            by_cases z : xab u j = 0
            · exact z.symm
            · exact absurd (I.2.2.2.2.2.2 j z).1 (by omega)
          · rw [if_neg e]
        rw [ea]
      · obtain ⟨j3, hj3, rfl⟩ := nI_of2 (n := 3) (by decide) h3 h4
        rw [nI_clamp (show xm u < 2 ^ 31 by omega)]
        refine ⟨h7, I.2.1, I.2.2.1, fun j hj => ?_, fun h hh => ?_, fun h hh hk => ?_, fun h hh => ?_⟩
        · rcases I.2.2.2.1 j hj with z | ⟨y, hy, z⟩
          · exact Or.inl z
          · exact Or.inr ⟨y, Nat.lt_succ_of_lt hy, z⟩
        · show upd (xod u) (xm u) (nI j3) h = 0 ∨ upd (xod u) (xm u) (nI j3) h = 1 ∨ upd (xod u) (xm u) (nI j3) h = 2 ∨ upd (xod u) (xm u) (nI j3) h = 3
          rw [upd_at]
          by_cases e : h = xm u
          · rw [if_pos e]
            rcases (show j3 = 0 ∨ j3 = 1 ∨ j3 = 2 ∨ j3 = 3 by omega) with z | z | z | z <;> subst z
            · exact Or.inl (by decide)
            · exact Or.inr (Or.inl (by decide))
            · exact Or.inr (Or.inr (Or.inl (by decide)))
            · exact Or.inr (Or.inr (Or.inr (by decide)))
          · rw [if_neg e]
            exact I.2.2.2.2.1 h (by have hh : h < xm u + 1 := hh; omega)
        · show vp_updL (xfl u) (xm u) (-9223372036854775808) h = _
          have hk : ¬ upd (xkd u) (xm u) a h = 2 := hk
          rw [upd_at] at hk
          rw [updL_at]
          by_cases e : h = xm u
          · rw [if_pos e]
          · rw [if_neg e] at hk ⊢
            exact I.2.2.2.2.2.1 h (by have hh : h < xm u + 1 := hh; omega) hk
        · have hh : ¬ upd (xab u) (xm u) 0 h = 0 := hh
          show h < xm u + 1 ∧ upd (xkd u) (xm u) a h = 0
          rw [upd_at] at hh ⊢
          by_cases e : h = xm u
          · rw [if_pos e] at hh; exact absurd rfl hh
          · rw [if_neg e] at hh ⊢
            exact ⟨Nat.lt_succ_of_lt (I.2.2.2.2.2.2 h hh).1, (I.2.2.2.2.2.2 h hh).2⟩
    · have h7 : xm u = 12 := by
        have : ¬ xm u < 12 := fun q => h5 (show nI (xm u) < nI 12 from nI_lt q (by decide))
        omega
      have h6 : nI (xm u) = 12 := by rw [h7]; decide
      have h6' : nI (xm (sOw u w)) = 12 := h6
      rw [if_neg h5, if_pos h6, if_neg h5, if_pos h6']
      exact ⟨rfl, w, rfl, I⟩
  · simp only [if_neg h4]; exact ⟨trivial, w, rfl, I⟩
theorem r_insert {u v : xS} (hr : Rel u v) (h : Int32) (k : Int64) (x : Int32) : p_insert u h k x = yp_insert v h k x ∧ Rel (q_insert u h k x) (yq_insert v h k x) := by
  obtain ⟨w, rfl, I⟩ := hr
  have hm := I.1
  have hn := I.2.1
  unfold p_insert yp_insert q_insert yq_insert
  rw [e_wH]
  by_cases h1 : p_refusalOfHeap u h = 0
  · obtain ⟨y, hy, rfl⟩ := hk_of hm h1
    rw [e_bl I hy]
    simp only [if_pos h1]
    by_cases h2 : p_isBelowFloor u (nI y) k = 0
    · simp only [if_pos h2]
      by_cases h5 : nI (xn u) < 160
      · have h6 : ¬ nI (xn u) = 160 := fun q => absurd (q ▸ h5) (by decide)
        have h6' : ¬ nI (xn (sOw u w)) = 160 := h6
        have h7 : xn u < 160 := (nI_ltI (by omega) (by decide)).mp (show nI (xn u) < nI 160 from h5)
        rw [if_pos h5, if_neg h6', if_pos h5, if_neg h6']
        refine ⟨(nI_pred _).symm, upd w (nI (xn u)).toNatClampNeg (nI y), rfl, ?_⟩
        have J := inv_set I (nI (xn u)).toNatClampNeg (x := nI y) (y := nI y) (by rw [if_neg (nI_pos (by omega))]) (Or.inr ⟨y, hy, rfl⟩)
        refine ⟨J.1, h7, J.2.2.1, fun j hj => ?_, J.2.2.2.2.1, J.2.2.2.2.2.1, J.2.2.2.2.2.2⟩
        have hj : j < xn u + 1 := hj
        by_cases e : j = xn u
        · rw [nI_clamp (by omega), upd_at, if_pos e]
          exact Or.inr ⟨y, hy, rfl⟩
        · exact J.2.2.2.1 j (show j < xn u by omega)
      · have h7 : xn u = 160 := by
          have : ¬ xn u < 160 := fun q => h5 (show nI (xn u) < nI 160 from nI_lt q (by decide))
          omega
        have h6' : nI (xn (sOw u w)) = 160 := by
          show nI (xn u) = 160
          rw [h7]; decide
        rw [if_neg h5, if_pos h6', if_neg h5, if_pos h6']
        exact ⟨rfl, w, rfl, I⟩
    · simp only [if_neg h2]; exact ⟨trivial, w, rfl, I⟩
  · simp only [if_neg h1]; exact ⟨trivial, w, rfl, I⟩
theorem e_first {u : xS} {w : Nat → Int32} (I : Inv u w) (h : Int32) : p_first u h = yp_first (sOw u w) h := by
  have hm := I.1
  have hn := I.2.1
  unfold p_first yp_first
  rw [e_wH]
  by_cases h1 : p_refusalOfHeap u h = 0
  · obtain ⟨y, hy, rfl⟩ := hk_of hm h1
    rw [if_pos h1, if_pos h1]
    exact (e_ff I hy (xn u) (by omega)).1.symm
  · rw [if_neg h1, if_neg h1]
theorem e_last {u : xS} {w : Nat → Int32} (I : Inv u w) (h : Int32) : p_last u h = yp_last (sOw u w) h := by
  have hm := I.1
  have hn := I.2.1
  unfold p_last yp_last p_refusalOfLastOf
  rw [e_wH]
  by_cases h1 : p_refusalOfHeap u h = 0
  · obtain ⟨y, hy, rfl⟩ := hk_of hm h1
    simp only [if_pos h1]
    by_cases h2 : xkd u (nI y).toNatClampNeg = 1
    · have h2' : xkd (sOw u w) (nI y).toNatClampNeg = 1 := h2
      rw [if_pos h2, if_pos h2', if_pos (rfl : (0 : Int32) = 0)]
      exact (e_fl I hy (xn u) (by omega)).1.symm
    · have h2' : ¬ xkd (sOw u w) (nI y).toNatClampNeg = 1 := h2
      rw [if_neg h2, if_neg h2', if_neg (by decide : ¬ (-7 : Int32) = 0)]
  · simp only [if_neg h1]
theorem r_first {u v : xS} (hr : Rel u v) (h : Int32) : p_first u h = yp_first v h ∧ Rel u v := by
  refine ⟨?_, hr⟩
  obtain ⟨w, rfl, I⟩ := hr
  exact e_first I h
theorem r_last {u v : xS} (hr : Rel u v) (h : Int32) : p_last u h = yp_last v h ∧ Rel u v := by
  refine ⟨?_, hr⟩
  obtain ⟨w, rfl, I⟩ := hr
  exact e_last I h
theorem hk_first {u : xS} {h : Int32} (hm : xm u ≤ 12) (c : ¬ p_first u h < 0) : ∃ k, k < xm u ∧ h = nI k := by
  unfold p_first at c
  by_cases h1 : p_refusalOfHeap u h = 0
  · exact hk_of hm h1
  · rw [if_neg h1] at c; exact absurd (refH_neg h1) c
theorem r_take {u v : xS} (hr : Rel u v) (h : Int32) : p_take u h = yp_take v h ∧ Rel (q_take u h) (yq_take v h) := by
  obtain ⟨w, rfl, I⟩ := hr
  have hm := I.1
  unfold p_take yp_take q_take yq_take
  rw [← e_first I h]
  by_cases h1 : p_first u h < 0
  · simp only [if_pos h1]; exact ⟨trivial, w, rfl, I⟩
  · simp only [if_neg h1]
    obtain ⟨y, hy, rfl⟩ := hk_first hm h1
    obtain ⟨e1, I1, e2, e3⟩ := raise_rel I hy (p_first u (nI y))
    rw [e1]
    exact ⟨trivial, upd w (p_first u (nI y)).toNatClampNeg (-1), rfl, inv_set I1 _ (by decide) (Or.inl rfl)⟩
theorem r_takeLast {u v : xS} (hr : Rel u v) (h : Int32) : p_takeLast u h = yp_takeLast v h ∧ Rel (q_takeLast u h) (yq_takeLast v h) := by
  obtain ⟨w, rfl, I⟩ := hr
  unfold p_takeLast yp_takeLast q_takeLast yq_takeLast
  rw [← e_last I h]
  by_cases h1 : p_last u h < 0
  · simp only [if_pos h1]; exact ⟨trivial, w, rfl, I⟩
  · simp only [if_neg h1]
    exact ⟨trivial, upd w (p_last u h).toNatClampNeg (-1), rfl, inv_set I _ (by decide) (Or.inl rfl)⟩
/-- an entry that isn't refused: its number, its heap -/
theorem en_of {u : xS} {w : Nat → Int32} (I : Inv u w) {a : Int32} (c : p_refusalOfEntry u a = 0) : ∃ j k, j < xn u ∧ a = nI j ∧ k < xm u ∧ w a.toNatClampNeg = nI k ∧ xow u a.toNatClampNeg = nI k := by
  have hm := I.1
  have hn := I.2.1
  obtain ⟨-, ⟨j, hj, rfl⟩, h2⟩ := in_refE hn c
  rw [nI_clamp (show j < 2 ^ 31 by omega)] at h2
  rcases I.2.2.2.1 j hj with z | ⟨k, hk, z⟩
  · exact absurd (by rw [I.2.2.1 j, z]; decide) h2
  · refine ⟨j, k, hj, rfl, hk, ?_, ?_⟩
    · rw [nI_clamp (by omega)]; exact z
    · rw [nI_clamp (by omega)]; exact (own_iff I (by omega) j).mpr z
theorem r_decrease {u v : xS} (hr : Rel u v) (a : Int32) (k : Int64) : p_decrease u a k = yp_decrease v a k ∧ Rel (q_decrease u a k) (yq_decrease v a k) := by
  obtain ⟨w, rfl, I⟩ := hr
  have hm := I.1
  have hn := I.2.1
  unfold p_decrease yp_decrease q_decrease yq_decrease
  rw [e_wE I]
  by_cases h1 : p_refusalOfEntry u a = 0
  · simp only [if_pos h1]
    obtain ⟨j, y, hj, rfl, hy, hw, hx⟩ := en_of I h1
    have hw2 : xow (sOw u w) (nI j).toNatClampNeg = nI y := hw
    rw [hw2, hx, e_wt (od_of I hy), e_wt (od_of I hy), e_bl I hy]
    have e0 : xky (sOw u w) (nI j).toNatClampNeg = xky u (nI j).toNatClampNeg := rfl
    rw [e0]
    by_cases h2 : lg_cmp (p_weight (xod u (nI y).toNatClampNeg) k) (p_weight (xod u (nI y).toNatClampNeg) (xky u (nI j).toNatClampNeg)) ≤ 0
    · simp only [if_pos h2]
      by_cases h3 : p_isBelowFloor u (nI y) k = 0
      · simp only [if_pos h3]
        have J : Inv (sKy u (vp_updL (xky u) (nI j).toNatClampNeg k)) w := I
        have e4 : yp_rank (sKy (sOw u w) (vp_updL (xky u) (nI j).toNatClampNeg k)) (nI j) = nI (p_countBeforeL (sKy u (vp_updL (xky u) (nI j).toNatClampNeg k)) (nI y) (nI j) (xn u)) := by
          show nI (yp_rankL (sOw (sKy u (vp_updL (xky u) (nI j).toNatClampNeg k)) w) (nI j) (xn u)) = _
          rw [e_rank J hy hw (xn u) (by omega)]
        have ox : xow (sKy u (vp_updL (xky u) (nI j).toNatClampNeg k)) j = nI y := by
          rw [nI_clamp (by omega)] at hx
          exact hx
        have e5 := ff_cb (u := sKy u (vp_updL (xky u) (nI j).toNatClampNeg k)) (b := j) hn hj ox
        have cle : p_countBeforeL (sKy u (vp_updL (xky u) (nI j).toNatClampNeg k)) (nI y) (nI j) (xn u) ≤ xn u := cb_le _ _ _ _
        have e6 : nI (p_countBeforeL (sKy u (vp_updL (xky u) (nI j).toNatClampNeg k)) (nI y) (nI j) (xn u)) = 0 ↔ p_countBeforeL (sKy u (vp_updL (xky u) (nI j).toNatClampNeg k)) (nI y) (nI j) (xn u) = 0 := by
          rw [← nI_0]
          exact nI_eq (by omega) (by decide)
        have eK : vp_updL (xky (sOw u w)) (nI j).toNatClampNeg k = vp_updL (xky u) (nI j).toNatClampNeg k := rfl
        rw [eK, e4]
        by_cases h4 : p_findFirst (sKy u (vp_updL (xky u) (nI j).toNatClampNeg k)) (nI y) = nI j
        · rw [if_pos h4, if_pos (e6.mpr (e5.mp h4)), if_pos h4, if_pos (e6.mpr (e5.mp h4))]
          exact ⟨rfl, w, rfl, J⟩
        · rw [if_neg h4, if_neg (fun q => h4 (e5.mpr (e6.mp q))), if_neg h4, if_neg (fun q => h4 (e5.mpr (e6.mp q)))]
          exact ⟨rfl, w, rfl, J⟩
      · simp only [if_neg h3]; exact ⟨trivial, w, rfl, I⟩
    · simp only [if_neg h2]; exact ⟨trivial, w, rfl, I⟩
  · simp only [if_neg h1]; exact ⟨trivial, w, rfl, I⟩
