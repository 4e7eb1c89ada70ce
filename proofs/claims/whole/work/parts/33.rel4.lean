theorem r_delete {u v : xS} (hr : Rel u v) (a : Int32) : p_delete u a = yp_delete v a ∧ Rel (q_delete u a) (yq_delete v a) := by
  obtain ⟨w, rfl, I⟩ := hr
  have hm := I.1
  unfold p_delete yp_delete q_delete yq_delete p_owner
  rw [e_wE I]
  by_cases h1 : p_refusalOfEntry u a = 0
  · simp only [if_pos h1]
    obtain ⟨j, y, hj, rfl, hy, hw, hx⟩ := en_of I h1
    have hw2 : xow (sOw u w) (nI j).toNatClampNeg = nI y := hw
    rw [hw2, hx, if_neg (nI_pos (by omega)), if_neg (nI_pos (by omega))]
    exact ⟨rfl, upd w (nI j).toNatClampNeg (-1), rfl, inv_set I _ (by decide) (Or.inl rfl)⟩
  · simp only [if_neg h1]
    rw [if_pos (refE_neg h1), if_pos (refE_neg h1)]
    exact ⟨rfl, w, rfl, I⟩
theorem r_size {u v : xS} (hr : Rel u v) (h : Int32) : p_size u h = yp_size v h ∧ Rel u v := by
  refine ⟨?_, hr⟩
  obtain ⟨w, rfl, I⟩ := hr
  have hm := I.1
  unfold p_size yp_size
  rw [e_wH]
  by_cases h1 : p_refusalOfHeap u h = 0
  · obtain ⟨y, hy, rfl⟩ := hk_of hm h1
    rw [if_pos h1, if_pos h1]
    show nI (p_countEntriesL u (nI y) (xn u)) = nI (yp_manyL (sOw u w) (nI y) (xn u))
    rw [e_cnt I (by omega)]
  · rw [if_neg h1, if_neg h1]
theorem r_floor {u v : xS} (hr : Rel u v) (h : Int32) : p_floor u h = yp_floor v h ∧ Rel u v := by
  refine ⟨?_, hr⟩
  obtain ⟨w, rfl, I⟩ := hr
  have hm := I.1
  unfold p_floor yp_floor
  rw [e_wH]
  by_cases h1 : p_isHeap u h = 0
  · have h2 : ¬ p_refusalOfHeap u h = 0 := by
      unfold p_refusalOfHeap
      rw [if_pos h1]; decide
    rw [if_pos h1, if_neg h2]
  · rw [if_neg h1]
    obtain ⟨y, hy, rfl⟩ := hk_isHeap hm h1
    by_cases h2 : p_refusalOfHeap u (nI y) = 0
    · rw [if_pos h2]
    · rw [if_neg h2, nI_clamp (by omega)]
      have h3 : ¬ xab u y = 0 := by
        intro q
        refine h2 ?_
        unfold p_refusalOfHeap
        rw [if_neg h1, nI_clamp (by omega), if_pos q]
      refine I.2.2.2.2.2.1 y hy (fun q => ?_)
      have := (I.2.2.2.2.2.2 y h3).2
      rw [q] at this
      exact absurd this (by decide)
theorem r_key {u v : xS} (hr : Rel u v) (a : Int32) : p_key u a = yp_key v a ∧ Rel u v := by
  refine ⟨?_, hr⟩
  obtain ⟨w, rfl, I⟩ := hr
  unfold p_key yp_key
  rw [e_wE I]
theorem r_value {u v : xS} (hr : Rel u v) (a : Int32) : p_value u a = yp_value v a ∧ Rel u v := by
  refine ⟨?_, hr⟩
  obtain ⟨w, rfl, I⟩ := hr
  unfold p_value yp_value
  rw [e_wE I]
theorem r_owner {u v : xS} (hr : Rel u v) (a : Int32) : p_owner u a = yp_owner v a ∧ Rel u v := by
  refine ⟨?_, hr⟩
  obtain ⟨w, rfl, I⟩ := hr
  unfold p_owner yp_owner
  rw [e_wE I]
  by_cases h1 : p_refusalOfEntry u a = 0
  · obtain ⟨j, y, hj, rfl, hy, hw, hx⟩ := en_of I h1
    have hw2 : xow (sOw u w) (nI j).toNatClampNeg = nI y := hw
    rw [hw2, hx]
  · rw [if_neg h1, if_neg h1]
theorem r_before {u v : xS} (hr : Rel u v) (a : Int32) : p_before u a = yp_before v a ∧ Rel u v := by
  refine ⟨?_, hr⟩
  obtain ⟨w, rfl, I⟩ := hr
  have hn := I.2.1
  unfold p_before yp_before
  rw [e_wE I]
  by_cases h1 : p_refusalOfEntry u a = 0
  · rw [if_pos h1, if_pos h1]
    obtain ⟨j, y, hj, rfl, hy, hw, hx⟩ := en_of I h1
    rw [hx]
    show nI (p_countBeforeL u (nI y) (nI j) (xn u)) = nI (yp_rankL (sOw u w) (nI j) (xn u))
    rw [e_rank I hy hw (xn u) (by omega)]
  · rw [if_neg h1, if_neg h1]
theorem r_clear {u v : xS} (hr : Rel u v) (h : Int32) : p_clear u h = yp_clear v h ∧ Rel (q_clear u h) (yq_clear v h) := by
  obtain ⟨w, rfl, I⟩ := hr
  have hm := I.1
  unfold p_clear yp_clear q_clear yq_clear
  rw [e_wH]
  by_cases h1 : p_refusalOfHeap u h = 0
  · obtain ⟨y, hy, rfl⟩ := hk_of hm h1
    simp only [if_pos h1]
    refine ⟨?_, yq_clearL (sOw u w) (nI y) (xn u), rfl, I.1, I.2.1, fun j => ?_, fun j hj => ?_, I.2.2.2.2.1, fun x hx hk => ?_, I.2.2.2.2.2.2⟩
    · show nI (p_handOverAllL (sFl u (vp_updL (xfl u) (nI y).toNatClampNeg (-9223372036854775808))) (nI y) (-4) (xn u)) = nI (yp_manyL (sOw u w) (nI y) (xn u))
      rw [ho_cnt, e_cnt I (by omega)]
      exact congrArg nI (cnt_ow (u := sFl u (vp_updL (xfl u) (nI y).toNatClampNeg (-9223372036854775808))) (v := u) rfl _ _)
    · show q_handOverAllL (sFl u (vp_updL (xfl u) (nI y).toNatClampNeg (-9223372036854775808))) (nI y) (-4) (xn u) j = _
      rw [ho_form, yc_form]
      show (if j < xn u ∧ xow u j = nI y then (-4 : Int32) else xow u j) = (if (if j < xn u ∧ w j = nI y then (-1 : Int32) else w j) < 0 then -4 else (if j < xn u ∧ w j = nI y then (-1 : Int32) else w j))
      by_cases c : j < xn u ∧ w j = nI y
      · rw [if_pos ⟨c.1, (own_iff I (by omega) j).mpr c.2⟩, if_pos c, if_pos (by decide : (-1 : Int32) < 0)]
      · rw [if_neg (fun q => c ⟨q.1, (own_iff I (by omega) j).mp q.2⟩), if_neg c]
        exact I.2.2.1 j
    · rw [yc_form]
      show (if j < xn u ∧ w j = nI y then (-1 : Int32) else w j) = -1 ∨ ∃ h, h < xm u ∧ (if j < xn u ∧ w j = nI y then (-1 : Int32) else w j) = nI h
      by_cases c : j < xn u ∧ w j = nI y
      · rw [if_pos c]; exact Or.inl rfl
      · rw [if_neg c]; exact I.2.2.2.1 j hj
    · show vp_updL (xfl u) (nI y).toNatClampNeg (-9223372036854775808) x = _
      rw [updL_at]
      by_cases e : x = (nI y).toNatClampNeg
      · rw [if_pos e]
      · rw [if_neg e]; exact I.2.2.2.2.2.1 x hx hk
  · simp only [if_neg h1]; exact ⟨trivial, w, rfl, I⟩
theorem r_meld {u v : xS} (hr : Rel u v) (a b : Int32) : p_meld u a b = yp_meld v a b ∧ Rel (q_meld u a b) (yq_meld v a b) := by
  obtain ⟨w, rfl, I⟩ := hr
  have hm := I.1
  unfold p_meld yp_meld q_meld yq_meld
  rw [e_wP]
  by_cases h1 : p_refusalOfPair u a b = 0
  · simp only [if_pos h1]
    have ha : ∃ k, k < xm u ∧ a = nI k := by
      refine hk_of hm ?_
      unfold p_refusalOfPair at h1
      by_cases z : p_refusalOfHeap u a = 0
      · exact z
      · rw [if_neg z, if_neg z] at h1; exact absurd h1 z
    have hb : ∃ k, k < xm u ∧ b = nI k := by
      refine hk_of hm ?_
      unfold p_refusalOfPair at h1
      by_cases z : p_refusalOfHeap u a = 0
      · rw [if_pos z] at h1
        by_cases y : p_refusalOfHeap u b = 0
        · exact y
        · rw [if_neg y] at h1; exact absurd h1 y
      · rw [if_neg z, if_neg z] at h1; exact absurd h1 z
    obtain ⟨ka, hka, rfl⟩ := ha
    obtain ⟨kb, hkb, rfl⟩ := hb
    by_cases h2 : xkd u (nI ka).toNatClampNeg = 0
    · have h2' : xkd (sOw u w) (nI ka).toNatClampNeg = 0 := h2
      simp only [if_pos h2, if_pos h2']
      by_cases h3 : xkd u (nI kb).toNatClampNeg = 0
      · have h3' : xkd (sOw u w) (nI kb).toNatClampNeg = 0 := h3
        simp only [if_pos h3, if_pos h3']
        by_cases h4 : xod u (nI ka).toNatClampNeg = xod u (nI kb).toNatClampNeg
        · have h4' : xod (sOw u w) (nI ka).toNatClampNeg = xod (sOw u w) (nI kb).toNatClampNeg := h4
          rw [if_pos h4, if_pos h4', if_pos h4, if_pos h4']
          have J : Inv (sAb (q_handOverAll u (nI kb) (nI ka)) (upd (xab (q_handOverAll u (nI kb) (nI ka))) (nI kb).toNatClampNeg 1)) (yq_meldL (sOw u w) (nI ka) (nI kb) (xn u)) := by
            refine ⟨I.1, I.2.1, fun j => ?_, fun j hj => ?_, I.2.2.2.2.1, I.2.2.2.2.2.1, fun x hx => ?_⟩
            · show q_handOverAllL u (nI kb) (nI ka) (xn u) j = _
              rw [ho_form, ym_form]
              show (if j < xn u ∧ xow u j = nI kb then nI ka else xow u j) = (if (if j < xn u ∧ w j = nI kb then nI ka else w j) < 0 then -4 else (if j < xn u ∧ w j = nI kb then nI ka else w j))
              by_cases c : j < xn u ∧ w j = nI kb
              · rw [if_pos ⟨c.1, (own_iff I (by omega) j).mpr c.2⟩, if_pos c, if_neg (nI_pos (by omega))]
              · rw [if_neg (fun q => c ⟨q.1, (own_iff I (by omega) j).mp q.2⟩), if_neg c]
                exact I.2.2.1 j
            · rw [ym_form]
              show (if j < xn u ∧ w j = nI kb then nI ka else w j) = -1 ∨ ∃ h, h < xm u ∧ (if j < xn u ∧ w j = nI kb then nI ka else w j) = nI h
              by_cases c : j < xn u ∧ w j = nI kb
              · rw [if_pos c]; exact Or.inr ⟨ka, hka, rfl⟩
              · rw [if_neg c]; exact I.2.2.2.1 j hj
            · have hx : ¬ upd (xab u) (nI kb).toNatClampNeg 1 x = 0 := hx
              show x < xm u ∧ xkd u x = 0
              rw [upd_at] at hx
              by_cases e : x = (nI kb).toNatClampNeg
              · rw [e]
                refine ⟨?_, h3⟩
                rw [nI_clamp (by omega)]; exact hkb
              · rw [if_neg e] at hx; exact I.2.2.2.2.2.2 x hx
          refine ⟨?_, _, rfl, J⟩
          show nI (p_countEntriesL (sAb (q_handOverAll u (nI kb) (nI ka)) (upd (xab (q_handOverAll u (nI kb) (nI ka))) (nI kb).toNatClampNeg 1)) (nI ka) (xn u)) = nI (yp_manyL (sOw (sAb (q_handOverAll u (nI kb) (nI ka)) (upd (xab (q_handOverAll u (nI kb) (nI ka))) (nI kb).toNatClampNeg 1)) (yq_meldL (sOw u w) (nI ka) (nI kb) (xn u))) (nI ka) (xn u))
          rw [e_cnt J (by omega)]
        · have h4' : ¬ xod (sOw u w) (nI ka).toNatClampNeg = xod (sOw u w) (nI kb).toNatClampNeg := h4
          rw [if_neg h4, if_neg h4', if_neg h4, if_neg h4']
          exact ⟨rfl, w, rfl, I⟩
      · have h3' : ¬ xkd (sOw u w) (nI kb).toNatClampNeg = 0 := h3
        simp only [if_neg h3, if_neg h3']; exact ⟨trivial, w, rfl, I⟩
    · have h2' : ¬ xkd (sOw u w) (nI ka).toNatClampNeg = 0 := h2
      simp only [if_neg h2, if_neg h2']; exact ⟨trivial, w, rfl, I⟩
  · simp only [if_neg h1]; exact ⟨trivial, w, rfl, I⟩
theorem pair_of {u : xS} {a b : Int32} (hm : xm u ≤ 12) (h1 : p_refusalOfPair u a b = 0) : (∃ k, k < xm u ∧ a = nI k) ∧ (∃ k, k < xm u ∧ b = nI k) ∧ ¬ a = b := by
  unfold p_refusalOfPair at h1
  by_cases z : p_refusalOfHeap u a = 0
  · rw [if_pos z] at h1
    by_cases y : p_refusalOfHeap u b = 0
    · rw [if_pos y] at h1
      refine ⟨hk_of hm z, hk_of hm y, fun q => ?_⟩
      rw [if_pos q] at h1
      exact absurd h1 (by decide)
    · rw [if_neg y] at h1; exact absurd h1 y
  · rw [if_neg z, if_neg z] at h1; exact absurd h1 z
theorem ff_neg {u : xS} {h : Int32} (hn : xn u ≤ 160) (c : ¬ p_findFirst u h < 0) : ∃ j, j < xn u ∧ p_findFirst u h = nI j ∧ xow u j = h := by
  rcases ff_spec u h (xn u) (by omega) with ⟨e, hno⟩ | ⟨k, hk, e, hok, -⟩
  · refine absurd ?_ c
    show p_findFirstL u h (xn u) < 0
    rw [e]; decide
  · exact ⟨k, hk, e, hok⟩
theorem ff_none {u : xS} {h : Int32} (hn : xn u ≤ 160) (c : p_countEntriesL u h (xn u) = 0) : p_findFirst u h < 0 := by
  by_cases q : p_findFirst u h < 0
  · exact q
  · obtain ⟨j, hj, -, ho⟩ := ff_neg hn q
    have := cnt_pos ho (xn u) hj
    omega
theorem raise_ow (u : xS) (h : Int32) (k : Int64) : xow (q_raiseFloor u h k) = xow u := by
  unfold q_raiseFloor
  split <;> rfl
/-- more steps than entries change nothing -/
theorem dr_bound {a b : Int32} (hab : ¬ a = b) : ∀ (c d : Nat) (u : xS), xn u ≤ 160 → p_countEntriesL u a (xn u) = c → c ≤ d → q_drainL a b d u = q_drainL a b c u := by
  intro c
  induction c with
  | zero =>
    intro d u hn hc hd
    cases d with
    | zero => rfl
    | succ d => rw [q_drainL, q_drainL, if_pos (ff_none hn hc)]
  | succ c ih =>
    intro d u hn hc hd
    obtain ⟨d, rfl⟩ : ∃ d2, d = d2 + 1 := ⟨d - 1, by omega⟩
    rw [q_drainL, q_drainL]
    by_cases h1 : p_findFirst u a < 0
    · rw [if_pos h1, if_pos h1]
    · rw [if_neg h1, if_neg h1]
      by_cases h2 : p_isBelowFloor u b (xky u (p_findFirst u a).toNatClampNeg) = 0
      · rw [if_pos h2, if_pos h2]
        obtain ⟨j, hj, e, ho⟩ := ff_neg hn h1
        have key : q_drainL a b d (sOw (q_raiseFloor u a (xky u (p_findFirst u a).toNatClampNeg)) (upd (xow (q_raiseFloor u a (xky u (p_findFirst u a).toNatClampNeg))) (p_findFirst u a).toNatClampNeg b)) = q_drainL a b c (sOw (q_raiseFloor u a (xky u (p_findFirst u a).toNatClampNeg)) (upd (xow (q_raiseFloor u a (xky u (p_findFirst u a).toNatClampNeg))) (p_findFirst u a).toNatClampNeg b)) := by
          have hN : xn (sOw (q_raiseFloor u a (xky u (p_findFirst u a).toNatClampNeg)) (upd (xow (q_raiseFloor u a (xky u (p_findFirst u a).toNatClampNeg))) (p_findFirst u a).toNatClampNeg b)) = xn u := xn_raise _ _ _
          refine ih d _ (by rw [hN]; exact hn) ?_ (by omega)
          rw [hN]
          have e1 : p_countEntriesL (sOw (q_raiseFloor u a (xky u (p_findFirst u a).toNatClampNeg)) (upd (xow (q_raiseFloor u a (xky u (p_findFirst u a).toNatClampNeg))) (p_findFirst u a).toNatClampNeg b)) a (xn u) = p_countEntriesL (sOw u (upd (xow u) j b)) a (xn u) := by
            refine cnt_ow ?_ _ _
            show upd (xow (q_raiseFloor u a (xky u (p_findFirst u a).toNatClampNeg))) (p_findFirst u a).toNatClampNeg b = upd (xow u) j b
            rw [raise_ow, e, nI_clamp (by omega)]
          rw [e1]
          have := (cnt_out ho (fun q => hab q.symm) (xn u)).1 hj
          omega
        rw [key]
      · rw [if_neg h2, if_neg h2]
theorem dr_rel {ka kb : Nat} : ∀ (d : Nat) (u : xS) (w : Nat → Int32), Inv u w → ka < xm u → kb < xm u → (yq_drainL (nI ka) (nI kb) d (sOw u w)).2 = (q_drainL (nI ka) (nI kb) d u).2 ∧ Rel (q_drainL (nI ka) (nI kb) d u).1 (yq_drainL (nI ka) (nI kb) d (sOw u w)).1 := by
  intro d
  induction d with
  | zero => exact fun u w I _ _ => ⟨rfl, w, rfl, I⟩
  | succ d ih =>
    intro u w I hka hkb
    have hm := I.1
    have hn := I.2.1
    have e0 : yp_extreme (sOw u w) (nI ka) 1 = p_findFirst u (nI ka) := (e_ff I hka (xn u) (by omega)).1
    rw [yq_drainL, q_drainL, e0]
    by_cases h1 : p_findFirst u (nI ka) < 0
    · rw [if_pos h1, if_pos h1]
      exact ⟨rfl, w, rfl, I⟩
    · rw [if_neg h1, if_neg h1]
      have e1 : xky (sOw u w) (p_findFirst u (nI ka)).toNatClampNeg = xky u (p_findFirst u (nI ka)).toNatClampNeg := rfl
      rw [e1, e_bl I hkb]
      by_cases h2 : p_isBelowFloor u (nI kb) (xky u (p_findFirst u (nI ka)).toNatClampNeg) = 0
      · rw [if_pos h2, if_pos h2]
        obtain ⟨e2, I1, e3, e4⟩ := raise_rel I hka (p_findFirst u (nI ka))
        rw [e2]
        have J := inv_set I1 (p_findFirst u (nI ka)).toNatClampNeg (x := nI kb) (y := nI kb) (by rw [if_neg (nI_pos (by omega))]) (Or.inr ⟨kb, by rw [e4]; exact hkb, rfl⟩)
        have R := ih _ _ J (by show ka < xm (q_raiseFloor _ _ _); rw [e4]; exact hka) (by show kb < xm (q_raiseFloor _ _ _); rw [e4]; exact hkb)
        exact ⟨congrArg (fun z => z + 1) R.1, R.2⟩
      · rw [if_neg h2, if_neg h2]
        exact ⟨rfl, w, rfl, I⟩
theorem r_drain {u v : xS} (hr : Rel u v) (a b g : Int32) : p_drain u a b g = yp_drain v a b g ∧ Rel (q_drain u a b g) (yq_drain v a b g) := by
  obtain ⟨w, rfl, I⟩ := hr
  have hm := I.1
  have hn := I.2.1
  unfold p_drain yp_drain q_drain yq_drain
  rw [e_wP]
  by_cases h1 : p_refusalOfPair u a b = 0
  · simp only [if_pos h1]
    obtain ⟨⟨ka, hka, rfl⟩, ⟨kb, hkb, rfl⟩, hab⟩ := pair_of hm h1
    have hle := cnt_le u (nI ka) (xn u)
    have e1 : q_drainL (nI ka) (nI kb) (p_most u (nI ka) g) u = q_drainL (nI ka) (nI kb) g.toNatClampNeg u := by
      unfold p_most
      by_cases c : p_countEntries u (nI ka) < g
      · rw [if_pos c]
        have e2 : (p_countEntries u (nI ka)).toNatClampNeg = p_countEntriesL u (nI ka) (xn u) := nI_clamp (by omega)
        rw [e2]
        refine (dr_bound hab _ _ u hn rfl ?_).symm
        exact Nat.le_of_lt (cl_lt (i_nle.mpr c) (by omega))
      · rw [if_neg c]
    rw [e1]
    have R := dr_rel g.toNatClampNeg u w I hka hkb
    exact ⟨congrArg nI R.1.symm, R.2⟩
  · simp only [if_neg h1]; exact ⟨trivial, w, rfl, I⟩
theorem rel_hm {u v : xS} (hr : Rel u v) : xm u ≤ 12 := by obtain ⟨w, rfl, I⟩ := hr; exact I.1
theorem rel_hn {u v : xS} (hr : Rel u v) : xn u ≤ 160 := by obtain ⟨w, rfl, I⟩ := hr; exact I.2.1
theorem rel_ho {u v : xS} (hr : Rel u v) : ∀ j : Nat, j < xn u → xow u j = -4 ∨ vp_in (xow u j) 12 := by
  obtain ⟨w, rfl, I⟩ := hr
  have hm := I.1
  intro j hj
  rcases I.2.2.2.1 j hj with z | ⟨h, hh, z⟩
  · exact Or.inl (by rw [I.2.2.1 j, z]; decide)
  · refine Or.inr ?_
    rw [(own_iff I (by omega) j).mpr z]
    exact vp_in_nI (by omega) (by decide)
theorem yrel_hm {u v : xS} (hr : Rel u v) : xm v ≤ 12 := by obtain ⟨w, rfl, I⟩ := hr; exact I.1
theorem yrel_hn {u v : xS} (hr : Rel u v) : xn v ≤ 160 := by obtain ⟨w, rfl, I⟩ := hr; exact I.2.1
theorem yrel_ho {u v : xS} (hr : Rel u v) : ∀ j : Nat, j < xn v → xow v j = -1 ∨ vp_in (xow v j) 12 := by
  obtain ⟨w, rfl, I⟩ := hr
  have hm := I.1
  intro j hj
  rcases I.2.2.2.1 j hj with z | ⟨h, hh, z⟩
  · exact Or.inl z
  · refine Or.inr ?_
    show vp_in (w j) 12
    rw [z]
    exact vp_in_nI (by omega) (by decide)
theorem rel_0 : Rel xu0 yu0 := by
  refine ⟨fun _ => 0, rfl, Nat.zero_le _, Nat.zero_le _, fun j => ?_, fun j hj => absurd hj (Nat.not_lt_zero j), fun h hh => absurd hh (Nat.not_lt_zero h), fun h hh => absurd hh (Nat.not_lt_zero h), fun h hh => absurd rfl hh⟩
  show (0 : Int32) = if (0 : Int32) < 0 then -4 else 0
  decide
