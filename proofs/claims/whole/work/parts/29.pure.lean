/-! what findFirst and findLast find: least and greatest in the order of weights, then numbers -/
def bf (w : Nat → Int64) (a b : Nat) : Prop := w a < w b ∨ (w a = w b ∧ a < b)
theorem bf_trans {w : Nat → Int64} {a b c : Nat} (h1 : bf w a b) (h2 : bf w b c) : bf w a c := by
  unfold bf at *
  rw [Int64.lt_iff_toInt_lt, ← Int64.toInt_inj] at *
  omega
theorem bf_irr {w : Nat → Int64} {a : Nat} : ¬ bf w a a := by
  unfold bf
  rw [Int64.lt_iff_toInt_lt]
  omega
theorem bf_asym {w : Nat → Int64} {a b : Nat} (h1 : bf w a b) : ¬ bf w b a := fun h2 => bf_irr (bf_trans h1 h2)
theorem bf_tot {w : Nat → Int64} {a b : Nat} (h : a ≠ b) : bf w a b ∨ bf w b a := by
  unfold bf
  rw [Int64.lt_iff_toInt_lt, Int64.lt_iff_toInt_lt, ← Int64.toInt_inj, ← Int64.toInt_inj]
  omega
theorem nI_m1 {k : Nat} (h : k < 2 ^ 31) : ¬ nI k = -1 := fun q => nI_pos h (by rw [q]; decide)
theorem isBefore_bf {u : xS} {o : Int32} {a b : Nat} (ha : a < 2 ^ 31) (hb : b < 2 ^ 31) : p_isBefore u o (nI a) (nI b) = 0 ↔ ¬ bf (fun j => p_weight o (xky u j)) a b := by
  unfold p_isBefore
  rw [nI_clamp ha, nI_clamp hb]
  by_cases h1 : lg_cmp (p_weight o (xky u a)) (p_weight o (xky u b)) < 0
  · rw [if_pos h1]
    have e := (lg_cmp_lt _ _).mp h1
    exact ⟨fun q => absurd q (by decide), fun q => absurd (Or.inl e) q⟩
  · rw [if_neg h1]
    have e1 : ¬ p_weight o (xky u a) < p_weight o (xky u b) := fun q => h1 ((lg_cmp_lt _ _).mpr q)
    by_cases h2 : lg_cmp (p_weight o (xky u a)) (p_weight o (xky u b)) = 0
    · rw [if_pos h2]
      have e2 := (lg_cmp_eq _ _).mp h2
      by_cases h3 : nI b ≤ nI a
      · rw [if_pos h3]
        have e3 := (nI_leI hb ha).mp h3
        exact ⟨fun _ q => q.elim e1 (fun z => absurd z.2 (by omega)), fun _ => rfl⟩
      · rw [if_neg h3]
        have e3 : a < b := Nat.not_le.mp (fun q => h3 (nI_le q ha))
        exact ⟨fun q => absurd q (by decide), fun q => absurd (Or.inr ⟨e2, e3⟩) q⟩
    · rw [if_neg h2]
      have e2 : ¬ p_weight o (xky u a) = p_weight o (xky u b) := fun q => h2 ((lg_cmp_eq _ _).mpr q)
      exact ⟨fun _ q => q.elim e1 (fun z => e2 z.1), fun _ => rfl⟩
def xw (u : xS) (h : Int32) (j : Nat) : Int64 := p_weight (xod u h.toNatClampNeg) (xky u j)
theorem ff_spec (u : xS) (h : Int32) : ∀ i, i < 2 ^ 31 → (p_findFirstL u h i = -1 ∧ ∀ j, j < i → ¬ xow u j = h) ∨ ∃ k, k < i ∧ p_findFirstL u h i = nI k ∧ xow u k = h ∧ ∀ j, j < i → xow u j = h → j = k ∨ bf (xw u h) k j := by
  intro i
  induction i with
  | zero => exact fun _ => Or.inl ⟨rfl, fun j hj => absurd hj (Nat.not_lt_zero j)⟩
  | succ i ih =>
    intro hi
    rw [p_findFirstL]
    by_cases h1 : xow u i = h
    · rw [if_pos h1]
      rcases ih (by omega) with ⟨e, hn⟩ | ⟨k, hk, e, ho, hm⟩
      · rw [if_pos e]
        refine Or.inr ⟨i, Nat.lt_succ_self i, rfl, h1, fun j hj hj2 => Or.inl ?_⟩
        rcases Nat.lt_succ_iff_lt_or_eq.mp hj with q | q
        · exact absurd hj2 (hn j q)
        · exact q
      · rw [if_neg (by rw [e]; exact nI_m1 (by omega)), e]
        by_cases h2 : bf (xw u h) i k
        · rw [if_neg (fun q => (isBefore_bf (by omega) (by omega)).mp q h2)]
          refine Or.inr ⟨i, Nat.lt_succ_self i, rfl, h1, fun j hj hj2 => ?_⟩
          rcases Nat.lt_succ_iff_lt_or_eq.mp hj with q | q
          · rcases hm j q hj2 with z | z
            · exact Or.inr (by rw [z]; exact h2)
            · exact Or.inr (bf_trans h2 z)
          · exact Or.inl q
        · rw [if_pos ((isBefore_bf (by omega) (by omega)).mpr h2)]
          refine Or.inr ⟨k, Nat.lt_succ_of_lt hk, rfl, ho, fun j hj hj2 => ?_⟩
          rcases Nat.lt_succ_iff_lt_or_eq.mp hj with q | q
          · exact hm j q hj2
          · rw [q]
            exact Or.inr ((bf_tot (Nat.ne_of_lt hk)).resolve_right h2)
    · rw [if_neg h1]
      rcases ih (by omega) with ⟨e, hn⟩ | ⟨k, hk, e, ho, hm⟩
      · refine Or.inl ⟨e, fun j hj => ?_⟩
        rcases Nat.lt_succ_iff_lt_or_eq.mp hj with q | q
        · exact hn j q
        · rw [q]; exact h1
      · refine Or.inr ⟨k, Nat.lt_succ_of_lt hk, e, ho, fun j hj hj2 => ?_⟩
        rcases Nat.lt_succ_iff_lt_or_eq.mp hj with q | q
        · exact hm j q hj2
        · exact absurd (q ▸ hj2) h1
theorem fl_spec (u : xS) (h : Int32) : ∀ i, i < 2 ^ 31 → (p_findLastL u h i = -1 ∧ ∀ j, j < i → ¬ xow u j = h) ∨ ∃ k, k < i ∧ p_findLastL u h i = nI k ∧ xow u k = h ∧ ∀ j, j < i → xow u j = h → j = k ∨ bf (xw u h) j k := by
  intro i
  induction i with
  | zero => exact fun _ => Or.inl ⟨rfl, fun j hj => absurd hj (Nat.not_lt_zero j)⟩
  | succ i ih =>
    intro hi
    rw [p_findLastL]
    by_cases h1 : xow u i = h
    · rw [if_pos h1]
      rcases ih (by omega) with ⟨e, hn⟩ | ⟨k, hk, e, ho, hm⟩
      · rw [if_pos e]
        refine Or.inr ⟨i, Nat.lt_succ_self i, rfl, h1, fun j hj hj2 => Or.inl ?_⟩
        rcases Nat.lt_succ_iff_lt_or_eq.mp hj with q | q
        · exact absurd hj2 (hn j q)
        · exact q
      · rw [if_neg (by rw [e]; exact nI_m1 (by omega)), e]
        by_cases h2 : bf (xw u h) k i
        · rw [if_neg (fun q => (isBefore_bf (by omega) (by omega)).mp q h2)]
          refine Or.inr ⟨i, Nat.lt_succ_self i, rfl, h1, fun j hj hj2 => ?_⟩
          rcases Nat.lt_succ_iff_lt_or_eq.mp hj with q | q
          · rcases hm j q hj2 with z | z
            · exact Or.inr (by rw [z]; exact h2)
            · exact Or.inr (bf_trans z h2)
          · exact Or.inl q
        · rw [if_pos ((isBefore_bf (by omega) (by omega)).mpr h2)]
          refine Or.inr ⟨k, Nat.lt_succ_of_lt hk, rfl, ho, fun j hj hj2 => ?_⟩
          rcases Nat.lt_succ_iff_lt_or_eq.mp hj with q | q
          · exact hm j q hj2
          · rw [q]
            exact Or.inr ((bf_tot (Nat.ne_of_lt hk)).resolve_left h2)
    · rw [if_neg h1]
      rcases ih (by omega) with ⟨e, hn⟩ | ⟨k, hk, e, ho, hm⟩
      · refine Or.inl ⟨e, fun j hj => ?_⟩
        rcases Nat.lt_succ_iff_lt_or_eq.mp hj with q | q
        · exact hn j q
        · rw [q]; exact h1
      · refine Or.inr ⟨k, Nat.lt_succ_of_lt hk, e, ho, fun j hj hj2 => ?_⟩
        rcases Nat.lt_succ_iff_lt_or_eq.mp hj with q | q
        · exact hm j q hj2
        · exact absurd (q ▸ hj2) h1
