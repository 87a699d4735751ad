/-! ===== one roll ===== -/
def hp_LX (cnt : Nat → Nat) (row : Nat → Nat → Nat) (D : hy_M) : Prop := (∀ l, l < 5 → D 65 l = nI (cnt l)) ∧ ∀ l, l < 5 → ∀ j, j < cnt l → D (60 + l) j = nI (row l j)
def hp_LM (cnt : Nat → Nat) (row : Nat → Nat → Nat) (D : hy_M) : Prop := (∀ l, l < 3 → D 68 (67 + l) = nI (cnt l)) ∧ (∀ l, l < 2 → D 68 (49 + l) = nI (cnt (3 + l))) ∧ (∀ l, l < 3 → ∀ j, j < cnt l → D 68 (70 + 8 * l + j) = nI (row l j)) ∧ ∀ l, l < 2 → ∀ j, j < cnt (3 + l) → D 68 (51 + 8 * l + j) = nI (row (3 + l) j)
def hp_apc (cnt : Nat → Nat) (l : Nat) : Nat → Nat := fun k => if k = l then cnt k + 1 else cnt k
def hp_apr (cnt : Nat → Nat) (row : Nat → Nat → Nat) (l w : Nat) : Nat → Nat → Nat := fun k j => if k = l ∧ j = cnt l then w else row k j
theorem hp_apX (N : Nat) {cnt : Nat → Nat} {row : Nat → Nat → Nat} {D : hy_M} (h : hp_LX cnt row D) {l w : Nat} (hl : l < 5) (hc : cnt l < 8) : ∃ D1, F_X2_append N (nI l) (nI w) D = some D1 ∧ hp_LX (hp_apc cnt l) (hp_apr cnt row l w) D1 ∧ ∀ c, ¬ (60 ≤ c ∧ c < 66) → D1 c = D c := by
  obtain ⟨h1, h2⟩ := h
  refine ⟨hy_w (hy_w D (60 + l) (cnt l) (nI w)) 65 l (nI (cnt l + 1)), ?_, ⟨fun k hk => ?_, fun k hk j hj => ?_⟩, fun c a => ?_⟩
  · rw [F_X2_append_eq]
    simp (disch := omega) only [hp_kN, nI_add, pk_mul, hp_isInN, hp_m1L, hp_l0, hp_l1, hp_l2, hp_l3, hp_l4, hp_l5, hp_l7, hp_l8, hp_l10, hp_l17, hp_l20, hp_l24, hp_l48, hp_l50, hp_l55, hp_l127, hp_lm1, hp_eqN, hp_ltN, hp_inN, hp_cl, if_pos, if_neg, if_true, if_false, Option.bind_some, h1, hp_pr59, hp_wl60, hp_wn]
  · unfold hp_apc
    by_cases q : k = l
    · subst q
      rw [hp_ws, if_pos rfl]
    · rw [hp_wn (Or.inr q), hp_wn (Or.inl (by omega)), if_neg q]
      exact h1 k hk
  · unfold hp_apr
    unfold hp_apc at hj
    rw [hp_wn (Or.inl (by omega)), hp_w]
    by_cases q : k = l ∧ j = cnt l
    · rw [if_pos q, if_pos (by omega)]
    · rw [if_neg q, if_neg (by omega)]
      refine h2 k hk j ?_
      by_cases q2 : k = l
      · subst q2
        rw [if_pos rfl] at hj
        omega
      · rw [if_neg q2] at hj
        exact hj
  · rw [hy_w_ne (by omega), hy_w_ne (by omega)]
