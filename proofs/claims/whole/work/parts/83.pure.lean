/-! ===== too full in thought ===== -/
def hp_ov (y : Nat → Nat → Nat) (cnt : Nat → Nat) (row : Nat → Nat → Nat) : Nat := if y 9 0 < hp_len y cnt row 0 then 1 else if y 9 1 < hp_len y cnt row 1 then 1 else if y 9 2 < hp_len y cnt row 2 then 1 else 0
theorem hp_len_le {y : Nat → Nat → Nat} (hw : hp_WF y) {cnt : Nat → Nat} {row : Nat → Nat → Nat} {t : Nat} (hc : cnt t ≤ 8) (hr : ∀ j, j < cnt t → row t j < 8) : hp_len y cnt row t ≤ 24 := by
  have := hp_sum_le (fun j => y 1 (row t j)) (cnt t) 3 (fun j hj => (hw.2.2.2.1 _ (hr j hj)).1)
  unfold hp_len
  omega
theorem hp_ovX (N : Nat) (hN : 10 ≤ N) {y : Nat → Nat → Nat} (hw : hp_WF y) {cnt : Nat → Nat} {row : Nat → Nat → Nat} {D : hy_M} (h1 : ∀ j, j < 8 → D 2 j = nI (y 1 j)) (h10 : ∀ t, t < 3 → D 10 t = nI (y 9 t)) (hc : ∀ l, l < 5 → D 65 l = nI (cnt l)) (hc8 : ∀ l, l < 5 → cnt l ≤ 8) (hr : ∀ l, l < 5 → ∀ j, j < cnt l → D (60 + l) j = nI (row l j)) (hr8 : ∀ l, l < 5 → ∀ j, j < cnt l → row l j < 8) : F_X7_isOverfull N D = some (nI (hp_ov y cnt row), D) := by
  obtain ⟨b0, b1, b2, b8, b17, b9⟩ := hp_Wb hw
  obtain ⟨N, rfl⟩ : ∃ n, N = n + 10 := ⟨N - 10, by omega⟩
  have l0 := hp_leX_1_58 (N + 10) (by omega) h1 (t := 0) (by omega) (hc 0 (by omega)) (hc8 0 (by omega)) (hr 0 (by omega)) (hr8 0 (by omega))
  have l1 := hp_leX_1_58 (N + 10) (by omega) h1 (t := 1) (by omega) (hc 1 (by omega)) (hc8 1 (by omega)) (hr 1 (by omega)) (hr8 1 (by omega))
  have l2 := hp_leX_1_58 (N + 10) (by omega) h1 (t := 2) (by omega) (hc 2 (by omega)) (hc8 2 (by omega)) (hr 2 (by omega)) (hr8 2 (by omega))
  have q0 := hp_len_le hw (hc8 0 (by omega)) (hr8 0 (by omega))
  have q1 := hp_len_le hw (hc8 1 (by omega)) (hr8 1 (by omega))
  have q2 := hp_len_le hw (hc8 2 (by omega)) (hr8 2 (by omega))
  have r0 := b9 0 (by omega)
  have r1 := b9 1 (by omega)
  have r2 := b9 2 (by omega)
  clear hr hr8 hc hc8
  rw [F_X7_isOverfull_eq, F_X7_isOverfull_2_eq]
  unfold hp_ov
  by_cases c0 : y 9 0 < hp_len y cnt row 0
  · simp (disch := omega) only [hp_kN, nI_add, pk_mul, hp_isInN, hp_m1L, hp_l0, hp_l1, hp_l2, hp_l3, hp_l4, hp_l5, hp_l7, hp_l8, hp_l10, hp_l17, hp_l20, hp_l24, hp_l48, hp_l50, hp_l55, hp_l127, hp_lm1, hp_eqN, hp_ltN, hp_inN, hp_cl, if_pos, if_neg, if_true, if_false, Option.bind_some, l0, h10, Nat.reduceAdd]
  · simp (disch := omega) only [hp_kN, nI_add, pk_mul, hp_isInN, hp_m1L, hp_l0, hp_l1, hp_l2, hp_l3, hp_l4, hp_l5, hp_l7, hp_l8, hp_l10, hp_l17, hp_l20, hp_l24, hp_l48, hp_l50, hp_l55, hp_l127, hp_lm1, hp_eqN, hp_ltN, hp_inN, hp_cl, if_pos, if_neg, if_true, if_false, Option.bind_some, l0, h10, Nat.reduceAdd]
    rw [F_X7_isOverfull_2_eq]
    by_cases c1 : y 9 1 < hp_len y cnt row 1
    · simp (disch := omega) only [hp_kN, nI_add, pk_mul, hp_isInN, hp_m1L, hp_l0, hp_l1, hp_l2, hp_l3, hp_l4, hp_l5, hp_l7, hp_l8, hp_l10, hp_l17, hp_l20, hp_l24, hp_l48, hp_l50, hp_l55, hp_l127, hp_lm1, hp_eqN, hp_ltN, hp_inN, hp_cl, if_pos, if_neg, if_true, if_false, Option.bind_some, l1, h10, Nat.reduceAdd]
    · simp (disch := omega) only [hp_kN, nI_add, pk_mul, hp_isInN, hp_m1L, hp_l0, hp_l1, hp_l2, hp_l3, hp_l4, hp_l5, hp_l7, hp_l8, hp_l10, hp_l17, hp_l20, hp_l24, hp_l48, hp_l50, hp_l55, hp_l127, hp_lm1, hp_eqN, hp_ltN, hp_inN, hp_cl, if_pos, if_neg, if_true, if_false, Option.bind_some, l1, h10, Nat.reduceAdd]
      rw [F_X7_isOverfull_2_eq]
      by_cases c2 : y 9 2 < hp_len y cnt row 2
      · simp (disch := omega) only [hp_kN, nI_add, pk_mul, hp_isInN, hp_m1L, hp_l0, hp_l1, hp_l2, hp_l3, hp_l4, hp_l5, hp_l7, hp_l8, hp_l10, hp_l17, hp_l20, hp_l24, hp_l48, hp_l50, hp_l55, hp_l127, hp_lm1, hp_eqN, hp_ltN, hp_inN, hp_cl, if_pos, if_neg, if_true, if_false, Option.bind_some, l2, h10, Nat.reduceAdd]
      · simp (disch := omega) only [hp_kN, nI_add, pk_mul, hp_isInN, hp_m1L, hp_l0, hp_l1, hp_l2, hp_l3, hp_l4, hp_l5, hp_l7, hp_l8, hp_l10, hp_l17, hp_l20, hp_l24, hp_l48, hp_l50, hp_l55, hp_l127, hp_lm1, hp_eqN, hp_ltN, hp_inN, hp_cl, if_pos, if_neg, if_true, if_false, Option.bind_some, l2, h10, Nat.reduceAdd]
        rw [F_X7_isOverfull_2_eq]
        simp (disch := omega) only [hp_kN, nI_add, pk_mul, hp_isInN, hp_m1L, hp_l0, hp_l1, hp_l2, hp_l3, hp_l4, hp_l5, hp_l7, hp_l8, hp_l10, hp_l17, hp_l20, hp_l24, hp_l48, hp_l50, hp_l55, hp_l127, hp_lm1, hp_eqN, hp_ltN, hp_inN, hp_cl, if_pos, if_neg, if_true, if_false, Option.bind_some, Nat.reduceAdd]
theorem hp_ovM (N : Nat) (hN : 10 ≤ N) {y : Nat → Nat → Nat} (hw : hp_WF y) {cnt : Nat → Nat} {row : Nat → Nat → Nat} {D : hy_M} (h1 : ∀ j, j < 8 → D 68 (4 + j) = nI (y 1 j)) (h46 : ∀ t, t < 3 → D 68 (46 + t) = nI (y 9 t)) (hc : ∀ l, l < 3 → D 68 (67 + l) = nI (cnt l)) (hc8 : ∀ l, l < 3 → cnt l ≤ 8) (hr : ∀ l, l < 3 → ∀ j, j < cnt l → D 68 (70 + 8 * l + j) = nI (row l j)) (hr8 : ∀ l, l < 3 → ∀ j, j < cnt l → row l j < 8) : F_X9_isOver N D = some (nI (hp_ov y cnt row), D) := by
  obtain ⟨b0, b1, b2, b8, b17, b9⟩ := hp_Wb hw
  obtain ⟨N, rfl⟩ : ∃ n, N = n + 10 := ⟨N - 10, by omega⟩
  have e46 : D 68 46 = nI (y 9 0) := h46 0 (by omega)
  have e47 : D 68 47 = nI (y 9 1) := h46 1 (by omega)
  have e48 : D 68 48 = nI (y 9 2) := h46 2 (by omega)
  have l0 := hp_leM (N + 10) (by omega) h1 (t := 0) (by omega) (hc 0 (by omega)) (hc8 0 (by omega)) (hr 0 (by omega)) (hr8 0 (by omega))
  have l1 := hp_leM (N + 10) (by omega) h1 (t := 1) (by omega) (hc 1 (by omega)) (hc8 1 (by omega)) (hr 1 (by omega)) (hr8 1 (by omega))
  have l2 := hp_leM (N + 10) (by omega) h1 (t := 2) (by omega) (hc 2 (by omega)) (hc8 2 (by omega)) (hr 2 (by omega)) (hr8 2 (by omega))
  have q0 := hp_len_le hw (hc8 0 (by omega)) (hr8 0 (by omega))
  have q1 := hp_len_le hw (hc8 1 (by omega)) (hr8 1 (by omega))
  have q2 := hp_len_le hw (hc8 2 (by omega)) (hr8 2 (by omega))
  have r0 := b9 0 (by omega)
  have r1 := b9 1 (by omega)
  have r2 := b9 2 (by omega)
  clear hr hr8 hc hc8
  rw [F_X9_isOver_eq, F_X9_isOver_2_eq]
  unfold hp_ov
  by_cases c0 : y 9 0 < hp_len y cnt row 0
  · simp (disch := omega) only [hp_kN, nI_add, pk_mul, hp_isInN, hp_m1L, hp_l0, hp_l1, hp_l2, hp_l3, hp_l4, hp_l5, hp_l7, hp_l8, hp_l10, hp_l17, hp_l20, hp_l24, hp_l48, hp_l50, hp_l55, hp_l127, hp_lm1, hp_eqN, hp_ltN, hp_inN, hp_cl, if_pos, if_neg, if_true, if_false, Option.bind_some, l0, e46, Nat.reduceAdd]
  · simp (disch := omega) only [hp_kN, nI_add, pk_mul, hp_isInN, hp_m1L, hp_l0, hp_l1, hp_l2, hp_l3, hp_l4, hp_l5, hp_l7, hp_l8, hp_l10, hp_l17, hp_l20, hp_l24, hp_l48, hp_l50, hp_l55, hp_l127, hp_lm1, hp_eqN, hp_ltN, hp_inN, hp_cl, if_pos, if_neg, if_true, if_false, Option.bind_some, l0, e46, Nat.reduceAdd]
    rw [F_X9_isOver_2_eq]
    by_cases c1 : y 9 1 < hp_len y cnt row 1
    · simp (disch := omega) only [hp_kN, nI_add, pk_mul, hp_isInN, hp_m1L, hp_l0, hp_l1, hp_l2, hp_l3, hp_l4, hp_l5, hp_l7, hp_l8, hp_l10, hp_l17, hp_l20, hp_l24, hp_l48, hp_l50, hp_l55, hp_l127, hp_lm1, hp_eqN, hp_ltN, hp_inN, hp_cl, if_pos, if_neg, if_true, if_false, Option.bind_some, l1, e47, Nat.reduceAdd]
    · simp (disch := omega) only [hp_kN, nI_add, pk_mul, hp_isInN, hp_m1L, hp_l0, hp_l1, hp_l2, hp_l3, hp_l4, hp_l5, hp_l7, hp_l8, hp_l10, hp_l17, hp_l20, hp_l24, hp_l48, hp_l50, hp_l55, hp_l127, hp_lm1, hp_eqN, hp_ltN, hp_inN, hp_cl, if_pos, if_neg, if_true, if_false, Option.bind_some, l1, e47, Nat.reduceAdd]
      rw [F_X9_isOver_2_eq]
      by_cases c2 : y 9 2 < hp_len y cnt row 2
      · simp (disch := omega) only [hp_kN, nI_add, pk_mul, hp_isInN, hp_m1L, hp_l0, hp_l1, hp_l2, hp_l3, hp_l4, hp_l5, hp_l7, hp_l8, hp_l10, hp_l17, hp_l20, hp_l24, hp_l48, hp_l50, hp_l55, hp_l127, hp_lm1, hp_eqN, hp_ltN, hp_inN, hp_cl, if_pos, if_neg, if_true, if_false, Option.bind_some, l2, e48, Nat.reduceAdd]
      · simp (disch := omega) only [hp_kN, nI_add, pk_mul, hp_isInN, hp_m1L, hp_l0, hp_l1, hp_l2, hp_l3, hp_l4, hp_l5, hp_l7, hp_l8, hp_l10, hp_l17, hp_l20, hp_l24, hp_l48, hp_l50, hp_l55, hp_l127, hp_lm1, hp_eqN, hp_ltN, hp_inN, hp_cl, if_pos, if_neg, if_true, if_false, Option.bind_some, l2, e48, Nat.reduceAdd]
        rw [F_X9_isOver_2_eq]
        simp (disch := omega) only [hp_kN, nI_add, pk_mul, hp_isInN, hp_m1L, hp_l0, hp_l1, hp_l2, hp_l3, hp_l4, hp_l5, hp_l7, hp_l8, hp_l10, hp_l17, hp_l20, hp_l24, hp_l48, hp_l50, hp_l55, hp_l127, hp_lm1, hp_eqN, hp_ltN, hp_inN, hp_cl, if_pos, if_neg, if_true, if_false, Option.bind_some, Nat.reduceAdd]
