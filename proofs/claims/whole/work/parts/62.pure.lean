/-! ===== reads of a yard, bounds ===== -/
theorem hp_pr6 {k : Nat} (h : k < 2) : hy_pr 6 k = 7 + k := by
  rcases (show k = 0 ∨ k = 1 by omega) with rfl | rfl <;> decide
theorem hp_pr24 {k : Nat} (h : k < 2) : hy_pr 24 k = 25 + k := by
  rcases (show k = 0 ∨ k = 1 by omega) with rfl | rfl <;> decide
theorem hp_pr12 {k : Nat} (h : k < 5) : hy_pr 12 k = 13 + k := by
  rcases (show k = 0 ∨ k = 1 ∨ k = 2 ∨ k = 3 ∨ k = 4 by omega) with rfl | rfl | rfl | rfl | rfl <;> decide
theorem hp_pr30 {k : Nat} (h : k < 5) : hy_pr 30 k = 31 + k := by
  rcases (show k = 0 ∨ k = 1 ∨ k = 2 ∨ k = 3 ∨ k = 4 by omega) with rfl | rfl | rfl | rfl | rfl <;> decide
theorem hp_pr59 {k : Nat} (h : k < 5) : hy_pr 59 k = 60 + k := by
  rcases (show k = 0 ∨ k = 1 ∨ k = 2 ∨ k = 3 ∨ k = 4 by omega) with rfl | rfl | rfl | rfl | rfl <;> decide
theorem hp_pr42 {k : Nat} (h : k < 4) : hy_pr 42 k = 43 + k := by
  rcases (show k = 0 ∨ k = 1 ∨ k = 2 ∨ k = 3 by omega) with rfl | rfl | rfl | rfl <;> decide
theorem hp_al7 {k : Nat} (h : k < 2) : hy_al (7 + k) = 8 := by
  rcases (show k = 0 ∨ k = 1 by omega) with rfl | rfl <;> decide
theorem hp_wl7 {k : Nat} (h : k < 2) : hy_wl (7 + k) = 8 := by
  rcases (show k = 0 ∨ k = 1 by omega) with rfl | rfl <;> decide
theorem hp_wl25 {k : Nat} (h : k < 2) : hy_wl (25 + k) = 8 := by
  rcases (show k = 0 ∨ k = 1 by omega) with rfl | rfl <;> decide
theorem hp_al13 {k : Nat} (h : k < 5) : hy_al (13 + k) = 8 := by
  rcases (show k = 0 ∨ k = 1 ∨ k = 2 ∨ k = 3 ∨ k = 4 by omega) with rfl | rfl | rfl | rfl | rfl <;> decide
theorem hp_wl13 {k : Nat} (h : k < 5) : hy_wl (13 + k) = 8 := by
  rcases (show k = 0 ∨ k = 1 ∨ k = 2 ∨ k = 3 ∨ k = 4 by omega) with rfl | rfl | rfl | rfl | rfl <;> decide
theorem hp_wl31 {k : Nat} (h : k < 5) : hy_wl (31 + k) = 8 := by
  rcases (show k = 0 ∨ k = 1 ∨ k = 2 ∨ k = 3 ∨ k = 4 by omega) with rfl | rfl | rfl | rfl | rfl <;> decide
theorem hp_al60 {k : Nat} (h : k < 5) : hy_al (60 + k) = 8 := by
  rcases (show k = 0 ∨ k = 1 ∨ k = 2 ∨ k = 3 ∨ k = 4 by omega) with rfl | rfl | rfl | rfl | rfl <;> decide
theorem hp_wl60 {k : Nat} (h : k < 5) : hy_wl (60 + k) = 8 := by
  rcases (show k = 0 ∨ k = 1 ∨ k = 2 ∨ k = 3 ∨ k = 4 by omega) with rfl | rfl | rfl | rfl | rfl <;> decide
theorem hp_al43 {k : Nat} (h : k < 4) : hy_al (43 + k) = 12 := by
  rcases (show k = 0 ∨ k = 1 ∨ k = 2 ∨ k = 3 by omega) with rfl | rfl | rfl | rfl <;> decide
theorem hp_wl43 {k : Nat} (h : k < 4) : hy_wl (43 + k) = 12 := by
  rcases (show k = 0 ∨ k = 1 ∨ k = 2 ∨ k = 3 by omega) with rfl | rfl | rfl | rfl <;> decide
theorem hp_alc {c : Nat} (h : 2 ≤ c ∧ c ≤ 5) : hy_al c = 8 := by
  rcases (show c = 2 ∨ c = 3 ∨ c = 4 ∨ c = 5 by omega) with rfl | rfl | rfl | rfl <;> decide
theorem hp_wlc {c : Nat} (h : 2 ≤ c ∧ c ≤ 5) : hy_wl c = 8 := by
  rcases (show c = 2 ∨ c = 3 ∨ c = 4 ∨ c = 5 by omega) with rfl | rfl | rfl | rfl <;> decide
theorem hp_Wb {y : Nat → Nat → Nat} (h : hp_WF y) : y 0 0 ≤ 8 ∧ y 0 1 < 4 ∧ y 0 2 ≤ 1 ∧ (∀ t, t < 2 → y 8 t ≤ 8) ∧ (∀ l, l < 5 → y 17 l ≤ 8) ∧ (∀ t, t < 3 → y 9 t ≤ 24) := by
  obtain ⟨h1, h2, h3, h4, h5, h6, h7, h8, h9, h10, h11⟩ := h
  refine ⟨h1, h2, h3, fun t ht => ?_, fun l hl => ?_, h7⟩
  · rcases (show t = 0 ∨ t = 1 by omega) with rfl | rfl <;> omega
  · have : (if y 0 2 = 0 then 0 else y 0 0) ≤ 8 := by split <;> omega
    rcases (show l = 0 ∨ l = 1 ∨ l = 2 ∨ l = 3 ∨ l = 4 by omega) with rfl | rfl | rfl | rfl | rfl <;> omega
theorem hp_Xf {y : Nat → Nat → Nat} {pu : Int32} {D : hy_M} (hw : hp_WF y) (h : hp_CY 1 y pu D) : D 1 0 = nI (y 0 0) ∧ D 1 1 = nI (y 0 1) ∧ D 1 2 = nI (y 0 2) ∧ D 1 3 = hp_pu y pu ∧ (∀ j, j < 8 → D 2 j = nI (y 1 j)) ∧ (∀ j, j < 8 → D 3 j = nI (y 2 j)) ∧ (∀ j, j < 8 → D 4 j = nI (y 3 j)) ∧ (∀ j, j < 8 → D 5 j = nI (y 4 j)) ∧ (∀ t, t < 2 → ∀ j, j < 8 → D (7 + t) j = nI (y (6 + t) j)) ∧ (∀ t, t < 2 → D 9 t = nI (y 8 t)) ∧ (∀ t, t < 3 → D 10 t = nI (y 9 t)) ∧ (∀ l, l < 5 → ∀ j, j < y 17 l → D (13 + l) j = nI (y (12 + l) j)) ∧ (∀ l, l < 5 → D 18 l = nI (y 17 l)) := by
  have hb := (hp_Wb hw).2.2.2.2.1
  refine ⟨hp_yb h (i := 0) (by decide) (by omega), hp_yb h (i := 0) (by decide) (by omega), hp_yb h (i := 0) (by decide) (by omega), h.1, fun j hj => hp_yb h (i := 1) hj (by omega), fun j hj => hp_yb h (i := 2) hj (by omega), fun j hj => hp_yb h (i := 3) hj (by omega), fun j hj => hp_yb h (i := 4) hj (by omega), fun t ht j hj => ?_, fun j hj => hp_yb h (i := 8) hj (by omega), fun j hj => hp_yb h (i := 9) hj (by omega), fun l hl j hj => ?_, fun j hj => hp_yb h (i := 17) hj (by omega)⟩
  · rcases (show t = 0 ∨ t = 1 by omega) with rfl | rfl
    · exact hp_yb h (i := 6) hj (by omega)
    · exact hp_yb h (i := 7) hj (by omega)
  · have h8 : j < 8 := by have := hb l hl; omega
    rcases (show l = 0 ∨ l = 1 ∨ l = 2 ∨ l = 3 ∨ l = 4 by omega) with rfl | rfl | rfl | rfl | rfl
    · exact h.2 12 j ⟨h8, fun _ _ => hj⟩
    · exact h.2 13 j ⟨h8, fun _ _ => hj⟩
    · exact h.2 14 j ⟨h8, fun _ _ => hj⟩
    · exact h.2 15 j ⟨h8, fun _ _ => hj⟩
    · exact h.2 16 j ⟨h8, fun _ _ => hj⟩
theorem hp_Mf {c : Nat} {y : Nat → Nat → Nat} {pu : Int32} {D : hy_M} (hw : hp_WF y) (h : hp_MY c y pu D) : D c 0 = nI (y 0 0) ∧ D c 1 = nI (y 0 1) ∧ D c 2 = nI (y 0 2) ∧ D c 3 = hp_pu y pu ∧ (∀ j, j < 8 → D c (4 + j) = nI (y 1 j)) ∧ (∀ j, j < 8 → D c (12 + j) = nI (y 2 j)) ∧ (∀ j, j < 8 → D c (20 + j) = nI (y 3 j)) ∧ (∀ t, t < 2 → ∀ j, j < 8 → D c (30 + 8 * t + j) = nI (y (6 + t) j)) ∧ (∀ t, t < 2 → D c (28 + t) = nI (y 8 t)) ∧ (∀ t, t < 3 → D c (46 + t) = nI (y 9 t)) ∧ (∀ l, l < 3 → ∀ j, j < y 17 l → D c (70 + 8 * l + j) = nI (y (12 + l) j)) ∧ (∀ l, l < 2 → ∀ j, j < y 17 (3 + l) → D c (51 + 8 * l + j) = nI (y (12 + (3 + l)) j)) ∧ (∀ l, l < 3 → D c (67 + l) = nI (y 17 l)) ∧ (∀ l, l < 2 → D c (49 + l) = nI (y 17 (3 + l))) := by
  have hb := (hp_Wb hw).2.2.2.2.1
  refine ⟨hp_mb h (i := 0) (j := 0) (by decide) (by omega) (by omega), hp_mb h (i := 0) (j := 1) (by decide) (by omega) (by omega), hp_mb h (i := 0) (j := 2) (by decide) (by omega) (by omega), h.1, fun j hj => ?_, fun j hj => ?_, fun j hj => ?_, fun t ht j hj => ?_, fun t ht => ?_, fun t ht => ?_, fun l hl j hj => ?_, fun l hl j hj => ?_, fun l hl => ?_, fun l hl => ?_⟩
  · have e := hp_mb h (i := 1) (j := j) hj (by omega) (by omega)
    simpa [hp_pos] using e
  · have e := hp_mb h (i := 2) (j := j) hj (by omega) (by omega)
    simpa [hp_pos] using e
  · have e := hp_mb h (i := 3) (j := j) hj (by omega) (by omega)
    simpa [hp_pos] using e
  · rcases (show t = 0 ∨ t = 1 by omega) with rfl | rfl
    · have e := hp_mb h (i := 6) (j := j) hj (by omega) (by omega)
      simpa [hp_pos] using e
    · have e := hp_mb h (i := 7) (j := j) hj (by omega) (by omega)
      simpa [hp_pos] using e
  · rcases (show t = 0 ∨ t = 1 by omega) with rfl | rfl
    · exact hp_mb h (i := 8) (j := 0) (by decide) (by omega) (by omega)
    · exact hp_mb h (i := 8) (j := 1) (by decide) (by omega) (by omega)
  · have e := hp_mb h (i := 9) (j := t) ht (by omega) (by omega)
    simpa [hp_pos] using e
  · have h8 : j < 8 := by have := hb l (by omega); omega
    rcases (show l = 0 ∨ l = 1 ∨ l = 2 by omega) with rfl | rfl | rfl
    · have e := h.2 12 j ⟨h8, fun _ _ => hj⟩ (by omega)
      simpa [hp_pos] using e
    · have e := h.2 13 j ⟨h8, fun _ _ => hj⟩ (by omega)
      simpa [hp_pos] using e
    · have e := h.2 14 j ⟨h8, fun _ _ => hj⟩ (by omega)
      simpa [hp_pos] using e
  · have h8 : j < 8 := by have := hb (3 + l) (by omega); omega
    rcases (show l = 0 ∨ l = 1 by omega) with rfl | rfl
    · have e := h.2 15 j ⟨h8, fun _ _ => hj⟩ (by omega)
      simpa [hp_pos] using e
    · have e := h.2 16 j ⟨h8, fun _ _ => hj⟩ (by omega)
      simpa [hp_pos] using e
  · rcases (show l = 0 ∨ l = 1 ∨ l = 2 by omega) with rfl | rfl | rfl
    · exact hp_mb h (i := 17) (j := 0) (by decide) (by omega) (by omega)
    · exact hp_mb h (i := 17) (j := 1) (by decide) (by omega) (by omega)
    · exact hp_mb h (i := 17) (j := 2) (by decide) (by omega) (by omega)
  · rcases (show l = 0 ∨ l = 1 by omega) with rfl | rfl
    · exact hp_mb h (i := 17) (j := 3) (by decide) (by omega) (by omega)
    · exact hp_mb h (i := 17) (j := 4) (by decide) (by omega) (by omega)
/-! ===== count, wanted, out ===== -/
theorem hp_arg8 (a : Int32) : a = nI 0 ∨ a = nI 1 ∨ a = nI 2 ∨ a = nI 3 ∨ a = nI 4 ∨ a = nI 5 ∨ a = nI 6 ∨ a = nI 7 ∨ (a ≠ nI 0 ∧ a ≠ nI 1 ∧ a ≠ nI 2 ∧ a ≠ nI 3 ∧ a ≠ nI 4 ∧ a ≠ nI 5 ∧ a ≠ nI 6 ∧ a ≠ nI 7) := by
  by_cases h0 : a = nI 0
  · exact Or.inl h0
  · by_cases h1 : a = nI 1
    · exact Or.inr (Or.inl h1)
    · by_cases h2 : a = nI 2
      · exact Or.inr (Or.inr (Or.inl h2))
      · by_cases h3 : a = nI 3
        · exact Or.inr (Or.inr (Or.inr (Or.inl h3)))
        · by_cases h4 : a = nI 4
          · exact Or.inr (Or.inr (Or.inr (Or.inr (Or.inl h4))))
          · by_cases h5 : a = nI 5
            · exact Or.inr (Or.inr (Or.inr (Or.inr (Or.inr (Or.inl h5)))))
            · by_cases h6 : a = nI 6
              · exact Or.inr (Or.inr (Or.inr (Or.inr (Or.inr (Or.inr (Or.inl h6))))))
              · by_cases h7 : a = nI 7
                · exact Or.inr (Or.inr (Or.inr (Or.inr (Or.inr (Or.inr (Or.inr (Or.inl h7)))))))
                · exact Or.inr (Or.inr (Or.inr (Or.inr (Or.inr (Or.inr (Or.inr (Or.inr ⟨h0, h1, h2, h3, h4, h5, h6, h7⟩)))))))
theorem st_count (N : Nat) (hN : 10 ≤ N) (a : Int32) : hp_step (F_X8_count N a) (F_X9_count N a) := by
  rintro ⟨y, pu, yk, pk, fl, T, P, tp, pp, ls, lc⟩ ⟨hw, hw1⟩
  obtain ⟨b0, b1, b2, b8, b17, b9⟩ := hp_Wb hw
  obtain ⟨n, rfl⟩ : ∃ n, N = n + 10 := ⟨N - 10, by omega⟩
  rcases hp_arg8 a with rfl | rfl | rfl | rfl | rfl | rfl | rfl | rfl | ⟨h0, h1, h2, h3, h4, h5, h6, h7⟩
  · refine ⟨nI (y 0 0), _, ⟨hw, hw1⟩, hp_qx0 fun D hX => ?_, hp_qm0 fun D hR => ?_⟩
    · obtain ⟨x00, x01, x02, x03, x1, x2, x3, x4, x6, x8, x9, x12, x17⟩ := hp_Xf hw hX.1
      rw [F_X8_count_eq]
      simp (disch := omega) only [hp_kN, nI_add, pk_mul, hp_isInN, hp_m1L, hp_l0, hp_l1, hp_l2, hp_l3, hp_l4, hp_l5, hp_l7, hp_l8, hp_l10, hp_l17, hp_l20, hp_l24, hp_l48, hp_l50, hp_l55, hp_l127, hp_lm1, hp_eqN, hp_ltN, hp_inN, hp_cl, if_pos, if_neg, if_true, if_false, Option.bind_some, x00]
    · obtain ⟨m00, m01, m02, m03, m4, m12, m20, m30, m28, m46, m70, m51, m67, m49⟩ := hp_Mf hw hR.1
      rw [F_X9_count_eq]
      simp (disch := omega) only [hp_kN, nI_add, pk_mul, hp_isInN, hp_m1L, hp_l0, hp_l1, hp_l2, hp_l3, hp_l4, hp_l5, hp_l7, hp_l8, hp_l10, hp_l17, hp_l20, hp_l24, hp_l48, hp_l50, hp_l55, hp_l127, hp_lm1, hp_eqN, hp_ltN, hp_inN, hp_cl, if_pos, if_neg, if_true, if_false, Option.bind_some, m00]
  · refine ⟨nI (y 17 3 + y 17 4), _, ⟨hw, hw1⟩, hp_qx0 fun D hX => ?_, hp_qm0 fun D hR => ?_⟩
    · obtain ⟨x00, x01, x02, x03, x1, x2, x3, x4, x6, x8, x9, x12, x17⟩ := hp_Xf hw hX.1
      rw [F_X8_count_eq]
      simp (disch := omega) only [hp_kN, nI_add, pk_mul, hp_isInN, hp_m1L, hp_l0, hp_l1, hp_l2, hp_l3, hp_l4, hp_l5, hp_l7, hp_l8, hp_l10, hp_l17, hp_l20, hp_l24, hp_l48, hp_l50, hp_l55, hp_l127, hp_lm1, hp_eqN, hp_ltN, hp_inN, hp_cl, if_pos, if_neg, if_true, if_false, Option.bind_some, F_X2_countOut_eq, F_X2_outOf_eq, x17]
    · obtain ⟨m00, m01, m02, m03, m4, m12, m20, m30, m28, m46, m70, m51, m67, m49⟩ := hp_Mf hw hR.1
      rw [F_X9_count_eq]
      simp (disch := omega) only [hp_kN, nI_add, pk_mul, hp_isInN, hp_m1L, hp_l0, hp_l1, hp_l2, hp_l3, hp_l4, hp_l5, hp_l7, hp_l8, hp_l10, hp_l17, hp_l20, hp_l24, hp_l48, hp_l50, hp_l55, hp_l127, hp_lm1, hp_eqN, hp_ltN, hp_inN, hp_cl, if_pos, if_neg, if_true, if_false, Option.bind_some, F_X9_outs_eq, m49 0, m49 1]
  · refine ⟨nI (0 + y 17 0 + y 17 1 + y 17 2), _, ⟨hw, hw1⟩, hp_qx0 fun D hX => ?_, hp_qm0 fun D hR => ?_⟩
    · obtain ⟨x00, x01, x02, x03, x1, x2, x3, x4, x6, x8, x9, x12, x17⟩ := hp_Xf hw hX.1
      rw [F_X8_count_eq]
      simp (disch := omega) only [hp_kN, nI_add, pk_mul, hp_isInN, hp_m1L, hp_l0, hp_l1, hp_l2, hp_l3, hp_l4, hp_l5, hp_l7, hp_l8, hp_l10, hp_l17, hp_l20, hp_l24, hp_l48, hp_l50, hp_l55, hp_l127, hp_lm1, hp_eqN, hp_ltN, hp_inN, hp_cl, if_pos, if_neg, if_true, if_false, Option.bind_some, F_X2_countOnTracks_eq, F_X2_countOnTracks_4_eq, x17]
    · obtain ⟨m00, m01, m02, m03, m4, m12, m20, m30, m28, m46, m70, m51, m67, m49⟩ := hp_Mf hw hR.1
      rw [F_X9_count_eq]
      simp (disch := omega) only [hp_kN, nI_add, pk_mul, hp_isInN, hp_m1L, hp_l0, hp_l1, hp_l2, hp_l3, hp_l4, hp_l5, hp_l7, hp_l8, hp_l10, hp_l17, hp_l20, hp_l24, hp_l48, hp_l50, hp_l55, hp_l127, hp_lm1, hp_eqN, hp_ltN, hp_inN, hp_cl, if_pos, if_neg, if_true, if_false, Option.bind_some, F_X9_lying_eq, F_X9_lying_4_eq, m67]
  · refine ⟨nI T, _, ⟨hw, hw1⟩, hp_qx0 fun D hX => ?_, hp_qm0 fun D hR => ?_⟩
    · have hT : D 37 1 = nI T := hX.2.2.2.1
      rw [F_X8_count_eq]
      simp (disch := omega) only [hp_kN, nI_add, pk_mul, hp_isInN, hp_m1L, hp_l0, hp_l1, hp_l2, hp_l3, hp_l4, hp_l5, hp_l7, hp_l8, hp_l10, hp_l17, hp_l20, hp_l24, hp_l48, hp_l50, hp_l55, hp_l127, hp_lm1, hp_eqN, hp_ltN, hp_inN, hp_cl, if_pos, if_neg, if_true, if_false, Option.bind_some, hT]
    · have hT : D 67 5 = nI T := hR.2.2.2.1
      rw [F_X9_count_eq]
      simp (disch := omega) only [hp_kN, nI_add, pk_mul, hp_isInN, hp_m1L, hp_l0, hp_l1, hp_l2, hp_l3, hp_l4, hp_l5, hp_l7, hp_l8, hp_l10, hp_l17, hp_l20, hp_l24, hp_l48, hp_l50, hp_l55, hp_l127, hp_lm1, hp_eqN, hp_ltN, hp_inN, hp_cl, if_pos, if_neg, if_true, if_false, Option.bind_some, hT]
  · refine ⟨nI P, _, ⟨hw, hw1⟩, hp_qx0 fun D hX => ?_, hp_qm0 fun D hR => ?_⟩
    · have hT : D 39 1 = nI P := hX.2.2.2.2.2.1
      rw [F_X8_count_eq]
      simp (disch := omega) only [hp_kN, nI_add, pk_mul, hp_isInN, hp_m1L, hp_l0, hp_l1, hp_l2, hp_l3, hp_l4, hp_l5, hp_l7, hp_l8, hp_l10, hp_l17, hp_l20, hp_l24, hp_l48, hp_l50, hp_l55, hp_l127, hp_lm1, hp_eqN, hp_ltN, hp_inN, hp_cl, if_pos, if_neg, if_true, if_false, Option.bind_some, hT]
    · have hT : D 67 16 = nI P := hR.2.2.2.2.2.1
      rw [F_X9_count_eq]
      simp (disch := omega) only [hp_kN, nI_add, pk_mul, hp_isInN, hp_m1L, hp_l0, hp_l1, hp_l2, hp_l3, hp_l4, hp_l5, hp_l7, hp_l8, hp_l10, hp_l17, hp_l20, hp_l24, hp_l48, hp_l50, hp_l55, hp_l127, hp_lm1, hp_eqN, hp_ltN, hp_inN, hp_cl, if_pos, if_neg, if_true, if_false, Option.bind_some, hT]
  · refine ⟨nI (y 0 1), _, ⟨hw, hw1⟩, hp_qx0 fun D hX => ?_, hp_qm0 fun D hR => ?_⟩
    · obtain ⟨x00, x01, x02, x03, x1, x2, x3, x4, x6, x8, x9, x12, x17⟩ := hp_Xf hw hX.1
      rw [F_X8_count_eq]
      simp (disch := omega) only [hp_kN, nI_add, pk_mul, hp_isInN, hp_m1L, hp_l0, hp_l1, hp_l2, hp_l3, hp_l4, hp_l5, hp_l7, hp_l8, hp_l10, hp_l17, hp_l20, hp_l24, hp_l48, hp_l50, hp_l55, hp_l127, hp_lm1, hp_eqN, hp_ltN, hp_inN, hp_cl, if_pos, if_neg, if_true, if_false, Option.bind_some, x01]
    · obtain ⟨m00, m01, m02, m03, m4, m12, m20, m30, m28, m46, m70, m51, m67, m49⟩ := hp_Mf hw hR.1
      rw [F_X9_count_eq]
      simp (disch := omega) only [hp_kN, nI_add, pk_mul, hp_isInN, hp_m1L, hp_l0, hp_l1, hp_l2, hp_l3, hp_l4, hp_l5, hp_l7, hp_l8, hp_l10, hp_l17, hp_l20, hp_l24, hp_l48, hp_l50, hp_l55, hp_l127, hp_lm1, hp_eqN, hp_ltN, hp_inN, hp_cl, if_pos, if_neg, if_true, if_false, Option.bind_some, m01]
  · refine ⟨nI (y 0 2), _, ⟨hw, hw1⟩, hp_qx0 fun D hX => ?_, hp_qm0 fun D hR => ?_⟩
    · obtain ⟨x00, x01, x02, x03, x1, x2, x3, x4, x6, x8, x9, x12, x17⟩ := hp_Xf hw hX.1
      rw [F_X8_count_eq]
      by_cases c : y 0 2 = 0
      · simp (disch := omega) only [hp_kN, nI_add, pk_mul, hp_isInN, hp_m1L, hp_l0, hp_l1, hp_l2, hp_l3, hp_l4, hp_l5, hp_l7, hp_l8, hp_l10, hp_l17, hp_l20, hp_l24, hp_l48, hp_l50, hp_l55, hp_l127, hp_lm1, hp_eqN, hp_ltN, hp_inN, hp_cl, if_pos, if_neg, if_true, if_false, Option.bind_some, x02, c]
      · have c2 : y 0 2 = 1 := by omega
        simp (disch := omega) only [hp_kN, nI_add, pk_mul, hp_isInN, hp_m1L, hp_l0, hp_l1, hp_l2, hp_l3, hp_l4, hp_l5, hp_l7, hp_l8, hp_l10, hp_l17, hp_l20, hp_l24, hp_l48, hp_l50, hp_l55, hp_l127, hp_lm1, hp_eqN, hp_ltN, hp_inN, hp_cl, if_pos, if_neg, if_true, if_false, Option.bind_some, x02, c2]
    · obtain ⟨m00, m01, m02, m03, m4, m12, m20, m30, m28, m46, m70, m51, m67, m49⟩ := hp_Mf hw hR.1
      rw [F_X9_count_eq]
      simp (disch := omega) only [hp_kN, nI_add, pk_mul, hp_isInN, hp_m1L, hp_l0, hp_l1, hp_l2, hp_l3, hp_l4, hp_l5, hp_l7, hp_l8, hp_l10, hp_l17, hp_l20, hp_l24, hp_l48, hp_l50, hp_l55, hp_l127, hp_lm1, hp_eqN, hp_ltN, hp_inN, hp_cl, if_pos, if_neg, if_true, if_false, Option.bind_some, m02]
  · refine ⟨hp_pu y pu, _, ⟨hw, hw1⟩, hp_qx0 fun D hX => ?_, hp_qm0 fun D hR => ?_⟩
    · obtain ⟨x00, x01, x02, x03, x1, x2, x3, x4, x6, x8, x9, x12, x17⟩ := hp_Xf hw hX.1
      rw [F_X8_count_eq]
      simp (disch := omega) only [hp_kN, nI_add, pk_mul, hp_isInN, hp_m1L, hp_l0, hp_l1, hp_l2, hp_l3, hp_l4, hp_l5, hp_l7, hp_l8, hp_l10, hp_l17, hp_l20, hp_l24, hp_l48, hp_l50, hp_l55, hp_l127, hp_lm1, hp_eqN, hp_ltN, hp_inN, hp_cl, if_pos, if_neg, if_true, if_false, Option.bind_some, x03]
    · obtain ⟨m00, m01, m02, m03, m4, m12, m20, m30, m28, m46, m70, m51, m67, m49⟩ := hp_Mf hw hR.1
      rw [F_X9_count_eq]
      simp (disch := omega) only [hp_kN, nI_add, pk_mul, hp_isInN, hp_m1L, hp_l0, hp_l1, hp_l2, hp_l3, hp_l4, hp_l5, hp_l7, hp_l8, hp_l10, hp_l17, hp_l20, hp_l24, hp_l48, hp_l50, hp_l55, hp_l127, hp_lm1, hp_eqN, hp_ltN, hp_inN, hp_cl, if_pos, if_neg, if_true, if_false, Option.bind_some, m03]
  · refine ⟨-2, _, ⟨hw, hw1⟩, hp_qx0 fun D hX => ?_, hp_qm0 fun D hR => ?_⟩
    · rw [F_X8_count_eq]
      simp only [hp_kN, h0, h1, h2, h3, h4, h5, h6, h7, if_false]
    · rw [F_X9_count_eq]
      simp only [hp_kN, h0, h1, h2, h3, h4, h5, h6, h7, if_false]
theorem hp_nI_neg {k : Nat} (h : k < 2147483648) : nI k ≠ (-1 : Int32) := fun e => by
  have := hp_ti h
  rw [e] at this
  have e2 : (-1 : Int32).toInt = -1 := rfl
  omega
theorem hp_negI {a : Int32} (h : a.toInt < 0) (h2 : a ≠ -1) : a.toInt < -1 := by
  apply Classical.byContradiction
  intro q
  apply h2
  apply Int32.toInt_inj.mp
  have e2 : (-1 : Int32).toInt = -1 := rfl
  omega
theorem hp_isInn (N : Nat) {a : Int32} {P : Nat} (h : P < 1000000) (ha : a.toInt < 0) (h2 : a ≠ -1) (D : hy_M) : F_X9_isIn N a.toInt64 (-1) (nI P - nI 1).toInt64 D = some (nI 0, D) := by
  rw [hp_isInM N _ _ h, if_neg]
  have := hp_negI ha h2
  have e2 : (-1 : Int64).toInt = -1 := rfl
  omega
theorem hp_isIno (N : Nat) {P : Nat} (h : P < 1000000) (D : hy_M) : F_X9_isIn N (-nI 1 : Int32).toInt64 (-1) (nI P - nI 1).toInt64 D = some (nI 1, D) := by
  rw [hp_isInM N _ _ h, if_pos]
  have e2 : (-1 : Int64).toInt = -1 := rfl
  have e3 : (-nI 1 : Int32).toInt = -1 := rfl
  omega
theorem hp_n1 : (-nI 1 < nI 0) = True := by
  apply propext
  exact ⟨fun _ => trivial, fun _ => by decide⟩
theorem st_wanted (N : Nat) (a v : Int32) : hp_step (F_X8_wanted N a v) (F_X9_wanted N a v) := by
  rintro ⟨y, pu, yk, pk, fl, T, P, tp, pp, ls, lc⟩ ⟨hw, hw1⟩
  obtain ⟨b0, b1, b2, b8, b17, b9⟩ := hp_Wb hw
  rcases hp_arg a with ⟨a0, a1, a2⟩ | ⟨k, hk, rfl⟩
  · refine ⟨-1, _, ⟨hw, hw1⟩, hp_qx0 fun D hX => ?_, hp_qm0 fun D hR => ?_⟩
    · rw [F_X8_wanted_eq, hp_X_isTraing N a0]
      rfl
    · rw [F_X9_wanted_eq, hp_M_isTraing N a2]
      rfl
  · by_cases c : k < 2
    · have bk := b8 k c
      by_cases cm : v = -1
      · subst cm
        refine ⟨nI (y 8 k), _, ⟨hw, hw1⟩, hp_qx0 fun D hX => ?_, hp_qm0 fun D hR => ?_⟩
        · obtain ⟨x00, x01, x02, x03, x1, x2, x3, x4, x6, x8, x9, x12, x17⟩ := hp_Xf hw hX.1
          rw [F_X8_wanted_eq]
          simp (disch := omega) only [hp_kN, nI_add, pk_mul, hp_isInN, hp_m1L, hp_l0, hp_l1, hp_l2, hp_l3, hp_l4, hp_l5, hp_l7, hp_l8, hp_l10, hp_l17, hp_l20, hp_l24, hp_l48, hp_l50, hp_l55, hp_l127, hp_lm1, hp_eqN, hp_ltN, hp_inN, hp_cl, if_pos, if_neg, if_true, if_false, Option.bind_some, hp_X_isTrain, x8]
        · obtain ⟨m00, m01, m02, m03, m4, m12, m20, m30, m28, m46, m70, m51, m67, m49⟩ := hp_Mf hw hR.1
          rw [F_X9_wanted_eq]
          simp (disch := omega) only [hp_kN, nI_add, pk_mul, hp_isInN, hp_m1L, hp_l0, hp_l1, hp_l2, hp_l3, hp_l4, hp_l5, hp_l7, hp_l8, hp_l10, hp_l17, hp_l20, hp_l24, hp_l48, hp_l50, hp_l55, hp_l127, hp_lm1, hp_eqN, hp_ltN, hp_inN, hp_cl, if_pos, if_neg, if_true, if_false, Option.bind_some, hp_M_isTrain, m28, hp_isIno, hp_n1]
      · have cm2 : (v = -nI 1) = False := eq_false cm
        rcases hp_arg v with ⟨v0, v1, v2⟩ | ⟨u, hu, rfl⟩
        · refine ⟨-1, _, ⟨hw, hw1⟩, hp_qx0 fun D hX => ?_, hp_qm0 fun D hR => ?_⟩
          · obtain ⟨x00, x01, x02, x03, x1, x2, x3, x4, x6, x8, x9, x12, x17⟩ := hp_Xf hw hX.1
            rw [F_X8_wanted_eq]
            simp (disch := omega) only [hp_kN, nI_add, pk_mul, hp_isInN, hp_m1L, hp_l0, hp_l1, hp_l2, hp_l3, hp_l4, hp_l5, hp_l7, hp_l8, hp_l10, hp_l17, hp_l20, hp_l24, hp_l48, hp_l50, hp_l55, hp_l127, hp_lm1, hp_eqN, hp_ltN, hp_inN, hp_cl, if_pos, if_neg, if_true, if_false, Option.bind_some, hp_X_isTrain, cm2, v1]
          · obtain ⟨m00, m01, m02, m03, m4, m12, m20, m30, m28, m46, m70, m51, m67, m49⟩ := hp_Mf hw hR.1
            rw [F_X9_wanted_eq]
            simp (disch := omega) only [hp_kN, nI_add, pk_mul, hp_isInN, hp_m1L, hp_l0, hp_l1, hp_l2, hp_l3, hp_l4, hp_l5, hp_l7, hp_l8, hp_l10, hp_l17, hp_l20, hp_l24, hp_l48, hp_l50, hp_l55, hp_l127, hp_lm1, hp_eqN, hp_ltN, hp_inN, hp_cl, if_pos, if_neg, if_true, if_false, Option.bind_some, hp_M_isTrain, m28, hp_isInn N (P := y 8 k) (by omega) v2 cm]
        · by_cases c2 : u < y 8 k
          · refine ⟨nI (y (6 + k) u), _, ⟨hw, hw1⟩, hp_qx0 fun D hX => ?_, hp_qm0 fun D hR => ?_⟩
            · obtain ⟨x00, x01, x02, x03, x1, x2, x3, x4, x6, x8, x9, x12, x17⟩ := hp_Xf hw hX.1
              rw [F_X8_wanted_eq]
              simp (disch := omega) only [hp_kN, nI_add, pk_mul, hp_isInN, hp_m1L, hp_l0, hp_l1, hp_l2, hp_l3, hp_l4, hp_l5, hp_l7, hp_l8, hp_l10, hp_l17, hp_l20, hp_l24, hp_l48, hp_l50, hp_l55, hp_l127, hp_lm1, hp_eqN, hp_ltN, hp_inN, hp_cl, if_pos, if_neg, if_true, if_false, Option.bind_some, hp_X_isTrain, cm2, x8, F_X7_wantedAt_eq, hp_pr6, hp_al7, x6]
            · obtain ⟨m00, m01, m02, m03, m4, m12, m20, m30, m28, m46, m70, m51, m67, m49⟩ := hp_Mf hw hR.1
              rw [F_X9_wanted_eq]
              simp (disch := omega) only [hp_kN, nI_add, pk_mul, hp_isInN, hp_m1L, hp_l0, hp_l1, hp_l2, hp_l3, hp_l4, hp_l5, hp_l7, hp_l8, hp_l10, hp_l17, hp_l20, hp_l24, hp_l48, hp_l50, hp_l55, hp_l127, hp_lm1, hp_eqN, hp_ltN, hp_inN, hp_cl, if_pos, if_neg, if_true, if_false, Option.bind_some, hp_M_isTrain, m28, F_X9_wantedAt_eq, m30]
          · refine ⟨-1, _, ⟨hw, hw1⟩, hp_qx0 fun D hX => ?_, hp_qm0 fun D hR => ?_⟩
            · obtain ⟨x00, x01, x02, x03, x1, x2, x3, x4, x6, x8, x9, x12, x17⟩ := hp_Xf hw hX.1
              rw [F_X8_wanted_eq]
              simp (disch := omega) only [hp_kN, nI_add, pk_mul, hp_isInN, hp_m1L, hp_l0, hp_l1, hp_l2, hp_l3, hp_l4, hp_l5, hp_l7, hp_l8, hp_l10, hp_l17, hp_l20, hp_l24, hp_l48, hp_l50, hp_l55, hp_l127, hp_lm1, hp_eqN, hp_ltN, hp_inN, hp_cl, if_pos, if_neg, if_true, if_false, Option.bind_some, hp_X_isTrain, cm2, x8]
            · obtain ⟨m00, m01, m02, m03, m4, m12, m20, m30, m28, m46, m70, m51, m67, m49⟩ := hp_Mf hw hR.1
              rw [F_X9_wanted_eq]
              simp (disch := omega) only [hp_kN, nI_add, pk_mul, hp_isInN, hp_m1L, hp_l0, hp_l1, hp_l2, hp_l3, hp_l4, hp_l5, hp_l7, hp_l8, hp_l10, hp_l17, hp_l20, hp_l24, hp_l48, hp_l50, hp_l55, hp_l127, hp_lm1, hp_eqN, hp_ltN, hp_inN, hp_cl, if_pos, if_neg, if_true, if_false, Option.bind_some, hp_M_isTrain, m28]
    · refine ⟨-1, _, ⟨hw, hw1⟩, hp_qx0 fun D hX => ?_, hp_qm0 fun D hR => ?_⟩
      · rw [F_X8_wanted_eq]
        simp (disch := omega) only [hp_kN, nI_add, pk_mul, hp_isInN, hp_m1L, hp_l0, hp_l1, hp_l2, hp_l3, hp_l4, hp_l5, hp_l7, hp_l8, hp_l10, hp_l17, hp_l20, hp_l24, hp_l48, hp_l50, hp_l55, hp_l127, hp_lm1, hp_eqN, hp_ltN, hp_inN, hp_cl, if_pos, if_neg, if_true, if_false, Option.bind_some, hp_X_isTrain]
      · rw [F_X9_wanted_eq]
        simp (disch := omega) only [hp_kN, nI_add, pk_mul, hp_isInN, hp_m1L, hp_l0, hp_l1, hp_l2, hp_l3, hp_l4, hp_l5, hp_l7, hp_l8, hp_l10, hp_l17, hp_l20, hp_l24, hp_l48, hp_l50, hp_l55, hp_l127, hp_lm1, hp_eqN, hp_ltN, hp_inN, hp_cl, if_pos, if_neg, if_true, if_false, Option.bind_some, hp_M_isTrain]
theorem st_out (N : Nat) (a v : Int32) : hp_step (F_X8_out N a v) (F_X9_out N a v) := by
  rintro ⟨y, pu, yk, pk, fl, T, P, tp, pp, ls, lc⟩ ⟨hw, hw1⟩
  obtain ⟨b0, b1, b2, b8, b17, b9⟩ := hp_Wb hw
  rcases hp_arg a with ⟨a0, a1, a2⟩ | ⟨k, hk, rfl⟩
  · refine ⟨-1, _, ⟨hw, hw1⟩, hp_qx0 fun D hX => ?_, hp_qm0 fun D hR => ?_⟩
    · rw [F_X8_out_eq, hp_X_isTraing N a0]
      rfl
    · rw [F_X9_out_eq, hp_M_isTraing N a2]
      rfl
  · by_cases c : k < 2
    · have bk := b17 (3 + k) (by omega)
      by_cases cm : v = -1
      · subst cm
        refine ⟨nI (y 17 (3 + k)), _, ⟨hw, hw1⟩, hp_qx0 fun D hX => ?_, hp_qm0 fun D hR => ?_⟩
        · obtain ⟨x00, x01, x02, x03, x1, x2, x3, x4, x6, x8, x9, x12, x17⟩ := hp_Xf hw hX.1
          rw [F_X8_out_eq]
          simp (disch := omega) only [hp_kN, nI_add, pk_mul, hp_isInN, hp_m1L, hp_l0, hp_l1, hp_l2, hp_l3, hp_l4, hp_l5, hp_l7, hp_l8, hp_l10, hp_l17, hp_l20, hp_l24, hp_l48, hp_l50, hp_l55, hp_l127, hp_lm1, hp_eqN, hp_ltN, hp_inN, hp_cl, if_pos, if_neg, if_true, if_false, Option.bind_some, hp_X_isTrain, F_X2_outOf_eq, x17]
        · obtain ⟨m00, m01, m02, m03, m4, m12, m20, m30, m28, m46, m70, m51, m67, m49⟩ := hp_Mf hw hR.1
          rw [F_X9_out_eq]
          simp (disch := omega) only [hp_kN, nI_add, pk_mul, hp_isInN, hp_m1L, hp_l0, hp_l1, hp_l2, hp_l3, hp_l4, hp_l5, hp_l7, hp_l8, hp_l10, hp_l17, hp_l20, hp_l24, hp_l48, hp_l50, hp_l55, hp_l127, hp_lm1, hp_eqN, hp_ltN, hp_inN, hp_cl, if_pos, if_neg, if_true, if_false, Option.bind_some, hp_M_isTrain, m49, hp_isIno, hp_n1]
      · have cm2 : (v = -nI 1) = False := eq_false cm
        rcases hp_arg v with ⟨v0, v1, v2⟩ | ⟨u, hu, rfl⟩
        · refine ⟨-1, _, ⟨hw, hw1⟩, hp_qx0 fun D hX => ?_, hp_qm0 fun D hR => ?_⟩
          · obtain ⟨x00, x01, x02, x03, x1, x2, x3, x4, x6, x8, x9, x12, x17⟩ := hp_Xf hw hX.1
            rw [F_X8_out_eq]
            simp (disch := omega) only [hp_kN, nI_add, pk_mul, hp_isInN, hp_m1L, hp_l0, hp_l1, hp_l2, hp_l3, hp_l4, hp_l5, hp_l7, hp_l8, hp_l10, hp_l17, hp_l20, hp_l24, hp_l48, hp_l50, hp_l55, hp_l127, hp_lm1, hp_eqN, hp_ltN, hp_inN, hp_cl, if_pos, if_neg, if_true, if_false, Option.bind_some, hp_X_isTrain, F_X2_outOf_eq, F_X2_wagonAt_eq, cm2, v1]
          · obtain ⟨m00, m01, m02, m03, m4, m12, m20, m30, m28, m46, m70, m51, m67, m49⟩ := hp_Mf hw hR.1
            rw [F_X9_out_eq]
            simp (disch := omega) only [hp_kN, nI_add, pk_mul, hp_isInN, hp_m1L, hp_l0, hp_l1, hp_l2, hp_l3, hp_l4, hp_l5, hp_l7, hp_l8, hp_l10, hp_l17, hp_l20, hp_l24, hp_l48, hp_l50, hp_l55, hp_l127, hp_lm1, hp_eqN, hp_ltN, hp_inN, hp_cl, if_pos, if_neg, if_true, if_false, Option.bind_some, hp_M_isTrain, m49, hp_isInn N (P := y 17 (3 + k)) (by omega) v2 cm]
        · by_cases c2 : u < y 17 (3 + k)
          · refine ⟨nI (y (12 + (3 + k)) u), _, ⟨hw, hw1⟩, hp_qx0 fun D hX => ?_, hp_qm0 fun D hR => ?_⟩
            · obtain ⟨x00, x01, x02, x03, x1, x2, x3, x4, x6, x8, x9, x12, x17⟩ := hp_Xf hw hX.1
              rw [F_X8_out_eq]
              simp (disch := omega) only [hp_kN, nI_add, pk_mul, hp_isInN, hp_m1L, hp_l0, hp_l1, hp_l2, hp_l3, hp_l4, hp_l5, hp_l7, hp_l8, hp_l10, hp_l17, hp_l20, hp_l24, hp_l48, hp_l50, hp_l55, hp_l127, hp_lm1, hp_eqN, hp_ltN, hp_inN, hp_cl, if_pos, if_neg, if_true, if_false, Option.bind_some, hp_X_isTrain, F_X2_outOf_eq, F_X2_wagonAt_eq, cm2, x17, hp_pr12, hp_al13, x12]
            · obtain ⟨m00, m01, m02, m03, m4, m12, m20, m30, m28, m46, m70, m51, m67, m49⟩ := hp_Mf hw hR.1
              rw [F_X9_out_eq]
              simp (disch := omega) only [hp_kN, nI_add, pk_mul, hp_isInN, hp_m1L, hp_l0, hp_l1, hp_l2, hp_l3, hp_l4, hp_l5, hp_l7, hp_l8, hp_l10, hp_l17, hp_l20, hp_l24, hp_l48, hp_l50, hp_l55, hp_l127, hp_lm1, hp_eqN, hp_ltN, hp_inN, hp_cl, if_pos, if_neg, if_true, if_false, Option.bind_some, hp_M_isTrain, m49, m51]
          · refine ⟨-1, _, ⟨hw, hw1⟩, hp_qx0 fun D hX => ?_, hp_qm0 fun D hR => ?_⟩
            · obtain ⟨x00, x01, x02, x03, x1, x2, x3, x4, x6, x8, x9, x12, x17⟩ := hp_Xf hw hX.1
              rw [F_X8_out_eq]
              simp (disch := omega) only [hp_kN, nI_add, pk_mul, hp_isInN, hp_m1L, hp_l0, hp_l1, hp_l2, hp_l3, hp_l4, hp_l5, hp_l7, hp_l8, hp_l10, hp_l17, hp_l20, hp_l24, hp_l48, hp_l50, hp_l55, hp_l127, hp_lm1, hp_eqN, hp_ltN, hp_inN, hp_cl, if_pos, if_neg, if_true, if_false, Option.bind_some, hp_X_isTrain, F_X2_outOf_eq, F_X2_wagonAt_eq, cm2, x17]
            · obtain ⟨m00, m01, m02, m03, m4, m12, m20, m30, m28, m46, m70, m51, m67, m49⟩ := hp_Mf hw hR.1
              rw [F_X9_out_eq]
              simp (disch := omega) only [hp_kN, nI_add, pk_mul, hp_isInN, hp_m1L, hp_l0, hp_l1, hp_l2, hp_l3, hp_l4, hp_l5, hp_l7, hp_l8, hp_l10, hp_l17, hp_l20, hp_l24, hp_l48, hp_l50, hp_l55, hp_l127, hp_lm1, hp_eqN, hp_ltN, hp_inN, hp_cl, if_pos, if_neg, if_true, if_false, Option.bind_some, hp_M_isTrain, m49]
    · refine ⟨-1, _, ⟨hw, hw1⟩, hp_qx0 fun D hX => ?_, hp_qm0 fun D hR => ?_⟩
      · rw [F_X8_out_eq]
        simp (disch := omega) only [hp_kN, nI_add, pk_mul, hp_isInN, hp_m1L, hp_l0, hp_l1, hp_l2, hp_l3, hp_l4, hp_l5, hp_l7, hp_l8, hp_l10, hp_l17, hp_l20, hp_l24, hp_l48, hp_l50, hp_l55, hp_l127, hp_lm1, hp_eqN, hp_ltN, hp_inN, hp_cl, if_pos, if_neg, if_true, if_false, Option.bind_some, hp_X_isTrain]
      · rw [F_X9_out_eq]
        simp (disch := omega) only [hp_kN, nI_add, pk_mul, hp_isInN, hp_m1L, hp_l0, hp_l1, hp_l2, hp_l3, hp_l4, hp_l5, hp_l7, hp_l8, hp_l10, hp_l17, hp_l20, hp_l24, hp_l48, hp_l50, hp_l55, hp_l127, hp_lm1, hp_eqN, hp_ltN, hp_inN, hp_cl, if_pos, if_neg, if_true, if_false, Option.bind_some, hp_M_isTrain]
