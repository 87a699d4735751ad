/-! ===== paper, brand, clear ===== -/
theorem st_paper (N : Nat) (a : Int32) : hp_step (F_X8_paper N a) (F_X9_paper N a) := by
  rintro ⟨y, pu, yk, pk, fl, T, P, tp, pp, ls, lc⟩ ⟨hw, hw1⟩
  have hPle : P ≤ 71 := hw1.2.2.2.2.1
  rcases hp_arg a with ⟨a0, a1, a2⟩ | ⟨k, hk, rfl⟩
  · refine ⟨-1, _, ⟨hw, hw1⟩, hp_qx0 fun D hX => ?_, hp_qm0 fun D hR => ?_⟩
    · rw [F_X8_paper_eq, if_pos a0]
    · have hP2 : D 67 16 = nI P := hR.2.2.2.2.2.1
      rw [F_X9_paper_eq, hP2, hp_kN, hp_isIng N a2 0 _ (by decide)]
      rfl
  · by_cases c : k < P
    · refine ⟨nI (pp k), _, ⟨hw, hw1⟩, hp_qx0 fun D hX => ?_, hp_qm0 fun D hR => ?_⟩
      · have hP : D 39 1 = nI P := hX.2.2.2.2.2.1
        have h40 : ∀ j, j < P → D 40 j = nI (pp j) := hX.2.2.2.2.2.2.1
        rw [F_X8_paper_eq, hP]
        simp (disch := omega) only [hp_kN, hp_ltN, hp_inN, hp_cl, if_pos, if_neg, h40]
      · have hP2 : D 67 16 = nI P := hR.2.2.2.2.2.1
        have h77 : ∀ j, j < P → D 77 j = nI (pp j) := hR.2.2.2.2.2.2.1
        rw [F_X9_paper_eq, hP2]
        simp (disch := omega) only [hp_kN, nI_add, pk_mul, hp_isInN, hp_m1L, hp_l0, hp_l1, hp_l2, hp_l3, hp_l4, hp_l5, hp_l7, hp_l8, hp_l10, hp_l17, hp_l20, hp_l24, hp_l48, hp_l50, hp_l55, hp_l127, hp_lm1, hp_eqN, hp_ltN, hp_inN, hp_cl, if_pos, if_neg, if_true, if_false, Option.bind_some, h77]
    · refine ⟨-1, _, ⟨hw, hw1⟩, hp_qx0 fun D hX => ?_, hp_qm0 fun D hR => ?_⟩
      · have hP : D 39 1 = nI P := hX.2.2.2.2.2.1
        rw [F_X8_paper_eq, hP]
        simp (disch := omega) only [hp_kN, hp_ltN, hp_inN, hp_cl, if_pos, if_neg]
      · have hP2 : D 67 16 = nI P := hR.2.2.2.2.2.1
        rw [F_X9_paper_eq, hP2]
        simp (disch := omega) only [hp_kN, nI_add, pk_mul, hp_isInN, hp_m1L, hp_l0, hp_l1, hp_l2, hp_l3, hp_l4, hp_l5, hp_l7, hp_l8, hp_l10, hp_l17, hp_l20, hp_l24, hp_l48, hp_l50, hp_l55, hp_l127, hp_lm1, hp_eqN, hp_ltN, hp_inN, hp_cl, if_pos, if_neg, if_true, if_false, Option.bind_some]
/-- the class clears -/
theorem hp_clX (N : Nat) (hN : 10 ≤ N) (D : hy_M) : F_X7_becomeCleared N D = some (hy_w (hy_w (hy_w (hy_w (hy_w (hy_w (hy_w D 18 0 0) 18 1 0) 18 2 0) 18 3 0) 18 4 0) 1 2 0) 1 3 0) := by
  obtain ⟨n, rfl⟩ : ∃ n, N = n + 10 := ⟨N - 10, by omega⟩
  rw [F_X7_becomeCleared_eq, F_X2_empty_eq]
  simp (disch := omega) only [F_X2_empty_2_eq, hp_kN, nI_add, hp_ltN, hp_inN, hp_cl, if_pos, if_neg, Option.bind_some]
theorem hp_clM (N : Nat) (hN : 10 ≤ N) (D : hy_M) : F_X9_clears N D = some (hy_w (hy_w (hy_w (hy_w (hy_w (hy_w (hy_w D 68 2 0) 68 3 0) 68 49 0) 68 50 0) 68 67 0) 68 68 0) 68 69 0) := by
  obtain ⟨n, rfl⟩ : ∃ n, N = n + 10 := ⟨N - 10, by omega⟩
  rw [F_X9_clears_eq]
  simp (disch := omega) only [F_X9_clears_16_eq, F_X9_clears_39_eq, hp_kN, nI_add, hp_ltN, hp_inN, hp_cl, if_pos, if_neg, Option.bind_some]
def hp_clr (y : Nat → Nat → Nat) : Nat → Nat → Nat := fun i j => if i = 17 ∨ (i = 0 ∧ j = 2) then 0 else y i j
theorem hp_clr_dom {y : Nat → Nat → Nat} {i j : Nat} (h : hp_dom (hp_clr y) i j) : hp_dom y i j ∧ ¬ (12 ≤ i ∧ i ≤ 16) := by
  have h2 : ¬ (12 ≤ i ∧ i ≤ 16) := fun q => by
    have := h.2 q.1 q.2
    simp [hp_clr] at this
  exact ⟨⟨h.1, fun a b => absurd ⟨a, b⟩ h2⟩, h2⟩
theorem hp_clr_WF {y : Nat → Nat → Nat} (h : hp_WF y) : hp_WF (hp_clr y) := by
  obtain ⟨h1, h2, h3, h4, h5, h6, h7, h8, h9, h10, h11⟩ := h
  refine ⟨h1, h2, Nat.zero_le _, ?_, ?_, h6, h7, ?_, ?_, rfl, ?_⟩
  · intro w hw; exact h4 w hw
  · intro t ht j hj
    have e : hp_clr y (6 + t) j = y (6 + t) j := by unfold hp_clr; rw [if_neg (by omega)]
    rw [e]
    exact h5 t ht j hj
  · intro w hw
    have e0 : hp_clr y 0 0 = y 0 0 := rfl
    rw [e0] at hw
    have h8' := h8 w hw
    have ht : y 3 w < 2 := (h4 w (by omega)).2.2
    have e3 : hp_clr y 3 w = y 3 w := rfl
    have e4 : hp_clr y 4 w = y 4 w := rfl
    have e : hp_clr y (6 + y 3 w) (y 4 w) = y (6 + y 3 w) (y 4 w) := by
      unfold hp_clr
      rw [if_neg (by omega)]
    rw [e3, e4, e]
    exact h8'
  · intro t ht j hj
    have e : hp_clr y (6 + t) j = y (6 + t) j := by unfold hp_clr; rw [if_neg (by omega)]
    rw [e]
    exact h9 t ht j hj
  · intro l hl j hj
    simp [hp_clr] at hj
theorem hp_clr_C {y : Nat → Nat → Nat} {pu : Int32} {D : hy_M} (h : hp_CY 1 y pu D) : hp_CY 1 (hp_clr y) 0 (hy_w (hy_w (hy_w (hy_w (hy_w (hy_w (hy_w D 18 0 0) 18 1 0) 18 2 0) 18 3 0) 18 4 0) 1 2 0) 1 3 0) := by
  refine ⟨by simp [hp_w, hp_pu, hp_clr]; rfl, fun i j hd => ?_⟩
  obtain ⟨hd, hn⟩ := hp_clr_dom hd
  have hb := hp_ub_lt hd.1
  have h0 := h.2 i j hd
  by_cases e : i = 17
  · subst e
    have hj : j < 5 := hd.1
    have e2 : hp_clr y 17 j = 0 := by simp [hp_clr]
    rw [e2]
    rcases (show j = 0 ∨ j = 1 ∨ j = 2 ∨ j = 3 ∨ j = 4 by omega) with rfl | rfl | rfl | rfl | rfl <;> (simp [hp_w]; rfl)
  · by_cases e0 : i = 0
    · subst e0
      have hj : j < 3 := hd.1
      by_cases e2 : j = 2
      · subst e2
        simp [hp_w, hp_clr]
        rfl
      · have e3 : hp_clr y 0 j = y 0 j := by unfold hp_clr; rw [if_neg (by omega)]
        rw [e3, ← h0]
        rcases (show j = 0 ∨ j = 1 by omega) with rfl | rfl <;> simp [hp_w]
    · have e3 : hp_clr y i j = y i j := by unfold hp_clr; rw [if_neg (by omega)]
      rw [e3, ← h0]
      have e9 : ∀ D' : hy_M, D' (1 + i) = D (1 + i) → D' (1 + i) j = D (1 + i) j := fun D' q => by rw [q]
      apply e9
      simp (disch := omega) only [hy_w_ne]
theorem hp_clrA : ((List.range 18).all fun i => (List.range 8).all fun j => !(decide (j < hp_ub i)) || decide (i = 4) || decide (i = 17) || decide (i = 0 ∧ j = 2) || (decide (hp_pos i j ≠ 2) && decide (hp_pos i j ≠ 3) && decide (hp_pos i j ≠ 49) && decide (hp_pos i j ≠ 50) && decide (hp_pos i j ≠ 67) && decide (hp_pos i j ≠ 68) && decide (hp_pos i j ≠ 69))) = true := by decide +kernel
theorem hp_clrB {i j : Nat} (h1 : i < 18) (h2 : j < 8) : (!(decide (j < hp_ub i)) || decide (i = 4) || decide (i = 17) || decide (i = 0 ∧ j = 2) || (decide (hp_pos i j ≠ 2) && decide (hp_pos i j ≠ 3) && decide (hp_pos i j ≠ 49) && decide (hp_pos i j ≠ 50) && decide (hp_pos i j ≠ 67) && decide (hp_pos i j ≠ 68) && decide (hp_pos i j ≠ 69))) = true := List.all_eq_true.mp (List.all_eq_true.mp hp_clrA i (List.mem_range.mpr h1)) j (List.mem_range.mpr h2)
theorem hp_clr_M {c : Nat} {y : Nat → Nat → Nat} {pu : Int32} {D : hy_M} (h : hp_MY c y pu D) : hp_MY c (hp_clr y) 0 (hy_w (hy_w (hy_w (hy_w (hy_w (hy_w (hy_w D c 2 0) c 3 0) c 49 0) c 50 0) c 67 0) c 68 0) c 69 0) := by
  refine ⟨by simp [hp_w, hp_pu, hp_clr]; rfl, fun i j hd h4 => ?_⟩
  obtain ⟨hd, hn⟩ := hp_clr_dom hd
  have hb := hp_ub_lt hd.1
  have h0 := h.2 i j hd h4
  by_cases e : i = 17
  · subst e
    have hj : j < 5 := hd.1
    have e2 : hp_clr y 17 j = 0 := by simp [hp_clr]
    have e3 : hp_pos 17 j = if j < 3 then 67 + j else 46 + j := by simp [hp_pos]
    rw [e2, e3]
    rcases (show j = 0 ∨ j = 1 ∨ j = 2 ∨ j = 3 ∨ j = 4 by omega) with rfl | rfl | rfl | rfl | rfl <;> (simp [hp_w]; rfl)
  · have key := hp_clrB (i := i) (j := j) hb.1 hb.2
    simp only [Bool.or_eq_true, Bool.and_eq_true, Bool.not_eq_true', decide_eq_true_eq, decide_eq_false_iff_not] at key
    have hu := hd.1
    by_cases e2 : i = 0 ∧ j = 2
    · obtain ⟨rfl, rfl⟩ := e2
      simp [hp_w, hp_clr, hp_pos]
      rfl
    · have e3 : hp_clr y i j = y i j := by unfold hp_clr; rw [if_neg (by omega)]
      rw [e3, ← h0]
      simp (disch := omega) only [hp_wn]
theorem st_clear (N : Nat) (hN : 10 ≤ N) : hp_step (F_X8_clear N) (F_X9_clear N) := by
  rintro ⟨y, pu, yk, pk, fl, T, P, tp, pp, ls, lc⟩ ⟨hw, hw1⟩
  refine ⟨nI (y 17 3 + y 17 4), (hp_clr y, 0, yk, pk, fl, T, P, tp, pp, ls, lc), ⟨hp_clr_WF hw, hw1⟩, fun D hX => ?_, fun D hR => ?_⟩
  · have x3 : D 18 3 = nI (y 17 3) := hX.1.2 17 3 ⟨by decide, by omega⟩
    have x4 : D 18 4 = nI (y 17 4) := hX.1.2 17 4 ⟨by decide, by omega⟩
    refine ⟨_, ?_, ⟨hp_clr_C hX.1, hp_C1_fr hX.2 (fun c a => ?_)⟩, fun c a b => ?_⟩
    · rw [F_X8_clear_eq, F_X2_countOut_eq]
      simp (disch := omega) only [F_X2_outOf_eq, hp_kN, nI_add, hp_inN, hp_cl, if_pos, if_neg, Option.bind_some, x3, x4, hp_clX]
    · simp (disch := omega) only [hy_w_ne]
    · simp (disch := omega) only [hy_w_ne]
  · have m3 : D 68 49 = nI (y 17 3) := hR.1.2 17 3 ⟨by decide, by omega⟩ (by decide)
    have m4 : D 68 50 = nI (y 17 4) := hR.1.2 17 4 ⟨by decide, by omega⟩ (by decide)
    refine ⟨_, ?_, ⟨hp_clr_M hR.1, hp_M1_fr hR.2 (fun c a => ?_) (fun j a => ?_)⟩, fun c a => ?_⟩
    · rw [F_X9_clear_eq, F_X9_outs_eq]
      simp (disch := omega) only [Option.bind_some, hp_clM, m3, m4, nI_add]
    · simp (disch := omega) only [hy_w_ne]
    · simp (disch := omega) only [hy_w_ne]
    · simp (disch := omega) only [hy_w_ne]
theorem hp_yb {y : Nat → Nat → Nat} {pu : Int32} {D : hy_M} {b i j : Nat} (h : hp_CY b y pu D) (hd : j < hp_ub i) (hi : ¬ (12 ≤ i ∧ i ≤ 16)) : D (b + i) j = nI (y i j) := h.2 i j ⟨hd, fun a b => absurd ⟨a, b⟩ hi⟩
theorem hp_mb {y : Nat → Nat → Nat} {pu : Int32} {D : hy_M} {c i j : Nat} (h : hp_MY c y pu D) (hd : j < hp_ub i) (hi : ¬ (12 ≤ i ∧ i ≤ 16)) (h4 : i ≠ 4) : D c (hp_pos i j) = nI (y i j) := h.2 i j ⟨hd, fun a b => absurd ⟨a, b⟩ hi⟩ h4
/-- a change of one place of the yard that says nothing of trains -/
theorem hp_WF_w {y : Nat → Nat → Nat} {i j v : Nat} (h : hp_WF y) (hi : (i = 0 ∧ j = 1 ∧ v < 4) ∨ (i = 1 ∧ 1 ≤ v ∧ v ≤ 3) ∨ (i = 2 ∧ v < 8) ∨ (i = 9 ∧ v ≤ 24)) : hp_WF (hp_yw y i j v) := by
  obtain ⟨h1, h2, h3, h4, h5, h6, h7, h8, h9, h10, h11⟩ := h
  have n00 : hp_yw y i j v 0 0 = y 0 0 := hp_yw_n (by omega)
  have n02 : hp_yw y i j v 0 2 = y 0 2 := hp_yw_n (by omega)
  have n3 : ∀ w, hp_yw y i j v 3 w = y 3 w := fun w => hp_yw_n (by omega)
  have n4 : ∀ w, hp_yw y i j v 4 w = y 4 w := fun w => hp_yw_n (by omega)
  have n6 : ∀ t, t < 2 → ∀ w, hp_yw y i j v (6 + t) w = y (6 + t) w := fun t ht w => hp_yw_n (by omega)
  have n8 : ∀ w, hp_yw y i j v 8 w = y 8 w := fun w => hp_yw_n (by omega)
  have n12 : ∀ l w, hp_yw y i j v (12 + l) w = y (12 + l) w := fun l w => hp_yw_n (by omega)
  have n17 : ∀ w, hp_yw y i j v 17 w = y 17 w := fun w => hp_yw_n (by omega)
  have c1 : ∀ w, hp_yw y i j v 1 w = y 1 w ∨ (1 ≤ hp_yw y i j v 1 w ∧ hp_yw y i j v 1 w ≤ 3) := fun w => by
    unfold hp_yw
    split <;> omega
  have c2 : ∀ w, hp_yw y i j v 2 w = y 2 w ∨ hp_yw y i j v 2 w < 8 := fun w => by
    unfold hp_yw
    split <;> omega
  have c9 : ∀ w, hp_yw y i j v 9 w = y 9 w ∨ hp_yw y i j v 9 w ≤ 24 := fun w => by
    unfold hp_yw
    split <;> omega
  have c0 : hp_yw y i j v 0 1 = y 0 1 ∨ hp_yw y i j v 0 1 < 4 := by
    unfold hp_yw
    split <;> omega
  refine ⟨by rw [n00]; exact h1, by omega, by rw [n02]; exact h3, fun w hw => ?_, fun t ht w hw => by rw [n6 t ht]; exact h5 t ht w hw, by rw [n8, n8, n00]; exact h6, fun t ht => ?_, fun w hw => ?_, fun t ht w hw => ?_, by rw [n17, n17, n17, n17, n17, n02, n00]; exact h10, fun l hl w hw => ?_⟩
  · have := h4 w hw
    have a1 := c1 w
    have a2 := c2 w
    rw [n3]
    omega
  · have := h7 t ht
    have := c9 t
    omega
  · rw [n00] at hw
    have h8' := h8 w hw
    have a1 := c1 w
    have ht : y 3 w < 2 := (h4 w (by omega)).2.2
    rw [n3, n4, n8, n6 _ ht]
    exact ⟨by omega, h8'.2⟩
  · rw [n8] at hw
    rw [n6 t ht, n00, n3, n4]
    exact h9 t ht w hw
  · rw [n17] at hw
    rw [n12, n00, n3]
    exact h11 l hl w hw
theorem st_brand (N : Nat) (a : Int32) : hp_step (F_X8_brand N a) (F_X9_brand N a) := by
  rintro ⟨y, pu, yk, pk, fl, T, P, tp, pp, ls, lc⟩ ⟨hw, hw1⟩
  rcases hp_arg a with ⟨a0, a1, a2⟩ | ⟨k, hk, rfl⟩
  · refine ⟨-1, _, ⟨hw, hw1⟩, hp_qx0 fun D hX => ?_, hp_qm0 fun D hR => ?_⟩
    · rw [F_X8_brand_eq, if_pos a0]
    · rw [F_X9_brand_eq, hp_isIng N a2 0 _ (by decide)]
      rfl
  · by_cases c : k < 4
    · refine ⟨nI (y 0 1), (hp_yw y 0 1 k, pu, yk, pk, fl, T, P, tp, pp, ls, lc), ⟨hp_WF_w hw (by omega), hw1⟩, fun D hX => ?_, fun D hR => ?_⟩
      · have x1 : D 1 1 = nI (y 0 1) := hp_yb hX.1 (i := 0) (by decide) (by omega)
        refine ⟨hy_w D 1 1 (nI k), ?_, ⟨hp_CY_w 0 1 k hX.1 (by omega) (by decide), hp_C1_fr hX.2 (fun c a => ?_)⟩, fun c a b => ?_⟩
        · rw [F_X8_brand_eq]
          simp (disch := omega) only [hp_kN, nI_add, pk_mul, hp_isInN, hp_m1L, hp_l0, hp_l1, hp_l2, hp_l3, hp_l4, hp_l5, hp_l7, hp_l8, hp_l10, hp_l17, hp_l20, hp_l24, hp_l48, hp_l50, hp_l55, hp_l127, hp_lm1, hp_eqN, hp_ltN, hp_inN, hp_cl, if_pos, if_neg, if_true, if_false, Option.bind_some, x1]
        · simp (disch := omega) only [hy_w_ne]
        · simp (disch := omega) only [hy_w_ne]
      · have x1 : D 68 1 = nI (y 0 1) := hp_mb hR.1 (i := 0) (j := 1) (by decide) (by omega) (by omega)
        refine ⟨hy_w D 68 1 (nI k), ?_, ⟨hp_MY_w 0 1 k hR.1 (by omega) (by omega) (by decide), hp_M1_fr hR.2 (fun c a => ?_) (fun j a => ?_)⟩, fun c a => ?_⟩
        · rw [F_X9_brand_eq]
          simp (disch := omega) only [hp_kN, nI_add, pk_mul, hp_isInN, hp_m1L, hp_l0, hp_l1, hp_l2, hp_l3, hp_l4, hp_l5, hp_l7, hp_l8, hp_l10, hp_l17, hp_l20, hp_l24, hp_l48, hp_l50, hp_l55, hp_l127, hp_lm1, hp_eqN, hp_ltN, hp_inN, hp_cl, if_pos, if_neg, if_true, if_false, Option.bind_some, x1]
        · simp (disch := omega) only [hy_w_ne]
        · simp (disch := omega) only [hy_w_ne]
        · simp (disch := omega) only [hy_w_ne]
    · refine ⟨-1, _, ⟨hw, hw1⟩, hp_qx0 fun D hX => ?_, hp_qm0 fun D hR => ?_⟩
      · rw [F_X8_brand_eq]
        simp (disch := omega) only [hp_kN, nI_add, pk_mul, hp_isInN, hp_m1L, hp_l0, hp_l1, hp_l2, hp_l3, hp_l4, hp_l5, hp_l7, hp_l8, hp_l10, hp_l17, hp_l20, hp_l24, hp_l48, hp_l50, hp_l55, hp_l127, hp_lm1, hp_eqN, hp_ltN, hp_inN, hp_cl, if_pos, if_neg, if_true, if_false, Option.bind_some]
      · rw [F_X9_brand_eq]
        simp (disch := omega) only [hp_kN, nI_add, pk_mul, hp_isInN, hp_m1L, hp_l0, hp_l1, hp_l2, hp_l3, hp_l4, hp_l5, hp_l7, hp_l8, hp_l10, hp_l17, hp_l20, hp_l24, hp_l48, hp_l50, hp_l55, hp_l127, hp_lm1, hp_eqN, hp_ltN, hp_inN, hp_cl, if_pos, if_neg, if_true, if_false, Option.bind_some]
theorem hp_X_isTrack (N : Nat) {k : Nat} (hk : k < 2147483648) (D : hy_M) : F_X8_isTrack N (nI k) D = some (if k < 3 then nI 1 else nI 0, D) := by
  rw [F_X8_isTrack_eq]
  by_cases c : k < 3
  · simp (disch := omega) only [hp_kN, nI_add, pk_mul, hp_isInN, hp_m1L, hp_l0, hp_l1, hp_l2, hp_l3, hp_l4, hp_l5, hp_l7, hp_l8, hp_l10, hp_l17, hp_l20, hp_l24, hp_l48, hp_l50, hp_l55, hp_l127, hp_lm1, hp_eqN, hp_ltN, hp_inN, hp_cl, if_pos, if_neg, if_true, if_false, Option.bind_some]
  · simp (disch := omega) only [hp_kN, nI_add, pk_mul, hp_isInN, hp_m1L, hp_l0, hp_l1, hp_l2, hp_l3, hp_l4, hp_l5, hp_l7, hp_l8, hp_l10, hp_l17, hp_l20, hp_l24, hp_l48, hp_l50, hp_l55, hp_l127, hp_lm1, hp_eqN, hp_ltN, hp_inN, hp_cl, if_pos, if_neg, if_true, if_false, Option.bind_some]
theorem hp_M_isTrack (N : Nat) {k : Nat} (hk : k < 2147483648) (D : hy_M) : F_X9_isTrack N (nI k) D = some (if k < 3 then nI 1 else nI 0, D) := by
  rw [F_X9_isTrack_eq]
  by_cases c : k < 3
  · simp (disch := omega) only [hp_kN, nI_add, pk_mul, hp_isInN, hp_m1L, hp_l0, hp_l1, hp_l2, hp_l3, hp_l4, hp_l5, hp_l7, hp_l8, hp_l10, hp_l17, hp_l20, hp_l24, hp_l48, hp_l50, hp_l55, hp_l127, hp_lm1, hp_eqN, hp_ltN, hp_inN, hp_cl, if_pos, if_neg, if_true, if_false, Option.bind_some]
    simp
  · simp (disch := omega) only [hp_kN, nI_add, pk_mul, hp_isInN, hp_m1L, hp_l0, hp_l1, hp_l2, hp_l3, hp_l4, hp_l5, hp_l7, hp_l8, hp_l10, hp_l17, hp_l20, hp_l24, hp_l48, hp_l50, hp_l55, hp_l127, hp_lm1, hp_eqN, hp_ltN, hp_inN, hp_cl, if_pos, if_neg, if_true, if_false, Option.bind_some]
    simp
theorem hp_X_isTrain (N : Nat) {k : Nat} (hk : k < 2147483648) (D : hy_M) : F_X8_isTrain N (nI k) D = some (if k < 2 then nI 1 else nI 0, D) := by
  rw [F_X8_isTrain_eq]
  by_cases c : k < 2
  · simp (disch := omega) only [hp_kN, nI_add, pk_mul, hp_isInN, hp_m1L, hp_l0, hp_l1, hp_l2, hp_l3, hp_l4, hp_l5, hp_l7, hp_l8, hp_l10, hp_l17, hp_l20, hp_l24, hp_l48, hp_l50, hp_l55, hp_l127, hp_lm1, hp_eqN, hp_ltN, hp_inN, hp_cl, if_pos, if_neg, if_true, if_false, Option.bind_some]
  · simp (disch := omega) only [hp_kN, nI_add, pk_mul, hp_isInN, hp_m1L, hp_l0, hp_l1, hp_l2, hp_l3, hp_l4, hp_l5, hp_l7, hp_l8, hp_l10, hp_l17, hp_l20, hp_l24, hp_l48, hp_l50, hp_l55, hp_l127, hp_lm1, hp_eqN, hp_ltN, hp_inN, hp_cl, if_pos, if_neg, if_true, if_false, Option.bind_some]
theorem hp_M_isTrain (N : Nat) {k : Nat} (hk : k < 2147483648) (D : hy_M) : F_X9_isTrain N (nI k) D = some (if k < 2 then nI 1 else nI 0, D) := by
  rw [F_X9_isTrain_eq]
  by_cases c : k < 2
  · simp (disch := omega) only [hp_kN, nI_add, pk_mul, hp_isInN, hp_m1L, hp_l0, hp_l1, hp_l2, hp_l3, hp_l4, hp_l5, hp_l7, hp_l8, hp_l10, hp_l17, hp_l20, hp_l24, hp_l48, hp_l50, hp_l55, hp_l127, hp_lm1, hp_eqN, hp_ltN, hp_inN, hp_cl, if_pos, if_neg, if_true, if_false, Option.bind_some]
    simp
  · simp (disch := omega) only [hp_kN, nI_add, pk_mul, hp_isInN, hp_m1L, hp_l0, hp_l1, hp_l2, hp_l3, hp_l4, hp_l5, hp_l7, hp_l8, hp_l10, hp_l17, hp_l20, hp_l24, hp_l48, hp_l50, hp_l55, hp_l127, hp_lm1, hp_eqN, hp_ltN, hp_inN, hp_cl, if_pos, if_neg, if_true, if_false, Option.bind_some]
    simp
theorem hp_X_isTrackg (N : Nat) {a : Int32} (h : a < 0) (D : hy_M) : F_X8_isTrack N a D = some (nI 0, D) := by
  rw [F_X8_isTrack_eq, if_pos h]
  rfl
theorem hp_X_isTraing (N : Nat) {a : Int32} (h : a < 0) (D : hy_M) : F_X8_isTrain N a D = some (nI 0, D) := by
  rw [F_X8_isTrain_eq, if_pos h]
  rfl
theorem hp_M_isTrackg (N : Nat) {a : Int32} (h : a.toInt < 0) (D : hy_M) : F_X9_isTrack N a D = some (nI 0, D) := by
  rw [F_X9_isTrack_eq, hp_isIng N h 0 _ (by decide)]
  rfl
theorem hp_M_isTraing (N : Nat) {a : Int32} (h : a.toInt < 0) (D : hy_M) : F_X9_isTrain N a D = some (nI 0, D) := by
  rw [F_X9_isTrain_eq, hp_isIng N h 0 _ (by decide)]
  rfl
theorem hp_X_hasWagon (N : Nat) {k n : Nat} (hk : k < 2147483648) (hn : n ≤ 8) (D : hy_M) (hD : D 1 0 = nI n) : F_X7_hasWagon N (nI k) D = some (if k < n then nI 1 else nI 0, D) := by
  rw [F_X7_hasWagon_eq, hD]
  by_cases c : k < n
  · simp (disch := omega) only [hp_kN, nI_add, pk_mul, hp_isInN, hp_m1L, hp_l0, hp_l1, hp_l2, hp_l3, hp_l4, hp_l5, hp_l7, hp_l8, hp_l10, hp_l17, hp_l20, hp_l24, hp_l48, hp_l50, hp_l55, hp_l127, hp_lm1, hp_eqN, hp_ltN, hp_inN, hp_cl, if_pos, if_neg, if_true, if_false, Option.bind_some]
  · simp (disch := omega) only [hp_kN, nI_add, pk_mul, hp_isInN, hp_m1L, hp_l0, hp_l1, hp_l2, hp_l3, hp_l4, hp_l5, hp_l7, hp_l8, hp_l10, hp_l17, hp_l20, hp_l24, hp_l48, hp_l50, hp_l55, hp_l127, hp_lm1, hp_eqN, hp_ltN, hp_inN, hp_cl, if_pos, if_neg, if_true, if_false, Option.bind_some]
theorem hp_X_hasWagong (N : Nat) {a : Int32} (h : a < 0) (D : hy_M) : F_X7_hasWagon N a D = some (nI 0, D) := by
  rw [F_X7_hasWagon_eq, if_pos h]
  rfl
theorem hp_M_isWagon (N : Nat) {k n : Nat} (hk : k < 2147483648) (hn : n ≤ 8) (D : hy_M) (hD : D 68 0 = nI n) : F_X9_isWagon N (nI k) D = some (if k < n then nI 1 else nI 0, D) := by
  rw [F_X9_isWagon_eq, hD]
  by_cases c : k < n
  · simp (disch := omega) only [hp_kN, nI_add, pk_mul, hp_isInN, hp_m1L, hp_l0, hp_l1, hp_l2, hp_l3, hp_l4, hp_l5, hp_l7, hp_l8, hp_l10, hp_l17, hp_l20, hp_l24, hp_l48, hp_l50, hp_l55, hp_l127, hp_lm1, hp_eqN, hp_ltN, hp_inN, hp_cl, if_pos, if_neg, if_true, if_false, Option.bind_some]
    simp
  · simp (disch := omega) only [hp_kN, nI_add, pk_mul, hp_isInN, hp_m1L, hp_l0, hp_l1, hp_l2, hp_l3, hp_l4, hp_l5, hp_l7, hp_l8, hp_l10, hp_l17, hp_l20, hp_l24, hp_l48, hp_l50, hp_l55, hp_l127, hp_lm1, hp_eqN, hp_ltN, hp_inN, hp_cl, if_pos, if_neg, if_true, if_false, Option.bind_some]
    simp
theorem hp_M_isWagong (N : Nat) {a : Int32} (h : a.toInt < 0) (D : hy_M) : F_X9_isWagon N a D = some (nI 0, D) := by
  rw [F_X9_isWagon_eq, hp_isIng N h 0 _ (by decide)]
  rfl
theorem st_room (N : Nat) (a v : Int32) : hp_step (F_X8_room N a v) (F_X9_room N a v) := by
  rintro ⟨y, pu, yk, pk, fl, T, P, tp, pp, ls, lc⟩ ⟨hw, hw1⟩
  have hu : y 0 2 ≤ 1 := hw.2.2.1
  rcases hp_arg a with ⟨a0, a1, a2⟩ | ⟨k, hk, rfl⟩
  · refine ⟨-1, _, ⟨hw, hw1⟩, hp_qx0 fun D hX => ?_, hp_qm0 fun D hR => ?_⟩
    · rw [F_X8_room_eq, hp_X_isTrackg N a0]
      rfl
    · rw [F_X9_room_eq, hp_M_isTrackg N a2]
      rfl
  · by_cases c : k < 3
    · rcases hp_arg v with ⟨v0, v1, v2⟩ | ⟨u, hu2, rfl⟩
      · refine ⟨-2, _, ⟨hw, hw1⟩, hp_qx0 fun D hX => ?_, hp_qm0 fun D hR => ?_⟩
        · rw [F_X8_room_eq]
          simp (disch := omega) only [hp_kN, nI_add, pk_mul, hp_isInN, hp_m1L, hp_l0, hp_l1, hp_l2, hp_l3, hp_l4, hp_l5, hp_l7, hp_l8, hp_l10, hp_l17, hp_l20, hp_l24, hp_l48, hp_l50, hp_l55, hp_l127, hp_lm1, hp_eqN, hp_ltN, hp_inN, hp_cl, if_pos, if_neg, if_true, if_false, Option.bind_some, hp_X_isTrack, v1]
        · rw [F_X9_room_eq]
          simp (disch := omega) only [hp_kN, nI_add, pk_mul, hp_isInN, hp_m1L, hp_l0, hp_l1, hp_l2, hp_l3, hp_l4, hp_l5, hp_l7, hp_l8, hp_l10, hp_l17, hp_l20, hp_l24, hp_l48, hp_l50, hp_l55, hp_l127, hp_lm1, hp_eqN, hp_ltN, hp_inN, hp_cl, if_pos, if_neg, if_true, if_false, Option.bind_some, hp_M_isTrack, hp_isIng N v2 0 _ (by decide)]
      · by_cases c2 : u ≤ 24
        · by_cases c3 : y 0 2 = 0
          · refine ⟨nI (y 9 k), (hp_yw y 9 k u, pu, yk, pk, fl, T, P, tp, pp, ls, lc), ⟨hp_WF_w hw (by omega), hw1⟩, fun D hX => ?_, fun D hR => ?_⟩
            · have x2 : D 1 2 = nI (y 0 2) := hp_yb hX.1 (i := 0) (by decide) (by omega)
              have x9 : D 10 k = nI (y 9 k) := hp_yb hX.1 (i := 9) c (by omega)
              refine ⟨hy_w D 10 k (nI u), ?_, ⟨hp_CY_w 9 k u hX.1 (by omega) c, hp_C1_fr hX.2 (fun c a => ?_)⟩, fun c a b => ?_⟩
              · rw [F_X8_room_eq]
                simp (disch := omega) only [hp_kN, nI_add, pk_mul, hp_isInN, hp_m1L, hp_l0, hp_l1, hp_l2, hp_l3, hp_l4, hp_l5, hp_l7, hp_l8, hp_l10, hp_l17, hp_l20, hp_l24, hp_l48, hp_l50, hp_l55, hp_l127, hp_lm1, hp_eqN, hp_ltN, hp_inN, hp_cl, if_pos, if_neg, if_true, if_false, Option.bind_some, hp_X_isTrack, x2, c3, x9]
              · simp (disch := omega) only [hy_w_ne]
              · simp (disch := omega) only [hy_w_ne]
            · have x2 : D 68 2 = nI (y 0 2) := hp_mb hR.1 (i := 0) (j := 2) (by decide) (by omega) (by omega)
              have e9 : hp_pos 9 k = 46 + k := by simp [hp_pos]
              have x9 : D 68 (46 + k) = nI (y 9 k) := by rw [← e9]; exact hp_mb hR.1 (i := 9) c (by omega) (by omega)
              refine ⟨hy_w D 68 (46 + k) (nI u), ?_, ⟨by rw [← e9]; exact hp_MY_w 9 k u hR.1 (by omega) (by omega) c, hp_M1_fr hR.2 (fun c a => ?_) (fun j a => ?_)⟩, fun c a => ?_⟩
              · rw [F_X9_room_eq]
                simp (disch := omega) only [hp_kN, nI_add, pk_mul, hp_isInN, hp_m1L, hp_l0, hp_l1, hp_l2, hp_l3, hp_l4, hp_l5, hp_l7, hp_l8, hp_l10, hp_l17, hp_l20, hp_l24, hp_l48, hp_l50, hp_l55, hp_l127, hp_lm1, hp_eqN, hp_ltN, hp_inN, hp_cl, if_pos, if_neg, if_true, if_false, Option.bind_some, hp_M_isTrack, x2, c3, x9]
              · simp (disch := omega) only [hy_w_ne]
              · simp (disch := omega) only [hy_w_ne]
              · simp (disch := omega) only [hy_w_ne]
          · refine ⟨-3, _, ⟨hw, hw1⟩, hp_qx0 fun D hX => ?_, hp_qm0 fun D hR => ?_⟩
            · have x2 : D 1 2 = nI (y 0 2) := hp_yb hX.1 (i := 0) (by decide) (by omega)
              rw [F_X8_room_eq]
              simp (disch := omega) only [hp_kN, nI_add, pk_mul, hp_isInN, hp_m1L, hp_l0, hp_l1, hp_l2, hp_l3, hp_l4, hp_l5, hp_l7, hp_l8, hp_l10, hp_l17, hp_l20, hp_l24, hp_l48, hp_l50, hp_l55, hp_l127, hp_lm1, hp_eqN, hp_ltN, hp_inN, hp_cl, if_pos, if_neg, if_true, if_false, Option.bind_some, hp_X_isTrack, x2]
            · have x2 : D 68 2 = nI (y 0 2) := hp_mb hR.1 (i := 0) (j := 2) (by decide) (by omega) (by omega)
              rw [F_X9_room_eq]
              simp (disch := omega) only [hp_kN, nI_add, pk_mul, hp_isInN, hp_m1L, hp_l0, hp_l1, hp_l2, hp_l3, hp_l4, hp_l5, hp_l7, hp_l8, hp_l10, hp_l17, hp_l20, hp_l24, hp_l48, hp_l50, hp_l55, hp_l127, hp_lm1, hp_eqN, hp_ltN, hp_inN, hp_cl, if_pos, if_neg, if_true, if_false, Option.bind_some, hp_M_isTrack, x2]
        · refine ⟨-2, _, ⟨hw, hw1⟩, hp_qx0 fun D hX => ?_, hp_qm0 fun D hR => ?_⟩
          · rw [F_X8_room_eq]
            simp (disch := omega) only [hp_kN, nI_add, pk_mul, hp_isInN, hp_m1L, hp_l0, hp_l1, hp_l2, hp_l3, hp_l4, hp_l5, hp_l7, hp_l8, hp_l10, hp_l17, hp_l20, hp_l24, hp_l48, hp_l50, hp_l55, hp_l127, hp_lm1, hp_eqN, hp_ltN, hp_inN, hp_cl, if_pos, if_neg, if_true, if_false, Option.bind_some, hp_X_isTrack]
          · rw [F_X9_room_eq]
            simp (disch := omega) only [hp_kN, nI_add, pk_mul, hp_isInN, hp_m1L, hp_l0, hp_l1, hp_l2, hp_l3, hp_l4, hp_l5, hp_l7, hp_l8, hp_l10, hp_l17, hp_l20, hp_l24, hp_l48, hp_l50, hp_l55, hp_l127, hp_lm1, hp_eqN, hp_ltN, hp_inN, hp_cl, if_pos, if_neg, if_true, if_false, Option.bind_some, hp_M_isTrack]
    · refine ⟨-1, _, ⟨hw, hw1⟩, hp_qx0 fun D hX => ?_, hp_qm0 fun D hR => ?_⟩
      · rw [F_X8_room_eq]
        simp (disch := omega) only [hp_kN, nI_add, pk_mul, hp_isInN, hp_m1L, hp_l0, hp_l1, hp_l2, hp_l3, hp_l4, hp_l5, hp_l7, hp_l8, hp_l10, hp_l17, hp_l20, hp_l24, hp_l48, hp_l50, hp_l55, hp_l127, hp_lm1, hp_eqN, hp_ltN, hp_inN, hp_cl, if_pos, if_neg, if_true, if_false, Option.bind_some, hp_X_isTrack]
      · rw [F_X9_room_eq]
        simp (disch := omega) only [hp_kN, nI_add, pk_mul, hp_isInN, hp_m1L, hp_l0, hp_l1, hp_l2, hp_l3, hp_l4, hp_l5, hp_l7, hp_l8, hp_l10, hp_l17, hp_l20, hp_l24, hp_l48, hp_l50, hp_l55, hp_l127, hp_lm1, hp_eqN, hp_ltN, hp_inN, hp_cl, if_pos, if_neg, if_true, if_false, Option.bind_some, hp_M_isTrack]
