/-! ===== the image: copies ===== -/
theorem hp_cp0 (D : hy_M) (a b n j : Nat) : hy_cp D a b 0 0 n b j = if j < n then D a j else D b j := by
  unfold hy_cp
  rw [if_pos rfl]
  unfold va_cpy
  by_cases h : j < n
  · simp [h]
  · simp [h]
theorem hp_cpn {D : hy_M} {a b s d n c : Nat} (h : c ≠ b) : hy_cp D a b s d n c = D c := by
  unfold hy_cp
  rw [if_neg h]
theorem hp_rng {n k : Nat} (h : n ≤ k) (hk : 1 ≤ k) (hk2 : k ≤ 1000) : hy_rng (nI 0) (nI n) k = true := by
  unfold hy_rng
  have h1 : ¬ nI n < 0 := nI_pos (by omega)
  have h0 : ¬ nI 0 < 0 := nI_pos (by omega)
  rw [hp_cl (show n < 2147483648 by omega), hp_cl (show 0 < 2147483648 by omega)]
  simp only [decide_eq_false h1, decide_eq_false h0, Bool.not_false, Bool.true_and, Nat.ble_eq, Bool.and_eq_true]
  omega
theorem hp_lb_29_11_s (N n : Nat) {i : Nat} {D : hy_M} (cnt : Nat → Nat) (hi : i < 5) (hc : D 18 i = nI (cnt i)) (hle : cnt i ≤ 8) : F_X2_become_29_11_2 N (n + 1) (nI i) D = F_X2_become_29_11_2 N n (nI (i + 1)) (hy_cp (hy_w D 36 i (nI (cnt i))) (13 + i) (31 + i) 0 0 (cnt i)) := by
  rw [F_X2_become_29_11_2_eq]
  simp (disch := omega) only [hp_kN, nI_add, pk_mul, hp_isInN, hp_m1L, hp_l0, hp_l1, hp_l2, hp_l3, hp_l4, hp_l5, hp_l7, hp_l8, hp_l10, hp_l17, hp_l20, hp_l24, hp_l48, hp_l50, hp_l55, hp_l127, hp_lm1, hp_eqN, hp_ltN, hp_inN, hp_cl, if_pos, if_neg, if_true, if_false, Option.bind_some, hp_ws, hc, hp_pr12, hp_pr30, hp_wl13, hp_wl31, hp_rng, and_self]
theorem hp_lb_29_11_l (N : Nat) (cnt : Nat → Nat) (D0 : hy_M) (hc : ∀ l, l < 5 → D0 18 l = nI (cnt l)) (hle : ∀ l, l < 5 → cnt l ≤ 8) : ∀ m i n D, i + m = 5 → m < n → (∀ l, l < i → D 36 l = nI (cnt l)) → (∀ l, l < i → ∀ j, j < cnt l → D (31 + l) j = D0 (13 + l) j) → (∀ c, ¬ (31 ≤ c ∧ c < 36) → c ≠ 36 → D c = D0 c) → ∃ D1, F_X2_become_29_11_2 N n (nI i) D = some D1 ∧ (∀ l, l < 5 → D1 36 l = nI (cnt l)) ∧ (∀ l, l < 5 → ∀ j, j < cnt l → D1 (31 + l) j = D0 (13 + l) j) ∧ (∀ c, ¬ (31 ≤ c ∧ c < 36) → c ≠ 36 → D1 c = D0 c) := by
  intro m
  induction m with
  | zero =>
    intro i n D e hn h1 h2 h3
    obtain ⟨n, rfl⟩ : ∃ n', n = n' + 1 := ⟨n - 1, by omega⟩
    have e : i = 5 := by omega
    subst e
    refine ⟨D, ?_, h1, h2, h3⟩
    rw [F_X2_become_29_11_2_eq]
    simp (disch := omega) only [hp_kN, nI_add, pk_mul, hp_isInN, hp_m1L, hp_l0, hp_l1, hp_l2, hp_l3, hp_l4, hp_l5, hp_l7, hp_l8, hp_l10, hp_l17, hp_l20, hp_l24, hp_l48, hp_l50, hp_l55, hp_l127, hp_lm1, hp_eqN, hp_ltN, hp_inN, hp_cl, if_pos, if_neg, if_true, if_false, Option.bind_some]
  | succ m ih =>
    intro i n D e hn h1 h2 h3
    obtain ⟨n, rfl⟩ : ∃ n', n = n' + 1 := ⟨n - 1, by omega⟩
    have hD : D 18 i = nI (cnt i) := by
      rw [h3 18 (by omega) (by omega)]
      exact hc i (by omega)
    rw [hp_lb_29_11_s N n cnt (by omega) hD (hle i (by omega))]
    refine ih (i + 1) n _ (by omega) (by omega) (fun l hl => ?_) (fun l hl j hj => ?_) (fun c a b => ?_)
    · rw [hp_cpn (by omega)]
      by_cases q : l = i
      · subst q
        rw [hp_ws]
      · rw [hp_wn (Or.inr q)]
        exact h1 l (by omega)
    · by_cases q : l = i
      · subst q
        rw [hp_cp0, if_pos hj, hp_wn (Or.inl (by omega)), h3 (13 + l) (by omega) (by omega)]
      · rw [hp_cpn (by omega), hp_wn (Or.inl (by omega))]
        exact h2 l (by omega) j hj
    · rw [hp_cpn (by omega), hy_w_ne b]
      exact h3 c a b
theorem hp_lb_29_11 (N : Nat) (hN : 10 ≤ N) (cnt : Nat → Nat) (D : hy_M) (hc : ∀ l, l < 5 → D 18 l = nI (cnt l)) (hle : ∀ l, l < 5 → cnt l ≤ 8) : ∃ D1, F_X2_become_29_11 N D = some D1 ∧ (∀ l, l < 5 → D1 36 l = nI (cnt l)) ∧ (∀ l, l < 5 → ∀ j, j < cnt l → D1 (31 + l) j = D (13 + l) j) ∧ (∀ c, ¬ (31 ≤ c ∧ c < 36) → c ≠ 36 → D1 c = D c) := by
  rw [F_X2_become_29_11_eq]
  exact hp_lb_29_11_l N cnt D hc hle 5 0 N D rfl (by omega) (fun l hl => absurd hl (by omega)) (fun l hl => absurd hl (by omega)) (fun c _ _ => rfl)
theorem hp_lb_11_29_s (N n : Nat) {i : Nat} {D : hy_M} (cnt : Nat → Nat) (hi : i < 5) (hc : D 36 i = nI (cnt i)) (hle : cnt i ≤ 8) : F_X2_become_11_29_2 N (n + 1) (nI i) D = F_X2_become_11_29_2 N n (nI (i + 1)) (hy_cp (hy_w D 18 i (nI (cnt i))) (31 + i) (13 + i) 0 0 (cnt i)) := by
  rw [F_X2_become_11_29_2_eq]
  simp (disch := omega) only [hp_kN, nI_add, pk_mul, hp_isInN, hp_m1L, hp_l0, hp_l1, hp_l2, hp_l3, hp_l4, hp_l5, hp_l7, hp_l8, hp_l10, hp_l17, hp_l20, hp_l24, hp_l48, hp_l50, hp_l55, hp_l127, hp_lm1, hp_eqN, hp_ltN, hp_inN, hp_cl, if_pos, if_neg, if_true, if_false, Option.bind_some, hp_ws, hc, hp_pr30, hp_pr12, hp_wl31, hp_wl13, hp_rng, and_self]
theorem hp_lb_11_29_l (N : Nat) (cnt : Nat → Nat) (D0 : hy_M) (hc : ∀ l, l < 5 → D0 36 l = nI (cnt l)) (hle : ∀ l, l < 5 → cnt l ≤ 8) : ∀ m i n D, i + m = 5 → m < n → (∀ l, l < i → D 18 l = nI (cnt l)) → (∀ l, l < i → ∀ j, j < cnt l → D (13 + l) j = D0 (31 + l) j) → (∀ c, ¬ (13 ≤ c ∧ c < 18) → c ≠ 18 → D c = D0 c) → ∃ D1, F_X2_become_11_29_2 N n (nI i) D = some D1 ∧ (∀ l, l < 5 → D1 18 l = nI (cnt l)) ∧ (∀ l, l < 5 → ∀ j, j < cnt l → D1 (13 + l) j = D0 (31 + l) j) ∧ (∀ c, ¬ (13 ≤ c ∧ c < 18) → c ≠ 18 → D1 c = D0 c) := by
  intro m
  induction m with
  | zero =>
    intro i n D e hn h1 h2 h3
    obtain ⟨n, rfl⟩ : ∃ n', n = n' + 1 := ⟨n - 1, by omega⟩
    have e : i = 5 := by omega
    subst e
    refine ⟨D, ?_, h1, h2, h3⟩
    rw [F_X2_become_11_29_2_eq]
    simp (disch := omega) only [hp_kN, nI_add, pk_mul, hp_isInN, hp_m1L, hp_l0, hp_l1, hp_l2, hp_l3, hp_l4, hp_l5, hp_l7, hp_l8, hp_l10, hp_l17, hp_l20, hp_l24, hp_l48, hp_l50, hp_l55, hp_l127, hp_lm1, hp_eqN, hp_ltN, hp_inN, hp_cl, if_pos, if_neg, if_true, if_false, Option.bind_some]
  | succ m ih =>
    intro i n D e hn h1 h2 h3
    obtain ⟨n, rfl⟩ : ∃ n', n = n' + 1 := ⟨n - 1, by omega⟩
    have hD : D 36 i = nI (cnt i) := by
      rw [h3 36 (by omega) (by omega)]
      exact hc i (by omega)
    rw [hp_lb_11_29_s N n cnt (by omega) hD (hle i (by omega))]
    refine ih (i + 1) n _ (by omega) (by omega) (fun l hl => ?_) (fun l hl j hj => ?_) (fun c a b => ?_)
    · rw [hp_cpn (by omega)]
      by_cases q : l = i
      · subst q
        rw [hp_ws]
      · rw [hp_wn (Or.inr q)]
        exact h1 l (by omega)
    · by_cases q : l = i
      · subst q
        rw [hp_cp0, if_pos hj, hp_wn (Or.inl (by omega)), h3 (31 + l) (by omega) (by omega)]
      · rw [hp_cpn (by omega), hp_wn (Or.inl (by omega))]
        exact h2 l (by omega) j hj
    · rw [hp_cpn (by omega), hy_w_ne b]
      exact h3 c a b
theorem hp_lb_11_29 (N : Nat) (hN : 10 ≤ N) (cnt : Nat → Nat) (D : hy_M) (hc : ∀ l, l < 5 → D 36 l = nI (cnt l)) (hle : ∀ l, l < 5 → cnt l ≤ 8) : ∃ D1, F_X2_become_11_29 N D = some D1 ∧ (∀ l, l < 5 → D1 18 l = nI (cnt l)) ∧ (∀ l, l < 5 → ∀ j, j < cnt l → D1 (13 + l) j = D (31 + l) j) ∧ (∀ c, ¬ (13 ≤ c ∧ c < 18) → c ≠ 18 → D1 c = D c) := by
  rw [F_X2_become_11_29_eq]
  exact hp_lb_11_29_l N cnt D hc hle 5 0 N D rfl (by omega) (fun l hl => absurd hl (by omega)) (fun l hl => absurd hl (by omega)) (fun c _ _ => rfl)
theorem hp_lb_58_11_s (N n : Nat) {i : Nat} {D : hy_M} (cnt : Nat → Nat) (hi : i < 5) (hc : D 18 i = nI (cnt i)) (hle : cnt i ≤ 8) : F_X2_become_58_11_2 N (n + 1) (nI i) D = F_X2_become_58_11_2 N n (nI (i + 1)) (hy_cp (hy_w D 65 i (nI (cnt i))) (13 + i) (60 + i) 0 0 (cnt i)) := by
  rw [F_X2_become_58_11_2_eq]
  simp (disch := omega) only [hp_kN, nI_add, pk_mul, hp_isInN, hp_m1L, hp_l0, hp_l1, hp_l2, hp_l3, hp_l4, hp_l5, hp_l7, hp_l8, hp_l10, hp_l17, hp_l20, hp_l24, hp_l48, hp_l50, hp_l55, hp_l127, hp_lm1, hp_eqN, hp_ltN, hp_inN, hp_cl, if_pos, if_neg, if_true, if_false, Option.bind_some, hp_ws, hc, hp_pr12, hp_pr59, hp_wl13, hp_wl60, hp_rng, and_self]
theorem hp_lb_58_11_l (N : Nat) (cnt : Nat → Nat) (D0 : hy_M) (hc : ∀ l, l < 5 → D0 18 l = nI (cnt l)) (hle : ∀ l, l < 5 → cnt l ≤ 8) : ∀ m i n D, i + m = 5 → m < n → (∀ l, l < i → D 65 l = nI (cnt l)) → (∀ l, l < i → ∀ j, j < cnt l → D (60 + l) j = D0 (13 + l) j) → (∀ c, ¬ (60 ≤ c ∧ c < 65) → c ≠ 65 → D c = D0 c) → ∃ D1, F_X2_become_58_11_2 N n (nI i) D = some D1 ∧ (∀ l, l < 5 → D1 65 l = nI (cnt l)) ∧ (∀ l, l < 5 → ∀ j, j < cnt l → D1 (60 + l) j = D0 (13 + l) j) ∧ (∀ c, ¬ (60 ≤ c ∧ c < 65) → c ≠ 65 → D1 c = D0 c) := by
  intro m
  induction m with
  | zero =>
    intro i n D e hn h1 h2 h3
    obtain ⟨n, rfl⟩ : ∃ n', n = n' + 1 := ⟨n - 1, by omega⟩
    have e : i = 5 := by omega
    subst e
    refine ⟨D, ?_, h1, h2, h3⟩
    rw [F_X2_become_58_11_2_eq]
    simp (disch := omega) only [hp_kN, nI_add, pk_mul, hp_isInN, hp_m1L, hp_l0, hp_l1, hp_l2, hp_l3, hp_l4, hp_l5, hp_l7, hp_l8, hp_l10, hp_l17, hp_l20, hp_l24, hp_l48, hp_l50, hp_l55, hp_l127, hp_lm1, hp_eqN, hp_ltN, hp_inN, hp_cl, if_pos, if_neg, if_true, if_false, Option.bind_some]
  | succ m ih =>
    intro i n D e hn h1 h2 h3
    obtain ⟨n, rfl⟩ : ∃ n', n = n' + 1 := ⟨n - 1, by omega⟩
    have hD : D 18 i = nI (cnt i) := by
      rw [h3 18 (by omega) (by omega)]
      exact hc i (by omega)
    rw [hp_lb_58_11_s N n cnt (by omega) hD (hle i (by omega))]
    refine ih (i + 1) n _ (by omega) (by omega) (fun l hl => ?_) (fun l hl j hj => ?_) (fun c a b => ?_)
    · rw [hp_cpn (by omega)]
      by_cases q : l = i
      · subst q
        rw [hp_ws]
      · rw [hp_wn (Or.inr q)]
        exact h1 l (by omega)
    · by_cases q : l = i
      · subst q
        rw [hp_cp0, if_pos hj, hp_wn (Or.inl (by omega)), h3 (13 + l) (by omega) (by omega)]
      · rw [hp_cpn (by omega), hp_wn (Or.inl (by omega))]
        exact h2 l (by omega) j hj
    · rw [hp_cpn (by omega), hy_w_ne b]
      exact h3 c a b
theorem hp_lb_58_11 (N : Nat) (hN : 10 ≤ N) (cnt : Nat → Nat) (D : hy_M) (hc : ∀ l, l < 5 → D 18 l = nI (cnt l)) (hle : ∀ l, l < 5 → cnt l ≤ 8) : ∃ D1, F_X2_become_58_11 N D = some D1 ∧ (∀ l, l < 5 → D1 65 l = nI (cnt l)) ∧ (∀ l, l < 5 → ∀ j, j < cnt l → D1 (60 + l) j = D (13 + l) j) ∧ (∀ c, ¬ (60 ≤ c ∧ c < 65) → c ≠ 65 → D1 c = D c) := by
  rw [F_X2_become_58_11_eq]
  exact hp_lb_58_11_l N cnt D hc hle 5 0 N D rfl (by omega) (fun l hl => absurd hl (by omega)) (fun l hl => absurd hl (by omega)) (fun c _ _ => rfl)
theorem hp_lb_s (N n : Nat) {i : Nat} {D : hy_M} (cnt : Nat → Nat) (hi : i < 5) (hc : D 65 i = nI (cnt i)) (hle : cnt i ≤ 8) : F_X2_become_2 N (n + 1) (nI i) D = F_X2_become_2 N n (nI (i + 1)) (hy_cp (hy_w D 18 i (nI (cnt i))) (60 + i) (13 + i) 0 0 (cnt i)) := by
  rw [F_X2_become_2_eq]
  simp (disch := omega) only [hp_kN, nI_add, pk_mul, hp_isInN, hp_m1L, hp_l0, hp_l1, hp_l2, hp_l3, hp_l4, hp_l5, hp_l7, hp_l8, hp_l10, hp_l17, hp_l20, hp_l24, hp_l48, hp_l50, hp_l55, hp_l127, hp_lm1, hp_eqN, hp_ltN, hp_inN, hp_cl, if_pos, if_neg, if_true, if_false, Option.bind_some, hp_ws, hc, hp_pr59, hp_pr12, hp_wl60, hp_wl13, hp_rng, and_self]
theorem hp_lb_l (N : Nat) (cnt : Nat → Nat) (D0 : hy_M) (hc : ∀ l, l < 5 → D0 65 l = nI (cnt l)) (hle : ∀ l, l < 5 → cnt l ≤ 8) : ∀ m i n D, i + m = 5 → m < n → (∀ l, l < i → D 18 l = nI (cnt l)) → (∀ l, l < i → ∀ j, j < cnt l → D (13 + l) j = D0 (60 + l) j) → (∀ c, ¬ (13 ≤ c ∧ c < 18) → c ≠ 18 → D c = D0 c) → ∃ D1, F_X2_become_2 N n (nI i) D = some D1 ∧ (∀ l, l < 5 → D1 18 l = nI (cnt l)) ∧ (∀ l, l < 5 → ∀ j, j < cnt l → D1 (13 + l) j = D0 (60 + l) j) ∧ (∀ c, ¬ (13 ≤ c ∧ c < 18) → c ≠ 18 → D1 c = D0 c) := by
  intro m
  induction m with
  | zero =>
    intro i n D e hn h1 h2 h3
    obtain ⟨n, rfl⟩ : ∃ n', n = n' + 1 := ⟨n - 1, by omega⟩
    have e : i = 5 := by omega
    subst e
    refine ⟨D, ?_, h1, h2, h3⟩
    rw [F_X2_become_2_eq]
    simp (disch := omega) only [hp_kN, nI_add, pk_mul, hp_isInN, hp_m1L, hp_l0, hp_l1, hp_l2, hp_l3, hp_l4, hp_l5, hp_l7, hp_l8, hp_l10, hp_l17, hp_l20, hp_l24, hp_l48, hp_l50, hp_l55, hp_l127, hp_lm1, hp_eqN, hp_ltN, hp_inN, hp_cl, if_pos, if_neg, if_true, if_false, Option.bind_some]
  | succ m ih =>
    intro i n D e hn h1 h2 h3
    obtain ⟨n, rfl⟩ : ∃ n', n = n' + 1 := ⟨n - 1, by omega⟩
    have hD : D 65 i = nI (cnt i) := by
      rw [h3 65 (by omega) (by omega)]
      exact hc i (by omega)
    rw [hp_lb_s N n cnt (by omega) hD (hle i (by omega))]
    refine ih (i + 1) n _ (by omega) (by omega) (fun l hl => ?_) (fun l hl j hj => ?_) (fun c a b => ?_)
    · rw [hp_cpn (by omega)]
      by_cases q : l = i
      · subst q
        rw [hp_ws]
      · rw [hp_wn (Or.inr q)]
        exact h1 l (by omega)
    · by_cases q : l = i
      · subst q
        rw [hp_cp0, if_pos hj, hp_wn (Or.inl (by omega)), h3 (60 + l) (by omega) (by omega)]
      · rw [hp_cpn (by omega), hp_wn (Or.inl (by omega))]
        exact h2 l (by omega) j hj
    · rw [hp_cpn (by omega), hy_w_ne b]
      exact h3 c a b
theorem hp_lb (N : Nat) (hN : 10 ≤ N) (cnt : Nat → Nat) (D : hy_M) (hc : ∀ l, l < 5 → D 65 l = nI (cnt l)) (hle : ∀ l, l < 5 → cnt l ≤ 8) : ∃ D1, F_X2_become N D = some D1 ∧ (∀ l, l < 5 → D1 18 l = nI (cnt l)) ∧ (∀ l, l < 5 → ∀ j, j < cnt l → D1 (13 + l) j = D (60 + l) j) ∧ (∀ c, ¬ (13 ≤ c ∧ c < 18) → c ≠ 18 → D1 c = D c) := by
  rw [F_X2_become_eq]
  exact hp_lb_l N cnt D hc hle 5 0 N D rfl (by omega) (fun l hl => absurd hl (by omega)) (fun l hl => absurd hl (by omega)) (fun c _ _ => rfl)
theorem hp_mc_67_68_69_l (N : Nat) (D0 : hy_M) : ∀ m i n D, i + m = 94 → m < n → (∀ j, j < i → D 69 j = D0 68 j) → (∀ c, c ≠ 69 → D c = D0 c) → ∃ D1, F_X9_copies_67_68_69_2 N n (nI i) D = some D1 ∧ (∀ j, j < 94 → D1 69 j = D0 68 j) ∧ (∀ c, c ≠ 69 → D1 c = D0 c) := by
  intro m
  induction m with
  | zero =>
    intro i n D e hn h1 h2
    obtain ⟨n, rfl⟩ : ∃ n', n = n' + 1 := ⟨n - 1, by omega⟩
    have e : i = 94 := by omega
    subst e
    refine ⟨D, ?_, h1, h2⟩
    rw [F_X9_copies_67_68_69_2_eq]
    simp (disch := omega) only [hp_kN, nI_add, pk_mul, hp_isInN, hp_m1L, hp_l0, hp_l1, hp_l2, hp_l3, hp_l4, hp_l5, hp_l7, hp_l8, hp_l10, hp_l17, hp_l20, hp_l24, hp_l48, hp_l50, hp_l55, hp_l127, hp_lm1, hp_eqN, hp_ltN, hp_inN, hp_cl, if_pos, if_neg, if_true, if_false, Option.bind_some]
  | succ m ih =>
    intro i n D e hn h1 h2
    obtain ⟨n, rfl⟩ : ∃ n', n = n' + 1 := ⟨n - 1, by omega⟩
    have e2 : F_X9_copies_67_68_69_2 N (n + 1) (nI i) D = F_X9_copies_67_68_69_2 N n (nI (i + 1)) (hy_w D 69 i (D 68 i)) := by
      rw [F_X9_copies_67_68_69_2_eq]
      simp (disch := omega) only [hp_kN, nI_add, pk_mul, hp_isInN, hp_m1L, hp_l0, hp_l1, hp_l2, hp_l3, hp_l4, hp_l5, hp_l7, hp_l8, hp_l10, hp_l17, hp_l20, hp_l24, hp_l48, hp_l50, hp_l55, hp_l127, hp_lm1, hp_eqN, hp_ltN, hp_inN, hp_cl, if_pos, if_neg, if_true, if_false, Option.bind_some]
    rw [e2]
    refine ih (i + 1) n _ (by omega) (by omega) (fun j hj => ?_) (fun c a => ?_)
    · by_cases q : j = i
      · subst q
        rw [hp_ws, h2 68 (by omega)]
      · rw [hp_wn (Or.inr q)]
        exact h1 j (by omega)
    · rw [hy_w_ne a]
      exact h2 c a
theorem hp_mc_67_68_69 (N : Nat) (hN : 100 ≤ N) (D : hy_M) : ∃ D1, F_X9_copies_67_68_69 N D = some D1 ∧ (∀ j, j < 94 → D1 69 j = D 68 j) ∧ (∀ c, c ≠ 69 → D1 c = D c) := by
  rw [F_X9_copies_67_68_69_eq]
  exact hp_mc_67_68_69_l N D 94 0 N D rfl (by omega) (fun l hl => absurd hl (by omega)) (fun c _ => rfl)
theorem hp_mc_67_69_68_l (N : Nat) (D0 : hy_M) : ∀ m i n D, i + m = 94 → m < n → (∀ j, j < i → D 68 j = D0 69 j) → (∀ c, c ≠ 68 → D c = D0 c) → ∃ D1, F_X9_copies_67_69_68_2 N n (nI i) D = some D1 ∧ (∀ j, j < 94 → D1 68 j = D0 69 j) ∧ (∀ c, c ≠ 68 → D1 c = D0 c) := by
  intro m
  induction m with
  | zero =>
    intro i n D e hn h1 h2
    obtain ⟨n, rfl⟩ : ∃ n', n = n' + 1 := ⟨n - 1, by omega⟩
    have e : i = 94 := by omega
    subst e
    refine ⟨D, ?_, h1, h2⟩
    rw [F_X9_copies_67_69_68_2_eq]
    simp (disch := omega) only [hp_kN, nI_add, pk_mul, hp_isInN, hp_m1L, hp_l0, hp_l1, hp_l2, hp_l3, hp_l4, hp_l5, hp_l7, hp_l8, hp_l10, hp_l17, hp_l20, hp_l24, hp_l48, hp_l50, hp_l55, hp_l127, hp_lm1, hp_eqN, hp_ltN, hp_inN, hp_cl, if_pos, if_neg, if_true, if_false, Option.bind_some]
  | succ m ih =>
    intro i n D e hn h1 h2
    obtain ⟨n, rfl⟩ : ∃ n', n = n' + 1 := ⟨n - 1, by omega⟩
    have e2 : F_X9_copies_67_69_68_2 N (n + 1) (nI i) D = F_X9_copies_67_69_68_2 N n (nI (i + 1)) (hy_w D 68 i (D 69 i)) := by
      rw [F_X9_copies_67_69_68_2_eq]
      simp (disch := omega) only [hp_kN, nI_add, pk_mul, hp_isInN, hp_m1L, hp_l0, hp_l1, hp_l2, hp_l3, hp_l4, hp_l5, hp_l7, hp_l8, hp_l10, hp_l17, hp_l20, hp_l24, hp_l48, hp_l50, hp_l55, hp_l127, hp_lm1, hp_eqN, hp_ltN, hp_inN, hp_cl, if_pos, if_neg, if_true, if_false, Option.bind_some]
    rw [e2]
    refine ih (i + 1) n _ (by omega) (by omega) (fun j hj => ?_) (fun c a => ?_)
    · by_cases q : j = i
      · subst q
        rw [hp_ws, h2 69 (by omega)]
      · rw [hp_wn (Or.inr q)]
        exact h1 j (by omega)
    · rw [hy_w_ne a]
      exact h2 c a
theorem hp_mc_67_69_68 (N : Nat) (hN : 100 ≤ N) (D : hy_M) : ∃ D1, F_X9_copies_67_69_68 N D = some D1 ∧ (∀ j, j < 94 → D1 68 j = D 69 j) ∧ (∀ c, c ≠ 68 → D1 c = D c) := by
  rw [F_X9_copies_67_69_68_eq]
  exact hp_mc_67_69_68_l N D 94 0 N D rfl (by omega) (fun l hl => absurd hl (by omega)) (fun c _ => rfl)
theorem hp_mc_l (N : Nat) (D0 : hy_M) : ∀ m i n D, i + m = 94 → m < n → (∀ j, j < i → D 70 j = D0 68 j) → (∀ c, c ≠ 70 → D c = D0 c) → ∃ D1, F_X9_copies_2 N n (nI i) D = some D1 ∧ (∀ j, j < 94 → D1 70 j = D0 68 j) ∧ (∀ c, c ≠ 70 → D1 c = D0 c) := by
  intro m
  induction m with
  | zero =>
    intro i n D e hn h1 h2
    obtain ⟨n, rfl⟩ : ∃ n', n = n' + 1 := ⟨n - 1, by omega⟩
    have e : i = 94 := by omega
    subst e
    refine ⟨D, ?_, h1, h2⟩
    rw [F_X9_copies_2_eq]
    simp (disch := omega) only [hp_kN, nI_add, pk_mul, hp_isInN, hp_m1L, hp_l0, hp_l1, hp_l2, hp_l3, hp_l4, hp_l5, hp_l7, hp_l8, hp_l10, hp_l17, hp_l20, hp_l24, hp_l48, hp_l50, hp_l55, hp_l127, hp_lm1, hp_eqN, hp_ltN, hp_inN, hp_cl, if_pos, if_neg, if_true, if_false, Option.bind_some]
  | succ m ih =>
    intro i n D e hn h1 h2
    obtain ⟨n, rfl⟩ : ∃ n', n = n' + 1 := ⟨n - 1, by omega⟩
    have e2 : F_X9_copies_2 N (n + 1) (nI i) D = F_X9_copies_2 N n (nI (i + 1)) (hy_w D 70 i (D 68 i)) := by
      rw [F_X9_copies_2_eq]
      simp (disch := omega) only [hp_kN, nI_add, pk_mul, hp_isInN, hp_m1L, hp_l0, hp_l1, hp_l2, hp_l3, hp_l4, hp_l5, hp_l7, hp_l8, hp_l10, hp_l17, hp_l20, hp_l24, hp_l48, hp_l50, hp_l55, hp_l127, hp_lm1, hp_eqN, hp_ltN, hp_inN, hp_cl, if_pos, if_neg, if_true, if_false, Option.bind_some]
    rw [e2]
    refine ih (i + 1) n _ (by omega) (by omega) (fun j hj => ?_) (fun c a => ?_)
    · by_cases q : j = i
      · subst q
        rw [hp_ws, h2 68 (by omega)]
      · rw [hp_wn (Or.inr q)]
        exact h1 j (by omega)
    · rw [hy_w_ne a]
      exact h2 c a
theorem hp_mc (N : Nat) (hN : 100 ≤ N) (D : hy_M) : ∃ D1, F_X9_copies N D = some D1 ∧ (∀ j, j < 94 → D1 70 j = D 68 j) ∧ (∀ c, c ≠ 70 → D1 c = D c) := by
  rw [F_X9_copies_eq]
  exact hp_mc_l N D 94 0 N D rfl (by omega) (fun l hl => absurd hl (by omega)) (fun c _ => rfl)
theorem hp_mc_67_70_68_l (N : Nat) (D0 : hy_M) : ∀ m i n D, i + m = 94 → m < n → (∀ j, j < i → D 68 j = D0 70 j) → (∀ c, c ≠ 68 → D c = D0 c) → ∃ D1, F_X9_copies_67_70_68_2 N n (nI i) D = some D1 ∧ (∀ j, j < 94 → D1 68 j = D0 70 j) ∧ (∀ c, c ≠ 68 → D1 c = D0 c) := by
  intro m
  induction m with
  | zero =>
    intro i n D e hn h1 h2
    obtain ⟨n, rfl⟩ : ∃ n', n = n' + 1 := ⟨n - 1, by omega⟩
    have e : i = 94 := by omega
    subst e
    refine ⟨D, ?_, h1, h2⟩
    rw [F_X9_copies_67_70_68_2_eq]
    simp (disch := omega) only [hp_kN, nI_add, pk_mul, hp_isInN, hp_m1L, hp_l0, hp_l1, hp_l2, hp_l3, hp_l4, hp_l5, hp_l7, hp_l8, hp_l10, hp_l17, hp_l20, hp_l24, hp_l48, hp_l50, hp_l55, hp_l127, hp_lm1, hp_eqN, hp_ltN, hp_inN, hp_cl, if_pos, if_neg, if_true, if_false, Option.bind_some]
  | succ m ih =>
    intro i n D e hn h1 h2
    obtain ⟨n, rfl⟩ : ∃ n', n = n' + 1 := ⟨n - 1, by omega⟩
    have e2 : F_X9_copies_67_70_68_2 N (n + 1) (nI i) D = F_X9_copies_67_70_68_2 N n (nI (i + 1)) (hy_w D 68 i (D 70 i)) := by
      rw [F_X9_copies_67_70_68_2_eq]
      simp (disch := omega) only [hp_kN, nI_add, pk_mul, hp_isInN, hp_m1L, hp_l0, hp_l1, hp_l2, hp_l3, hp_l4, hp_l5, hp_l7, hp_l8, hp_l10, hp_l17, hp_l20, hp_l24, hp_l48, hp_l50, hp_l55, hp_l127, hp_lm1, hp_eqN, hp_ltN, hp_inN, hp_cl, if_pos, if_neg, if_true, if_false, Option.bind_some]
    rw [e2]
    refine ih (i + 1) n _ (by omega) (by omega) (fun j hj => ?_) (fun c a => ?_)
    · by_cases q : j = i
      · subst q
        rw [hp_ws, h2 70 (by omega)]
      · rw [hp_wn (Or.inr q)]
        exact h1 j (by omega)
    · rw [hy_w_ne a]
      exact h2 c a
theorem hp_mc_67_70_68 (N : Nat) (hN : 100 ≤ N) (D : hy_M) : ∃ D1, F_X9_copies_67_70_68 N D = some D1 ∧ (∀ j, j < 94 → D1 68 j = D 70 j) ∧ (∀ c, c ≠ 68 → D1 c = D c) := by
  rw [F_X9_copies_67_70_68_eq]
  exact hp_mc_67_70_68_l N D 94 0 N D rfl (by omega) (fun l hl => absurd hl (by omega)) (fun c _ => rfl)
theorem hp_MY_cp {c c' : Nat} {y : Nat → Nat → Nat} {pu : Int32} {D D' : hy_M} (h : hp_MY c y pu D) (hj : ∀ j, j < 94 → D' c' j = D c j) : hp_MY c' y pu D' :=
  ⟨by rw [hj 3 (by omega)]; exact h.1, fun i j hd h4 => by
    have hb := hp_ub_lt hd.1
    rw [hj _ (hp_pos_lt i hb.1 j hb.2 hd.1 h4).1]
    exact h.2 i j hd h4⟩
