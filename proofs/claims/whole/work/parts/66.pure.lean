/-! ===== lists ===== -/
theorem hp_gtg {a : Int32} (h : a.toInt < 0) {k : Nat} (hk : k < 2147483648) : (nI k < a) = False := by
  apply eq_false
  rw [Int32.lt_iff_toInt_lt, hp_ti hk]
  omega
theorem hp_X_isList (N : Nat) {k : Nat} (hk : k < 2147483648) (D : hy_M) : F_X3_isList N (nI k) D = some (if k < 4 then nI 1 else nI 0, D) := by
  rw [F_X3_isList_eq]
  by_cases c : k < 4
  · simp (disch := omega) only [hp_kN, nI_add, pk_mul, hp_isInN, hp_m1L, hp_l0, hp_l1, hp_l2, hp_l3, hp_l4, hp_l5, hp_l7, hp_l8, hp_l10, hp_l17, hp_l20, hp_l24, hp_l48, hp_l50, hp_l55, hp_l127, hp_lm1, hp_eqN, hp_ltN, hp_inN, hp_cl, if_pos, if_neg, if_true, if_false, Option.bind_some]
  · simp (disch := omega) only [hp_kN, nI_add, pk_mul, hp_isInN, hp_m1L, hp_l0, hp_l1, hp_l2, hp_l3, hp_l4, hp_l5, hp_l7, hp_l8, hp_l10, hp_l17, hp_l20, hp_l24, hp_l48, hp_l50, hp_l55, hp_l127, hp_lm1, hp_eqN, hp_ltN, hp_inN, hp_cl, if_pos, if_neg, if_true, if_false, Option.bind_some]
theorem hp_M_isList (N : Nat) {k : Nat} (hk : k < 2147483648) (D : hy_M) : F_X9_isList N (nI k) D = some (if k < 4 then nI 1 else nI 0, D) := by
  rw [F_X9_isList_eq]
  by_cases c : k < 4
  · simp (disch := omega) only [hp_kN, nI_add, pk_mul, hp_isInN, hp_m1L, hp_l0, hp_l1, hp_l2, hp_l3, hp_l4, hp_l5, hp_l7, hp_l8, hp_l10, hp_l17, hp_l20, hp_l24, hp_l48, hp_l50, hp_l55, hp_l127, hp_lm1, hp_eqN, hp_ltN, hp_inN, hp_cl, if_pos, if_neg, if_true, if_false, Option.bind_some]
    simp
  · simp (disch := omega) only [hp_kN, nI_add, pk_mul, hp_isInN, hp_m1L, hp_l0, hp_l1, hp_l2, hp_l3, hp_l4, hp_l5, hp_l7, hp_l8, hp_l10, hp_l17, hp_l20, hp_l24, hp_l48, hp_l50, hp_l55, hp_l127, hp_lm1, hp_eqN, hp_ltN, hp_inN, hp_cl, if_pos, if_neg, if_true, if_false, Option.bind_some]
    simp
theorem hp_X_isListg (N : Nat) {a : Int32} (h : a < 0) (D : hy_M) : F_X3_isList N a D = some (nI 0, D) := by
  rw [F_X3_isList_eq, if_pos h]
  rfl
theorem hp_M_isListg (N : Nat) {a : Int32} (h : a.toInt < 0) (D : hy_M) : F_X9_isList N a D = some (nI 0, D) := by
  rw [F_X9_isList_eq, hp_isIng N h 0 _ (by decide)]
  rfl
theorem hp_lsc {x : Int32} (h : -1 ≤ x.toInt ∧ x.toInt ≤ 12) : x = -nI 1 ∨ ∃ s, s ≤ 12 ∧ x = nI s := by
  by_cases c : x.toInt < 0
  · left
    apply Int32.toInt_inj.mp
    have e2 : (-nI 1 : Int32).toInt = -1 := rfl
    omega
  · right
    obtain ⟨k, hk, e, e2⟩ := hp_ofI (a := x) (by omega)
    exact ⟨k, by omega, e⟩
theorem hp_C1_list {yk : Nat → Nat → Nat} {pk : Int32} {fl T P : Nat} {tp pp : Nat → Nat} {ls ls' : Nat → Int32} {lc lc' : Nat → Nat → Int32} {D D' : hy_M} (h : hp_C1 yk pk fl T P tp pp ls lc D) (hf : ∀ c, (c = 0 ∨ (19 ≤ c ∧ c < 43) ∨ c = 52 ∨ c = 1000) → D' c = D c) (e : ∀ l, l < 4 → D' 47 l = ls' l ∧ ∀ j : Nat, (j : Int) < (ls' l).toInt → D' (43 + l) j = lc' l j) : hp_C1 yk pk fl T P tp pp ls' lc' D' := by
  obtain ⟨h1, h2, h3, h4, h5, h6, h7, h8, h9⟩ := h
  exact ⟨by rw [hf 0 (by omega)]; exact h1, fun e => hp_CY_fr (h2 e) (fun c a b => hf c (by omega)), by rw [hf 37 (by omega)]; exact h3, fun j hj => by rw [hf 38 (by omega)]; exact h4 j hj, by rw [hf 39 (by omega)]; exact h5, fun j hj => by rw [hf 40 (by omega)]; exact h6 j hj, e, fun t ht => by rw [hf 52 (by omega)]; exact h8 t ht, fun j hj => by rw [hf 1000 (by omega)]; exact h9 j hj⟩
theorem hp_M1_list {yk : Nat → Nat → Nat} {pk : Int32} {fl T P : Nat} {tp pp : Nat → Nat} {ls ls' : Nat → Int32} {lc lc' : Nat → Nat → Int32} {D D' : hy_M} (h : hp_M1 yk pk fl T P tp pp ls lc D) (hf : ∀ c, (c = 67 ∨ c = 69 ∨ c = 71 ∨ c = 77) → D' c = D c) (e : ∀ l, l < 4 → D' 80 l = ls' l ∧ ∀ j : Nat, (j : Int) < (ls' l).toInt → D' 79 (12 * l + j) = lc' l j) : hp_M1 yk pk fl T P tp pp ls' lc' D' := by
  obtain ⟨h1, h2, h3, h4, h5, h6, h7, h8⟩ := h
  exact ⟨by rw [hf 67 (by omega)]; exact h1, fun e => hp_MY_fr (h2 e) (hf 69 (by omega)), by rw [hf 67 (by omega)]; exact h3, fun j hj => by rw [hf 71 (by omega)]; exact h4 j hj, by rw [hf 67 (by omega)]; exact h5, fun j hj => by rw [hf 77 (by omega)]; exact h6 j hj, e, by rw [hf 67 (by omega)]; exact h8⟩
theorem hp_mz (N k n : Nat) (hk : k < 4) (hn : n ≤ 12) : ∀ m i f D, i + m = n → m < f → (∀ j, j < i → D (43 + k) j = nI 0) → ∃ D1, F_X3_makeZeros_2 N f (nI k) (nI n) (nI i) D = some D1 ∧ (∀ j, j < n → D1 (43 + k) j = nI 0) ∧ D1 47 k = nI n ∧ (∀ l, l ≠ k → D1 47 l = D 47 l) ∧ ∀ c, c ≠ 43 + k → c ≠ 47 → D1 c = D c := by
  intro m
  induction m with
  | zero =>
    intro i f D e hf h1
    obtain ⟨f, rfl⟩ : ∃ n', f = n' + 1 := ⟨f - 1, by omega⟩
    have e : i = n := by omega
    subst e
    refine ⟨hy_w D 47 k (nI i), ?_, fun j hj => ?_, hp_ws _ _ _ _, fun l hl => hp_wn (Or.inr hl), fun c a b => hy_w_ne b⟩
    · rw [F_X3_makeZeros_2_eq]
      simp (disch := omega) only [hp_kN, nI_add, pk_mul, hp_isInN, hp_m1L, hp_l0, hp_l1, hp_l2, hp_l3, hp_l4, hp_l5, hp_l7, hp_l8, hp_l10, hp_l17, hp_l20, hp_l24, hp_l48, hp_l50, hp_l55, hp_l127, hp_lm1, hp_eqN, hp_ltN, hp_inN, hp_cl, if_pos, if_neg, if_true, if_false, Option.bind_some]
    · rw [hp_wn (Or.inl (by omega))]
      exact h1 j hj
  | succ m ih =>
    intro i f D e hf h1
    obtain ⟨f, rfl⟩ : ∃ n', f = n' + 1 := ⟨f - 1, by omega⟩
    have e2 : F_X3_makeZeros_2 N (f + 1) (nI k) (nI n) (nI i) D = F_X3_makeZeros_2 N f (nI k) (nI n) (nI (i + 1)) (hy_w D (43 + k) i (nI 0)) := by
      rw [F_X3_makeZeros_2_eq]
      simp (disch := omega) only [hp_kN, nI_add, pk_mul, hp_isInN, hp_m1L, hp_l0, hp_l1, hp_l2, hp_l3, hp_l4, hp_l5, hp_l7, hp_l8, hp_l10, hp_l17, hp_l20, hp_l24, hp_l48, hp_l50, hp_l55, hp_l127, hp_lm1, hp_eqN, hp_ltN, hp_inN, hp_cl, if_pos, if_neg, if_true, if_false, Option.bind_some, hp_pr42, hp_wl43]
    rw [e2]
    obtain ⟨D1, q1, q2, q3, q4, q5⟩ := ih (i + 1) f (hy_w D (43 + k) i (nI 0)) (by omega) (by omega) (fun j hj => by
      by_cases q : j = i
      · subst q
        rw [hp_ws]
      · rw [hp_wn (Or.inr q)]
        exact h1 j (by omega))
    exact ⟨D1, q1, q2, q3, fun l hl => by rw [q4 l hl, hp_wn (Or.inl (by omega))], fun c a b => by rw [q5 c a b, hy_w_ne a]⟩
theorem hp_mzM (N k : Nat) (hk : k < 4) : ∀ m i f D, i + m = 12 → m < f → (∀ j, j < i → D 79 (12 * k + j) = nI 0) → ∃ D1, F_X9_list_34 N f (nI k) (nI i) D = some (nI 1, D1) ∧ (∀ j, j < 12 → D1 79 (12 * k + j) = nI 0) ∧ (∀ j, ¬ (12 * k ≤ j ∧ j < 12 * k + 12) → D1 79 j = D 79 j) ∧ ∀ c, c ≠ 79 → D1 c = D c := by
  intro m
  induction m with
  | zero =>
    intro i f D e hf h1
    obtain ⟨f, rfl⟩ : ∃ n', f = n' + 1 := ⟨f - 1, by omega⟩
    have e : i = 12 := by omega
    subst e
    refine ⟨D, ?_, h1, fun _ _ => rfl, fun _ _ => rfl⟩
    rw [F_X9_list_34_eq]
    simp (disch := omega) only [hp_kN, nI_add, pk_mul, hp_isInN, hp_m1L, hp_l0, hp_l1, hp_l2, hp_l3, hp_l4, hp_l5, hp_l7, hp_l8, hp_l10, hp_l17, hp_l20, hp_l24, hp_l48, hp_l50, hp_l55, hp_l127, hp_lm1, hp_eqN, hp_ltN, hp_inN, hp_cl, if_pos, if_neg, if_true, if_false, Option.bind_some]
  | succ m ih =>
    intro i f D e hf h1
    obtain ⟨f, rfl⟩ : ∃ n', f = n' + 1 := ⟨f - 1, by omega⟩
    have e2 : F_X9_list_34 N (f + 1) (nI k) (nI i) D = F_X9_list_34 N f (nI k) (nI (i + 1)) (hy_w D 79 (12 * k + i) (nI 0)) := by
      rw [F_X9_list_34_eq]
      simp (disch := omega) only [hp_kN, nI_add, pk_mul, hp_isInN, hp_m1L, hp_l0, hp_l1, hp_l2, hp_l3, hp_l4, hp_l5, hp_l7, hp_l8, hp_l10, hp_l17, hp_l20, hp_l24, hp_l48, hp_l50, hp_l55, hp_l127, hp_lm1, hp_eqN, hp_ltN, hp_inN, hp_cl, if_pos, if_neg, if_true, if_false, Option.bind_some]
    rw [e2]
    obtain ⟨D1, q1, q2, q3, q4⟩ := ih (i + 1) f (hy_w D 79 (12 * k + i) (nI 0)) (by omega) (by omega) (fun j hj => by
      by_cases q : j = i
      · subst q
        rw [hp_ws]
      · rw [hp_wn (Or.inr (by omega))]
        exact h1 j (by omega))
    exact ⟨D1, q1, q2, fun j hj => by rw [q3 j hj, hp_wn (Or.inr (by omega))], fun c a => by rw [q4 c a, hy_w_ne a]⟩
theorem st_list (N : Nat) (hN : 100 ≤ N) (a v : Int32) : hp_step (F_X8_list N a v) (F_X9_list N a v) := by
  rintro ⟨y, pu, yk, pk, fl, T, P, tp, pp, ls, lc⟩ ⟨hw, hw1⟩
  rcases hp_arg a with ⟨a0, a1, a2⟩ | ⟨k, hk, rfl⟩
  · refine ⟨-1, _, ⟨hw, hw1⟩, hp_qx0 fun D hX => ?_, hp_qm0 fun D hR => ?_⟩
    · rw [F_X8_list_eq, hp_X_isListg N a0]
      rfl
    · rw [F_X9_list_eq, hp_M_isListg N a2]
      rfl
  by_cases c : k < 4
  case neg =>
    refine ⟨-1, _, ⟨hw, hw1⟩, hp_qx0 fun D hX => ?_, hp_qm0 fun D hR => ?_⟩
    · rw [F_X8_list_eq]
      simp (disch := omega) only [hp_kN, nI_add, pk_mul, hp_isInN, hp_m1L, hp_l0, hp_l1, hp_l2, hp_l3, hp_l4, hp_l5, hp_l7, hp_l8, hp_l10, hp_l17, hp_l20, hp_l24, hp_l48, hp_l50, hp_l55, hp_l127, hp_lm1, hp_eqN, hp_ltN, hp_inN, hp_cl, if_pos, if_neg, if_true, if_false, Option.bind_some, hp_X_isList]
    · rw [F_X9_list_eq]
      simp (disch := omega) only [hp_kN, nI_add, pk_mul, hp_isInN, hp_m1L, hp_l0, hp_l1, hp_l2, hp_l3, hp_l4, hp_l5, hp_l7, hp_l8, hp_l10, hp_l17, hp_l20, hp_l24, hp_l48, hp_l50, hp_l55, hp_l127, hp_lm1, hp_eqN, hp_ltN, hp_inN, hp_cl, if_pos, if_neg, if_true, if_false, Option.bind_some, hp_M_isList]
  rcases hp_arg v with ⟨v0, v1, v2⟩ | ⟨n, hn, rfl⟩
  · refine ⟨-14, _, ⟨hw, hw1⟩, hp_qx0 fun D hX => ?_, hp_qm0 fun D hR => ?_⟩
    · rw [F_X8_list_eq]
      simp (disch := omega) only [hp_kN, nI_add, pk_mul, hp_isInN, hp_m1L, hp_l0, hp_l1, hp_l2, hp_l3, hp_l4, hp_l5, hp_l7, hp_l8, hp_l10, hp_l17, hp_l20, hp_l24, hp_l48, hp_l50, hp_l55, hp_l127, hp_lm1, hp_eqN, hp_ltN, hp_inN, hp_cl, if_pos, if_neg, if_true, if_false, Option.bind_some, hp_X_isList, v1, hp_gtg v2]
    · rw [F_X9_list_eq]
      simp (disch := omega) only [hp_kN, nI_add, pk_mul, hp_isInN, hp_m1L, hp_l0, hp_l1, hp_l2, hp_l3, hp_l4, hp_l5, hp_l7, hp_l8, hp_l10, hp_l17, hp_l20, hp_l24, hp_l48, hp_l50, hp_l55, hp_l127, hp_lm1, hp_eqN, hp_ltN, hp_inN, hp_cl, if_pos, if_neg, if_true, if_false, Option.bind_some, hp_M_isList, v1, hp_gtg v2]
  by_cases c2 : n ≤ 12
  case neg =>
    refine ⟨-2, _, ⟨hw, hw1⟩, hp_qx0 fun D hX => ?_, hp_qm0 fun D hR => ?_⟩
    · rw [F_X8_list_eq]
      simp (disch := omega) only [hp_kN, nI_add, pk_mul, hp_isInN, hp_m1L, hp_l0, hp_l1, hp_l2, hp_l3, hp_l4, hp_l5, hp_l7, hp_l8, hp_l10, hp_l17, hp_l20, hp_l24, hp_l48, hp_l50, hp_l55, hp_l127, hp_lm1, hp_eqN, hp_ltN, hp_inN, hp_cl, if_pos, if_neg, if_true, if_false, Option.bind_some, hp_X_isList]
    · rw [F_X9_list_eq]
      simp (disch := omega) only [hp_kN, nI_add, pk_mul, hp_isInN, hp_m1L, hp_l0, hp_l1, hp_l2, hp_l3, hp_l4, hp_l5, hp_l7, hp_l8, hp_l10, hp_l17, hp_l20, hp_l24, hp_l48, hp_l50, hp_l55, hp_l127, hp_lm1, hp_eqN, hp_ltN, hp_inN, hp_cl, if_pos, if_neg, if_true, if_false, Option.bind_some, hp_M_isList]
  obtain ⟨w1, w2, w3, w4, w5, w6, w7⟩ := hw1
  have tn : (nI n).toInt = (n : Int) := hp_ti hn
  refine ⟨nI 1, (y, pu, yk, pk, fl, T, P, tp, pp, fun l => if l = k then nI n else ls l, fun l j => if l = k then nI 0 else lc l j), ⟨hw, ⟨w1, w2, w3, w4, w5, w6, fun l hl => ?_⟩⟩, fun D hX => ?_, fun D hR => ?_⟩
  · by_cases q : l = k
    · simp only [q, if_true, tn]
      omega
    · simp only [q, if_false]
      exact w7 l hl
  · obtain ⟨D1, q1, q2, q3, q4, q5⟩ := hp_mz N k n c c2 n 0 N D (by omega) (by omega) (fun j hj => absurd hj (by omega))
    refine ⟨D1, ?_, ⟨hp_CY_fr hX.1 (fun c a b => q5 c (by omega) (by omega)), hp_C1_list hX.2 (fun c a => q5 c (by omega) (by omega)) (fun l hl => ?_)⟩, fun c a b => q5 c (by omega) (by omega)⟩
    · rw [F_X8_list_eq]
      simp (disch := omega) only [hp_kN, nI_add, pk_mul, hp_isInN, hp_m1L, hp_l0, hp_l1, hp_l2, hp_l3, hp_l4, hp_l5, hp_l7, hp_l8, hp_l10, hp_l17, hp_l20, hp_l24, hp_l48, hp_l50, hp_l55, hp_l127, hp_lm1, hp_eqN, hp_ltN, hp_inN, hp_cl, if_pos, if_neg, if_true, if_false, Option.bind_some, hp_X_isList, F_X3_makeZeros_eq, q1]
    · by_cases q : l = k
      · subst q
        simp only [if_true, tn]
        exact ⟨q3, fun j hj => q2 j (by omega)⟩
      · simp only [q, if_false]
        refine ⟨by rw [q4 l q]; exact (hX.2.2.2.2.2.2.2.1 l hl).1, fun j hj => ?_⟩
        rw [q5 (43 + l) (by omega) (by omega)]
        exact (hX.2.2.2.2.2.2.2.1 l hl).2 j hj
  · obtain ⟨D1, q1, q2, q3, q4⟩ := hp_mzM N k c 12 0 N (hy_w D 80 k (nI n)) (by omega) (by omega) (fun j hj => absurd hj (by omega))
    have q5 : ∀ c, c ≠ 79 → c ≠ 80 → D1 c = D c := fun c a b => by rw [q4 c a, hy_w_ne b]
    refine ⟨D1, ?_, ⟨hp_MY_fr hR.1 (q5 68 (by omega) (by omega)), hp_M1_list hR.2 (fun c a => q5 c (by omega) (by omega)) (fun l hl => ?_)⟩, fun c a => q5 c (by omega) (by omega)⟩
    · rw [F_X9_list_eq]
      simp (disch := omega) only [hp_kN, nI_add, pk_mul, hp_isInN, hp_m1L, hp_l0, hp_l1, hp_l2, hp_l3, hp_l4, hp_l5, hp_l7, hp_l8, hp_l10, hp_l17, hp_l20, hp_l24, hp_l48, hp_l50, hp_l55, hp_l127, hp_lm1, hp_eqN, hp_ltN, hp_inN, hp_cl, if_pos, if_neg, if_true, if_false, Option.bind_some, hp_M_isList, q1]
    · by_cases q : l = k
      · subst q
        simp only [if_true, tn]
        exact ⟨by rw [q4 80 (by omega), hp_ws], fun j hj => q2 j (by omega)⟩
      · simp only [q, if_false]
        have w7' := w7 l hl
        refine ⟨by rw [q4 80 (by omega), hp_wn (Or.inr q)]; exact (hR.2.2.2.2.2.2.2.1 l hl).1, fun j hj => ?_⟩
        rw [q3 (12 * l + j) (by omega), hy_w_ne (by omega)]
        exact (hR.2.2.2.2.2.2.2.1 l hl).2 j hj
