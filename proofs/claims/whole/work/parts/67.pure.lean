/-! ===== put, get, lay ===== -/
theorem hp_n1g {k : Nat} (hk : k < 2147483648) : (nI k < -nI 1) = False := by
  apply eq_false
  rw [Int32.lt_iff_toInt_lt, hp_ti hk]
  have e2 : (-nI 1 : Int32).toInt = -1 := rfl
  omega
theorem hp_isIn2 (N : Nat) (a : Int32) (D : hy_M) : F_X9_isIn N a.toInt64 0 (-nI 1 - nI 1).toInt64 D = some (nI 0, D) := by
  rw [hp_isIn, if_neg]
  · rfl
  · have e2 : (-nI 1 - nI 1 : Int32).toInt64.toInt = -2 := by decide
    have e0 : (0 : Int64).toInt = 0 := rfl
    omega
theorem st_put (N : Nat) (a b v : Int32) : hp_step (F_X8_put N a b v) (F_X9_put N a b v) := by
  rintro ⟨y, pu, yk, pk, fl, T, P, tp, pp, ls, lc⟩ ⟨hw, hw1⟩
  rcases hp_arg a with ⟨a0, a1, a2⟩ | ⟨k, hk, rfl⟩
  · refine ⟨-1, _, ⟨hw, hw1⟩, hp_qx0 fun D hX => ?_, hp_qm0 fun D hR => ?_⟩
    · rw [F_X8_put_eq, hp_X_isListg N a0]
      rfl
    · rw [F_X9_put_eq, hp_M_isListg N a2]
      rfl
  by_cases c : k < 4
  case neg =>
    refine ⟨-1, _, ⟨hw, hw1⟩, hp_qx0 fun D hX => ?_, hp_qm0 fun D hR => ?_⟩
    · rw [F_X8_put_eq]
      simp (disch := omega) only [hp_kN, nI_add, pk_mul, hp_isInN, hp_m1L, hp_l0, hp_l1, hp_l2, hp_l3, hp_l4, hp_l5, hp_l7, hp_l8, hp_l10, hp_l17, hp_l20, hp_l24, hp_l48, hp_l50, hp_l55, hp_l127, hp_lm1, hp_eqN, hp_ltN, hp_inN, hp_cl, if_pos, if_neg, if_true, if_false, Option.bind_some, hp_X_isList]
    · rw [F_X9_put_eq]
      simp (disch := omega) only [hp_kN, nI_add, pk_mul, hp_isInN, hp_m1L, hp_l0, hp_l1, hp_l2, hp_l3, hp_l4, hp_l5, hp_l7, hp_l8, hp_l10, hp_l17, hp_l20, hp_l24, hp_l48, hp_l50, hp_l55, hp_l127, hp_lm1, hp_eqN, hp_ltN, hp_inN, hp_cl, if_pos, if_neg, if_true, if_false, Option.bind_some, hp_M_isList]
  rcases hp_lsc (hw1.2.2.2.2.2.2 k c) with hs | ⟨s, hs12, hs⟩
  · refine ⟨-11, _, ⟨hw, hw1⟩, hp_qx0 fun D hX => ?_, hp_qm0 fun D hR => ?_⟩
    · have x47 : D 47 k = -nI 1 := ((hX.2.2.2.2.2.2.2.1 k c).1).trans hs
      rw [F_X8_put_eq]
      simp (disch := omega) only [hp_kN, nI_add, pk_mul, hp_isInN, hp_m1L, hp_l0, hp_l1, hp_l2, hp_l3, hp_l4, hp_l5, hp_l7, hp_l8, hp_l10, hp_l17, hp_l20, hp_l24, hp_l48, hp_l50, hp_l55, hp_l127, hp_lm1, hp_eqN, hp_ltN, hp_inN, hp_cl, if_pos, if_neg, if_true, if_false, Option.bind_some, hp_X_isList, F_X3_holds_eq, x47, hp_n1]
    · have x80 : D 80 k = -nI 1 := ((hR.2.2.2.2.2.2.2.1 k c).1).trans hs
      rw [F_X9_put_eq]
      simp (disch := omega) only [hp_kN, nI_add, pk_mul, hp_isInN, hp_m1L, hp_l0, hp_l1, hp_l2, hp_l3, hp_l4, hp_l5, hp_l7, hp_l8, hp_l10, hp_l17, hp_l20, hp_l24, hp_l48, hp_l50, hp_l55, hp_l127, hp_lm1, hp_eqN, hp_ltN, hp_inN, hp_cl, if_pos, if_neg, if_true, if_false, Option.bind_some, hp_M_isList, x80, hp_n1]
  rcases hp_arg b with ⟨v0, v1, v2⟩ | ⟨n, hn, rfl⟩
  · refine ⟨-13, _, ⟨hw, hw1⟩, hp_qx0 fun D hX => ?_, hp_qm0 fun D hR => ?_⟩
    · have x47 : D 47 k = nI s := ((hX.2.2.2.2.2.2.2.1 k c).1).trans hs
      rw [F_X8_put_eq]
      simp (disch := omega) only [hp_kN, nI_add, pk_mul, hp_isInN, hp_m1L, hp_l0, hp_l1, hp_l2, hp_l3, hp_l4, hp_l5, hp_l7, hp_l8, hp_l10, hp_l17, hp_l20, hp_l24, hp_l48, hp_l50, hp_l55, hp_l127, hp_lm1, hp_eqN, hp_ltN, hp_inN, hp_cl, if_pos, if_neg, if_true, if_false, Option.bind_some, hp_X_isList, F_X3_holds_eq, x47, F_X3_hasPlace_eq, v1]
    · have x80 : D 80 k = nI s := ((hR.2.2.2.2.2.2.2.1 k c).1).trans hs
      rw [F_X9_put_eq]
      simp (disch := omega) only [hp_kN, nI_add, pk_mul, hp_isInN, hp_m1L, hp_l0, hp_l1, hp_l2, hp_l3, hp_l4, hp_l5, hp_l7, hp_l8, hp_l10, hp_l17, hp_l20, hp_l24, hp_l48, hp_l50, hp_l55, hp_l127, hp_lm1, hp_eqN, hp_ltN, hp_inN, hp_cl, if_pos, if_neg, if_true, if_false, Option.bind_some, hp_M_isList, x80, hp_isIng N v2 0 _ (by decide)]
  by_cases c2 : n < s
  case neg =>
    refine ⟨-13, _, ⟨hw, hw1⟩, hp_qx0 fun D hX => ?_, hp_qm0 fun D hR => ?_⟩
    · have x47 : D 47 k = nI s := ((hX.2.2.2.2.2.2.2.1 k c).1).trans hs
      rw [F_X8_put_eq]
      simp (disch := omega) only [hp_kN, nI_add, pk_mul, hp_isInN, hp_m1L, hp_l0, hp_l1, hp_l2, hp_l3, hp_l4, hp_l5, hp_l7, hp_l8, hp_l10, hp_l17, hp_l20, hp_l24, hp_l48, hp_l50, hp_l55, hp_l127, hp_lm1, hp_eqN, hp_ltN, hp_inN, hp_cl, if_pos, if_neg, if_true, if_false, Option.bind_some, hp_X_isList, F_X3_holds_eq, x47, F_X3_hasPlace_eq]
    · have x80 : D 80 k = nI s := ((hR.2.2.2.2.2.2.2.1 k c).1).trans hs
      rw [F_X9_put_eq]
      simp (disch := omega) only [hp_kN, nI_add, pk_mul, hp_isInN, hp_m1L, hp_l0, hp_l1, hp_l2, hp_l3, hp_l4, hp_l5, hp_l7, hp_l8, hp_l10, hp_l17, hp_l20, hp_l24, hp_l48, hp_l50, hp_l55, hp_l127, hp_lm1, hp_eqN, hp_ltN, hp_inN, hp_cl, if_pos, if_neg, if_true, if_false, Option.bind_some, hp_M_isList, x80]
  refine ⟨nI 1, (y, pu, yk, pk, fl, T, P, tp, pp, ls, fun l j => if l = k ∧ j = n then v else lc l j), ⟨hw, hw1⟩, fun D hX => ?_, fun D hR => ?_⟩
  · have x47 : D 47 k = nI s := ((hX.2.2.2.2.2.2.2.1 k c).1).trans hs
    have hf : ∀ c, c ≠ 43 + k → hy_w D (43 + k) n v c = D c := fun c a => hy_w_ne a
    refine ⟨hy_w D (43 + k) n v, ?_, ⟨hp_CY_fr hX.1 (fun c a b => hf c (by omega)), hp_C1_list hX.2 (fun c a => hf c (by omega)) (fun l hl => ?_)⟩, fun c a b => hf c (by omega)⟩
    · rw [F_X8_put_eq]
      simp (disch := omega) only [hp_kN, nI_add, pk_mul, hp_isInN, hp_m1L, hp_l0, hp_l1, hp_l2, hp_l3, hp_l4, hp_l5, hp_l7, hp_l8, hp_l10, hp_l17, hp_l20, hp_l24, hp_l48, hp_l50, hp_l55, hp_l127, hp_lm1, hp_eqN, hp_ltN, hp_inN, hp_cl, if_pos, if_neg, if_true, if_false, Option.bind_some, hp_X_isList, F_X3_holds_eq, x47, F_X3_hasPlace_eq, hp_pr42, hp_wl43]
    · refine ⟨by rw [hf 47 (by omega)]; exact (hX.2.2.2.2.2.2.2.1 l hl).1, fun j hj => ?_⟩
      have := (hX.2.2.2.2.2.2.2.1 l hl).2 j hj
      rw [hp_w]
      by_cases q : l = k ∧ j = n
      · rw [if_pos q, if_pos (by omega)]
      · rw [if_neg q, if_neg (by omega)]
        exact this
  · have x80 : D 80 k = nI s := ((hR.2.2.2.2.2.2.2.1 k c).1).trans hs
    have hf : ∀ c, c ≠ 79 → hy_w D 79 (12 * k + n) v c = D c := fun c a => hy_w_ne a
    refine ⟨hy_w D 79 (12 * k + n) v, ?_, ⟨hp_MY_fr hR.1 (hf 68 (by omega)), hp_M1_list hR.2 (fun c a => hf c (by omega)) (fun l hl => ?_)⟩, fun c a => hf c (by omega)⟩
    · rw [F_X9_put_eq]
      simp (disch := omega) only [hp_kN, nI_add, pk_mul, hp_isInN, hp_m1L, hp_l0, hp_l1, hp_l2, hp_l3, hp_l4, hp_l5, hp_l7, hp_l8, hp_l10, hp_l17, hp_l20, hp_l24, hp_l48, hp_l50, hp_l55, hp_l127, hp_lm1, hp_eqN, hp_ltN, hp_inN, hp_cl, if_pos, if_neg, if_true, if_false, Option.bind_some, hp_M_isList, x80]
    · refine ⟨by rw [hf 80 (by omega)]; exact (hR.2.2.2.2.2.2.2.1 l hl).1, fun j hj => ?_⟩
      have := (hR.2.2.2.2.2.2.2.1 l hl).2 j hj
      have hl12 := (hw1.2.2.2.2.2.2 l hl).2
      rw [hp_w]
      by_cases q : l = k ∧ j = n
      · rw [if_pos q, if_pos (by omega)]
      · rw [if_neg q, if_neg (by omega)]
        exact this
theorem st_get (N : Nat) (a b : Int32) : hp_step (F_X8_get N a b) (F_X9_get N a b) := by
  rintro ⟨y, pu, yk, pk, fl, T, P, tp, pp, ls, lc⟩ ⟨hw, hw1⟩
  rcases hp_arg a with ⟨a0, a1, a2⟩ | ⟨k, hk, rfl⟩
  · refine ⟨-9223372036854775808, _, ⟨hw, hw1⟩, hp_qx0 fun D hX => ?_, hp_qm0 fun D hR => ?_⟩
    · rw [F_X8_get_eq, hp_X_isListg N a0]
      rfl
    · rw [F_X9_get_eq, hp_M_isListg N a2]
      rfl
  by_cases c : k < 4
  case neg =>
    refine ⟨-9223372036854775808, _, ⟨hw, hw1⟩, hp_qx0 fun D hX => ?_, hp_qm0 fun D hR => ?_⟩
    · rw [F_X8_get_eq]
      simp (disch := omega) only [hp_kN, nI_add, pk_mul, hp_isInN, hp_m1L, hp_l0, hp_l1, hp_l2, hp_l3, hp_l4, hp_l5, hp_l7, hp_l8, hp_l10, hp_l17, hp_l20, hp_l24, hp_l48, hp_l50, hp_l55, hp_l127, hp_lm1, hp_eqN, hp_ltN, hp_inN, hp_cl, if_pos, if_neg, if_true, if_false, Option.bind_some, hp_X_isList]
    · rw [F_X9_get_eq]
      simp (disch := omega) only [hp_kN, nI_add, pk_mul, hp_isInN, hp_m1L, hp_l0, hp_l1, hp_l2, hp_l3, hp_l4, hp_l5, hp_l7, hp_l8, hp_l10, hp_l17, hp_l20, hp_l24, hp_l48, hp_l50, hp_l55, hp_l127, hp_lm1, hp_eqN, hp_ltN, hp_inN, hp_cl, if_pos, if_neg, if_true, if_false, Option.bind_some, hp_M_isList]
  rcases hp_lsc (hw1.2.2.2.2.2.2 k c) with hs | ⟨s, hs12, hs⟩
  · refine ⟨-9223372036854775808, _, ⟨hw, hw1⟩, hp_qx0 fun D hX => ?_, hp_qm0 fun D hR => ?_⟩
    · have x47 : D 47 k = -nI 1 := ((hX.2.2.2.2.2.2.2.1 k c).1).trans hs
      rw [F_X8_get_eq]
      rcases hp_arg b with ⟨v0, v1, v2⟩ | ⟨n, hn, rfl⟩
      · simp (disch := omega) only [hp_kN, nI_add, pk_mul, hp_isInN, hp_m1L, hp_l0, hp_l1, hp_l2, hp_l3, hp_l4, hp_l5, hp_l7, hp_l8, hp_l10, hp_l17, hp_l20, hp_l24, hp_l48, hp_l50, hp_l55, hp_l127, hp_lm1, hp_eqN, hp_ltN, hp_inN, hp_cl, if_pos, if_neg, if_true, if_false, Option.bind_some, hp_X_isList, F_X3_hasPlace_eq, v1]
      · simp (disch := omega) only [hp_kN, nI_add, pk_mul, hp_isInN, hp_m1L, hp_l0, hp_l1, hp_l2, hp_l3, hp_l4, hp_l5, hp_l7, hp_l8, hp_l10, hp_l17, hp_l20, hp_l24, hp_l48, hp_l50, hp_l55, hp_l127, hp_lm1, hp_eqN, hp_ltN, hp_inN, hp_cl, if_pos, if_neg, if_true, if_false, Option.bind_some, hp_X_isList, F_X3_hasPlace_eq, x47, hp_n1g]
    · have x80 : D 80 k = -nI 1 := ((hR.2.2.2.2.2.2.2.1 k c).1).trans hs
      rw [F_X9_get_eq]
      simp (disch := omega) only [hp_kN, hp_M_isList, hp_isIn2, x80, hp_eqN, hp_inN, hp_cl, if_pos, if_neg, if_true, Option.bind_some]
  rcases hp_arg b with ⟨v0, v1, v2⟩ | ⟨n, hn, rfl⟩
  · refine ⟨-9223372036854775808, _, ⟨hw, hw1⟩, hp_qx0 fun D hX => ?_, hp_qm0 fun D hR => ?_⟩
    · rw [F_X8_get_eq]
      simp (disch := omega) only [hp_kN, nI_add, pk_mul, hp_isInN, hp_m1L, hp_l0, hp_l1, hp_l2, hp_l3, hp_l4, hp_l5, hp_l7, hp_l8, hp_l10, hp_l17, hp_l20, hp_l24, hp_l48, hp_l50, hp_l55, hp_l127, hp_lm1, hp_eqN, hp_ltN, hp_inN, hp_cl, if_pos, if_neg, if_true, if_false, Option.bind_some, hp_X_isList, F_X3_hasPlace_eq, v1]
    · have x80 : D 80 k = nI s := ((hR.2.2.2.2.2.2.2.1 k c).1).trans hs
      rw [F_X9_get_eq]
      simp (disch := omega) only [hp_kN, nI_add, pk_mul, hp_isInN, hp_m1L, hp_l0, hp_l1, hp_l2, hp_l3, hp_l4, hp_l5, hp_l7, hp_l8, hp_l10, hp_l17, hp_l20, hp_l24, hp_l48, hp_l50, hp_l55, hp_l127, hp_lm1, hp_eqN, hp_ltN, hp_inN, hp_cl, if_pos, if_neg, if_true, if_false, Option.bind_some, hp_M_isList, x80, hp_isIng N v2 0 _ (by decide)]
  by_cases c2 : n < s
  case neg =>
    refine ⟨-9223372036854775808, _, ⟨hw, hw1⟩, hp_qx0 fun D hX => ?_, hp_qm0 fun D hR => ?_⟩
    · have x47 : D 47 k = nI s := ((hX.2.2.2.2.2.2.2.1 k c).1).trans hs
      rw [F_X8_get_eq]
      simp (disch := omega) only [hp_kN, nI_add, pk_mul, hp_isInN, hp_m1L, hp_l0, hp_l1, hp_l2, hp_l3, hp_l4, hp_l5, hp_l7, hp_l8, hp_l10, hp_l17, hp_l20, hp_l24, hp_l48, hp_l50, hp_l55, hp_l127, hp_lm1, hp_eqN, hp_ltN, hp_inN, hp_cl, if_pos, if_neg, if_true, if_false, Option.bind_some, hp_X_isList, x47, F_X3_hasPlace_eq]
    · have x80 : D 80 k = nI s := ((hR.2.2.2.2.2.2.2.1 k c).1).trans hs
      rw [F_X9_get_eq]
      simp (disch := omega) only [hp_kN, nI_add, pk_mul, hp_isInN, hp_m1L, hp_l0, hp_l1, hp_l2, hp_l3, hp_l4, hp_l5, hp_l7, hp_l8, hp_l10, hp_l17, hp_l20, hp_l24, hp_l48, hp_l50, hp_l55, hp_l127, hp_lm1, hp_eqN, hp_ltN, hp_inN, hp_cl, if_pos, if_neg, if_true, if_false, Option.bind_some, hp_M_isList, x80]
  have hlt : (n : Int) < (ls k).toInt := by
    rw [hs, hp_ti (by omega)]
    omega
  refine ⟨(lc k n).toInt64, _, ⟨hw, hw1⟩, hp_qx0 fun D hX => ?_, hp_qm0 fun D hR => ?_⟩
  · have x47 : D 47 k = nI s := ((hX.2.2.2.2.2.2.2.1 k c).1).trans hs
    have x43 : D (43 + k) n = lc k n := (hX.2.2.2.2.2.2.2.1 k c).2 n hlt
    rw [F_X8_get_eq]
    simp (disch := omega) only [hp_kN, nI_add, pk_mul, hp_isInN, hp_m1L, hp_l0, hp_l1, hp_l2, hp_l3, hp_l4, hp_l5, hp_l7, hp_l8, hp_l10, hp_l17, hp_l20, hp_l24, hp_l48, hp_l50, hp_l55, hp_l127, hp_lm1, hp_eqN, hp_ltN, hp_inN, hp_cl, if_pos, if_neg, if_true, if_false, Option.bind_some, hp_X_isList, x47, F_X3_hasPlace_eq, hp_pr42, hp_al43, x43]
  · have x80 : D 80 k = nI s := ((hR.2.2.2.2.2.2.2.1 k c).1).trans hs
    have x79 : D 79 (12 * k + n) = lc k n := (hR.2.2.2.2.2.2.2.1 k c).2 n hlt
    rw [F_X9_get_eq]
    simp (disch := omega) only [hp_kN, nI_add, pk_mul, hp_isInN, hp_m1L, hp_l0, hp_l1, hp_l2, hp_l3, hp_l4, hp_l5, hp_l7, hp_l8, hp_l10, hp_l17, hp_l20, hp_l24, hp_l48, hp_l50, hp_l55, hp_l127, hp_lm1, hp_eqN, hp_ltN, hp_inN, hp_cl, if_pos, if_neg, if_true, if_false, Option.bind_some, hp_M_isList, x80, x79]
/-! laying -/
/-- how many are laid -/
def hp_le (f many s : Nat) : Nat := if f + many ≤ s then many else s - f
def hp_lr (f many s : Nat) : Int32 := if f + many ≤ s then nI many else -nI 13
theorem hp_lyX (N k f s many r3 : Nat) (row : Nat → Nat) (D0 : hy_M) (hk : k < 4) (hs : s ≤ 12) (hm : many ≤ 8) (hf : f < s) (hr : hy_al r3 = 8) (hrn : r3 < 43) (hrow : ∀ j, j < many → D0 r3 j = nI (row j)) (h47 : D0 47 k = nI s) : ∀ m i n D, i + m = hp_le f many s → m < n → (∀ j, D (43 + k) j = if f ≤ j ∧ j < f + i then nI (row (j - f)) else D0 (43 + k) j) → (∀ c, c ≠ 43 + k → D c = D0 c) → ∃ D1, F_X3_layRow_3 N n (nI k) (nI f) r3 (nI many) (nI i) D = some (hp_lr f many s, D1) ∧ (∀ j, D1 (43 + k) j = if f ≤ j ∧ j < f + hp_le f many s then nI (row (j - f)) else D0 (43 + k) j) ∧ (∀ c, c ≠ 43 + k → D1 c = D0 c) := by
  intro m
  induction m with
  | zero =>
    intro i n D e hn h1 h2
    obtain ⟨n, rfl⟩ : ∃ n', n = n' + 1 := ⟨n - 1, by omega⟩
    have e : i = hp_le f many s := by omega
    have x47 : D 47 k = nI s := by rw [h2 47 (by omega)]; exact h47
    refine ⟨D, ?_, fun j => by rw [h1 j, e], h2⟩
    rw [F_X3_layRow_3_eq]
    unfold hp_le at e
    unfold hp_lr
    by_cases c : f + many ≤ s
    · rw [if_pos c] at e
      simp (disch := omega) only [hp_kN, nI_add, pk_mul, hp_isInN, hp_m1L, hp_l0, hp_l1, hp_l2, hp_l3, hp_l4, hp_l5, hp_l7, hp_l8, hp_l10, hp_l17, hp_l20, hp_l24, hp_l48, hp_l50, hp_l55, hp_l127, hp_lm1, hp_eqN, hp_ltN, hp_inN, hp_cl, if_pos, if_neg, if_true, if_false, Option.bind_some, F_X3_layRow_52_eq, e]
    · rw [if_neg c] at e
      have hfi : f + i = s := by omega
      simp (disch := omega) only [hp_kN, nI_add, pk_mul, hp_isInN, hp_m1L, hp_l0, hp_l1, hp_l2, hp_l3, hp_l4, hp_l5, hp_l7, hp_l8, hp_l10, hp_l17, hp_l20, hp_l24, hp_l48, hp_l50, hp_l55, hp_l127, hp_lm1, hp_eqN, hp_ltN, hp_inN, hp_cl, if_pos, if_neg, if_true, if_false, Option.bind_some, F_X3_layRow_52_eq, F_X3_hasPlace_eq, x47]
  | succ m ih =>
    intro i n D e hn h1 h2
    obtain ⟨n, rfl⟩ : ∃ n', n = n' + 1 := ⟨n - 1, by omega⟩
    have e' := e
    have hi : i < many ∧ f + i < s := by
      unfold hp_le at e'
      by_cases c : f + many ≤ s
      · rw [if_pos c] at e'
        omega
      · rw [if_neg c] at e'
        omega
    have x47 : D 47 k = nI s := by rw [h2 47 (by omega)]; exact h47
    have xr : D r3 i = nI (row i) := by rw [h2 r3 (by omega)]; exact hrow i hi.1
    have e2 : F_X3_layRow_3 N (n + 1) (nI k) (nI f) r3 (nI many) (nI i) D = F_X3_layRow_3 N n (nI k) (nI f) r3 (nI many) (nI (i + 1)) (hy_w D (43 + k) (f + i) (nI (row i))) := by
      rw [F_X3_layRow_3_eq]
      simp (disch := omega) only [hp_kN, nI_add, pk_mul, hp_isInN, hp_m1L, hp_l0, hp_l1, hp_l2, hp_l3, hp_l4, hp_l5, hp_l7, hp_l8, hp_l10, hp_l17, hp_l20, hp_l24, hp_l48, hp_l50, hp_l55, hp_l127, hp_lm1, hp_eqN, hp_ltN, hp_inN, hp_cl, if_pos, if_neg, if_true, if_false, Option.bind_some, F_X3_hasPlace_eq, x47, hr, hp_pr42, hp_wl43, xr]
    rw [e2]
    refine ih (i + 1) n _ (by omega) (by omega) (fun j => ?_) (fun c a => by rw [hy_w_ne a, h2 c a])
    rw [hp_w]
    by_cases q : j = f + i
    · rw [if_pos ⟨rfl, q⟩, if_pos (by omega), show j - f = i by omega]
    · rw [if_neg (by omega), h1 j]
      by_cases q2 : f ≤ j ∧ j < f + i
      · rw [if_pos q2, if_pos (by omega)]
      · rw [if_neg q2, if_neg (by omega)]
theorem hp_lyX3 (N k f s many : Nat) (row : Nat → Nat) (D0 : hy_M) (hk : k < 4) (hs : s ≤ 12) (hm : many ≤ 8) (hf : f < s) (hrow : ∀ j, j < many → D0 3 j = nI (row j)) (h47 : D0 47 k = nI s) : ∀ m i n D, i + m = hp_le f many s → m < n → (∀ j, D (43 + k) j = if f ≤ j ∧ j < f + i then nI (row (j - f)) else D0 (43 + k) j) → (∀ c, c ≠ 43 + k → D c = D0 c) → ∃ D1, F_X3_layRow_41_3_3 N n (nI k) (nI f) (nI many) (nI i) D = some (hp_lr f many s, D1) ∧ (∀ j, D1 (43 + k) j = if f ≤ j ∧ j < f + hp_le f many s then nI (row (j - f)) else D0 (43 + k) j) ∧ (∀ c, c ≠ 43 + k → D1 c = D0 c) := by
  intro m
  induction m with
  | zero =>
    intro i n D e hn h1 h2
    obtain ⟨n, rfl⟩ : ∃ n', n = n' + 1 := ⟨n - 1, by omega⟩
    have e : i = hp_le f many s := by omega
    have x47 : D 47 k = nI s := by rw [h2 47 (by omega)]; exact h47
    refine ⟨D, ?_, fun j => by rw [h1 j, e], h2⟩
    rw [F_X3_layRow_41_3_3_eq]
    unfold hp_le at e
    unfold hp_lr
    by_cases c : f + many ≤ s
    · rw [if_pos c] at e
      simp (disch := omega) only [hp_kN, nI_add, pk_mul, hp_isInN, hp_m1L, hp_l0, hp_l1, hp_l2, hp_l3, hp_l4, hp_l5, hp_l7, hp_l8, hp_l10, hp_l17, hp_l20, hp_l24, hp_l48, hp_l50, hp_l55, hp_l127, hp_lm1, hp_eqN, hp_ltN, hp_inN, hp_cl, if_pos, if_neg, if_true, if_false, Option.bind_some, F_X3_layRow_41_3_52_eq, e]
    · rw [if_neg c] at e
      have hfi : f + i = s := by omega
      simp (disch := omega) only [hp_kN, nI_add, pk_mul, hp_isInN, hp_m1L, hp_l0, hp_l1, hp_l2, hp_l3, hp_l4, hp_l5, hp_l7, hp_l8, hp_l10, hp_l17, hp_l20, hp_l24, hp_l48, hp_l50, hp_l55, hp_l127, hp_lm1, hp_eqN, hp_ltN, hp_inN, hp_cl, if_pos, if_neg, if_true, if_false, Option.bind_some, F_X3_layRow_41_3_52_eq, F_X3_hasPlace_eq, x47]
  | succ m ih =>
    intro i n D e hn h1 h2
    obtain ⟨n, rfl⟩ : ∃ n', n = n' + 1 := ⟨n - 1, by omega⟩
    have e' := e
    have hi : i < many ∧ f + i < s := by
      unfold hp_le at e'
      by_cases c : f + many ≤ s
      · rw [if_pos c] at e'
        omega
      · rw [if_neg c] at e'
        omega
    have x47 : D 47 k = nI s := by rw [h2 47 (by omega)]; exact h47
    have xr : D 3 i = nI (row i) := by rw [h2 3 (by omega)]; exact hrow i hi.1
    have e2 : F_X3_layRow_41_3_3 N (n + 1) (nI k) (nI f) (nI many) (nI i) D = F_X3_layRow_41_3_3 N n (nI k) (nI f) (nI many) (nI (i + 1)) (hy_w D (43 + k) (f + i) (nI (row i))) := by
      rw [F_X3_layRow_41_3_3_eq]
      simp (disch := omega) only [hp_kN, nI_add, pk_mul, hp_isInN, hp_m1L, hp_l0, hp_l1, hp_l2, hp_l3, hp_l4, hp_l5, hp_l7, hp_l8, hp_l10, hp_l17, hp_l20, hp_l24, hp_l48, hp_l50, hp_l55, hp_l127, hp_lm1, hp_eqN, hp_ltN, hp_inN, hp_cl, if_pos, if_neg, if_true, if_false, Option.bind_some, F_X3_hasPlace_eq, x47, hp_pr42, hp_wl43, xr]
    rw [e2]
    refine ih (i + 1) n _ (by omega) (by omega) (fun j => ?_) (fun c a => by rw [hy_w_ne a, h2 c a])
    rw [hp_w]
    by_cases q : j = f + i
    · rw [if_pos ⟨rfl, q⟩, if_pos (by omega), show j - f = i by omega]
    · rw [if_neg (by omega), h1 j]
      by_cases q2 : f ≤ j ∧ j < f + i
      · rw [if_pos q2, if_pos (by omega)]
      · rw [if_neg q2, if_neg (by omega)]
theorem hp_ltS {f s i : Nat} (hf : f < 2147483648) (hs : s < 1000) (hi : i < 1000) : (nI f < nI s - nI i) = (f + i < s) := by
  apply propext
  rw [Int32.lt_iff_toInt_lt, hp_ti hf, pk_sub_toInt (by omega) (by omega)]
  omega
theorem hp_lyM (N k f s many b : Nat) (row : Nat → Nat) (D0 : hy_M) (hk : k < 4) (hs : s ≤ 12) (hm : many ≤ 8) (hf : f < s) (hb : b ≤ 60) (hrow : ∀ j, j < many → D0 68 (b + j) = nI (row j)) (h80 : D0 80 k = nI s) : ∀ m i n D, i + m = hp_le f many s → m < n → (∀ j, D 79 j = if 12 * k + f ≤ j ∧ j < 12 * k + f + i then nI (row (j - (12 * k + f))) else D0 79 j) → (∀ c, c ≠ 79 → D c = D0 c) → ∃ D1, F_X9_lay_104 N n (nI k) (nI f) (nI many) (nI b) (nI i) D = some (hp_lr f many s, D1) ∧ (∀ j, D1 79 j = if 12 * k + f ≤ j ∧ j < 12 * k + f + hp_le f many s then nI (row (j - (12 * k + f))) else D0 79 j) ∧ (∀ c, c ≠ 79 → D1 c = D0 c) := by
  intro m
  induction m with
  | zero =>
    intro i n D e hn h1 h2
    obtain ⟨n, rfl⟩ : ∃ n', n = n' + 1 := ⟨n - 1, by omega⟩
    have e : i = hp_le f many s := by omega
    have x80 : D 80 k = nI s := by rw [h2 80 (by omega)]; exact h80
    refine ⟨D, ?_, fun j => by rw [h1 j, e], h2⟩
    rw [F_X9_lay_104_eq]
    unfold hp_le at e
    unfold hp_lr
    by_cases c : f + many ≤ s
    · rw [if_pos c] at e
      simp (disch := omega) only [hp_kN, nI_add, pk_mul, hp_isInN, hp_m1L, hp_l0, hp_l1, hp_l2, hp_l3, hp_l4, hp_l5, hp_l7, hp_l8, hp_l10, hp_l17, hp_l20, hp_l24, hp_l48, hp_l50, hp_l55, hp_l127, hp_lm1, hp_eqN, hp_ltN, hp_inN, hp_cl, if_pos, if_neg, if_true, if_false, Option.bind_some, F_X9_lay_156_eq, e]
    · rw [if_neg c] at e
      have hfi : f + i = s := by omega
      simp (disch := omega) only [hp_kN, nI_add, pk_mul, hp_isInN, hp_m1L, hp_l0, hp_l1, hp_l2, hp_l3, hp_l4, hp_l5, hp_l7, hp_l8, hp_l10, hp_l17, hp_l20, hp_l24, hp_l48, hp_l50, hp_l55, hp_l127, hp_lm1, hp_eqN, hp_ltN, hp_inN, hp_cl, if_pos, if_neg, if_true, if_false, Option.bind_some, F_X9_lay_156_eq, x80, hp_ltS]
  | succ m ih =>
    intro i n D e hn h1 h2
    obtain ⟨n, rfl⟩ : ∃ n', n = n' + 1 := ⟨n - 1, by omega⟩
    have e' := e
    have hi : i < many ∧ f + i < s := by
      unfold hp_le at e'
      by_cases c : f + many ≤ s
      · rw [if_pos c] at e'
        omega
      · rw [if_neg c] at e'
        omega
    have x80 : D 80 k = nI s := by rw [h2 80 (by omega)]; exact h80
    have xr : D 68 (b + i) = nI (row i) := by rw [h2 68 (by omega)]; exact hrow i hi.1
    have e2 : F_X9_lay_104 N (n + 1) (nI k) (nI f) (nI many) (nI b) (nI i) D = F_X9_lay_104 N n (nI k) (nI f) (nI many) (nI b) (nI (i + 1)) (hy_w D 79 (12 * k + f + i) (nI (row i))) := by
      rw [F_X9_lay_104_eq]
      simp (disch := omega) only [hp_kN, nI_add, pk_mul, hp_isInN, hp_m1L, hp_l0, hp_l1, hp_l2, hp_l3, hp_l4, hp_l5, hp_l7, hp_l8, hp_l10, hp_l17, hp_l20, hp_l24, hp_l48, hp_l50, hp_l55, hp_l127, hp_lm1, hp_eqN, hp_ltN, hp_inN, hp_cl, if_pos, if_neg, if_true, if_false, Option.bind_some, x80, hp_ltS, xr]
    rw [e2]
    refine ih (i + 1) n _ (by omega) (by omega) (fun j => ?_) (fun c a => by rw [hy_w_ne a, h2 c a])
    rw [hp_w]
    by_cases q : j = 12 * k + f + i
    · rw [if_pos ⟨rfl, q⟩, if_pos (by omega), show j - (12 * k + f) = i by omega]
    · rw [if_neg (by omega), h1 j]
      by_cases q2 : 12 * k + f ≤ j ∧ j < 12 * k + f + i
      · rw [if_pos q2, if_pos (by omega)]
      · rw [if_neg q2, if_neg (by omega)]
