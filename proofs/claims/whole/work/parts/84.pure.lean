/-! ===== the lane behind ===== -/
/-- the next track of a code from t on, of m left; 3: none -/
def hp_nxT (c : Nat) : Nat → Nat → Nat
  | 0, _ => 3
  | m + 1, t => if hp_bit c t = 1 then t else hp_nxT c m (t + 1)
theorem hp_nxT_b (c : Nat) : ∀ m t, t + m = 3 → t ≤ hp_nxT c m t ∧ hp_nxT c m t ≤ 3 := by
  intro m
  induction m with
  | zero => intro t h; show t ≤ 3 ∧ 3 ≤ 3; omega
  | succ m ih =>
    intro t h
    unfold hp_nxT
    have := ih (t + 1) (by omega)
    split <;> omega
def hp_lnT (c tr m t : Nat) : Nat := if hp_nxT c m t = 3 then 3 + tr else hp_nxT c m t
theorem hp_lnT_lt {c tr m t : Nat} (h : t + m = 3) (ht : tr < 2) : hp_lnT c tr m t < 5 := by
  have := hp_nxT_b c m t h
  unfold hp_lnT
  split <;> omega
theorem hp_lnT_s {c tr m t : Nat} : hp_lnT c tr (m + 1) t = if hp_bit c t = 1 then (if t = 3 then 3 + tr else t) else hp_lnT c tr m (t + 1) := by
  unfold hp_lnT
  by_cases q : hp_bit c t = 1
  · have e : hp_nxT c (m + 1) t = t := by
      unfold hp_nxT
      rw [if_pos q]
    rw [e, if_pos q]
  · have e : hp_nxT c (m + 1) t = hp_nxT c m (t + 1) := by
      show (if hp_bit c t = 1 then t else hp_nxT c m (t + 1)) = _
      rw [if_neg q]
    rw [e, if_neg q]
theorem hp_lbX (N : Nat) {w c tr : Nat} {D : hy_M} (hw : w < 8) (hc : D 3 w = nI c) (hc8 : c < 8) (h4 : D 4 w = nI tr) (htr : tr < 2) : ∀ m t n, t + m = 3 → m < n → F_X7_laneBehind_5 N n (nI w) (nI t) D = some (nI (hp_lnT c tr m t), D) := by
  intro m
  induction m with
  | zero =>
    intro t n e hm
    obtain ⟨n, rfl⟩ : ∃ n', n = n' + 1 := ⟨n - 1, by omega⟩
    have e0 : hp_lnT c tr 0 t = 3 + tr := rfl
    rw [F_X7_laneBehind_5_eq, e0]
    simp (disch := omega) only [hp_kN, nI_add, pk_mul, hp_isInN, hp_m1L, hp_l0, hp_l1, hp_l2, hp_l3, hp_l4, hp_l5, hp_l7, hp_l8, hp_l10, hp_l17, hp_l20, hp_l24, hp_l48, hp_l50, hp_l55, hp_l127, hp_lm1, hp_eqN, hp_ltN, hp_inN, hp_cl, if_pos, if_neg, if_true, if_false, Option.bind_some, h4, F_X2_outOf_eq]
  | succ m ih =>
    intro t n e hm
    obtain ⟨n, rfl⟩ : ∃ n', n = n' + 1 := ⟨n - 1, by omega⟩
    have hi := ih (t + 1) n (by omega) (by omega)
    rw [F_X7_laneBehind_5_eq, hp_lnT_s]
    clear ih
    by_cases q : hp_bit c t = 1
    · simp (disch := omega) only [hp_kN, nI_add, pk_mul, hp_isInN, hp_m1L, hp_l0, hp_l1, hp_l2, hp_l3, hp_l4, hp_l5, hp_l7, hp_l8, hp_l10, hp_l17, hp_l20, hp_l24, hp_l48, hp_l50, hp_l55, hp_l127, hp_lm1, hp_eqN, hp_ltN, hp_inN, hp_cl, if_pos, if_neg, if_true, if_false, Option.bind_some, hc, hp_bitI, q]
    · simp (disch := omega) only [hp_kN, nI_add, pk_mul, hp_isInN, hp_m1L, hp_l0, hp_l1, hp_l2, hp_l3, hp_l4, hp_l5, hp_l7, hp_l8, hp_l10, hp_l17, hp_l20, hp_l24, hp_l48, hp_l50, hp_l55, hp_l127, hp_lm1, hp_eqN, hp_ltN, hp_inN, hp_cl, if_pos, if_neg, if_true, if_false, Option.bind_some, hc, hp_bitI, q, hi]
theorem hp_lbX_1_66 (N : Nat) {w c tr : Nat} {D : hy_M} (hw : w < 8) (hc : D 66 w = nI c) (hc8 : c < 8) (h4 : D 4 w = nI tr) (htr : tr < 2) : ∀ m t n, t + m = 3 → m < n → F_X7_laneBehind_1_66_5 N n (nI w) (nI t) D = some (nI (hp_lnT c tr m t), D) := by
  intro m
  induction m with
  | zero =>
    intro t n e hm
    obtain ⟨n, rfl⟩ : ∃ n', n = n' + 1 := ⟨n - 1, by omega⟩
    have e0 : hp_lnT c tr 0 t = 3 + tr := rfl
    rw [F_X7_laneBehind_1_66_5_eq, e0]
    simp (disch := omega) only [hp_kN, nI_add, pk_mul, hp_isInN, hp_m1L, hp_l0, hp_l1, hp_l2, hp_l3, hp_l4, hp_l5, hp_l7, hp_l8, hp_l10, hp_l17, hp_l20, hp_l24, hp_l48, hp_l50, hp_l55, hp_l127, hp_lm1, hp_eqN, hp_ltN, hp_inN, hp_cl, if_pos, if_neg, if_true, if_false, Option.bind_some, h4, F_X2_outOf_eq]
  | succ m ih =>
    intro t n e hm
    obtain ⟨n, rfl⟩ : ∃ n', n = n' + 1 := ⟨n - 1, by omega⟩
    have hi := ih (t + 1) n (by omega) (by omega)
    rw [F_X7_laneBehind_1_66_5_eq, hp_lnT_s]
    clear ih
    by_cases q : hp_bit c t = 1
    · simp (disch := omega) only [hp_kN, nI_add, pk_mul, hp_isInN, hp_m1L, hp_l0, hp_l1, hp_l2, hp_l3, hp_l4, hp_l5, hp_l7, hp_l8, hp_l10, hp_l17, hp_l20, hp_l24, hp_l48, hp_l50, hp_l55, hp_l127, hp_lm1, hp_eqN, hp_ltN, hp_inN, hp_cl, if_pos, if_neg, if_true, if_false, Option.bind_some, hc, hp_bitI, q]
    · simp (disch := omega) only [hp_kN, nI_add, pk_mul, hp_isInN, hp_m1L, hp_l0, hp_l1, hp_l2, hp_l3, hp_l4, hp_l5, hp_l7, hp_l8, hp_l10, hp_l17, hp_l20, hp_l24, hp_l48, hp_l50, hp_l55, hp_l127, hp_lm1, hp_eqN, hp_ltN, hp_inN, hp_cl, if_pos, if_neg, if_true, if_false, Option.bind_some, hc, hp_bitI, q, hi]
